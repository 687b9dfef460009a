/-! the JDK's bit counts and trailing zeros, as their code has them -/
def swL (x : Int64) : Int64 :=
  let a := x - ((x.toUInt64 >>> ((1 : Int32).toInt64.toUInt64 &&& Int64.toUInt64 63)).toInt64 &&& 6148914691236517205)
  let b := (a &&& 3689348814741910323) + ((a.toUInt64 >>> ((2 : Int32).toInt64.toUInt64 &&& Int64.toUInt64 63)).toInt64 &&& 3689348814741910323)
  let c := (b + (b.toUInt64 >>> ((4 : Int32).toInt64.toUInt64 &&& Int64.toUInt64 63)).toInt64) &&& 1085102592571150095
  let d := c + (c.toUInt64 >>> ((8 : Int32).toInt64.toUInt64 &&& Int64.toUInt64 63)).toInt64
  let e := d + (d.toUInt64 >>> ((16 : Int32).toInt64.toUInt64 &&& Int64.toUInt64 63)).toInt64
  e + (e.toUInt64 >>> ((32 : Int32).toInt64.toUInt64 &&& Int64.toUInt64 63)).toInt64
def swI (x : Int32) : Int32 :=
  let a := x - ((x.toUInt32 >>> ((1 : Int32).toUInt32 &&& Int32.toUInt32 31)).toInt32 &&& 1431655765)
  let b := (a &&& 858993459) + ((a.toUInt32 >>> ((2 : Int32).toUInt32 &&& Int32.toUInt32 31)).toInt32 &&& 858993459)
  let c := (b + (b.toUInt32 >>> ((4 : Int32).toUInt32 &&& Int32.toUInt32 31)).toInt32) &&& 252645135
  let d := c + (c.toUInt32 >>> ((8 : Int32).toUInt32 &&& Int32.toUInt32 31)).toInt32
  d + (d.toUInt32 >>> ((16 : Int32).toUInt32 &&& Int32.toUInt32 31)).toInt32
/-- how many bits, counted one by one -/
def pcL (x : Int64) : Nat → Int32
  | 0 => 0
  | k + 1 => pcL x k + bI (bl x k)
def pcI (x : Int32) : Nat → Int32
  | 0 => 0
  | k + 1 => pcI x k + bI (bt x k)
abbrev popL (x : Int64) : Int32 := pcL x 64
abbrev popI (x : Int32) : Int32 := pcI x 32
theorem swL_pop (x : Int64) : (swL x).toInt32 &&& 127 = popL x := by sorry
theorem swI_pop (x : Int32) : swI x &&& 63 = popI x := by sorry
def tz1 (m : Int32) (k : Int32) (s : Int32) : Int32 := if m ≤ k then m else (m.toUInt32 >>> (s.toUInt32 &&& Int32.toUInt32 31)).toInt32
def tzI (x : Int32) : Int32 :=
  let m := (x ^^^ (-1)) &&& (x - 1)
  if 0 < m then
    let a := tz1 m 65536 16
    let b := tz1 a 256 8
    let c := tz1 b 16 4
    let d := tz1 c 4 2
    (((1 + (if m ≤ 65536 then 0 else 16)) + (if a ≤ 256 then 0 else 8)) + (if b ≤ 16 then 0 else 4)) + (if c ≤ 4 then 0 else 2) + (d.toUInt32 >>> ((1 : Int32).toUInt32 &&& Int32.toUInt32 31)).toInt32
  else m &&& 32
def tzL (x : Int64) : Int32 := if x.toInt32 = 0 then 32 + tzI ((x.toUInt64 >>> ((32 : Int32).toInt64.toUInt64 &&& Int64.toUInt64 63)).toInt64).toInt32 else tzI x.toInt32
