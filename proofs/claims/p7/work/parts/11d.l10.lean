/-! NUMBERS OF ROWS by whole numbers -/
def gG (f : Nat → Int32) (i : Int) : Int := (f i.toNat).toInt
theorem ldG {z j : Int32} {f : Nat → Int32} {J : Int} (e : z = f j.toNatClampNeg) (hj : j.toInt = J) : z.toInt = gG f J := by
  rw [e, ← hj]; rfl
def chZ (i : Nat) (j : Int) : Int := ((zSb.getD i []).getD j.toNat 0).toInt
theorem ldZ {z j : Int32} {i : Nat} {J : Int} (e : z = (zSb.getD i []).getD j.toNatClampNeg 0) (hj : j.toInt = J) : z.toInt = chZ i J := by
  rw [e, ← hj]; rfl
