/-! further rows, small facts -/
theorem lt0_14 : 0 < 14 := by decide
theorem lt1_14 : 1 < 14 := by decide
theorem lt14_15 : 14 < 15 := by decide
theorem okP_slot {s : Nat} (h : s < 5) : okP (14 + s) 0 := Or.inr ⟨by omega, by omega, rfl⟩
theorem lt9_slot {s : Nat} (h : s < 5) : 4 + s < 9 := by omega
theorem okP_w {w i : Nat} (h : w < 14) (hi : i < 8) : okP w i := Or.inl ⟨h, hi⟩
section ZROW4
variable {X : zX} {l : Launch} {G : zG} {b : Nat} {cc : ByteArray} {nL : Nat} {own : String} {d : Nat} {sh : List zS} {M : zM} {pc : Nat} {L : List (Option Value)} {st : List Value}
theorem z_iald (C : zOK X l G b cc nL own d) {k a i j m n : Nat} {x : Int32} (hdg : decode cc pc = .ok (.iaload, 1)) (hsh : sh[k]? = some ((a, i, j), .inr (.inl (0, m)))) (hin : vp_in x m) (hn : x.toNatClampNeg = n) (kk : zW X sh M (pc + 1) L (.int (M a i j n) :: st)) : zW X sh M pc L (.int x :: .ref (b + k) :: st) := by
  subst hn
  exact z_iaload C hdg hsh hin kk
theorem z_zald (C : zOK X l G b cc nL own d) {k a i j m n : Nat} {x : Int32} (hdg : decode cc pc = .ok (.baload, 1)) (hsh : sh[k]? = some ((a, i, j), .inr (.inl (1, m)))) (hin : vp_in x m) (hn : x.toNatClampNeg = n) (kk : zW X sh M (pc + 1) L (.int (M a i j n) :: st)) : zW X sh M pc L (.int x :: .ref (b + k) :: st) := by
  subst hn
  exact z_zaload C hdg hsh hin kk
theorem z_cald (C : zOK X l G b cc nL own d) {k a i j m n : Nat} {x : Int32} (hdg : decode cc pc = .ok (.caload, 1)) (hsh : sh[k]? = some ((a, i, j), .inr (.inl (2, m)))) (hin : vp_in x m) (hn : x.toNatClampNeg = n) (kk : zW X sh M (pc + 1) L (.int (M a i j n) :: st)) : zW X sh M pc L (.int x :: .ref (b + k) :: st) := by
  subst hn
  exact z_caload C hdg hsh hin kk
theorem z_iast (C : zOK X l G b cc nL own d) {k a i j m n : Nat} {x y : Int32} (hdg : decode cc pc = .ok (.iastore, 1)) (hsh : sh[k]? = some ((a, i, j), .inr (.inl (0, m)))) (hin : vp_in x m) (hn : x.toNatClampNeg = n) (kk : zW X sh (zu M a i j n y) (pc + 1) L st) : zW X sh M pc L (.int y :: .int x :: .ref (b + k) :: st) := by
  subst hn
  exact z_iastore C hdg hsh hin kk
theorem z_zast (C : zOK X l G b cc nL own d) {k a i j m n : Nat} {x y : Int32} (hdg : decode cc pc = .ok (.bastore, 1)) (hsh : sh[k]? = some ((a, i, j), .inr (.inl (1, m)))) (hin : vp_in x m) (hy : y = 0 ∨ y = 1) (hn : x.toNatClampNeg = n) (kk : zW X sh (zu M a i j n y) (pc + 1) L st) : zW X sh M pc L (.int y :: .int x :: .ref (b + k) :: st) := by
  subst hn
  exact z_zastore C hdg hsh hin hy kk
theorem z_aald (C : zOK X l G b cc nL own d) {k t r : Nat} {q : Nat × Nat × Nat} {rs : List (Option Nat)} {x : Int32} {ty : FieldType} (hdg : decode cc pc = .ok (.aaload, 1)) (hsh : sh[k]? = some (q, .inr (.inr (t, rs)))) (ht : (zty G.2.1)[t]? = some (G.2.1 t, ty)) (hty : ty.isReference = true) (hin : vp_in x rs.length) (hr : rs[x.toNatClampNeg]? = some (some r)) (kk : zW X sh M (pc + 1) L (.ref (b + r) :: st)) : zW X sh M pc L (.int x :: .ref (b + k) :: st) := z_aaload (cA := G.2.1 t) C hdg hsh ht hty hin hr kk
theorem z_ldcS (C : zOK X l G b cc nL RX1 d) (i : Nat) {index : Nat} (hi : i < 6) (hx : zsix i = index) (hdg : decode cc pc = .ok (.ldc index, 2)) (kk : zW X sh M (pc + 2) L (.ref (G.2.2 (1 + i)) :: st)) : zW X sh M pc L st := by
  obtain ⟨p, l', e, R, s, m, args, below, meth, c, Q, n0, s0, G', b'⟩ := X
  obtain ⟨rfl, rfl, rfl, hxx, hb, hml, hown, hts, hAm, -⟩ := C
  subst hx
  intro H locs ls hP hz hS hN hn hs hL
  exact va_ldcS hxx hb hown (hAm.2.2.2.2.2.2.1 i hi) hdg (kk H locs ls hP hz hS hN hn hs hL)
end ZROW4
/-- ints as whole numbers -/
theorem zi_lt {x y : Int32} : x < y ↔ x.toInt < y.toInt := Int32.lt_iff_toInt_lt
theorem zi_le {x y : Int32} : x ≤ y ↔ x.toInt ≤ y.toInt := Int32.le_iff_toInt_le
theorem zi_eq {x y : Int32} : x = y ↔ x.toInt = y.toInt := Int32.toInt_inj.symm
theorem zi_in {x : Int32} {n : Nat} : vp_in x n ↔ 0 ≤ x.toInt ∧ x.toInt < n := vp_in_iff
theorem zi_nat {x : Int32} {n : Nat} (h : x.toInt = n) : x.toNatClampNeg = n := by
  show x.toInt.toNat = n
  omega
theorem zi_nI {n : Nat} (h : n < 2 ^ 31) : (nI n).toInt = n := nI_toInt h
/-- what is held within 0 .. 99 -/
def zheld (v : Int32) : Int32 := if v < 0 then 0 else if 99 < v then 99 else v
theorem zheld_max (v : Int32) : (if (0 : Int32) < (if v < 99 then v else 99) then (if v < 99 then v else 99) else 0) = zheld v := by
  unfold zheld
  simp only [zi_lt, zi_eq]
  split <;> split <;> split <;> (try split) <;> simp_all <;> omega
