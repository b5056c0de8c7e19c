/-! further rows, small facts -/
theorem lt0_14 : 0 < 14 := by decide
theorem lt1_14 : 1 < 14 := by decide
theorem lt14_15 : 14 < 15 := by decide
theorem okP_slot {s : Nat} (h : s < 5) : okP (14 + s) 0 := Or.inr ⟨by omega, by omega, rfl⟩
theorem lt9_slot {s : Nat} (h : s < 5) : 4 + s < 9 := by omega
theorem okP_w {w i : Nat} (h : w < 14) (hi : i < 8) : okP w i := Or.inl ⟨h, hi⟩
section ZROW4
variable {X : zX} {l : Launch} {G : zG} {b : Nat} {cc : ByteArray} {nL : Nat} {own : String} {d : Nat} {sh : List zS} {M : zM} {pc : Nat} {L : List (Option Value)} {st : List Value}
theorem z_iald (C : zOK X l G b cc nL own d) {k a i j m n : Nat} {x : Int32} (hdg : decode cc pc = .ok (.iaload, 1)) (hsh : sh[k]? = some ((a, i, j), .inr (.inl (0, m)))) (hin : vp_in x m) (hn : x.toNatClampNeg = n) (kk : zW X sh M (pc + 1) L (.int (M a i j n) :: st)) : zW X sh M pc L (.int x :: .ref (b + k) :: st) := by
  subst hn
  exact z_iaload C hdg hsh hin kk
theorem z_zald (C : zOK X l G b cc nL own d) {k a i j m n : Nat} {x : Int32} (hdg : decode cc pc = .ok (.baload, 1)) (hsh : sh[k]? = some ((a, i, j), .inr (.inl (1, m)))) (hin : vp_in x m) (hn : x.toNatClampNeg = n) (kk : zW X sh M (pc + 1) L (.int (M a i j n) :: st)) : zW X sh M pc L (.int x :: .ref (b + k) :: st) := by
  subst hn
  exact z_zaload C hdg hsh hin kk
theorem z_cald (C : zOK X l G b cc nL own d) {k a i j m n : Nat} {x : Int32} (hdg : decode cc pc = .ok (.caload, 1)) (hsh : sh[k]? = some ((a, i, j), .inr (.inl (2, m)))) (hin : vp_in x m) (hn : x.toNatClampNeg = n) (kk : zW X sh M (pc + 1) L (.int (M a i j n) :: st)) : zW X sh M pc L (.int x :: .ref (b + k) :: st) := by
  subst hn
  exact z_caload C hdg hsh hin kk
theorem z_iast (C : zOK X l G b cc nL own d) {k a i j m n : Nat} {x y : Int32} (hdg : decode cc pc = .ok (.iastore, 1)) (hsh : sh[k]? = some ((a, i, j), .inr (.inl (0, m)))) (hin : vp_in x m) (hn : x.toNatClampNeg = n) (kk : zW X sh (zu M a i j n y) (pc + 1) L st) : zW X sh M pc L (.int y :: .int x :: .ref (b + k) :: st) := by
  subst hn
  exact z_iastore C hdg hsh hin kk
theorem z_zast (C : zOK X l G b cc nL own d) {k a i j m n : Nat} {x y : Int32} (hdg : decode cc pc = .ok (.bastore, 1)) (hsh : sh[k]? = some ((a, i, j), .inr (.inl (1, m)))) (hin : vp_in x m) (hy : y = 0 ∨ y = 1) (hn : x.toNatClampNeg = n) (kk : zW X sh (zu M a i j n y) (pc + 1) L st) : zW X sh M pc L (.int y :: .int x :: .ref (b + k) :: st) := by
  subst hn
  exact z_zastore C hdg hsh hin hy kk
theorem z_aald (C : zOK X l G b cc nL own d) {k t r : Nat} {q : Nat × Nat × Nat} {rs : List (Option Nat)} {x : Int32} {ty : FieldType} (hdg : decode cc pc = .ok (.aaload, 1)) (hsh : sh[k]? = some (q, .inr (.inr (t, rs)))) (ht : (zty G.2.1)[t]? = some (G.2.1 t, ty)) (hty : ty.isReference = true) (hin : vp_in x rs.length) (hr : rs[x.toNatClampNeg]? = some (some r)) (kk : zW X sh M (pc + 1) L (.ref (b + r) :: st)) : zW X sh M pc L (.int x :: .ref (b + k) :: st) := z_aaload (cA := G.2.1 t) C hdg hsh ht hty hin hr kk
theorem z_ldcS (C : zOK X l G b cc nL RX1 d) (i : Nat) {index : Nat} (hi : i < 6) (hx : zsix i = index) (hdg : decode cc pc = .ok (.ldc index, 2)) (kk : zW X sh M (pc + 2) L (.ref (G.2.2 (1 + i)) :: st)) : zW X sh M pc L st := by
  obtain ⟨p, l', e, R, s, m, args, below, meth, c, Q, n0, s0, G', b'⟩ := X
  obtain ⟨rfl, rfl, rfl, hxx, hb, hml, hown, hts, hAm, -⟩ := C
  subst hx
  intro H locs ls hP hz hS hN hn hs hL
  exact va_ldcS hxx hb hown (hAm.2.2.2.2.2.2.1 i hi) hdg (kk H locs ls hP hz hS hN hn hs hL)
end ZROW4
/-- ints as whole numbers -/
theorem zi_lt {x y : Int32} : x < y ↔ x.toInt < y.toInt := Int32.lt_iff_toInt_lt
theorem zi_le {x y : Int32} : x ≤ y ↔ x.toInt ≤ y.toInt := Int32.le_iff_toInt_le
theorem zi_eq {x y : Int32} : x = y ↔ x.toInt = y.toInt := Int32.toInt_inj.symm
theorem zi_in {x : Int32} {n : Nat} : vp_in x n ↔ 0 ≤ x.toInt ∧ x.toInt < n := vp_in_iff
theorem zi_nat {x : Int32} {n : Nat} (h : x.toInt = n) : x.toNatClampNeg = n := by
  show x.toInt.toNat = n
  omega
theorem zi_nI {n : Nat} (h : n < 2 ^ 31) : (nI n).toInt = n := nI_toInt h
/-- what is held within 0 .. 99 -/
def zheld (v : Int32) : Int32 := if v < 0 then 0 else if 99 < v then 99 else v
theorem zheld_max (v : Int32) : (if (0 : Int32) < (if v < 99 then v else 99) then (if v < 99 then v else 99) else 0) = zheld v := by
  unfold zheld
  simp only [zi_lt, zi_eq]
  split <;> split <;> split <;> (try split) <;> simp_all <;> omega
theorem zMet.ofF {l : Launch} {G : zG} {b : Nat} {y : MethodName} {cc : ByteArray} {nL : Nat} {ret : Option FieldType} {h : Nat} {sh sh' : List zS} {av : List Value} {M : zM} {post : Option Value → zM → Prop} {L0 : List (Option Value)}
    (hy : plainFor y = true) (hle : sh.length ≤ sh'.length) (hsl : zsl sh ≤ zsl sh') (hav : av.length ≤ nL) (hcat : ∀ v ∈ av, v.category = 1) (hL0 : av.map some ++ List.replicate (nL - av.length) none = L0)
    (body : ∀ X : zX, zOK X l G b cc nL y.cls h → zAl X sh.length (zsl sh) (sh'.length - sh.length) (zsl sh' - zsl sh) → zRt X ret sh' post → zW X sh M 0 L0 []) : zMet l G b y cc nL ret h sh sh' av M post := by
  refine ⟨hle, hsl, va_MetF (cc := cc) (maxL := nL) (ret := ret) hy rfl ?_⟩
  intro p e s m args below meth c s₁ B hml hv
  obtain ⟨rfl, hAm, hP, hz, hbz, hN⟩ := hv
  have hts := atoms_spec (ws := Cond.code y cc nL ret :: zT) B.pre
  have K := body (p, l, e, (headSpec (Cond.code y cc nL ret :: zT) { frames := h, cells := sh'.length - sh.length, slots := zsl sh' - zsl sh, locals := 40 * h }).room, s, m, av.toArray, below, meth, c, MQ below (zQ G b sh' post) av.toArray s (sh'.length - sh.length) (zsl sh' - zsl sh) (fun q => b ≤ q), sh.length, zsl sh, G, b)
    ⟨rfl, rfl, rfl, B.exec, B.bytes, hml, findClass_of_methodNamed B.named, fun w hw => hts w (List.mem_cons_of_mem _ hw), hAm, hbz, Nat.le_refl _, Nat.le_refl _⟩ ⟨rfl, rfl, Nat.le_refl _, Nat.le_refl _⟩ ⟨B.returns, B.notSynchronized, rfl⟩
  have hE := zLs.entry av hav hcat
  rw [hL0] at hE
  have KW := K s.heap [] _ hP hz va_S.rf hN ⟨Nat.le_refl _, by rw [Nat.sub_self]; exact Nat.zero_le _⟩ ⟨Nat.le_refl _, by rw [Nat.sub_self]; exact Nat.zero_le _⟩ (by rw [hml]; exact hE)
  rw [Nat.sub_self, Nat.sub_self] at KW
  rw [lg_entry_eq]
  exact KW
theorem zu_o {M : zM} {a i j f : Nat} {v : Int32} {a' i' j' f' : Nat} (h : ¬ (a' = a ∧ i' = i ∧ j' = j)) : zu M a i j f v a' i' j' f' = M a' i' j' f' := if_neg (fun q => h ⟨q.1, q.2.1, q.2.2.1⟩)
theorem zu_f {M : zM} {a i j f : Nat} {v : Int32} {a' i' j' f' : Nat} (h : f' ≠ f) : zu M a i j f v a' i' j' f' = M a' i' j' f' := if_neg (fun q => h q.2.2.2)
theorem zu_a {M : zM} {a i j f : Nat} {v : Int32} {a' : Nat} (h : a' ≠ a) : zu M a i j f v a' = M a' := by
  funext i' j' f'
  exact if_neg (fun q => h q.1)
/-- signs -/
theorem zneg (x : Int32) : x < 0 ↔ x.toBitVec.msb = true := by
  rw [Int32.lt_iff_toBitVec_slt]
  show x.toBitVec.slt 0#32 = true ↔ _
  rw [BitVec.slt_zero_eq_msb]
theorem zx100 (x : Int32) : (x ^^^ 100 < 0) ↔ x < 0 := by
  rw [zneg, zneg, Int32.toBitVec_xor, BitVec.msb_xor]
  have : (100 : Int32).toBitVec.msb = false := by decide
  rw [this, Bool.xor_false]
theorem znn (x : Int32) : 0 ≤ x ↔ ¬ x < 0 := by rw [Int32.not_lt]
