/-! public methods: deal, tries -/
theorem zushr8 (x : Int32) : 0 ≤ (zushr x 8).toInt ∧ (zushr x 8).toInt < 16777216 := by
  have e : (zushr x 8).toInt = (x.toBitVec >>> 8).toInt := rfl
  have h : (x.toBitVec >>> 8).toNat < 16777216 := by
    rw [BitVec.toNat_ushiftRight, Nat.shiftRight_eq_div_pow]
    have := x.toBitVec.isLt
    omega
  rw [e, BitVec.toInt_eq_toNat_cond, if_pos (by omega)]
  omega
theorem zrm_in {x y : Int32} {c : Int} (h1 : 0 ≤ x.toInt) (h2 : x.toInt < 16777216) (hc : y.toInt = c) (c1 : 0 < c) (c2 : c ≤ 100) : 0 ≤ (zrm x y).toInt ∧ (zrm x y).toInt < c := by
  have e1 : (x / y).toInt = x.toInt / c := by
    rw [zi_div (by omega), hc, Int.tdiv_eq_ediv_of_nonneg h1]
  have b1 : 0 ≤ x.toInt / c := Int.ediv_nonneg h1 (by omega)
  have b2 : x.toInt / c * c + x.toInt % c = x.toInt := by rw [Int.mul_comm]; exact Int.mul_ediv_add_emod x.toInt c
  have b3 : 0 ≤ x.toInt % c := Int.emod_nonneg _ (by omega)
  have b4 : x.toInt % c < c := Int.emod_lt_of_pos _ c1
  have b5 : 0 ≤ x.toInt / c * c := Int.mul_nonneg b1 (by omega)
  have e2 : (x / y * y).toInt = x.toInt / c * c := by rw [zi_mul (by rw [e1, hc]; omega) (by rw [e1, hc]; omega), e1, hc]
  have e3 : (zrm x y).toInt = x.toInt - x.toInt / c * c := by
    unfold zrm
    rw [zi_sub (by rw [e2]; omega) (by rw [e2]; omega), e2]
  rw [e3]
  omega
theorem rng6 {a : Int} (h : 0 ≤ a ∧ a < 6) : 0 ≤ a ∧ a ≤ 5 := by omega
theorem rng100 {a : Int} (h : 0 ≤ a ∧ a < 100) : 0 ≤ a ∧ a ≤ 99 := by omega
theorem rng5 {a : Int} (h : 0 ≤ a ∧ a < 5) : 1 ≤ 1 + a ∧ 1 + a ≤ 9 := by omega
theorem rng21 {a : Int} (h : 0 ≤ a ∧ a < 21) : -20 ≤ a - 10 ∧ a - 10 ≤ 20 := by omega
theorem zadd1 {x : Int32} (h : 0 ≤ x.toInt ∧ x.toInt < 100) : (1 + x).toInt = 1 + x.toInt := by rw [zi_add (by rw [i1]; omega) (by rw [i1]; omega), i1]
theorem zsub10 {x : Int32} (h : 0 ≤ x.toInt ∧ x.toInt < 100) : (x - 10).toInt = x.toInt - 10 := by
  have i10 : (10 : Int32).toInt = 10 := by decide
  rw [zi_sub (by rw [i10]; omega) (by rw [i10]; omega), i10]
theorem rngl {a c : Int} (h : 0 ≤ a ∧ a < c) (hc : c ≤ 100) : 0 ≤ a ∧ a < 100 := by omega
theorem draw_ok (z : Int32) : gPer (dk z) (dd z) (dw z) ∧ iin (db z) (-20) 20 := by
  have a1 := zushr8 (zdraw z)
  have a2 := zushr8 (zdraw (zdraw z))
  have a3 := zushr8 (zdraw (zdraw (zdraw z)))
  have a4 := zushr8 (zdraw (zdraw (zdraw (zdraw z))))
  have b1 := zrm_in a1.1 a1.2 i6 (by decide) (by decide)
  have b2 := zrm_in a2.1 a2.2 i100 (by decide) (by decide)
  have b3 := zrm_in a3.1 a3.2 i5 (by decide) (by decide)
  have b4 := zrm_in (y := 21) (c := 21) a4.1 a4.2 (by decide) (by decide) (by decide)
  refine ⟨⟨rng6 b1, rng100 b2, ?_⟩, ?_⟩
  · unfold iin dw
    rw [zadd1 (rngl b3 (by decide))]
    exact rng5 b3
  · unfold iin db
    rw [zsub10 (rngl b4 (by decide))]
    exact rng21 b4
def vDr (n : Nat) (V : zVw) : zVw := vNew (vF V 9 (z4 (V.1 9))) n (dk (V.1 9)) (dd (V.1 9)) (dw (V.1 9)) (db (V.1 9))
def vDl (n : Nat) (V : zVw) : Nat → zVw
  | 0 => V
  | m + 1 => vDr (n + m) (vDl n V m)
theorem vDr_c {n : Nat} {V W : zVw} (h : veq n V W) : veq (n + 1) (vDr n V) (vDr n W) := by
  unfold vDr
  rw [h.1 9 (by decide) (by decide)]
  exact vNew_c (vF_c h 9 _) _ _ _ _
theorem vDl_c {n : Nat} {V W : zVw} (h : veq n V W) : ∀ m, veq (n + m) (vDl n V m) (vDl n W m)
  | 0 => h
  | m + 1 => vDr_c (vDl_c h m)
theorem vDr_ok {n : Nat} {V : zVw} (g : vOK n V) (h : n < 8) : vOK (n + 1) (vDr n V) := vNew_ok (V := vF V 9 (z4 (V.1 9))) g h (draw_ok _).1 (draw_ok _).2
theorem vDl_ok {n : Nat} {V : zVw} (g : vOK n V) : ∀ m, n + m ≤ 8 → vOK (n + m) (vDl n V m)
  | 0, _ => g
  | m + 1, h => by
    have e := vDr_ok (n := n + m) (vDl_ok g m (by omega)) (by omega)
    exact e
theorem vDl_k {n : Nat} {V : zVw} {k : Nat} (h2 : k ≠ 2) (h9 : k ≠ 9) : ∀ m, (vDl n V m).1 k = V.1 k
  | 0 => rfl
  | m + 1 => by
    show (if k = 2 then nI (n + m + 1) else if k = 9 then z4 ((vDl n V m).1 9) else (vDl n V m).1 k) = V.1 k
    rw [if_neg h2, if_neg h9]
    exact vDl_k h2 h9 m
def Sdeal (x : Int32) : Nat → zVw → Int32 → Nat → zVw → Prop := fun n V r n' V' => (¬ iin x 1 8 ∧ rf (-1000000001) n V r n' V') ∨ (iin x 1 8 ∧ ∃ m, m = Nat.min x.toInt.toNat (8 - n) ∧ r = nI m ∧ n' = n + m ∧ V' = vDl n V m)
theorem Sdeal_ok (x : Int32) : Sok (Sdeal x) := by
  intro n V W h g t r n' V' s m' W' h1 h2
  have n8 := g.2.1
  rcases h1 with ⟨a, h1⟩ | ⟨a, m, hm, rfl, rfl, rfl⟩ <;> rcases h2 with ⟨c, h2⟩ | ⟨c, m2, hm2, rfl, rfl, rfl⟩
  · exact rf.ok h g t h1 h2
  · exact absurd c a
  · exact absurd a c
  · obtain rfl : m2 = m := by rw [hm, hm2]
    have hl : m2 ≤ 8 - n := by rw [hm]; exact Nat.min_le_right _ _
    refine ⟨rfl, rfl, vDl_c h m2, vDl_ok g m2 (by omega), vDl_k (by decide) (by decide) m2, ?_⟩
    rw [vDl_k (by decide) (by decide)]
    exact t
theorem mNew_n (M : zM) (n : Nat) (k d g e : Int32) : mNew M n k d g e 31 0 0 1 = nI (n + 1) := by
  unfold mNew
  rw [if_neg (fun q => by omega), if_pos ⟨rfl, rfl, rfl, rfl⟩]
theorem cDr {M : zM} {j : Nat} {W : zVw} (h : veq j (cV M 0) W) : veq (j + 1) (cV (zu (pPut (zu M 5 0 0 9 (z4 (M 5 0 0 9))) 0 j (fun f => if f < 7 then pNew (dk (M 5 0 0 9)) (dd (M 5 0 0 9)) (dw (M 5 0 0 9)) (db (M 5 0 0 9)) f else M 1 0 j f)) 5 0 0 2 (nI (j + 1))) 0) (vDr j W) ∧ cFr M (zu (pPut (zu M 5 0 0 9 (z4 (M 5 0 0 9))) 0 j (fun f => if f < 7 then pNew (dk (M 5 0 0 9)) (dd (M 5 0 0 9)) (dw (M 5 0 0 9)) (db (M 5 0 0 9)) f else M 1 0 j f)) 5 0 0 2 (nI (j + 1))) 0 := by
  have e := cV_wel (zu M 5 0 0 9 (z4 (M 5 0 0 9))) (n := j) (dk (M 5 0 0 9)) (dd (M 5 0 0 9)) (dw (M 5 0 0 9)) (db (M 5 0 0 9))
  rw [zu_a (a := 5) (a' := 1) (by decide)] at e
  refine ⟨e.1.trans ?_, (cFr_5 M 0 9 _).trans e.2⟩
  rw [cV_zu5]
  exact vDr_c (V := cV M 0) h
theorem mDr {M : zM} {j : Nat} (hj : j < 8) {W : zVw} (h : veq j (mV M 31) W) : veq (j + 1) (mV (mNew (zu M 31 0 0 0 (z4 (M 31 0 0 0))) j (dk (M 31 0 0 0)) (dd (M 31 0 0 0)) (dw (M 31 0 0 0)) (db (M 31 0 0 0))) 31) (vDr j W) ∧ mFr M (mNew (zu M 31 0 0 0 (z4 (M 31 0 0 0))) j (dk (M 31 0 0 0)) (dd (M 31 0 0 0)) (dw (M 31 0 0 0)) (db (M 31 0 0 0))) := by
  have e := mV_new (zu M 31 0 0 0 (z4 (M 31 0 0 0))) hj (dk (M 31 0 0 0)) (dd (M 31 0 0 0)) (dw (M 31 0 0 0)) (db (M 31 0 0 0))
  refine ⟨e.1.trans ?_, (mFr_zu M (by decide) _).trans e.2⟩
  exact (vNew_c (mV_zu M (n := j) (k := 9) (by decide) (by decide) _) _ _ _ _).trans (vDr_c (V := mV M 31) h)
theorem i8 : (8 : Int32).toInt = 8 := by decide
set_option maxHeartbeats 800000 in
set_option maxRecDepth 100000 in
theorem mX9_deal {l : Launch} {G : zG} {b : Nat} {M : zM} {n T : Nat} {ky ln : Nat → Nat} (hR : RR M n T ky ln) {x : Int32} : zMet l G b yX9_deal cX9_deal 5 (some .int) 3 zshL zshL [.ref (b + 0), .int x] M (zI (cSt (Sdeal x) n M)) := by
  refine zMet.of (L0 := [some (.ref (b + 0)), some (.int x), none, none, none]) (by decide +kernel) (Nat.le_refl _) (Nat.le_refl _) (Nat.le_of_ble_eq_true rfl) (List.forall_mem_cons.mpr ⟨rfl, List.forall_mem_cons.mpr ⟨rfl, fun _ h => absurd h List.not_mem_nil⟩⟩) rfl (fun X C Al K => ?_)
  have n8 := hR.n8
  have loop : ∀ (m : Nat), n + m ≤ 8 → iin x 1 8 → m = Nat.min x.toInt.toNat (8 - n) → ∀ (k i : Nat) (M1 : zM) (q : Option Value), i + k = m → veq (n + i) (cV M1 0) (vDl n (cV M 0) i) → cFr M M1 0 → M1 5 0 0 2 = nI (n + i) → zW X zshL M1 34 [some (.ref (b + 0)), some (.int x), q, some (.int (nI m)), some (.int (nI i))] [] := by
    intro m hm hx hmx k
    induction k with
    | zero =>
      intro i M1 q hi hv hf h2
      obtain rfl : i = m := by omega
      refine z_iload (pc := 34) C 4 dX9_deal_34 rfl ?_
      refine z_iload_n (pc := 36) C 3 dX9_deal_36 rfl rfl ?_
      refine z_icmp_ge (pc := 37) C 53 dX9_deal_37 (by decide) (fun c37 => ?_) (fun c37 => absurd (nI_le (Nat.le_refl i) (by omega)) c37)
      refine z_iload_n (pc := 53) C 3 dX9_deal_53 rfl rfl ?_
      refine z_ireturn (pc := 54) C K dX9_deal_54 ?_
      exact ⟨_, rfl, _, _, Or.inr ⟨hx, i, hmx, rfl, rfl, rfl⟩, hv, hf⟩
    | succ k ih =>
      intro i M1 q hi hv hf h2
      refine z_iload (pc := 34) C 4 dX9_deal_34 rfl ?_
      refine z_iload_n (pc := 36) C 3 dX9_deal_36 rfl rfl ?_
      refine z_icmp_ge (pc := 37) C 53 dX9_deal_37 (by decide) (fun c37 => absurd c37 (nI_ge (by omega) (by omega))) (fun c37 => ?_)
      refine z_aload_n (pc := 40) C 0 dX9_deal_40 rfl rfl ?_
      refine z_getR (pc := 41) (r := adW 0) C dX9_deal_41 fX9_21 sh_0 rfl ?_
      refine z_callVv (pc := 44) C dX9_deal_44 kX9_150 (mX8_drawOne (w := 0) lt0_14 h2 (by omega)) (by decide) (shW lt0_14) rfl rfl rfl (Nat.le_of_ble_eq_true rfl) (fun M44 h44 => ?_)
      subst M44
      refine z_iinc (pc := 47) (v := 1) C 4 dX9_deal_47 (by decide) rfl rfl rfl ?_
      refine z_goto (pc := 50) C 34 dX9_deal_50 (by decide) ?_
      have e := ih (i + 1) _ q (by omega) (cDr hv).1 (hf.trans (cDr hv).2) (zu_self _ _ _ _ _ _)
      rw [nI_succ i] at e
      exact e
  refine z_iload_n (pc := 0) C 1 dX9_deal_0 rfl rfl ?_
  refine z_iconst (pc := 1) (v := 1) C dX9_deal_1 rfl ?_
  refine z_icmp_lt (pc := 2) C 11 dX9_deal_2 (by decide) (fun c2 => ?_) (fun c2 => ?_)
  · refine z_ldc (pc := 11) C q2_96 dX9_deal_11 ?_
    refine z_ireturn (pc := 13) C K dX9_deal_13 ?_
    have hx : ¬ iin x 1 8 := by
      simp only [zi_lt, zi_le, zi_eq, i0, i1, i2, i3, i4, i5, i6, i9, i20, i99, i100, im5, im20, im1, i8] at c2
      unfold iin
      omega
    exact ⟨_, rfl, n, cV M 0, Or.inl ⟨hx, rfl, rfl, rfl⟩, veq.rfl', cFr.rfl'⟩
  · refine z_iload_n (pc := 5) C 1 dX9_deal_5 rfl rfl ?_
    refine z_bipush (pc := 6) (v := 8) C dX9_deal_6 rfl ?_
    refine z_icmp_le (pc := 8) C 14 dX9_deal_8 (by decide) (fun c8 => ?_) (fun c8 => ?_)
    · have hx : iin x 1 8 := by
        simp only [zi_lt, zi_le, zi_eq, i0, i1, i2, i3, i4, i5, i6, i9, i20, i99, i100, im5, im20, im1, i8] at c2 c8
        unfold iin
        omega
      have hxi := hx
      unfold iin at hxi
      have e8 : (8 - nI n).toInt = 8 - (n : Int) := by
        have en : (nI n).toInt = n := nI_toInt (by omega)
        rw [zi_sub (by rw [en, i8]; omega) (by rw [en, i8]; omega), en, i8]
      have em : (if 8 - nI n < x then 8 - nI n else x) = nI (Nat.min x.toInt.toNat (8 - n)) := by
        have en : (nI (Nat.min x.toInt.toNat (8 - n))).toInt = Nat.min x.toInt.toNat (8 - n) := nI_toInt (by show min x.toInt.toNat (8 - n) < 2 ^ 31; omega)
        rw [zi_eq, en]
        by_cases q : 8 - nI n < x
        · rw [if_pos q]
          rw [zi_lt] at q
          show _ = ((min x.toInt.toNat (8 - n) : Nat) : Int)
          rw [Nat.min_eq_right (by omega)]
          omega
        · rw [if_neg q]
          rw [zi_lt] at q
          show _ = ((min x.toInt.toNat (8 - n) : Nat) : Int)
          rw [Nat.min_eq_left (by omega)]
          omega
      refine z_bipush (pc := 14) (v := 8) C dX9_deal_14 rfl ?_
      refine z_aload_n (pc := 16) C 0 dX9_deal_16 rfl rfl ?_
      refine z_getR (pc := 17) (r := adW 0) C dX9_deal_17 fX9_21 sh_0 rfl ?_
      refine z_getI (pc := 20) C dX9_deal_20 fX9_88 (shW lt0_14) rfl ?_
      rw [hR.hn]
      refine z_isub (pc := 23) C dX9_deal_23 ?_
      refine z_istore_n (pc := 24) C 2 dX9_deal_24 rfl (by decide) rfl ?_
      refine z_iload_n (pc := 25) C 1 dX9_deal_25 rfl rfl ?_
      refine z_iload_n (pc := 26) C 2 dX9_deal_26 rfl rfl ?_
      refine z_min (pc := 27) C (by decide) q2_135 q2_136 q1_12 q2_137 dX9_deal_27 (Nat.le_of_ble_eq_true rfl) ?_
      rw [em]
      refine z_istore_n (pc := 30) C 3 dX9_deal_30 rfl (by decide) rfl ?_
      refine z_iconst (pc := 31) (v := 0) C dX9_deal_31 rfl ?_
      refine z_istore (pc := 32) C 4 dX9_deal_32 (by decide) rfl ?_
      exact loop _ (by have := Nat.min_le_right x.toInt.toNat (8 - n); show n + min _ _ ≤ 8; omega) hx rfl _ 0 M _ (Nat.zero_add _) veq.rfl' cFr.rfl' hR.hn
    · refine z_ldc (pc := 11) C q2_96 dX9_deal_11 ?_
      refine z_ireturn (pc := 13) C K dX9_deal_13 ?_
      have hx : ¬ iin x 1 8 := by
        simp only [zi_lt, zi_le, zi_eq, i0, i1, i2, i3, i4, i5, i6, i9, i20, i99, i100, im5, im20, im1, i8] at c2 c8
        unfold iin
        omega
      exact ⟨_, rfl, n, cV M 0, Or.inl ⟨hx, rfl, rfl, rfl⟩, veq.rfl', cFr.rfl'⟩

set_option maxHeartbeats 800000 in
set_option maxRecDepth 100000 in
theorem mX10_deal {l : Launch} {G : zG} {b : Nat} {M : zM} {n T : Nat} {ky ln : Nat → Nat} (hI : rI M n T ky ln) {x : Int32} : zMet l G b yX10_deal cX10_deal 7 (some .int) 2 zshL zshL [.ref (b + 239), .int x] M (zI (mSt (Sdeal x) n M)) := by
  refine zMet.of (L0 := [some (.ref (b + 239)), some (.int x), none, none, none, none, none]) (by decide +kernel) (Nat.le_refl _) (Nat.le_refl _) (Nat.le_of_ble_eq_true rfl) (List.forall_mem_cons.mpr ⟨rfl, List.forall_mem_cons.mpr ⟨rfl, fun _ h => absurd h List.not_mem_nil⟩⟩) rfl (fun X C Al K => ?_)
  have n8 := hI.1.2.1
  have loop : ∀ (m : Nat), n + m ≤ 8 → iin x 1 8 → m = Nat.min x.toInt.toNat (8 - n) → ∀ (k i : Nat) (M1 : zM) (q3 q4 q5 q6 : Option Value), i + k = m → veq (n + i) (mV M1 31) (vDl n (mV M 31) i) → mFr M M1 → M1 31 0 0 1 = nI (n + i) → zW X zshL M1 15 [some (.ref (b + 239)), some (.int x), some (.int (nI i)), q3, q4, q5, q6] [] := by
    intro m hm hx hmx k
    have hx' := hx
    unfold iin at hx'
    have en : ∀ j : Nat, j ≤ 8 → (nI j).toInt = j := fun j hj => nI_toInt (by omega)
    induction k with
    | zero =>
      intro i M1 q3 q4 q5 q6 hi hv hf h2
      obtain rfl : i = m := by omega
      have hmx' : i = min x.toInt.toNat (8 - n) := hmx
      refine z_iload_n (pc := 15) C 2 dX10_deal_15 rfl rfl ?_
      refine z_iload_n (pc := 16) C 1 dX10_deal_16 rfl rfl ?_
      refine z_icmp_ge (pc := 17) C 85 dX10_deal_17 (by decide) (fun c17 => ?_) (fun c17 => ?_)
      · refine z_iload_n (pc := 85) C 2 dX10_deal_85 rfl rfl ?_
        refine z_ireturn (pc := 86) C K dX10_deal_86 ?_
        exact ⟨_, rfl, _, _, Or.inr ⟨hx, i, hmx, rfl, rfl, rfl⟩, hv, hf⟩
      · refine z_aload_n (pc := 20) C 0 dX10_deal_20 rfl rfl ?_
        refine z_getR (pc := 21) (r := 240) C dX10_deal_21 fX10_9 sh_239 rfl ?_
        refine z_iconst (pc := 24) (v := 1) C dX10_deal_24 rfl ?_
        refine z_iald (pc := 25) (n := 1) C dX10_deal_25 sh_240 (zi_in.mpr (by decide)) rfl ?_
        rw [h2]
        refine z_bipush (pc := 26) (v := 8) C dX10_deal_26 rfl ?_
        refine z_icmp_ge (pc := 28) C 85 dX10_deal_28 (by decide) (fun c28 => ?_) (fun c28 => by
        exfalso
        have e1 := en i (by omega)
        have e2 := en (n + i) (by omega)
        simp only [zi_lt, zi_le, zi_eq, i0, i1, i2, i3, i4, i5, i6, i9, i20, i99, i100, im5, im20, im1, i8] at c17 c28
        rw [e1] at c17
        rw [e2] at c28
        rcases Nat.le_total x.toInt.toNat (8 - n) with z | z
        · rw [Nat.min_eq_left z] at hmx'
          omega
        · rw [Nat.min_eq_right z] at hmx'
          omega)
        refine z_iload_n (pc := 85) C 2 dX10_deal_85 rfl rfl ?_
        refine z_ireturn (pc := 86) C K dX10_deal_86 ?_
        exact ⟨_, rfl, _, _, Or.inr ⟨hx, i, hmx, rfl, rfl, rfl⟩, hv, hf⟩
    | succ k ih =>
      intro i M1 q3 q4 q5 q6 hi hv hf h2
      have hl : m ≤ x.toInt.toNat := by rw [hmx]; exact Nat.min_le_left _ _
      refine z_iload_n (pc := 15) C 2 dX10_deal_15 rfl rfl ?_
      refine z_iload_n (pc := 16) C 1 dX10_deal_16 rfl rfl ?_
      refine z_icmp_ge (pc := 17) C 85 dX10_deal_17 (by decide) (fun c17 => by
        exfalso
        have e1 := en i (by omega)
        simp only [zi_lt, zi_le, zi_eq, i0, i1, i2, i3, i4, i5, i6, i9, i20, i99, i100, im5, im20, im1] at c17
        rw [e1] at c17
        omega) (fun c17 => ?_)
      refine z_aload_n (pc := 20) C 0 dX10_deal_20 rfl rfl ?_
      refine z_getR (pc := 21) (r := 240) C dX10_deal_21 fX10_9 sh_239 rfl ?_
      refine z_iconst (pc := 24) (v := 1) C dX10_deal_24 rfl ?_
      refine z_iald (pc := 25) (n := 1) C dX10_deal_25 sh_240 (zi_in.mpr (by decide)) rfl ?_
      rw [h2]
      refine z_bipush (pc := 26) (v := 8) C dX10_deal_26 rfl ?_
      refine z_icmp_ge (pc := 28) C 85 dX10_deal_28 (by decide) (fun c28 => absurd c28 (nI_ge (b := 8) (by omega) (by omega))) (fun c28 => ?_)
      refine z_aload_n (pc := 31) C 0 dX10_deal_31 rfl rfl ?_
      refine z_callVi (pc := 32) C dX10_deal_32 kX10_136 mX10_draw (by decide) sh_239 rfl rfl rfl (Nat.le_of_ble_eq_true rfl) (fun r32 M32 h32 => ?_)
      obtain ⟨rfl, e32⟩ := h32
      subst M32
      refine z_bipush (pc := 35) (v := 6) C dX10_deal_35 rfl ?_
      refine z_irem (pc := 37) C dX10_deal_37 (by decide) ?_
      refine z_istore_n (pc := 38) C 3 dX10_deal_38 rfl (by decide) rfl ?_
      refine z_aload_n (pc := 39) C 0 dX10_deal_39 rfl rfl ?_
      refine z_callVi (pc := 40) C dX10_deal_40 kX10_136 mX10_draw (by decide) sh_239 rfl rfl rfl (Nat.le_of_ble_eq_true rfl) (fun r40 M40 h40 => ?_)
      obtain ⟨rfl, e40⟩ := h40
      subst M40
      simp only [zu_self, zu_zu]
      refine z_bipush (pc := 43) (v := 100) C dX10_deal_43 rfl ?_
      refine z_irem (pc := 45) C dX10_deal_45 (by decide) ?_
      refine z_istore (pc := 46) C 4 dX10_deal_46 (by decide) rfl ?_
      refine z_iconst (pc := 48) (v := 1) C dX10_deal_48 rfl ?_
      refine z_aload_n (pc := 49) C 0 dX10_deal_49 rfl rfl ?_
      refine z_callVi (pc := 50) C dX10_deal_50 kX10_136 mX10_draw (by decide) sh_239 rfl rfl rfl (Nat.le_of_ble_eq_true rfl) (fun r50 M50 h50 => ?_)
      obtain ⟨rfl, e50⟩ := h50
      subst M50
      simp only [zu_self, zu_zu]
      refine z_iconst (pc := 53) (v := 5) C dX10_deal_53 rfl ?_
      refine z_irem (pc := 54) C dX10_deal_54 (by decide) ?_
      refine z_iadd (pc := 55) C dX10_deal_55 ?_
      refine z_istore (pc := 56) C 5 dX10_deal_56 (by decide) rfl ?_
      refine z_aload_n (pc := 58) C 0 dX10_deal_58 rfl rfl ?_
      refine z_iload_n (pc := 59) C 3 dX10_deal_59 rfl rfl ?_
      refine z_iload (pc := 60) C 4 dX10_deal_60 rfl ?_
      refine z_iload (pc := 62) C 5 dX10_deal_62 rfl ?_
      refine z_aload_n (pc := 64) C 0 dX10_deal_64 rfl rfl ?_
      refine z_callVi (pc := 65) C dX10_deal_65 kX10_136 mX10_draw (by decide) sh_239 rfl rfl rfl (Nat.le_of_ble_eq_true rfl) (fun r65 M65 h65 => ?_)
      obtain ⟨rfl, e65⟩ := h65
      subst M65
      simp only [zu_self, zu_zu]
      refine z_bipush (pc := 68) (v := 21) C dX10_deal_68 rfl ?_
      refine z_irem (pc := 70) C dX10_deal_70 (by decide) ?_
      refine z_bipush (pc := 71) (v := 10) C dX10_deal_71 rfl ?_
      refine z_isub (pc := 73) C dX10_deal_73 ?_
      refine z_callVi (pc := 74) C dX10_deal_74 kX10_88 (mX10_comes (n := n + i) (by rw [zu_f (by decide)]; exact h2) (by omega)) (by decide) sh_239 rfl rfl rfl (Nat.le_of_ble_eq_true rfl) (fun r74 M74 h74 => ?_)
      obtain ⟨rfl, e74⟩ := h74
      subst M74
      refine z_istore (pc := 77) C 6 dX10_deal_77 (by decide) rfl ?_
      refine z_iinc (pc := 79) (v := 1) C 2 dX10_deal_79 (by decide) rfl rfl rfl ?_
      refine z_goto (pc := 82) C 15 dX10_deal_82 (by decide) ?_
      have e := ih (i + 1) _ (some (.int (dk (M1 31 0 0 0)))) (some (.int (dd (M1 31 0 0 0)))) (some (.int (dw (M1 31 0 0 0)))) (some (.int (nI (n + i)))) (by omega) (mDr (by omega) hv).1 (hf.trans (mDr (by omega) hv).2) (mNew_n _ _ _ _ _ _)
      rw [nI_succ i] at e
      exact e
  refine z_iload_n (pc := 0) C 1 dX10_deal_0 rfl rfl ?_
  refine z_iconst (pc := 1) (v := 1) C dX10_deal_1 rfl ?_
  refine z_bipush (pc := 2) (v := 8) C dX10_deal_2 rfl ?_
  refine z_callSi (pc := 4) C dX10_deal_4 kX10_78 mX10_in (by decide) rfl rfl (Nat.le_of_ble_eq_true rfl) (fun r4 M4 h4 => ?_)
  obtain ⟨h4, e4⟩ := h4
  subst M4
  replace h4 : zb r4 (iin x (1) (8)) := zin_b (by decide) (by decide) h4
  refine z_if_ne (pc := 7) C 13 dX10_deal_7 (by decide) (fun c7 => ?_) (fun c7 => ?_)
  · refine z_iconst (pc := 13) (v := 0) C dX10_deal_13 rfl ?_
    refine z_istore_n (pc := 14) C 2 dX10_deal_14 rfl (by decide) rfl ?_
    exact loop _ (by have := Nat.min_le_right x.toInt.toNat (8 - n); show n + min _ _ ≤ 8; omega) (h4.yes c7) rfl _ 0 M _ _ _ _ (Nat.zero_add _) veq.rfl' mFr.rfl' hI.1.1
  · refine z_ldc (pc := 10) C q5_48 dX10_deal_10 ?_
    refine z_ireturn (pc := 12) C K dX10_deal_12 ?_
    exact ⟨_, rfl, n, mV M 31, Or.inl ⟨h4.no c7, rfl, rfl, rfl⟩, veq.rfl', mFr.rfl'⟩

theorem vN_add {hv : Int32 → Int32 → Int32 → Int32} {n : Nat} : ∀ (j k : Nat) (V : zVw), vN hv n (j + k) V = vN hv n k (vN hv n j V) ∧ vC hv n (j + k) V = vC hv n j V + vC hv n k (vN hv n j V)
  | 0, k, V => by
    rw [Nat.zero_add]
    exact ⟨rfl, (Nat.zero_add _).symm⟩
  | j + 1, k, V => by
    have e := vN_add (hv := hv) (n := n) j k (vTry hv n V)
    rw [show j + 1 + k = (j + k) + 1 by omega]
    refine ⟨e.1, ?_⟩
    rw [vC, vC, e.2, Nat.add_assoc]
    rfl
theorem vN_still {hv : Int32 → Int32 → Int32 → Int32} {n : Nat} {V : zVw} (h : vStill n V) : ∀ k, vN hv n k V = V ∧ vC hv n k V = 0
  | 0 => ⟨rfl, rfl⟩
  | k + 1 => by
    have e := vN_still (hv := hv) h k
    rw [vN, vC, vTry_s h]
    exact ⟨e.1, by rw [if_pos h, e.2]⟩
theorem vTry_8 {hv : Int32 → Int32 → Int32 → Int32} {n : Nat} {V : zVw} (h : ¬ vStill n V) : (vTry hv n V).1 8 = V.1 8 + 1 := by
  rw [vTry_n h]
  unfold vTurn
  by_cases q : pVoice (vPay V).2 n ((vPay V).1 4) = (vPay V).1 3
  · rw [if_pos q]
    rfl
  · rw [if_neg q]
    rfl
theorem vTry_10 {hv : Int32 → Int32 → Int32 → Int32} {n : Nat} (V : zVw) : (vTry hv n V).1 10 = V.1 10 := by
  by_cases h : vStill n V
  · rw [vTry_s h]
  · rw [vTry_n h]
    unfold vTurn
    by_cases q : pVoice (vPay V).2 n ((vPay V).1 4) = (vPay V).1 3
    · rw [if_pos q]
      rfl
    · rw [if_neg q]
      rfl
theorem vN_10 {hv : Int32 → Int32 → Int32 → Int32} {n : Nat} : ∀ (k : Nat) (V : zVw), (vN hv n k V).1 10 = V.1 10
  | 0, _ => rfl
  | k + 1, V => (vN_10 k (vTry hv n V)).trans (vTry_10 V)
theorem vN_8 {hv : Int32 → Int32 → Int32 → Int32} {n : Nat} : ∀ (k : Nat) (V : zVw), 0 ≤ (V.1 8).toInt → (V.1 8).toInt + k ≤ 1000000 → (V.1 8).toInt ≤ ((vN hv n k V).1 8).toInt ∧ ((vN hv n k V).1 8).toInt ≤ (V.1 8).toInt + k
  | 0, V, _, _ => ⟨Int.le_refl _, by show (V.1 8).toInt ≤ (V.1 8).toInt + 0; omega⟩
  | k + 1, V, h0, h => by
    by_cases q : vStill n V
    · rw [(vN_still q _).1]
      omega
    · have e8 : ((vTry hv n V).1 8).toInt = (V.1 8).toInt + 1 := by rw [vTry_8 q, zi_add (by rw [i1]; omega) (by rw [i1]; omega), i1]
      have e := vN_8 (hv := hv) (n := n) k (vTry hv n V) (by omega) (by omega)
      rw [vN]
      omega
def Stry (hv : Int32 → Int32 → Int32 → Int32) (x : Int32) : Nat → zVw → Int32 → Nat → zVw → Prop := fun n V r n' V' => (¬ iin x 1 100 ∧ rf (-1000000001) n V r n' V') ∨ (iin x 1 100 ∧ ∃ m, m = min x.toInt.toNat (9999 - (V.1 8).toInt.toNat) ∧ r = nI (vC hv n m V) ∧ n' = n ∧ V' = vN hv n m V)
theorem Stry_ok {hv : Int32 → Int32 → Int32 → Int32} (hh : ∀ x y z, 0 ≤ (hv x y z).toInt ∧ (hv x y z).toInt ≤ 99) (x : Int32) : Sok (Stry hv x) := by
  intro n V W h g t r n' V' s m' W' h1 h2
  rcases h1 with ⟨a, h1⟩ | ⟨a, m, hm, rfl, rfl, rfl⟩ <;> rcases h2 with ⟨c, h2⟩ | ⟨c, m2, hm2, rfl, rfl, rfl⟩
  · exact rf.ok h g t h1 h2
  · exact absurd c a
  · exact absurd a c
  · obtain rfl : m2 = m := by rw [hm, hm2, h.1 8 (by decide) (by decide)]
    have e := vN_c (hv := hv) m2 h
    have t8 := t
    unfold tOK at t8
    have e8 := vN_8 (hv := hv) (n := n') m2 V t8.1 (by omega)
    refine ⟨by rw [e.2], rfl, e.1, vN_ok hh m2 g, vN_10 m2 V, ?_⟩
    unfold tOK
    omega
theorem i9999 : (9999 : Int32).toInt = 9999 := by decide
set_option maxHeartbeats 800000 in
set_option maxRecDepth 100000 in
theorem mX9_tries {l : Launch} {G : zG} {b : Nat} {M : zM} {n T : Nat} {ky ln : Nat → Nat} (hR : RR M n T ky ln) {x : Int32} : zMet l G b yX9_tries cX9_tries 3 (some .int) 6 zshL zshL [.ref (b + 0), .int x] M (zI (cSt (Stry (hvF M (lastK ky 0 T)) x) n M)) := by
  refine zMet.of (L0 := [some (.ref (b + 0)), some (.int x), none]) (by decide +kernel) (Nat.le_refl _) (Nat.le_refl _) (Nat.le_of_ble_eq_true rfl) (List.forall_mem_cons.mpr ⟨rfl, List.forall_mem_cons.mpr ⟨rfl, fun _ h => absurd h List.not_mem_nil⟩⟩) rfl (fun X C Al K => ?_)
  have hcI := hR.cI
  have hh := hvF_in M (lastK ky 0 T)
  have t8 := hR.1.2.2.2.2.2.2
  unfold tOK at t8
  have loop : iin x 1 100 → ∀ (k i : Nat) (M1 : zM), i + k = min x.toInt.toNat (9999 - (M 5 0 0 8).toInt.toNat) → veq n (cV M1 0) (vN (hvF M (lastK ky 0 T)) n i (cV M 0)) → cFr M M1 0 → vC (hvF M (lastK ky 0 T)) n i (cV M 0) = i → (M1 5 0 0 8).toInt = (M 5 0 0 8).toInt + i → zW X zshL M1 16 [some (.ref (b + 0)), some (.int x), some (.int (nI i))] [] := by
    intro hx k
    have hx' := hx
    unfold iin at hx'
    induction k with
    | zero =>
      intro i M1 hi hv hf hc h8
      have e1 : (nI i).toInt = i := nI_toInt (by omega)
      refine z_iload_n (pc := 16) C 2 dX9_tries_16 rfl rfl ?_
      refine z_iload_n (pc := 17) C 1 dX9_tries_17 rfl rfl ?_
      refine z_icmp_ge (pc := 18) C 50 dX9_tries_18 (by decide) (fun c18 => ?_) (fun c18 => ?_)
      · refine z_iload_n (pc := 50) C 2 dX9_tries_50 rfl rfl ?_
        refine z_ireturn (pc := 51) C K dX9_tries_51 ?_
        exact ⟨_, rfl, _, _, Or.inr ⟨hx, i, (by show i = min x.toInt.toNat (9999 - (M 5 0 0 8).toInt.toNat); omega), (by rw [hc]), rfl, rfl⟩, hv, hf⟩
      · refine z_aload_n (pc := 21) C 0 dX9_tries_21 rfl rfl ?_
        refine z_getR (pc := 22) (r := adW 0) C dX9_tries_22 fX9_21 sh_0 rfl ?_
        refine z_getI (pc := 25) C dX9_tries_25 fX9_164 (shW lt0_14) rfl ?_
        refine z_sipush (pc := 28) (v := 9999) C dX9_tries_28 rfl ?_
        refine z_icmp_ge (pc := 31) C 50 dX9_tries_31 (by decide) (fun c31 => ?_) (fun c31 => by
        exfalso
        simp only [zi_lt, zi_le, zi_eq, i0, i1, i2, i3, i4, i5, i6, i9, i20, i99, i100, im5, im20, im1] at c18 c31
        rw [h8, i9999] at c31
        rw [e1] at c18
        omega)
        refine z_iload_n (pc := 50) C 2 dX9_tries_50 rfl rfl ?_
        refine z_ireturn (pc := 51) C K dX9_tries_51 ?_
        exact ⟨_, rfl, _, _, Or.inr ⟨hx, i, (by show i = min x.toInt.toNat (9999 - (M 5 0 0 8).toInt.toNat); omega), (by rw [hc]), rfl, rfl⟩, hv, hf⟩
    | succ k ih =>
      intro i M1 hi hv hf hc h8
      have e1 : (nI i).toInt = i := nI_toInt (by omega)
      have hI1 : cI M1 0 n (hvF M (lastK ky 0 T)) := hcI.on hf (vOK_c hv.symm (vN_ok hh i hcI.1))
      refine z_iload_n (pc := 16) C 2 dX9_tries_16 rfl rfl ?_
      refine z_iload_n (pc := 17) C 1 dX9_tries_17 rfl rfl ?_
      refine z_icmp_ge (pc := 18) C 50 dX9_tries_18 (by decide) (fun c18 => by
        exfalso
        simp only [zi_lt, zi_le, zi_eq, i0, i1, i2, i3, i4, i5, i6, i9, i20, i99, i100, im5, im20, im1] at c18
        rw [e1] at c18
        omega) (fun c18 => ?_)
      refine z_aload_n (pc := 21) C 0 dX9_tries_21 rfl rfl ?_
      refine z_getR (pc := 22) (r := adW 0) C dX9_tries_22 fX9_21 sh_0 rfl ?_
      refine z_getI (pc := 25) C dX9_tries_25 fX9_164 (shW lt0_14) rfl ?_
      refine z_sipush (pc := 28) (v := 9999) C dX9_tries_28 rfl ?_
      refine z_icmp_ge (pc := 31) C 50 dX9_tries_31 (by decide) (fun c31 => by
        exfalso
        simp only [zi_lt, zi_le, zi_eq, i0, i1, i2, i3, i4, i5, i6, i9, i20, i99, i100, im5, im20, im1] at c31
        rw [h8, i9999] at c31
        omega) (fun c31 => ?_)
      refine z_aload_n (pc := 34) C 0 dX9_tries_34 rfl rfl ?_
      refine z_getR (pc := 35) (r := adW 0) C dX9_tries_35 fX9_21 sh_0 rfl ?_
      refine z_callVi (pc := 38) C dX9_tries_38 kX9_167 (mX8_attempt2 lt0_14 hI1) (by decide) (shW lt0_14) rfl rfl rfl (Nat.le_of_ble_eq_true rfl) (fun r38 M38 h38 => ?_)
      refine z_if_eq (pc := 41) C 50 dX9_tries_41 (by decide) (fun c41 => ?_) (fun c41 => ?_)
      · refine z_iload_n (pc := 50) C 2 dX9_tries_50 rfl rfl ?_
        refine z_ireturn (pc := 51) C K dX9_tries_51 ?_
        rcases h38 with ⟨⟨g1, g2⟩ | ⟨g1, g2⟩, g3, g4⟩
        · have gs := (vStill_c hv).mp g1
          have ea := vN_add (hv := (hvF M (lastK ky 0 T))) (n := n) i (k + 1) (cV M 0)
          have es := vN_still (hv := (hvF M (lastK ky 0 T))) gs (k + 1)
          refine ⟨_, rfl, n, _, Or.inr ⟨hx, i + (k + 1), hi, ?_, rfl, rfl⟩, ?_, hf.trans g4⟩
          · rw [ea.2, es.2, hc, Nat.add_zero]
          · rw [ea.1, es.1]
            exact (g3.trans (by rw [vTry_s g1]; exact veq.rfl')).trans hv
        · exact absurd c41 (by rw [g2]; decide)
      · refine z_iinc (pc := 44) (v := 1) C 2 dX9_tries_44 (by decide) rfl rfl rfl ?_
        refine z_goto (pc := 47) C 16 dX9_tries_47 (by decide) ?_
        have e8' : ¬ vStill n (cV M1 0) := by
          rcases h38 with ⟨⟨g1, g2⟩ | ⟨g1, g2⟩, -⟩
          · exact absurd g2 c41
          · exact g1
        obtain ⟨-, g3, g4⟩ := h38
        have ns : ¬ vStill n (vN (hvF M (lastK ky 0 T)) n i (cV M 0)) := fun z => e8' ((vStill_c hv).mpr z)
        have ea := vN_add (hv := (hvF M (lastK ky 0 T))) (n := n) i 1 (cV M 0)
        have e := ih (i + 1) M38 (by omega) (by rw [ea.1]; exact g3.trans (vTry_c hv)) (hf.trans g4) (by rw [ea.2, hc, vC, if_neg ns]; rfl) (by
          have q : M38 5 0 0 8 = M1 5 0 0 8 + 1 := (g3.1 8 (by decide) (by decide)).trans (vTry_8 e8')
          rw [q, zi_add (by rw [i1]; omega) (by rw [i1]; omega), i1, h8]
          omega)
        rw [nI_succ i] at e
        exact e
  refine z_iload_n (pc := 0) C 1 dX9_tries_0 rfl rfl ?_
  refine z_iconst (pc := 1) (v := 1) C dX9_tries_1 rfl ?_
  refine z_icmp_lt (pc := 2) C 11 dX9_tries_2 (by decide) (fun c2 => ?_) (fun c2 => ?_)
  · refine z_ldc (pc := 11) C q2_96 dX9_tries_11 ?_
    refine z_ireturn (pc := 13) C K dX9_tries_13 ?_
    have hx : ¬ iin x 1 100 := by
      simp only [zi_lt, zi_le, zi_eq, i0, i1, i2, i3, i4, i5, i6, i9, i20, i99, i100, im5, im20, im1] at c2
      unfold iin
      omega
    exact ⟨_, rfl, n, cV M 0, Or.inl ⟨hx, rfl, rfl, rfl⟩, veq.rfl', cFr.rfl'⟩
  · refine z_iload_n (pc := 5) C 1 dX9_tries_5 rfl rfl ?_
    refine z_bipush (pc := 6) (v := 100) C dX9_tries_6 rfl ?_
    refine z_icmp_le (pc := 8) C 14 dX9_tries_8 (by decide) (fun c8 => ?_) (fun c8 => ?_)
    · refine z_iconst (pc := 14) (v := 0) C dX9_tries_14 rfl ?_
      refine z_istore_n (pc := 15) C 2 dX9_tries_15 rfl (by decide) rfl ?_
      have hx : iin x 1 100 := by
        simp only [zi_lt, zi_le, zi_eq, i0, i1, i2, i3, i4, i5, i6, i9, i20, i99, i100, im5, im20, im1] at c2 c8
        unfold iin
        omega
      exact loop hx _ 0 M (Nat.zero_add _) veq.rfl' cFr.rfl' rfl (by omega)
    · refine z_ldc (pc := 11) C q2_96 dX9_tries_11 ?_
      refine z_ireturn (pc := 13) C K dX9_tries_13 ?_
      have hx : ¬ iin x 1 100 := by
        simp only [zi_lt, zi_le, zi_eq, i0, i1, i2, i3, i4, i5, i6, i9, i20, i99, i100, im5, im20, im1] at c2 c8
        unfold iin
        omega
      exact ⟨_, rfl, n, cV M 0, Or.inl ⟨hx, rfl, rfl, rfl⟩, veq.rfl', cFr.rfl'⟩

set_option maxHeartbeats 800000 in
set_option maxRecDepth 100000 in
theorem mX10_tries {l : Launch} {G : zG} {b : Nat} {M : zM} {n T : Nat} {ky ln : Nat → Nat} (hI : rI M n T ky ln) (t8 : tOK (M 31 0 0 2)) {x : Int32} : zMet l G b yX10_tries cX10_tries 2 (some .int) 7 zshL zshL [.ref (b + 239), .int x] M (zI (mSt (Stry (hvF M (lastK ky 0 T)) x) n M)) := by
  refine zMet.of (L0 := [some (.ref (b + 239)), some (.int x)]) (by decide +kernel) (Nat.le_refl _) (Nat.le_refl _) (Nat.le_of_ble_eq_true rfl) (List.forall_mem_cons.mpr ⟨rfl, List.forall_mem_cons.mpr ⟨rfl, fun _ h => absurd h List.not_mem_nil⟩⟩) rfl (fun X C Al K => ?_)
  refine z_iload_n (pc := 0) C 1 dX10_tries_0 rfl rfl ?_
  refine z_iconst (pc := 1) (v := 1) C dX10_tries_1 rfl ?_
  refine z_bipush (pc := 2) (v := 100) C dX10_tries_2 rfl ?_
  refine z_callSi (pc := 4) C dX10_tries_4 kX10_78 mX10_in (by decide) rfl rfl (Nat.le_of_ble_eq_true rfl) (fun r4 M4 h4 => ?_)
  obtain ⟨h4, e4⟩ := h4
  subst M4
  replace h4 : zb r4 (iin x (1) (100)) := zin_b (by decide) (by decide) h4
  refine z_if_eq (pc := 7) C 32 dX10_tries_7 (by decide) (fun c7 => ?_) (fun c7 => ?_)
  · refine z_ldc (pc := 32) C q5_48 dX10_tries_32 ?_
    refine z_ireturn (pc := 34) C K dX10_tries_34 ?_
    exact ⟨_, rfl, n, mV M 31, Or.inl ⟨h4.no c7, rfl, rfl, rfl⟩, veq.rfl', mFr.rfl'⟩
  · have hx := h4.yes c7
    have hx' := hx
    unfold iin at hx'
    unfold tOK at t8
    have ew : zwi (9999 - M 31 0 0 2) 0 x = nI (min x.toInt.toNat (9999 - (M 31 0 0 2).toInt.toNat)) := by
      have e0 : (9999 - M 31 0 0 2).toInt = 9999 - (M 31 0 0 2).toInt := by rw [zi_sub (by rw [i9999]; omega) (by rw [i9999]; omega), i9999]
      have en : (nI (min x.toInt.toNat (9999 - (M 31 0 0 2).toInt.toNat))).toInt = (min x.toInt.toNat (9999 - (M 31 0 0 2).toInt.toNat) : Nat) := nI_toInt (by omega)
      rw [zi_eq, en]
      unfold zwi
      by_cases q : 9999 - M 31 0 0 2 < 0
      · exfalso
        rw [zi_lt, e0, i0] at q
        omega
      · rw [if_neg q]
        by_cases q2 : x < 9999 - M 31 0 0 2
        · rw [if_pos q2]
          rw [zi_lt, e0] at q2
          omega
        · rw [if_neg q2, e0]
          rw [zi_lt, e0] at q2
          omega
    refine z_aload_n (pc := 10) C 0 dX10_tries_10 rfl rfl ?_
    refine z_sipush (pc := 11) (v := 9999) C dX10_tries_11 rfl ?_
    refine z_aload_n (pc := 14) C 0 dX10_tries_14 rfl rfl ?_
    refine z_getR (pc := 15) (r := 240) C dX10_tries_15 fX10_9 sh_239 rfl ?_
    refine z_iconst (pc := 18) (v := 2) C dX10_tries_18 rfl ?_
    refine z_iald (pc := 19) (n := 2) C dX10_tries_19 sh_240 (zi_in.mpr (by decide)) rfl ?_
    refine z_isub (pc := 20) C dX10_tries_20 ?_
    refine z_iconst (pc := 21) (v := 0) C dX10_tries_21 rfl ?_
    refine z_iload_n (pc := 22) C 1 dX10_tries_22 rfl rfl ?_
    refine z_callSi (pc := 23) C dX10_tries_23 kX10_103 mX10_within (by decide) rfl rfl (Nat.le_of_ble_eq_true rfl) (fun r23 M23 h23 => ?_)
    obtain ⟨rfl, e23⟩ := h23
    subst M23
    rw [ew]
    refine z_callVi (pc := 26) C dX10_tries_26 kX10_172 (mX10_goesOn hI (by omega)) (by decide) sh_239 rfl rfl rfl (Nat.le_of_ble_eq_true rfl) (fun r26 M26 h26 => ?_)
    refine z_goto (pc := 29) C 34 dX10_tries_29 (by decide) ?_
    refine z_ireturn (pc := 34) C K dX10_tries_34 ?_
    obtain ⟨rfl, g1, g2, g3⟩ := h26
    exact ⟨_, rfl, n, _, Or.inr ⟨hx, _, rfl, rfl, rfl, rfl⟩, g1, g2⟩
