/-! public methods: deal, tries -/
theorem zushr8 (x : Int32) : 0 ≤ (zushr x 8).toInt ∧ (zushr x 8).toInt < 16777216 := by
  have e : (zushr x 8).toInt = (x.toBitVec >>> 8).toInt := rfl
  have h : (x.toBitVec >>> 8).toNat < 16777216 := by
    rw [BitVec.toNat_ushiftRight, Nat.shiftRight_eq_div_pow]
    have := x.toBitVec.isLt
    omega
  rw [e, BitVec.toInt_eq_toNat_cond, if_pos (by omega)]
  omega
theorem zrm_in {x y : Int32} {c : Int} (h1 : 0 ≤ x.toInt) (h2 : x.toInt < 16777216) (hc : y.toInt = c) (c1 : 0 < c) (c2 : c ≤ 100) : 0 ≤ (zrm x y).toInt ∧ (zrm x y).toInt < c := by
  have e1 : (x / y).toInt = x.toInt / c := by
    rw [zi_div (by omega), hc, Int.tdiv_eq_ediv_of_nonneg h1]
  have b1 : 0 ≤ x.toInt / c := Int.ediv_nonneg h1 (by omega)
  have b2 : x.toInt / c * c + x.toInt % c = x.toInt := by rw [Int.mul_comm]; exact Int.mul_ediv_add_emod x.toInt c
  have b3 : 0 ≤ x.toInt % c := Int.emod_nonneg _ (by omega)
  have b4 : x.toInt % c < c := Int.emod_lt_of_pos _ c1
  have b5 : 0 ≤ x.toInt / c * c := Int.mul_nonneg b1 (by omega)
  have e2 : (x / y * y).toInt = x.toInt / c * c := by rw [zi_mul (by rw [e1, hc]; omega) (by rw [e1, hc]; omega), e1, hc]
  have e3 : (zrm x y).toInt = x.toInt - x.toInt / c * c := by
    unfold zrm
    rw [zi_sub (by rw [e2]; omega) (by rw [e2]; omega), e2]
  rw [e3]
  omega
theorem rng6 {a : Int} (h : 0 ≤ a ∧ a < 6) : 0 ≤ a ∧ a ≤ 5 := by omega
theorem rng100 {a : Int} (h : 0 ≤ a ∧ a < 100) : 0 ≤ a ∧ a ≤ 99 := by omega
theorem rng5 {a : Int} (h : 0 ≤ a ∧ a < 5) : 1 ≤ 1 + a ∧ 1 + a ≤ 9 := by omega
theorem rng21 {a : Int} (h : 0 ≤ a ∧ a < 21) : -20 ≤ a - 10 ∧ a - 10 ≤ 20 := by omega
theorem zadd1 {x : Int32} (h : 0 ≤ x.toInt ∧ x.toInt < 100) : (1 + x).toInt = 1 + x.toInt := by rw [zi_add (by rw [i1]; omega) (by rw [i1]; omega), i1]
theorem zsub10 {x : Int32} (h : 0 ≤ x.toInt ∧ x.toInt < 100) : (x - 10).toInt = x.toInt - 10 := by
  have i10 : (10 : Int32).toInt = 10 := by decide
  rw [zi_sub (by rw [i10]; omega) (by rw [i10]; omega), i10]
theorem rngl {a c : Int} (h : 0 ≤ a ∧ a < c) (hc : c ≤ 100) : 0 ≤ a ∧ a < 100 := by omega
theorem draw_ok (z : Int32) : gPer (dk z) (dd z) (dw z) ∧ iin (db z) (-20) 20 := by
  have a1 := zushr8 (zdraw z)
  have a2 := zushr8 (zdraw (zdraw z))
  have a3 := zushr8 (zdraw (zdraw (zdraw z)))
  have a4 := zushr8 (zdraw (zdraw (zdraw (zdraw z))))
  have b1 := zrm_in a1.1 a1.2 i6 (by decide) (by decide)
  have b2 := zrm_in a2.1 a2.2 i100 (by decide) (by decide)
  have b3 := zrm_in a3.1 a3.2 i5 (by decide) (by decide)
  have b4 := zrm_in (y := 21) (c := 21) a4.1 a4.2 (by decide) (by decide) (by decide)
  refine ⟨⟨rng6 b1, rng100 b2, ?_⟩, ?_⟩
  · unfold iin dw
    rw [zadd1 (rngl b3 (by decide))]
    exact rng5 b3
  · unfold iin db
    rw [zsub10 (rngl b4 (by decide))]
    exact rng21 b4
def vDr (n : Nat) (V : zVw) : zVw := vNew (vF V 9 (z4 (V.1 9))) n (dk (V.1 9)) (dd (V.1 9)) (dw (V.1 9)) (db (V.1 9))
def vDl (n : Nat) (V : zVw) : Nat → zVw
  | 0 => V
  | m + 1 => vDr (n + m) (vDl n V m)
theorem vDr_c {n : Nat} {V W : zVw} (h : veq n V W) : veq (n + 1) (vDr n V) (vDr n W) := by
  unfold vDr
  rw [h.1 9 (by decide) (by decide)]
  exact vNew_c (vF_c h 9 _) _ _ _ _
theorem vDl_c {n : Nat} {V W : zVw} (h : veq n V W) : ∀ m, veq (n + m) (vDl n V m) (vDl n W m)
  | 0 => h
  | m + 1 => vDr_c (vDl_c h m)
theorem vDr_ok {n : Nat} {V : zVw} (g : vOK n V) (h : n < 8) : vOK (n + 1) (vDr n V) := vNew_ok (V := vF V 9 (z4 (V.1 9))) g h (draw_ok _).1 (draw_ok _).2
theorem vDl_ok {n : Nat} {V : zVw} (g : vOK n V) : ∀ m, n + m ≤ 8 → vOK (n + m) (vDl n V m)
  | 0, _ => g
  | m + 1, h => by
    have e := vDr_ok (n := n + m) (vDl_ok g m (by omega)) (by omega)
    exact e
theorem vDl_k {n : Nat} {V : zVw} {k : Nat} (h2 : k ≠ 2) (h9 : k ≠ 9) : ∀ m, (vDl n V m).1 k = V.1 k
  | 0 => rfl
  | m + 1 => by
    show (if k = 2 then nI (n + m + 1) else if k = 9 then z4 ((vDl n V m).1 9) else (vDl n V m).1 k) = V.1 k
    rw [if_neg h2, if_neg h9]
    exact vDl_k h2 h9 m
def Sdeal (x : Int32) : Nat → zVw → Int32 → Nat → zVw → Prop := fun n V r n' V' => (¬ iin x 1 8 ∧ rf (-1000000001) n V r n' V') ∨ (iin x 1 8 ∧ ∃ m : Nat, (m : Int) ≤ x.toInt ∧ n + m ≤ 8 ∧ ((m : Int) = x.toInt ∨ n + m = 8) ∧ r = nI m ∧ n' = n + m ∧ V' = vDl n V m)
theorem Sdeal_ok (x : Int32) : Sok (Sdeal x) := by
  intro n V W h g t r n' V' s m' W' h1 h2
  have n8 := g.2.1
  rcases h1 with ⟨a, h1⟩ | ⟨a, m, p1, p2, p3, rfl, rfl, rfl⟩ <;> rcases h2 with ⟨c, h2⟩ | ⟨c, m2, r1, r2, r3, rfl, rfl, rfl⟩
  · exact rf.ok h g t h1 h2
  · exact absurd c a
  · exact absurd a c
  · obtain rfl : m2 = m := by omega
    refine ⟨rfl, rfl, vDl_c h m2, vDl_ok g m2 (by omega), vDl_k (by decide) (by decide) m2, ?_⟩
    rw [vDl_k (by decide) (by decide)]
    exact t
theorem mNew_n (M : zM) (n : Nat) (k d g e : Int32) : mNew M n k d g e 31 0 0 1 = nI (n + 1) := by
  unfold mNew
  rw [if_neg (fun q => by omega), if_pos ⟨rfl, rfl, rfl, rfl⟩]
theorem cDr {M : zM} {j : Nat} {W : zVw} (h : veq j (cV M 0) W) : veq (j + 1) (cV (zu (pPut (zu M 5 0 0 9 (z4 (M 5 0 0 9))) 0 j (fun f => if f < 7 then pNew (dk (M 5 0 0 9)) (dd (M 5 0 0 9)) (dw (M 5 0 0 9)) (db (M 5 0 0 9)) f else M 1 0 j f)) 5 0 0 2 (nI (j + 1))) 0) (vDr j W) ∧ cFr M (zu (pPut (zu M 5 0 0 9 (z4 (M 5 0 0 9))) 0 j (fun f => if f < 7 then pNew (dk (M 5 0 0 9)) (dd (M 5 0 0 9)) (dw (M 5 0 0 9)) (db (M 5 0 0 9)) f else M 1 0 j f)) 5 0 0 2 (nI (j + 1))) 0 := by
  have e := cV_wel (zu M 5 0 0 9 (z4 (M 5 0 0 9))) (n := j) (dk (M 5 0 0 9)) (dd (M 5 0 0 9)) (dw (M 5 0 0 9)) (db (M 5 0 0 9))
  rw [zu_a (a := 5) (a' := 1) (by decide)] at e
  refine ⟨e.1.trans ?_, (cFr_5 M 0 9 _).trans e.2⟩
  rw [cV_zu5]
  exact vDr_c (V := cV M 0) h
theorem mDr {M : zM} {j : Nat} (hj : j < 8) {W : zVw} (h : veq j (mV M 31) W) : veq (j + 1) (mV (mNew (zu M 31 0 0 0 (z4 (M 31 0 0 0))) j (dk (M 31 0 0 0)) (dd (M 31 0 0 0)) (dw (M 31 0 0 0)) (db (M 31 0 0 0))) 31) (vDr j W) ∧ mFr M (mNew (zu M 31 0 0 0 (z4 (M 31 0 0 0))) j (dk (M 31 0 0 0)) (dd (M 31 0 0 0)) (dw (M 31 0 0 0)) (db (M 31 0 0 0))) := by
  have e := mV_new (zu M 31 0 0 0 (z4 (M 31 0 0 0))) hj (dk (M 31 0 0 0)) (dd (M 31 0 0 0)) (dw (M 31 0 0 0)) (db (M 31 0 0 0))
  refine ⟨e.1.trans ?_, (mFr_zu M (by decide) _).trans e.2⟩
  exact (vNew_c (mV_zu M (n := j) (k := 9) (by decide) (by decide) _) _ _ _ _).trans (vDr_c (V := mV M 31) h)
theorem i8 : (8 : Int32).toInt = 8 := by decide
set_option maxHeartbeats 800000 in
set_option maxRecDepth 100000 in
theorem mX9_deal {l : Launch} {G : zG} {b : Nat} {M : zM} {n T : Nat} {ky ln : Nat → Nat} (hR : RR M n T ky ln) {x : Int32} : zMet l G b yX9_deal cX9_deal 5 (some .int) 3 zshL zshL [.ref (b + 0), .int x] M (zI (cSt (Sdeal x) n M)) := by
  refine zMet.of (L0 := [some (.ref (b + 0)), some (.int x), none, none, none]) (by decide +kernel) (Nat.le_refl _) (Nat.le_refl _) (Nat.le_of_ble_eq_true rfl) (List.forall_mem_cons.mpr ⟨rfl, List.forall_mem_cons.mpr ⟨rfl, fun _ h => absurd h List.not_mem_nil⟩⟩) rfl (fun X C Al K => ?_)
  have n8 := hR.n8
  have loop : ∀ (m : Nat), n + m ≤ 8 → iin x 1 8 → (m : Int) ≤ x.toInt → ((m : Int) = x.toInt ∨ n + m = 8) → ∀ (k i : Nat) (M1 : zM) (q : Option Value), i + k = m → veq (n + i) (cV M1 0) (vDl n (cV M 0) i) → cFr M M1 0 → M1 5 0 0 2 = nI (n + i) → zW X zshL M1 34 [some (.ref (b + 0)), some (.int x), q, some (.int (nI m)), some (.int (nI i))] [] := by
    intro m hm hx hl hmx k
    induction k with
    | zero =>
      intro i M1 q hi hv hf h2
      obtain rfl : i = m := by omega
      refine z_iload (pc := 34) C 4 dX9_deal_34 rfl ?_
      refine z_iload_n (pc := 36) C 3 dX9_deal_36 rfl rfl ?_
      refine z_icmp_ge (pc := 37) C 53 dX9_deal_37 (by decide) (fun c37 => ?_) (fun c37 => absurd (nI_le (Nat.le_refl i) (by omega)) c37)
      refine z_iload_n (pc := 53) C 3 dX9_deal_53 rfl rfl ?_
      refine z_ireturn (pc := 54) C K dX9_deal_54 ?_
      exact ⟨_, rfl, _, _, Or.inr ⟨hx, i, hl, hm, hmx, rfl, rfl, rfl⟩, hv, hf⟩
    | succ k ih =>
      intro i M1 q hi hv hf h2
      refine z_iload (pc := 34) C 4 dX9_deal_34 rfl ?_
      refine z_iload_n (pc := 36) C 3 dX9_deal_36 rfl rfl ?_
      refine z_icmp_ge (pc := 37) C 53 dX9_deal_37 (by decide) (fun c37 => absurd c37 (nI_ge (by omega) (by omega))) (fun c37 => ?_)
      refine z_aload_n (pc := 40) C 0 dX9_deal_40 rfl rfl ?_
      refine z_getR (pc := 41) (r := adW 0) C dX9_deal_41 fX9_21 sh_0 rfl ?_
      refine z_callVv (pc := 44) C dX9_deal_44 kX9_150 (mX8_drawOne (w := 0) lt0_14 h2 (by omega)) (by decide) (shW lt0_14) rfl rfl rfl (Nat.le_of_ble_eq_true rfl) (fun M44 h44 => ?_)
      subst M44
      refine z_iinc (pc := 47) (v := 1) C 4 dX9_deal_47 (by decide) rfl rfl rfl ?_
      refine z_goto (pc := 50) C 34 dX9_deal_50 (by decide) ?_
      have e := ih (i + 1) _ q (by omega) (cDr hv).1 (hf.trans (cDr hv).2) (zu_self _ _ _ _ _ _)
      rw [nI_succ i] at e
      exact e
  refine z_iload_n (pc := 0) C 1 dX9_deal_0 rfl rfl ?_
  refine z_iconst (pc := 1) (v := 1) C dX9_deal_1 rfl ?_
  refine z_icmp_lt (pc := 2) C 11 dX9_deal_2 (by decide) (fun c2 => ?_) (fun c2 => ?_)
  · refine z_ldc (pc := 11) C q2_96 dX9_deal_11 ?_
    refine z_ireturn (pc := 13) C K dX9_deal_13 ?_
    have hx : ¬ iin x 1 8 := by
      simp only [zi_lt, zi_le, zi_eq, i0, i1, i2, i3, i4, i5, i6, i9, i20, i99, i100, im5, im20, im1, i8] at c2
      unfold iin
      omega
    exact ⟨_, rfl, n, cV M 0, Or.inl ⟨hx, rfl, rfl, rfl⟩, veq.rfl', cFr.rfl'⟩
  · refine z_iload_n (pc := 5) C 1 dX9_deal_5 rfl rfl ?_
    refine z_bipush (pc := 6) (v := 8) C dX9_deal_6 rfl ?_
    refine z_icmp_le (pc := 8) C 14 dX9_deal_8 (by decide) (fun c8 => ?_) (fun c8 => ?_)
    · have hx : iin x 1 8 := by
        simp only [zi_lt, zi_le, zi_eq, i0, i1, i2, i3, i4, i5, i6, i9, i20, i99, i100, im5, im20, im1, i8] at c2 c8
        unfold iin
        omega
      have hxi := hx
      unfold iin at hxi
      have e8 : (8 - nI n).toInt = 8 - (n : Int) := by
        have en : (nI n).toInt = n := nI_toInt (by omega)
        rw [zi_sub (by rw [en, i8]; omega) (by rw [en, i8]; omega), en, i8]
      obtain ⟨m, m1, m2, m3, em⟩ : ∃ m : Nat, (m : Int) ≤ x.toInt ∧ n + m ≤ 8 ∧ ((m : Int) = x.toInt ∨ n + m = 8) ∧ (if 8 - nI n < x then 8 - nI n else x) = nI m := by
        by_cases q : 8 - nI n < x
        · refine ⟨8 - n, ?_, by omega, Or.inr (by omega), ?_⟩
          · rw [zi_lt, e8] at q
            omega
          · rw [if_pos q, zi_eq, e8, nI_toInt (by omega)]
            omega
        · refine ⟨x.toInt.toNat, by omega, ?_, Or.inl (by omega), ?_⟩
          · rw [zi_lt, e8] at q
            omega
          · rw [if_neg q, zi_eq, nI_toInt (by omega)]
            omega
      refine z_bipush (pc := 14) (v := 8) C dX9_deal_14 rfl ?_
      refine z_aload_n (pc := 16) C 0 dX9_deal_16 rfl rfl ?_
      refine z_getR (pc := 17) (r := adW 0) C dX9_deal_17 fX9_21 sh_0 rfl ?_
      refine z_getI (pc := 20) C dX9_deal_20 fX9_88 (shW lt0_14) rfl ?_
      rw [hR.hn]
      refine z_isub (pc := 23) C dX9_deal_23 ?_
      refine z_istore_n (pc := 24) C 2 dX9_deal_24 rfl (by decide) rfl ?_
      refine z_iload_n (pc := 25) C 1 dX9_deal_25 rfl rfl ?_
      refine z_iload_n (pc := 26) C 2 dX9_deal_26 rfl rfl ?_
      refine z_min (pc := 27) C (by decide) q2_135 q2_136 q1_12 q2_137 dX9_deal_27 (Nat.le_of_ble_eq_true rfl) ?_
      rw [em]
      refine z_istore_n (pc := 30) C 3 dX9_deal_30 rfl (by decide) rfl ?_
      refine z_iconst (pc := 31) (v := 0) C dX9_deal_31 rfl ?_
      refine z_istore (pc := 32) C 4 dX9_deal_32 (by decide) rfl ?_
      exact loop m m2 hx m1 m3 m 0 M _ (Nat.zero_add _) veq.rfl' cFr.rfl' hR.hn
    · refine z_ldc (pc := 11) C q2_96 dX9_deal_11 ?_
      refine z_ireturn (pc := 13) C K dX9_deal_13 ?_
      have hx : ¬ iin x 1 8 := by
        simp only [zi_lt, zi_le, zi_eq, i0, i1, i2, i3, i4, i5, i6, i9, i20, i99, i100, im5, im20, im1, i8] at c2 c8
        unfold iin
        omega
      exact ⟨_, rfl, n, cV M 0, Or.inl ⟨hx, rfl, rfl, rfl⟩, veq.rfl', cFr.rfl'⟩

set_option maxHeartbeats 800000 in
set_option maxRecDepth 100000 in
theorem mX10_deal {l : Launch} {G : zG} {b : Nat} {M : zM} {n T : Nat} {ky ln : Nat → Nat} (hI : rI M n T ky ln) {x : Int32} : zMet l G b yX10_deal cX10_deal 7 (some .int) 2 zshL zshL [.ref (b + 239), .int x] M (zI (mSt (Sdeal x) n M)) := by
  refine zMet.of (L0 := [some (.ref (b + 239)), some (.int x), none, none, none, none, none]) (by decide +kernel) (Nat.le_refl _) (Nat.le_refl _) (Nat.le_of_ble_eq_true rfl) (List.forall_mem_cons.mpr ⟨rfl, List.forall_mem_cons.mpr ⟨rfl, fun _ h => absurd h List.not_mem_nil⟩⟩) rfl (fun X C Al K => ?_)
  have n8 := hI.1.2.1
  have loop : ∀ (m : Nat), n + m ≤ 8 → iin x 1 8 → (m : Int) ≤ x.toInt → ((m : Int) = x.toInt ∨ n + m = 8) → ∀ (k i : Nat) (M1 : zM) (q3 q4 q5 q6 : Option Value), i + k = m → veq (n + i) (mV M1 31) (vDl n (mV M 31) i) → mFr M M1 → M1 31 0 0 1 = nI (n + i) → zW X zshL M1 15 [some (.ref (b + 239)), some (.int x), some (.int (nI i)), q3, q4, q5, q6] [] := by
    intro m hm hx hl hmx k
    have hx' := hx
    unfold iin at hx'
    have en : ∀ j : Nat, j ≤ 8 → (nI j).toInt = j := fun j hj => nI_toInt (by omega)
    induction k with
    | zero =>
      intro i M1 q3 q4 q5 q6 hi hv hf h2
      obtain rfl : i = m := by omega
      refine z_iload_n (pc := 15) C 2 dX10_deal_15 rfl rfl ?_
      refine z_iload_n (pc := 16) C 1 dX10_deal_16 rfl rfl ?_
      refine z_icmp_ge (pc := 17) C 85 dX10_deal_17 (by decide) (fun c17 => ?_) (fun c17 => ?_)
      · refine z_iload_n (pc := 85) C 2 dX10_deal_85 rfl rfl ?_
        refine z_ireturn (pc := 86) C K dX10_deal_86 ?_
        exact ⟨_, rfl, _, _, Or.inr ⟨hx, i, hl, hm, hmx, rfl, rfl, rfl⟩, hv, hf⟩
      · refine z_aload_n (pc := 20) C 0 dX10_deal_20 rfl rfl ?_
        refine z_getR (pc := 21) (r := 240) C dX10_deal_21 fX10_9 sh_239 rfl ?_
        refine z_iconst (pc := 24) (v := 1) C dX10_deal_24 rfl ?_
        refine z_iald (pc := 25) (n := 1) C dX10_deal_25 sh_240 (zi_in.mpr (by decide)) rfl ?_
        rw [h2]
        refine z_bipush (pc := 26) (v := 8) C dX10_deal_26 rfl ?_
        refine z_icmp_ge (pc := 28) C 85 dX10_deal_28 (by decide) (fun c28 => ?_) (fun c28 => by
        exfalso
        have e1 := en i (by omega)
        have e2 := en (n + i) (by omega)
        simp only [zi_lt, zi_le, zi_eq, i0, i1, i2, i3, i4, i5, i6, i9, i20, i99, i100, im5, im20, im1, i8] at c17 c28
        rw [e1] at c17
        rw [e2] at c28
        omega)
        refine z_iload_n (pc := 85) C 2 dX10_deal_85 rfl rfl ?_
        refine z_ireturn (pc := 86) C K dX10_deal_86 ?_
        exact ⟨_, rfl, _, _, Or.inr ⟨hx, i, hl, hm, hmx, rfl, rfl, rfl⟩, hv, hf⟩
    | succ k ih =>
      intro i M1 q3 q4 q5 q6 hi hv hf h2
      refine z_iload_n (pc := 15) C 2 dX10_deal_15 rfl rfl ?_
      refine z_iload_n (pc := 16) C 1 dX10_deal_16 rfl rfl ?_
      refine z_icmp_ge (pc := 17) C 85 dX10_deal_17 (by decide) (fun c17 => by
        exfalso
        have e1 := en i (by omega)
        simp only [zi_lt, zi_le, zi_eq, i0, i1, i2, i3, i4, i5, i6, i9, i20, i99, i100, im5, im20, im1] at c17
        rw [e1] at c17
        omega) (fun c17 => ?_)
      refine z_aload_n (pc := 20) C 0 dX10_deal_20 rfl rfl ?_
      refine z_getR (pc := 21) (r := 240) C dX10_deal_21 fX10_9 sh_239 rfl ?_
      refine z_iconst (pc := 24) (v := 1) C dX10_deal_24 rfl ?_
      refine z_iald (pc := 25) (n := 1) C dX10_deal_25 sh_240 (zi_in.mpr (by decide)) rfl ?_
      rw [h2]
      refine z_bipush (pc := 26) (v := 8) C dX10_deal_26 rfl ?_
      refine z_icmp_ge (pc := 28) C 85 dX10_deal_28 (by decide) (fun c28 => absurd c28 (nI_ge (b := 8) (by omega) (by omega))) (fun c28 => ?_)
      refine z_aload_n (pc := 31) C 0 dX10_deal_31 rfl rfl ?_
      refine z_callVi (pc := 32) C dX10_deal_32 kX10_136 mX10_draw (by decide) sh_239 rfl rfl rfl (Nat.le_of_ble_eq_true rfl) (fun r32 M32 h32 => ?_)
      obtain ⟨rfl, e32⟩ := h32
      subst M32
      refine z_bipush (pc := 35) (v := 6) C dX10_deal_35 rfl ?_
      refine z_irem (pc := 37) C dX10_deal_37 (by decide) ?_
      refine z_istore_n (pc := 38) C 3 dX10_deal_38 rfl (by decide) rfl ?_
      refine z_aload_n (pc := 39) C 0 dX10_deal_39 rfl rfl ?_
      refine z_callVi (pc := 40) C dX10_deal_40 kX10_136 mX10_draw (by decide) sh_239 rfl rfl rfl (Nat.le_of_ble_eq_true rfl) (fun r40 M40 h40 => ?_)
      obtain ⟨rfl, e40⟩ := h40
      subst M40
      simp only [zu_self, zu_zu]
      refine z_bipush (pc := 43) (v := 100) C dX10_deal_43 rfl ?_
      refine z_irem (pc := 45) C dX10_deal_45 (by decide) ?_
      refine z_istore (pc := 46) C 4 dX10_deal_46 (by decide) rfl ?_
      refine z_iconst (pc := 48) (v := 1) C dX10_deal_48 rfl ?_
      refine z_aload_n (pc := 49) C 0 dX10_deal_49 rfl rfl ?_
      refine z_callVi (pc := 50) C dX10_deal_50 kX10_136 mX10_draw (by decide) sh_239 rfl rfl rfl (Nat.le_of_ble_eq_true rfl) (fun r50 M50 h50 => ?_)
      obtain ⟨rfl, e50⟩ := h50
      subst M50
      simp only [zu_self, zu_zu]
      refine z_iconst (pc := 53) (v := 5) C dX10_deal_53 rfl ?_
      refine z_irem (pc := 54) C dX10_deal_54 (by decide) ?_
      refine z_iadd (pc := 55) C dX10_deal_55 ?_
      refine z_istore (pc := 56) C 5 dX10_deal_56 (by decide) rfl ?_
      refine z_aload_n (pc := 58) C 0 dX10_deal_58 rfl rfl ?_
      refine z_iload_n (pc := 59) C 3 dX10_deal_59 rfl rfl ?_
      refine z_iload (pc := 60) C 4 dX10_deal_60 rfl ?_
      refine z_iload (pc := 62) C 5 dX10_deal_62 rfl ?_
      refine z_aload_n (pc := 64) C 0 dX10_deal_64 rfl rfl ?_
      refine z_callVi (pc := 65) C dX10_deal_65 kX10_136 mX10_draw (by decide) sh_239 rfl rfl rfl (Nat.le_of_ble_eq_true rfl) (fun r65 M65 h65 => ?_)
      obtain ⟨rfl, e65⟩ := h65
      subst M65
      simp only [zu_self, zu_zu]
      refine z_bipush (pc := 68) (v := 21) C dX10_deal_68 rfl ?_
      refine z_irem (pc := 70) C dX10_deal_70 (by decide) ?_
      refine z_bipush (pc := 71) (v := 10) C dX10_deal_71 rfl ?_
      refine z_isub (pc := 73) C dX10_deal_73 ?_
      refine z_callVi (pc := 74) C dX10_deal_74 kX10_88 (mX10_comes (n := n + i) (by rw [zu_f (by decide)]; exact h2) (by omega)) (by decide) sh_239 rfl rfl rfl (Nat.le_of_ble_eq_true rfl) (fun r74 M74 h74 => ?_)
      obtain ⟨rfl, e74⟩ := h74
      subst M74
      refine z_istore (pc := 77) C 6 dX10_deal_77 (by decide) rfl ?_
      refine z_iinc (pc := 79) (v := 1) C 2 dX10_deal_79 (by decide) rfl rfl rfl ?_
      refine z_goto (pc := 82) C 15 dX10_deal_82 (by decide) ?_
      have e := ih (i + 1) _ (some (.int (dk (M1 31 0 0 0)))) (some (.int (dd (M1 31 0 0 0)))) (some (.int (dw (M1 31 0 0 0)))) (some (.int (nI (n + i)))) (by omega) (mDr (by omega) hv).1 (hf.trans (mDr (by omega) hv).2) (mNew_n _ _ _ _ _ _)
      rw [nI_succ i] at e
      exact e
  refine z_iload_n (pc := 0) C 1 dX10_deal_0 rfl rfl ?_
  refine z_iconst (pc := 1) (v := 1) C dX10_deal_1 rfl ?_
  refine z_bipush (pc := 2) (v := 8) C dX10_deal_2 rfl ?_
  refine z_callSi (pc := 4) C dX10_deal_4 kX10_78 mX10_in (by decide) rfl rfl (Nat.le_of_ble_eq_true rfl) (fun r4 M4 h4 => ?_)
  obtain ⟨h4, e4⟩ := h4
  subst M4
  replace h4 : zb r4 (iin x (1) (8)) := zin_b (by decide) (by decide) h4
  refine z_if_ne (pc := 7) C 13 dX10_deal_7 (by decide) (fun c7 => ?_) (fun c7 => ?_)
  · refine z_iconst (pc := 13) (v := 0) C dX10_deal_13 rfl ?_
    refine z_istore_n (pc := 14) C 2 dX10_deal_14 rfl (by decide) rfl ?_
    have hx := h4.yes c7
    have hx' := hx
    unfold iin at hx'
    obtain ⟨m, m1, m2, m3⟩ : ∃ m : Nat, (m : Int) ≤ x.toInt ∧ n + m ≤ 8 ∧ ((m : Int) = x.toInt ∨ n + m = 8) := by
      rcases Nat.le_total x.toInt.toNat (8 - n) with z | z
      · exact ⟨x.toInt.toNat, by omega, by omega, Or.inl (by omega)⟩
      · exact ⟨8 - n, by omega, by omega, Or.inr (by omega)⟩
    exact loop m m2 hx m1 m3 m 0 M _ _ _ _ (Nat.zero_add _) veq.rfl' mFr.rfl' hI.1.1
  · refine z_ldc (pc := 10) C q5_48 dX10_deal_10 ?_
    refine z_ireturn (pc := 12) C K dX10_deal_12 ?_
    exact ⟨_, rfl, n, mV M 31, Or.inl ⟨h4.no c7, rfl, rfl, rfl⟩, veq.rfl', mFr.rfl'⟩
