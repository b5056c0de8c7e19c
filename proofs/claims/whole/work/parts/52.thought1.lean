/-! what is only thought: needs, had, worst, keeps -/
def vNd (hv : Int32 → Int32 → Int32 → Int32) (n : Nat) (V : zVw) (k : Nat) : Int32 := if V.1 7 = 0 then (if n = 0 then 13 else ndv (nd hv n (V.1 4) (V.1 5) 12 V.2 (nI k)) 0 13) else 0
theorem vNd_c {hv : Int32 → Int32 → Int32 → Int32} {n : Nat} {V W : zVw} (h : veq n V W) (k : Nat) : vNd hv n V k = vNd hv n W k := by
  unfold vNd
  rw [h.1 7 (by decide) (by decide), h.1 4 (by decide) (by decide), h.1 5 (by decide) (by decide), nd_c 12 h.2]
theorem nd_le {hv : Int32 → Int32 → Int32 → Int32} {n : Nat} {law dr : Int32} : ∀ (f : Nat) (p : Nat → Nat → Int32) (num : Int32) (t : Nat), nd hv n law dr f p num = some t → t ≤ f
  | 0, _, _, _, h => by cases h
  | f + 1, p, num, t, h => by
    rw [nd] at h
    split at h
    · cases h
      omega
    · cases e : nd hv n law dr f (pAll hv (pVoice p n law) (if num < pVoice p n law then 1 else 0) n p) (pFm (num + dr * 1)) with
      | none => rw [e] at h; cases h
      | some u =>
        rw [e] at h
        cases h
        have := nd_le f _ _ u e
        show u + 1 ≤ f + 1
        omega
theorem vNd_in (hv : Int32 → Int32 → Int32 → Int32) (n : Nat) (V : zVw) (k : Nat) : 0 ≤ (vNd hv n V k).toInt ∧ (vNd hv n V k).toInt ≤ 13 := by
  unfold vNd
  split
  · split
    · decide
    · cases e : nd hv n (V.1 4) (V.1 5) 12 V.2 (nI k) with
      | none => decide
      | some t =>
        have := nd_le _ _ _ _ e
        show 0 ≤ (nI (0 + t)).toInt ∧ (nI (0 + t)).toInt ≤ 13
        rw [nI_toInt (by omega)]
        omega
  · decide
theorem psum_c {f g : Nat → Int32} (h : ∀ k, f k = g k) (a : Nat) : ∀ m, psum f a m = psum g a m
  | 0 => rfl
  | m + 1 => by rw [psum, psum, psum_c h a m, h]
theorem psum_in {f : Nat → Int32} (h : ∀ k, 0 ≤ (f k).toInt ∧ (f k).toInt ≤ 13) (a : Nat) : ∀ m, m ≤ 100 → 0 ≤ (psum f a m).toInt ∧ (psum f a m).toInt ≤ 13 * m
  | 0, _ => by
    show 0 ≤ (0 : Int32).toInt ∧ (0 : Int32).toInt ≤ _
    rw [i0]
    omega
  | m + 1, hm => by
    have e := psum_in h a m (by omega)
    have g := h (a + m)
    rw [psum, zi_add (by omega) (by omega)]
    omega
theorem okS.z {M M' : zM} (h : zSc M M') {lw : Int32} {hv : Int32 → Int32 → Int32 → Int32} (g : okS M lw hv) : okS M' lw hv := by
  rcases g with g | ⟨t, h1, h2, h3⟩
  · exact Or.inl g
  · refine Or.inr ⟨t, h1, h2, fun x y z => ?_⟩
    obtain ⟨r, ⟨n, g1, g2, g3⟩, g4⟩ := h3 x y z
    refine ⟨r, ⟨n, g1, ?_, ?_⟩, g4⟩
    · rw [h 8 t 0 2 (by unfold scr; omega)]
      exact g2
    · rw [show M' 9 t 0 = M 9 t 0 from funext fun i => h 9 t 0 i (by unfold scr; omega)]
      exact g3
theorem zSc.cV {M M' : zM} (h : zSc M M') : cV M' 0 = cV M 0 := cV_on (fun y f => h 1 0 y f (by unfold scr; omega)) (fun f => h 5 0 0 f (by unfold scr; omega))
theorem mX7_begin2 {l : Launch} {G : zG} {b : Nat} {M M1 : zM} {n T : Nat} {ky ln : Nat → Nat} (hR : RR M n T ky ln) (h1 : zSc M M1) : zMet l G b yX7_begin cX7_begin 2 (some (.object "MeanSafe$World")) 2 zshL zshL [.ref (b + 54), .ref (b + adW 0)] M1 (zR b (fun k M' => k = adW 2 ∧ veq n (cV M' 2) (cV M 0) ∧ cI M' 2 n (hvF M (lastK ky 0 T)) ∧ zSc M M')) := by
  have hR1 := hR.sc h1
  refine (mX7_begin (w' := 0) (n := n) lt0_14 (by decide) hR1.hn hR1.n8 hR1.1.1.2.2.2.2.2.2.2 (fun i hi => (hR1.ok hi).2.2.2.2.2.2)).post (fun r M' h => ?_)
  obtain ⟨k, e, hk, hw⟩ := h
  have s2 := h1.trans (hw.z (by decide) (by decide))
  have ev : veq n (cV M' 2) (cV M 0) := by
    rw [← h1.cV]
    exact hw.cV
  refine ⟨k, e, hk, ev, ⟨vOK_c ev.symm hR.1.1, ?_⟩, s2⟩
  rw [hw.2.2.1 0 (by decide), h1 6 0 0 0 (by unfold scr; omega)]
  exact okS.z s2 hR.cI.2
theorem mX7_ponder2 {l : Launch} {G : zG} {b : Nat} {M : zM} {n a m : Nat} {hv : Int32 → Int32 → Int32 → Int32} (hI : cI M 2 n hv) (ham : a ≤ m) (hm : m ≤ 100) {z : Int32} (hz : z.toInt = (m : Int) - 1) : zMet l G b yX7_ponder cX7_ponder 7 (some .int) 17 zshL zshL [.ref (b + 54), .int (nI a), .int z] M (zI (fun r M' => r = psum (vNd hv n (cV M 2)) a (m - a) ∧ (∀ k, a ≤ k → k < m → M' 18 0 0 k = vNd hv n (cV M 2) k) ∧ zSc M M')) := by
  refine zI.post (mX7_ponder ham hm hz hI.1.1 hI.1.2.1 hI.2 hI.1.2.2.2.2.2.2.2 (fun i hi => (hI.1.2.2.1 i hi).2.2.2.2.2.2) hI.1.2.2.2.2.2.1.1 hI.1.2.2.2.2.2.1.2) (fun r M' h => ?_)
  exact ⟨h.1, h.2.1, fun a x y f q => h.2.2 a x y f (by unfold pCh; unfold scr at q; omega)⟩
/-- the reference's: only begins, stack, facts are free -/
def mS5 (M M' : zM) : Prop := (∀ k, M' 31 0 0 k = M 31 0 0 k) ∧ ∀ a, a ≠ 31 → a ≠ 35 → a ≠ 42 → a ≠ 43 → M' a = M a
theorem mS5.rfl' {M : zM} : mS5 M M := ⟨fun _ => rfl, fun _ _ _ _ _ => rfl⟩
theorem mS5.trans {M M' M2 : zM} (h : mS5 M M') (h' : mS5 M' M2) : mS5 M M2 := ⟨fun k => (h'.1 k).trans (h.1 k), fun a h1 h3 h4 h5 => (h'.2 a h1 h3 h4 h5).trans (h.2 a h1 h3 h4 h5)⟩
theorem mS5.z {M M' : zM} (h : mS5 M M') : zSc M M' := mSc.z ⟨h.1, fun a h1 _ h3 h4 h5 => h.2 a h1 h3 h4 h5⟩
theorem mS5.mV {M M' : zM} (h : mS5 M M') : mV M' 31 = mV M 31 := mV_on h.1
theorem s5_back {M M2 : zM} (h2 : mFr (tk M 31 35 65) M2) : mS5 M (tk M2 35 31 65) := by
  refine ⟨fun k => ?_, fun a g1 g3 g4 g5 => ?_⟩
  · by_cases hk : k < 65
    · rw [tk_in hk, h2.1 35 (by decide) (by decide) (by decide), tk_in hk]
    · rw [tk_f hk, h2.2 k (by omega), tk_a (by decide)]
  · rw [tk_a g1, h2.1 a g1 g4 g5, tk_a g3]
set_option maxHeartbeats 800000 in
set_option maxRecDepth 100000 in
theorem mX10_needsBy5 {l : Launch} {G : zG} {b : Nat} {M : zM} {n T : Nat} {ky ln : Nat → Nat} (hI : rI M n T ky ln) {k : Nat} (hk : k < 100) : zMet l G b yX10_needsBy cX10_needsBy 3 (some .int) 6 zshL zshL [.ref (b + 239), .int (nI k)] M (zI (fun r M' => r = vNd (hvF M (lastK ky 0 T)) n (mV M 31) k ∧ mS5 M M')) := by
  refine zMet.of (L0 := [some (.ref (b + 239)), some (.int (nI k)), none]) (by decide +kernel) (Nat.le_refl _) (Nat.le_refl _) (Nat.le_of_ble_eq_true rfl) (List.forall_mem_cons.mpr ⟨rfl, List.forall_mem_cons.mpr ⟨rfl, fun _ h => absurd h List.not_mem_nil⟩⟩) rfl (fun X C Al K => ?_)
  refine z_aload_n (pc := 0) C 0 dX10_needsBy_0 rfl rfl ?_
  refine z_aload_n (pc := 1) C 0 dX10_needsBy_1 rfl rfl ?_
  refine z_getR (pc := 2) (r := 240) C dX10_needsBy_2 fX10_9 sh_239 rfl ?_
  refine z_aload_n (pc := 5) C 0 dX10_needsBy_5 rfl rfl ?_
  refine z_getR (pc := 6) (r := 244) C dX10_needsBy_6 fX10_22 sh_239 rfl ?_
  refine z_callVv (pc := 9) C dX10_needsBy_9 kX10_175 (mX10_takes sh_240 sh_244 (by decide) (by decide) (by decide) (by decide) (by decide)) (by decide) sh_239 rfl rfl rfl (Nat.le_of_ble_eq_true rfl) (fun M9 h9 => ?_)
  subst h9
  refine z_aload_n (pc := 12) C 0 dX10_needsBy_12 rfl rfl ?_
  refine z_iload_n (pc := 13) C 1 dX10_needsBy_13 rfl rfl ?_
  have q31 : ∀ k, tk M 31 35 65 31 0 0 k = M 31 0 0 k := fun k => by rw [tk_a (by decide)]
  have q8 : tk M 31 35 65 8 = M 8 := tk_a (by decide)
  have q9 : tk M 31 35 65 9 = M 9 := tk_a (by decide)
  refine z_callVi (pc := 14) C dX10_needsBy_14 kX10_179 (mX10_needsOf (hI.sc q31 q8 q9) hk) (by decide) sh_239 rfl rfl rfl (Nat.le_of_ble_eq_true rfl) (fun r14 M14 h14 => ?_)
  obtain ⟨r14e, f14⟩ := h14
  rw [mnd_c q31, hvF_c q8 q9] at r14e
  subst r14e
  refine z_istore_n (pc := 17) C 2 dX10_needsBy_17 rfl (by decide) rfl ?_
  refine z_aload_n (pc := 18) C 0 dX10_needsBy_18 rfl rfl ?_
  refine z_aload_n (pc := 19) C 0 dX10_needsBy_19 rfl rfl ?_
  refine z_getR (pc := 20) (r := 244) C dX10_needsBy_20 fX10_22 sh_239 rfl ?_
  refine z_aload_n (pc := 23) C 0 dX10_needsBy_23 rfl rfl ?_
  refine z_getR (pc := 24) (r := 240) C dX10_needsBy_24 fX10_9 sh_239 rfl ?_
  refine z_callVv (pc := 27) C dX10_needsBy_27 kX10_175 (mX10_takes sh_244 sh_240 (by decide) (by decide) (by decide) (by decide) (by decide)) (by decide) sh_239 rfl rfl rfl (Nat.le_of_ble_eq_true rfl) (fun M27 h27 => ?_)
  subst h27
  refine z_iload_n (pc := 30) C 2 dX10_needsBy_30 rfl rfl ?_
  refine z_ireturn (pc := 31) C K dX10_needsBy_31 ?_
  exact ⟨_, rfl, rfl, s5_back f14⟩

set_option maxHeartbeats 800000 in
set_option maxRecDepth 100000 in
theorem mX10_needsAll5 {l : Launch} {G : zG} {b : Nat} {M : zM} {n T : Nat} {ky ln : Nat → Nat} (hI : rI M n T ky ln) : zMet l G b yX10_needsAll cX10_needsAll 3 (some .int) 7 zshL zshL [.ref (b + 239)] M (zI (fun r M' => r = psum (vNd (hvF M (lastK ky 0 T)) n (mV M 31)) 0 100 ∧ mS5 M M')) := by
  refine zMet.of (L0 := [some (.ref (b + 239)), none, none]) (by decide +kernel) (Nat.le_refl _) (Nat.le_refl _) (Nat.le_of_ble_eq_true rfl) (List.forall_mem_cons.mpr ⟨rfl, fun _ h => absurd h List.not_mem_nil⟩) rfl (fun X C Al K => ?_)
  have loop : ∀ (k i : Nat) (M1 : zM), i + k = 100 → mS5 M M1 → zW X zshL M1 4 [some (.ref (b + 239)), some (.int (psum (vNd (hvF M (lastK ky 0 T)) n (mV M 31)) 0 i)), some (.int (nI i))] [] := by
    intro k
    induction k with
    | zero =>
      intro i M1 hi hs
      obtain rfl : i = 100 := by omega
      refine z_iload_n (pc := 4) C 2 dX10_needsAll_4 rfl rfl ?_
      refine z_bipush (pc := 5) (v := 100) C dX10_needsAll_5 rfl ?_
      refine z_icmp_ge (pc := 7) C 24 dX10_needsAll_7 (by decide) (fun c7 => ?_) (fun c7 => absurd (by decide) c7)
      refine z_iload_n (pc := 24) C 1 dX10_needsAll_24 rfl rfl ?_
      refine z_ireturn (pc := 25) C K dX10_needsAll_25 ?_
      exact ⟨_, rfl, rfl, hs⟩
    | succ k ih =>
      intro i M1 hi hs
      have q8 : M1 8 = M 8 := hs.2 8 (by decide) (by decide) (by decide) (by decide)
      have q9 : M1 9 = M 9 := hs.2 9 (by decide) (by decide) (by decide) (by decide)
      refine z_iload_n (pc := 4) C 2 dX10_needsAll_4 rfl rfl ?_
      refine z_bipush (pc := 5) (v := 100) C dX10_needsAll_5 rfl ?_
      refine z_icmp_ge (pc := 7) C 24 dX10_needsAll_7 (by decide) (fun c7 => absurd c7 (nI_ge (b := 100) (by omega) (by omega))) (fun c7 => ?_)
      refine z_iload_n (pc := 10) C 1 dX10_needsAll_10 rfl rfl ?_
      refine z_aload_n (pc := 11) C 0 dX10_needsAll_11 rfl rfl ?_
      refine z_iload_n (pc := 12) C 2 dX10_needsAll_12 rfl rfl ?_
      refine z_callVi (pc := 13) C dX10_needsAll_13 kX10_182 (mX10_needsBy5 (hI.sc hs.1 q8 q9) (k := i) (by omega)) (by decide) sh_239 rfl rfl rfl (Nat.le_of_ble_eq_true rfl) (fun r13 M13 h13 => ?_)
      obtain ⟨r13e, s13⟩ := h13
      rw [hs.mV, hvF_c q8 q9] at r13e
      subst r13e
      refine z_iadd (pc := 16) C dX10_needsAll_16 ?_
      refine z_istore_n (pc := 17) C 1 dX10_needsAll_17 rfl (by decide) rfl ?_
      refine z_iinc (pc := 18) (v := 1) C 2 dX10_needsAll_18 (by decide) rfl rfl rfl ?_
      refine z_goto (pc := 21) C 4 dX10_needsAll_21 (by decide) ?_
      have e := ih (i + 1) M13 (by omega) (hs.trans s13)
      rw [nI_succ, psum, Nat.zero_add] at e
      exact e
  refine z_iconst (pc := 0) (v := 0) C dX10_needsAll_0 rfl ?_
  refine z_istore_n (pc := 1) C 1 dX10_needsAll_1 rfl (by decide) rfl ?_
  refine z_iconst (pc := 2) (v := 0) C dX10_needsAll_2 rfl ?_
  refine z_istore_n (pc := 3) C 2 dX10_needsAll_3 rfl (by decide) rfl ?_
  exact loop 100 0 M (by omega) mS5.rfl'

theorem mX10_needsByR {l : Launch} {G : zG} {b : Nat} {M M1 : zM} {n T : Nat} {ky ln : Nat → Nat} (hR : RR M n T ky ln) (hs : mS5 M M1) {k : Nat} (hk : k < 100) : zMet l G b yX10_needsBy cX10_needsBy 3 (some .int) 6 zshL zshL [.ref (b + 239), .int (nI k)] M1 (zI (fun r M' => r = vNd (hvF M (lastK ky 0 T)) n (cV M 0) k ∧ mS5 M M')) := by
  have q8 : M1 8 = M 8 := hs.2 8 (by decide) (by decide) (by decide) (by decide)
  have q9 : M1 9 = M 9 := hs.2 9 (by decide) (by decide) (by decide) (by decide)
  refine zI.post (mX10_needsBy5 (hR.rI.sc hs.1 q8 q9) hk) (fun r M' h => ?_)
  rw [hs.mV, hvF_c q8 q9, vNd_c hR.1.2.1.symm] at h
  exact ⟨h.1, hs.trans h.2⟩
def nn (v : Int32) : Int32 := if v = 13 then -1000000005 else v
noncomputable def Fneeds (f : Nat → Int32) (x : Int32) : Int32 := zif (iin x 0 99) (nn (f x.toNatClampNeg)) (-1000000001)
set_option maxHeartbeats 800000 in
set_option maxRecDepth 100000 in
theorem mX9_needs {l : Launch} {G : zG} {b : Nat} {M : zM} {n T : Nat} {ky ln : Nat → Nat} (hR : RR M n T ky ln) {x : Int32} : zMet l G b yX9_needs cX9_needs 3 (some .int) 18 zshL zshL [.ref (b + 0), .int x] M (zI (qP (Fneeds (vNd (hvF M (lastK ky 0 T)) n (cV M 0)) x) M)) := by
  refine zMet.of (L0 := [some (.ref (b + 0)), some (.int x), none]) (by decide +kernel) (Nat.le_refl _) (Nat.le_refl _) (Nat.le_of_ble_eq_true rfl) (List.forall_mem_cons.mpr ⟨rfl, List.forall_mem_cons.mpr ⟨rfl, fun _ h => absurd h List.not_mem_nil⟩⟩) rfl (fun X C Al K => ?_)
  refine z_iload_n (pc := 0) C 1 dX9_needs_0 rfl rfl ?_
  refine z_if_lt (pc := 1) C 10 dX9_needs_1 (by decide) (fun c1 => ?_) (fun c1 => ?_)
  · refine z_ldc (pc := 10) C q2_96 dX9_needs_10 ?_
    refine z_ireturn (pc := 12) C K dX9_needs_12 ?_
    refine ⟨_, rfl, by rw [Fneeds, zif_neg (by simp only [zi_lt, zi_le, zi_eq, i0, i1, i2, i3, i4, i5, i6, i9, i20, i99, i100, im5, im20, im1] at c1; unfold iin; omega)], zSc.rfl'⟩
  · refine z_iload_n (pc := 4) C 1 dX9_needs_4 rfl rfl ?_
    refine z_bipush (pc := 5) (v := 100) C dX9_needs_5 rfl ?_
    refine z_icmp_lt (pc := 7) C 13 dX9_needs_7 (by decide) (fun c7 => ?_) (fun c7 => ?_)
    · have hx : iin x 0 99 := by
        simp only [zi_lt, zi_le, zi_eq, i0, i1, i2, i3, i4, i5, i6, i9, i20, i99, i100, im5, im20, im1] at c1 c7
        unfold iin
        omega
      obtain ⟨k, hk, rfl⟩ := iin_nI (n := 100) (by decide) hx
      refine z_aload_n (pc := 13) C 0 dX9_needs_13 rfl rfl ?_
      refine z_getR (pc := 14) (r := 54) C dX9_needs_14 fX9_31 sh_0 rfl ?_
      refine z_aload_n (pc := 17) C 0 dX9_needs_17 rfl rfl ?_
      refine z_getR (pc := 18) (r := adW 0) C dX9_needs_18 fX9_21 sh_0 rfl ?_
      refine z_callVr (pc := 21) C dX9_needs_21 kX9_171 (mX7_begin2 hR zSc.rfl') (by decide) sh_54 rfl rfl rfl (Nat.le_of_ble_eq_true rfl) (fun r21 M21 h21 => ?_)
      obtain ⟨rfl, v21, i21, s21⟩ := h21
      refine z_pop (pc := 24) C dX9_needs_24 rfl ?_
      refine z_aload_n (pc := 25) C 0 dX9_needs_25 rfl rfl ?_
      refine z_getR (pc := 26) (r := 54) C dX9_needs_26 fX9_31 sh_0 rfl ?_
      refine z_iload_n (pc := 29) C 1 dX9_needs_29 rfl rfl ?_
      refine z_iload_n (pc := 30) C 1 dX9_needs_30 rfl rfl ?_
      refine z_callVi (pc := 31) C dX9_needs_31 kX9_175 (mX7_ponder2 i21 (a := k) (m := k + 1) (by omega) (by omega) (by rw [nI_toInt (by omega)]; omega)) (by decide) sh_54 rfl rfl rfl (Nat.le_of_ble_eq_true rfl) (fun r31 M31 h31 => ?_)
      obtain ⟨r31e, -, s31⟩ := h31
      have r31f : r31 = vNd (hvF M (lastK ky 0 T)) n (cV M 0) k := by
        rw [r31e, Nat.add_sub_cancel_left, ← vNd_c v21]
        exact Int32.zero_add _
      subst r31f
      refine z_istore_n (pc := 34) C 2 dX9_needs_34 rfl (by decide) rfl ?_
      refine z_iload_n (pc := 35) C 2 dX9_needs_35 rfl rfl ?_
      refine z_bipush (pc := 36) (v := 13) C dX9_needs_36 rfl ?_
      refine z_icmp_ne (pc := 38) C 46 dX9_needs_38 (by decide) (fun c38 => ?_) (fun c38 => ?_)
      · refine z_iload_n (pc := 46) C 2 dX9_needs_46 rfl rfl ?_
        refine z_ireturn (pc := 47) C K dX9_needs_47 ?_
        exact ⟨_, rfl, by rw [Fneeds, zif_pos hx, nI_clamp (by omega), nn, if_neg c38], s21.trans s31⟩
      · refine z_ldc (pc := 41) C q3_64 dX9_needs_41 ?_
        refine z_goto (pc := 43) C 47 dX9_needs_43 (by decide) ?_
        refine z_ireturn (pc := 47) C K dX9_needs_47 ?_
        exact ⟨_, rfl, by rw [Fneeds, zif_pos hx, nI_clamp (by omega), nn, if_pos c38], s21.trans s31⟩
    · refine z_ldc (pc := 10) C q2_96 dX9_needs_10 ?_
      refine z_ireturn (pc := 12) C K dX9_needs_12 ?_
      refine ⟨_, rfl, by rw [Fneeds, zif_neg (by simp only [zi_lt, zi_le, zi_eq, i0, i1, i2, i3, i4, i5, i6, i9, i20, i99, i100, im5, im20, im1] at c1 c7; unfold iin; omega)], zSc.rfl'⟩

set_option maxHeartbeats 800000 in
set_option maxRecDepth 100000 in
theorem mX10_needs {l : Launch} {G : zG} {b : Nat} {M : zM} {n T : Nat} {ky ln : Nat → Nat} (hR : RR M n T ky ln) {x : Int32} : zMet l G b yX10_needs cX10_needs 3 (some .int) 7 zshL zshL [.ref (b + 239), .int x] M (zI (qP (Fneeds (vNd (hvF M (lastK ky 0 T)) n (cV M 0)) x) M)) := by
  refine zMet.of (L0 := [some (.ref (b + 239)), some (.int x), none]) (by decide +kernel) (Nat.le_refl _) (Nat.le_refl _) (Nat.le_of_ble_eq_true rfl) (List.forall_mem_cons.mpr ⟨rfl, List.forall_mem_cons.mpr ⟨rfl, fun _ h => absurd h List.not_mem_nil⟩⟩) rfl (fun X C Al K => ?_)
  refine z_iload_n (pc := 0) C 1 dX10_needs_0 rfl rfl ?_
  refine z_iconst (pc := 1) (v := 0) C dX10_needs_1 rfl ?_
  refine z_bipush (pc := 2) (v := 99) C dX10_needs_2 rfl ?_
  refine z_callSi (pc := 4) C dX10_needs_4 kX10_78 mX10_in (by decide) rfl rfl (Nat.le_of_ble_eq_true rfl) (fun r4 M4 h4 => ?_)
  obtain ⟨h4, e4⟩ := h4
  subst M4
  replace h4 : zb r4 (iin x (0) (99)) := zin_b (by decide) (by decide) h4
  refine z_if_ne (pc := 7) C 13 dX10_needs_7 (by decide) (fun c7 => ?_) (fun c7 => ?_)
  · have hx := h4.yes c7
    obtain ⟨k, hk, rfl⟩ := iin_nI (n := 100) (by decide) hx
    refine z_aload_n (pc := 13) C 0 dX10_needs_13 rfl rfl ?_
    refine z_iload_n (pc := 14) C 1 dX10_needs_14 rfl rfl ?_
    refine z_callVi (pc := 15) C dX10_needs_15 kX10_182 (mX10_needsByR hR mS5.rfl' hk) (by decide) sh_239 rfl rfl rfl (Nat.le_of_ble_eq_true rfl) (fun r15 M15 h15 => ?_)
    obtain ⟨rfl, s15⟩ := h15
    refine z_istore_n (pc := 18) C 2 dX10_needs_18 rfl (by decide) rfl ?_
    refine z_iload_n (pc := 19) C 2 dX10_needs_19 rfl rfl ?_
    refine z_bipush (pc := 20) (v := 13) C dX10_needs_20 rfl ?_
    refine z_icmp_ne (pc := 22) C 30 dX10_needs_22 (by decide) (fun c22 => ?_) (fun c22 => ?_)
    · refine z_iload_n (pc := 30) C 2 dX10_needs_30 rfl rfl ?_
      refine z_ireturn (pc := 31) C K dX10_needs_31 ?_
      exact ⟨_, rfl, by rw [Fneeds, zif_pos hx, nI_clamp (by omega), nn, if_neg c22], s15.z⟩
    · refine z_ldc (pc := 25) C q5_211 dX10_needs_25 ?_
      refine z_goto (pc := 27) C 31 dX10_needs_27 (by decide) ?_
      refine z_ireturn (pc := 31) C K dX10_needs_31 ?_
      exact ⟨_, rfl, by rw [Fneeds, zif_pos hx, nI_clamp (by omega), nn, if_pos c22], s15.z⟩
  · refine z_ldc (pc := 10) C q5_48 dX10_needs_10 ?_
    refine z_ireturn (pc := 12) C K dX10_needs_12 ?_
    exact ⟨_, rfl, by rw [Fneeds, zif_neg (h4.no c7)], zSc.rfl'⟩

theorem op_needs {l : Launch} {G : zG} {b : Nat} {M : zM} (hM : Rel M) {x : Int32} : opOK l G b yX9_needs cX9_needs 3 18 yX10_needs cX10_needs 3 7 [.int x] M := by
  obtain ⟨n, T, ky, ln, hR⟩ := hM
  refine ⟨_, mX9_needs hR, fun r M1 h1 => ?_⟩
  obtain ⟨rfl, h1⟩ := h1
  have hR1 := hR.sc h1
  refine zI.post (mX10_needs hR1) (fun s M2 h2 => ?_)
  obtain ⟨rfl, h2⟩ := h2
  refine ⟨?_, _, _, _, _, hR1.sc h2⟩
  rw [h1.cV, hvF_sc h1 hR.TX]
def cntF (f : Nat → Int32) (c : Int32) : Nat → Int32
  | 0 => 0
  | i + 1 => if c < f i then cntF f c i else cntF f c i + 1
noncomputable def Fhad (f : Nat → Int32) (x : Int32) : Int32 := zif (iin x 0 12) (cntF f x 100) (-1000000001)
theorem i12 : (12 : Int32).toInt = 12 := by decide
set_option maxHeartbeats 800000 in
set_option maxRecDepth 100000 in
theorem mX9_had {l : Launch} {G : zG} {b : Nat} {M : zM} {n T : Nat} {ky ln : Nat → Nat} (hR : RR M n T ky ln) {x : Int32} : zMet l G b yX9_had cX9_had 4 (some .int) 18 zshL zshL [.ref (b + 0), .int x] M (zI (qP (Fhad (vNd (hvF M (lastK ky 0 T)) n (cV M 0)) x) M)) := by
  refine zMet.of (L0 := [some (.ref (b + 0)), some (.int x), none, none]) (by decide +kernel) (Nat.le_refl _) (Nat.le_refl _) (Nat.le_of_ble_eq_true rfl) (List.forall_mem_cons.mpr ⟨rfl, List.forall_mem_cons.mpr ⟨rfl, fun _ h => absurd h List.not_mem_nil⟩⟩) rfl (fun X C Al K => ?_)
  have loop : ∀ (M1 : zM), iin x 0 12 → zSc M M1 → (∀ k, k < 100 → M1 18 0 0 k = (vNd (hvF M (lastK ky 0 T)) n (cV M 0)) k) → ∀ (d i : Nat), i + d = 100 → zW X zshL M1 40 [some (.ref (b + 0)), some (.int x), some (.int (cntF (vNd (hvF M (lastK ky 0 T)) n (cV M 0)) x i)), some (.int (nI i))] [] := by
    intro M1 hx hs hn d
    induction d with
    | zero =>
      intro i hi
      obtain rfl : i = 100 := by omega
      refine z_iload_n (pc := 40) C 3 dX9_had_40 rfl rfl ?_
      refine z_bipush (pc := 41) (v := 100) C dX9_had_41 rfl ?_
      refine z_icmp_ge (pc := 43) C 68 dX9_had_43 (by decide) (fun c43 => ?_) (fun c43 => absurd (by decide) c43)
      refine z_iload_n (pc := 68) C 2 dX9_had_68 rfl rfl ?_
      refine z_ireturn (pc := 69) C K dX9_had_69 ?_
      exact ⟨_, rfl, by rw [Fhad, zif_pos hx], hs⟩
    | succ d ih =>
      intro i hi
      refine z_iload_n (pc := 40) C 3 dX9_had_40 rfl rfl ?_
      refine z_bipush (pc := 41) (v := 100) C dX9_had_41 rfl ?_
      refine z_icmp_ge (pc := 43) C 68 dX9_had_43 (by decide) (fun c43 => absurd c43 (nI_ge (b := 100) (by omega) (by omega))) (fun c43 => ?_)
      refine z_aload_n (pc := 46) C 0 dX9_had_46 rfl rfl ?_
      refine z_getR (pc := 47) (r := 54) C dX9_had_47 fX9_31 sh_0 rfl ?_
      refine z_getR (pc := 50) (r := 70) C dX9_had_50 fX9_179 sh_54 rfl ?_
      refine z_iload_n (pc := 53) C 3 dX9_had_53 rfl rfl ?_
      refine z_iald (pc := 54) (n := i) C dX9_had_54 sh_70 (vp_in_nI (by omega) (by decide)) (nI_clamp (by omega)) ?_
      rw [hn i (by omega)]
      refine z_iload_n (pc := 55) C 1 dX9_had_55 rfl rfl ?_
      refine z_icmp_gt (pc := 56) C 62 dX9_had_56 (by decide) (fun c56 => ?_) (fun c56 => ?_)
      · refine z_iinc (pc := 62) (v := 1) C 3 dX9_had_62 (by decide) rfl rfl rfl ?_
        refine z_goto (pc := 65) C 40 dX9_had_65 (by decide) ?_
        have e := ih (i + 1) (by omega)
        rw [nI_succ i, cntF, if_pos c56] at e
        exact e
      · refine z_iinc (pc := 59) (v := 1) C 2 dX9_had_59 (by decide) rfl rfl rfl ?_
        refine z_iinc (pc := 62) (v := 1) C 3 dX9_had_62 (by decide) rfl rfl rfl ?_
        refine z_goto (pc := 65) C 40 dX9_had_65 (by decide) ?_
        have e := ih (i + 1) (by omega)
        rw [nI_succ i, cntF, if_neg c56] at e
        exact e
  refine z_iload_n (pc := 0) C 1 dX9_had_0 rfl rfl ?_
  refine z_if_lt (pc := 1) C 10 dX9_had_1 (by decide) (fun c1 => ?_) (fun c1 => ?_)
  · refine z_ldc (pc := 10) C q2_96 dX9_had_10 ?_
    refine z_ireturn (pc := 12) C K dX9_had_12 ?_
    refine ⟨_, rfl, by rw [Fhad, zif_neg (by simp only [zi_lt, zi_le, zi_eq, i0, i1, i2, i3, i4, i5, i6, i9, i20, i99, i100, im5, im20, im1, i12] at c1; unfold iin; omega)], zSc.rfl'⟩
  · refine z_iload_n (pc := 4) C 1 dX9_had_4 rfl rfl ?_
    refine z_bipush (pc := 5) (v := 12) C dX9_had_5 rfl ?_
    refine z_icmp_le (pc := 7) C 13 dX9_had_7 (by decide) (fun c7 => ?_) (fun c7 => ?_)
    · have hx : iin x 0 12 := by
        simp only [zi_lt, zi_le, zi_eq, i0, i1, i2, i3, i4, i5, i6, i9, i20, i99, i100, im5, im20, im1, i12] at c1 c7
        unfold iin
        omega
      refine z_aload_n (pc := 13) C 0 dX9_had_13 rfl rfl ?_
      refine z_getR (pc := 14) (r := 54) C dX9_had_14 fX9_31 sh_0 rfl ?_
      refine z_aload_n (pc := 17) C 0 dX9_had_17 rfl rfl ?_
      refine z_getR (pc := 18) (r := adW 0) C dX9_had_18 fX9_21 sh_0 rfl ?_
      refine z_callVr (pc := 21) C dX9_had_21 kX9_171 (mX7_begin2 hR zSc.rfl') (by decide) sh_54 rfl rfl rfl (Nat.le_of_ble_eq_true rfl) (fun r21 M21 h21 => ?_)
      obtain ⟨rfl, v21, i21, s21⟩ := h21
      refine z_pop (pc := 24) C dX9_had_24 rfl ?_
      refine z_aload_n (pc := 25) C 0 dX9_had_25 rfl rfl ?_
      refine z_getR (pc := 26) (r := 54) C dX9_had_26 fX9_31 sh_0 rfl ?_
      refine z_iconst (pc := 29) (v := 0) C dX9_had_29 rfl ?_
      refine z_bipush (pc := 30) (v := 99) C dX9_had_30 rfl ?_
      refine z_callVi (pc := 32) C dX9_had_32 kX9_175 (mX7_ponder2 i21 (a := 0) (m := 100) (by omega) (by omega) (by decide)) (by decide) sh_54 rfl rfl rfl (Nat.le_of_ble_eq_true rfl) (fun r32 M32 h32 => ?_)
      obtain ⟨r32e, n32, s32⟩ := h32
      refine z_pop (pc := 35) C dX9_had_35 rfl ?_
      refine z_iconst (pc := 36) (v := 0) C dX9_had_36 rfl ?_
      refine z_istore_n (pc := 37) C 2 dX9_had_37 rfl (by decide) rfl ?_
      refine z_iconst (pc := 38) (v := 0) C dX9_had_38 rfl ?_
      refine z_istore_n (pc := 39) C 3 dX9_had_39 rfl (by decide) rfl ?_
      exact loop M32 hx (s21.trans s32) (fun k hk => (n32 k (by omega) hk).trans (vNd_c v21 k)) 100 0 (by omega)
    · refine z_ldc (pc := 10) C q2_96 dX9_had_10 ?_
      refine z_ireturn (pc := 12) C K dX9_had_12 ?_
      refine ⟨_, rfl, by rw [Fhad, zif_neg (by simp only [zi_lt, zi_le, zi_eq, i0, i1, i2, i3, i4, i5, i6, i9, i20, i99, i100, im5, im20, im1, i12] at c1 c7; unfold iin; omega)], zSc.rfl'⟩

set_option maxHeartbeats 800000 in
set_option maxRecDepth 100000 in
theorem mX10_had {l : Launch} {G : zG} {b : Nat} {M : zM} {n T : Nat} {ky ln : Nat → Nat} (hR : RR M n T ky ln) {x : Int32} : zMet l G b yX10_had cX10_had 4 (some .int) 7 zshL zshL [.ref (b + 239), .int x] M (zI (qP (Fhad (vNd (hvF M (lastK ky 0 T)) n (cV M 0)) x) M)) := by
  refine zMet.of (L0 := [some (.ref (b + 239)), some (.int x), none, none]) (by decide +kernel) (Nat.le_refl _) (Nat.le_refl _) (Nat.le_of_ble_eq_true rfl) (List.forall_mem_cons.mpr ⟨rfl, List.forall_mem_cons.mpr ⟨rfl, fun _ h => absurd h List.not_mem_nil⟩⟩) rfl (fun X C Al K => ?_)
  have loop : iin x 0 12 → ∀ (d i : Nat) (M1 : zM), i + d = 100 → mS5 M M1 → zW X zshL M1 17 [some (.ref (b + 239)), some (.int x), some (.int (cntF (vNd (hvF M (lastK ky 0 T)) n (cV M 0)) x i)), some (.int (nI i))] [] := by
    intro hx d
    induction d with
    | zero =>
      intro i M1 hi hs
      obtain rfl : i = 100 := by omega
      refine z_iload_n (pc := 17) C 3 dX10_had_17 rfl rfl ?_
      refine z_bipush (pc := 18) (v := 100) C dX10_had_18 rfl ?_
      refine z_icmp_ge (pc := 20) C 46 dX10_had_20 (by decide) (fun c20 => ?_) (fun c20 => absurd (by decide) c20)
      refine z_iload_n (pc := 46) C 2 dX10_had_46 rfl rfl ?_
      refine z_ireturn (pc := 47) C K dX10_had_47 ?_
      exact ⟨_, rfl, by rw [Fhad, zif_pos hx], hs.z⟩
    | succ d ih =>
      intro i M1 hi hs
      refine z_iload_n (pc := 17) C 3 dX10_had_17 rfl rfl ?_
      refine z_bipush (pc := 18) (v := 100) C dX10_had_18 rfl ?_
      refine z_icmp_ge (pc := 20) C 46 dX10_had_20 (by decide) (fun c20 => absurd c20 (nI_ge (b := 100) (by omega) (by omega))) (fun c20 => ?_)
      refine z_iload_n (pc := 23) C 2 dX10_had_23 rfl rfl ?_
      refine z_aload_n (pc := 24) C 0 dX10_had_24 rfl rfl ?_
      refine z_iload_n (pc := 25) C 3 dX10_had_25 rfl rfl ?_
      refine z_callVi (pc := 26) C dX10_had_26 kX10_182 (mX10_needsByR hR hs (k := i) (by omega)) (by decide) sh_239 rfl rfl rfl (Nat.le_of_ble_eq_true rfl) (fun r26 M26 h26 => ?_)
      obtain ⟨rfl, s26⟩ := h26
      refine z_iload_n (pc := 29) C 1 dX10_had_29 rfl rfl ?_
      refine z_icmp_gt (pc := 30) C 37 dX10_had_30 (by decide) (fun c30 => ?_) (fun c30 => ?_)
      · refine z_iconst (pc := 37) (v := 0) C dX10_had_37 rfl ?_
        refine z_iadd (pc := 38) C dX10_had_38 ?_
        refine z_istore_n (pc := 39) C 2 dX10_had_39 rfl (by decide) rfl ?_
        refine z_iinc (pc := 40) (v := 1) C 3 dX10_had_40 (by decide) rfl rfl rfl ?_
        refine z_goto (pc := 43) C 17 dX10_had_43 (by decide) ?_
        have e := ih (i + 1) M26 (by omega) s26
        rw [nI_succ i, cntF, if_pos c30] at e
        rw [Int32.add_zero]
        exact e
      · refine z_iconst (pc := 33) (v := 1) C dX10_had_33 rfl ?_
        refine z_goto (pc := 34) C 38 dX10_had_34 (by decide) ?_
        refine z_iadd (pc := 38) C dX10_had_38 ?_
        refine z_istore_n (pc := 39) C 2 dX10_had_39 rfl (by decide) rfl ?_
        refine z_iinc (pc := 40) (v := 1) C 3 dX10_had_40 (by decide) rfl rfl rfl ?_
        refine z_goto (pc := 43) C 17 dX10_had_43 (by decide) ?_
        have e := ih (i + 1) M26 (by omega) s26
        rw [nI_succ i, cntF, if_neg c30] at e
        exact e
  refine z_iload_n (pc := 0) C 1 dX10_had_0 rfl rfl ?_
  refine z_iconst (pc := 1) (v := 0) C dX10_had_1 rfl ?_
  refine z_bipush (pc := 2) (v := 12) C dX10_had_2 rfl ?_
  refine z_callSi (pc := 4) C dX10_had_4 kX10_78 mX10_in (by decide) rfl rfl (Nat.le_of_ble_eq_true rfl) (fun r4 M4 h4 => ?_)
  obtain ⟨h4, e4⟩ := h4
  subst M4
  replace h4 : zb r4 (iin x (0) (12)) := zin_b (by decide) (by decide) h4
  refine z_if_ne (pc := 7) C 13 dX10_had_7 (by decide) (fun c7 => ?_) (fun c7 => ?_)
  · refine z_iconst (pc := 13) (v := 0) C dX10_had_13 rfl ?_
    refine z_istore_n (pc := 14) C 2 dX10_had_14 rfl (by decide) rfl ?_
    refine z_iconst (pc := 15) (v := 0) C dX10_had_15 rfl ?_
    refine z_istore_n (pc := 16) C 3 dX10_had_16 rfl (by decide) rfl ?_
    exact loop (h4.yes c7) 100 0 M (by omega) mS5.rfl'
  · refine z_ldc (pc := 10) C q5_48 dX10_had_10 ?_
    refine z_ireturn (pc := 12) C K dX10_had_12 ?_
    exact ⟨_, rfl, by rw [Fhad, zif_neg (h4.no c7)], zSc.rfl'⟩

theorem op_had {l : Launch} {G : zG} {b : Nat} {M : zM} (hM : Rel M) {x : Int32} : opOK l G b yX9_had cX9_had 4 18 yX10_had cX10_had 4 7 [.int x] M := by
  obtain ⟨n, T, ky, ln, hR⟩ := hM
  refine ⟨_, mX9_had hR, fun r M1 h1 => ?_⟩
  obtain ⟨rfl, h1⟩ := h1
  have hR1 := hR.sc h1
  refine zI.post (mX10_had hR1) (fun s M2 h2 => ?_)
  obtain ⟨rfl, h2⟩ := h2
  refine ⟨?_, _, _, _, _, hR1.sc h2⟩
  rw [h1.cV, hvF_sc h1 hR.TX]
def wB (f : Nat → Int32) : Nat → Nat
  | 0 => 0
  | i + 1 => if f (wB f i) < f i then i else wB f i
theorem wB_lt (f : Nat → Int32) : ∀ i, wB f (i + 1) ≤ i
  | 0 => by
    unfold wB wB
    simp
  | i + 1 => by
    have := wB_lt f i
    rw [wB]
    split
    · exact Nat.le_refl _
    · omega
noncomputable def Fworst (f : Nat → Int32) (t : Int32) : Int32 := zif (iin t 0 1) (if t = 0 then nI (wB f 100) else f (wB f 100)) (-1000000001)
set_option maxHeartbeats 800000 in
set_option maxRecDepth 100000 in
theorem mX9_worst {l : Launch} {G : zG} {b : Nat} {M : zM} {n T : Nat} {ky ln : Nat → Nat} (hR : RR M n T ky ln) {t : Int32} : zMet l G b yX9_worst cX9_worst 4 (some .int) 18 zshL zshL [.ref (b + 0), .int t] M (zI (qP (Fworst (vNd (hvF M (lastK ky 0 T)) n (cV M 0)) t) M)) := by
  refine zMet.of (L0 := [some (.ref (b + 0)), some (.int t), none, none]) (by decide +kernel) (Nat.le_refl _) (Nat.le_refl _) (Nat.le_of_ble_eq_true rfl) (List.forall_mem_cons.mpr ⟨rfl, List.forall_mem_cons.mpr ⟨rfl, fun _ h => absurd h List.not_mem_nil⟩⟩) rfl (fun X C Al K => ?_)
  have loop : ∀ (M1 : zM), iin t 0 1 → zSc M M1 → (∀ k, k < 100 → M1 18 0 0 k = (vNd (hvF M (lastK ky 0 T)) n (cV M 0)) k) → ∀ (d i : Nat), i + 1 + d = 100 → zW X zshL M1 39 [some (.ref (b + 0)), some (.int t), some (.int (nI (wB (vNd (hvF M (lastK ky 0 T)) n (cV M 0)) (i + 1)))), some (.int (nI (i + 1)))] [] := by
    intro M1 hx hs hn d
    induction d with
    | zero =>
      intro i hi
      obtain rfl : i = 99 := by omega
      have hw : wB (vNd (hvF M (lastK ky 0 T)) n (cV M 0)) 100 ≤ 99 := wB_lt (vNd (hvF M (lastK ky 0 T)) n (cV M 0)) 99
      have hw2 := wB_lt (vNd (hvF M (lastK ky 0 T)) n (cV M 0)) 99
      refine z_iload_n (pc := 39) C 3 dX9_worst_39 rfl rfl ?_
      refine z_bipush (pc := 40) (v := 100) C dX9_worst_40 rfl ?_
      refine z_icmp_ge (pc := 42) C 74 dX9_worst_42 (by decide) (fun c42 => ?_) (fun c42 => absurd (by decide) c42)
      refine z_iload_n (pc := 74) C 1 dX9_worst_74 rfl rfl ?_
      refine z_if_ne (pc := 75) C 82 dX9_worst_75 (by decide) (fun c75 => ?_) (fun c75 => ?_)
      · refine z_aload_n (pc := 82) C 0 dX9_worst_82 rfl rfl ?_
        refine z_getR (pc := 83) (r := 54) C dX9_worst_83 fX9_31 sh_0 rfl ?_
        refine z_getR (pc := 86) (r := 70) C dX9_worst_86 fX9_179 sh_54 rfl ?_
        refine z_iload_n (pc := 89) C 2 dX9_worst_89 rfl rfl ?_
        refine z_iald (pc := 90) (n := wB (vNd (hvF M (lastK ky 0 T)) n (cV M 0)) 100) C dX9_worst_90 sh_70 (vp_in_nI (by omega) (by decide)) (nI_clamp (by omega)) ?_
        refine z_ireturn (pc := 91) C K dX9_worst_91 ?_
        exact ⟨_, rfl, by rw [Fworst, zif_pos hx, if_neg c75, hn _ (by omega)], hs⟩
      · refine z_iload_n (pc := 78) C 2 dX9_worst_78 rfl rfl ?_
        refine z_goto (pc := 79) C 91 dX9_worst_79 (by decide) ?_
        refine z_ireturn (pc := 91) C K dX9_worst_91 ?_
        exact ⟨_, rfl, by rw [Fworst, zif_pos hx, if_pos c75], hs⟩
    | succ d ih =>
      intro i hi
      have hw := wB_lt (vNd (hvF M (lastK ky 0 T)) n (cV M 0)) i
      refine z_iload_n (pc := 39) C 3 dX9_worst_39 rfl rfl ?_
      refine z_bipush (pc := 40) (v := 100) C dX9_worst_40 rfl ?_
      refine z_icmp_ge (pc := 42) C 74 dX9_worst_42 (by decide) (fun c42 => absurd c42 (nI_ge (b := 100) (by omega) (by omega))) (fun c42 => ?_)
      refine z_aload_n (pc := 45) C 0 dX9_worst_45 rfl rfl ?_
      refine z_getR (pc := 46) (r := 54) C dX9_worst_46 fX9_31 sh_0 rfl ?_
      refine z_getR (pc := 49) (r := 70) C dX9_worst_49 fX9_179 sh_54 rfl ?_
      refine z_iload_n (pc := 52) C 3 dX9_worst_52 rfl rfl ?_
      refine z_iald (pc := 53) (n := i + 1) C dX9_worst_53 sh_70 (vp_in_nI (by omega) (by decide)) (nI_clamp (by omega)) ?_
      rw [hn (i + 1) (by omega)]
      refine z_aload_n (pc := 54) C 0 dX9_worst_54 rfl rfl ?_
      refine z_getR (pc := 55) (r := 54) C dX9_worst_55 fX9_31 sh_0 rfl ?_
      refine z_getR (pc := 58) (r := 70) C dX9_worst_58 fX9_179 sh_54 rfl ?_
      refine z_iload_n (pc := 61) C 2 dX9_worst_61 rfl rfl ?_
      refine z_iald (pc := 62) (n := wB (vNd (hvF M (lastK ky 0 T)) n (cV M 0)) (i + 1)) C dX9_worst_62 sh_70 (vp_in_nI (by omega) (by decide)) (nI_clamp (by omega)) ?_
      rw [hn (wB _ (i + 1)) (by omega)]
      refine z_icmp_le (pc := 63) C 68 dX9_worst_63 (by decide) (fun c63 => ?_) (fun c63 => ?_)
      · refine z_iinc (pc := 68) (v := 1) C 3 dX9_worst_68 (by decide) rfl rfl rfl ?_
        refine z_goto (pc := 71) C 39 dX9_worst_71 (by decide) ?_
        have e := ih (i + 1) (by omega)
        rw [nI_succ (i + 1), wB, if_neg (Int32.not_lt.mpr c63)] at e
        exact e
      · refine z_iload_n (pc := 66) C 3 dX9_worst_66 rfl rfl ?_
        refine z_istore_n (pc := 67) C 2 dX9_worst_67 rfl (by decide) rfl ?_
        refine z_iinc (pc := 68) (v := 1) C 3 dX9_worst_68 (by decide) rfl rfl rfl ?_
        refine z_goto (pc := 71) C 39 dX9_worst_71 (by decide) ?_
        have e := ih (i + 1) (by omega)
        rw [nI_succ (i + 1), wB, if_pos (Int32.not_le.mp c63)] at e
        exact e
  refine z_iload_n (pc := 0) C 1 dX9_worst_0 rfl rfl ?_
  refine z_if_lt (pc := 1) C 9 dX9_worst_1 (by decide) (fun c1 => ?_) (fun c1 => ?_)
  · refine z_ldc (pc := 9) C q2_96 dX9_worst_9 ?_
    refine z_ireturn (pc := 11) C K dX9_worst_11 ?_
    refine ⟨_, rfl, by rw [Fworst, zif_neg (by simp only [zi_lt, zi_le, zi_eq, i0, i1, i2, i3, i4, i5, i6, i9, i20, i99, i100, im5, im20, im1] at c1; unfold iin; omega)], zSc.rfl'⟩
  · refine z_iload_n (pc := 4) C 1 dX9_worst_4 rfl rfl ?_
    refine z_iconst (pc := 5) (v := 1) C dX9_worst_5 rfl ?_
    refine z_icmp_le (pc := 6) C 12 dX9_worst_6 (by decide) (fun c6 => ?_) (fun c6 => ?_)
    · have hx : iin t 0 1 := by
        simp only [zi_lt, zi_le, zi_eq, i0, i1, i2, i3, i4, i5, i6, i9, i20, i99, i100, im5, im20, im1] at c1 c6
        unfold iin
        omega
      refine z_aload_n (pc := 12) C 0 dX9_worst_12 rfl rfl ?_
      refine z_getR (pc := 13) (r := 54) C dX9_worst_13 fX9_31 sh_0 rfl ?_
      refine z_aload_n (pc := 16) C 0 dX9_worst_16 rfl rfl ?_
      refine z_getR (pc := 17) (r := adW 0) C dX9_worst_17 fX9_21 sh_0 rfl ?_
      refine z_callVr (pc := 20) C dX9_worst_20 kX9_171 (mX7_begin2 hR zSc.rfl') (by decide) sh_54 rfl rfl rfl (Nat.le_of_ble_eq_true rfl) (fun r20 M20 h20 => ?_)
      obtain ⟨rfl, v20, i20, s20⟩ := h20
      refine z_pop (pc := 23) C dX9_worst_23 rfl ?_
      refine z_aload_n (pc := 24) C 0 dX9_worst_24 rfl rfl ?_
      refine z_getR (pc := 25) (r := 54) C dX9_worst_25 fX9_31 sh_0 rfl ?_
      refine z_iconst (pc := 28) (v := 0) C dX9_worst_28 rfl ?_
      refine z_bipush (pc := 29) (v := 99) C dX9_worst_29 rfl ?_
      refine z_callVi (pc := 31) C dX9_worst_31 kX9_175 (mX7_ponder2 i20 (a := 0) (m := 100) (by omega) (by omega) (by decide)) (by decide) sh_54 rfl rfl rfl (Nat.le_of_ble_eq_true rfl) (fun r31 M31 h31 => ?_)
      obtain ⟨r31e, n31, s31⟩ := h31
      refine z_pop (pc := 34) C dX9_worst_34 rfl ?_
      refine z_iconst (pc := 35) (v := 0) C dX9_worst_35 rfl ?_
      refine z_istore_n (pc := 36) C 2 dX9_worst_36 rfl (by decide) rfl ?_
      refine z_iconst (pc := 37) (v := 1) C dX9_worst_37 rfl ?_
      refine z_istore_n (pc := 38) C 3 dX9_worst_38 rfl (by decide) rfl ?_
      have e := loop M31 hx (s20.trans s31) (fun k hk => (n31 k (by omega) hk).trans (vNd_c v20 k)) 99 0 (by omega)
      rw [show wB (vNd (hvF M (lastK ky 0 T)) n (cV M 0)) (0 + 1) = 0 from Nat.le_zero.mp (wB_lt _ 0)] at e
      exact e
    · refine z_ldc (pc := 9) C q2_96 dX9_worst_9 ?_
      refine z_ireturn (pc := 11) C K dX9_worst_11 ?_
      refine ⟨_, rfl, by rw [Fworst, zif_neg (by simp only [zi_lt, zi_le, zi_eq, i0, i1, i2, i3, i4, i5, i6, i9, i20, i99, i100, im5, im20, im1] at c1 c6; unfold iin; omega)], zSc.rfl'⟩

set_option maxHeartbeats 800000 in
set_option maxRecDepth 100000 in
theorem mX10_worst {l : Launch} {G : zG} {b : Nat} {M : zM} {n T : Nat} {ky ln : Nat → Nat} (hR : RR M n T ky ln) {t : Int32} : zMet l G b yX10_worst cX10_worst 6 (some .int) 7 zshL zshL [.ref (b + 239), .int t] M (zI (qP (Fworst (vNd (hvF M (lastK ky 0 T)) n (cV M 0)) t) M)) := by
  refine zMet.of (L0 := [some (.ref (b + 239)), some (.int t), none, none, none, none]) (by decide +kernel) (Nat.le_refl _) (Nat.le_refl _) (Nat.le_of_ble_eq_true rfl) (List.forall_mem_cons.mpr ⟨rfl, List.forall_mem_cons.mpr ⟨rfl, fun _ h => absurd h List.not_mem_nil⟩⟩) rfl (fun X C Al K => ?_)
  have loop : iin t 0 1 → ∀ (d i : Nat) (M1 : zM) (q5 : Option Value), i + 1 + d = 100 → mS5 M M1 → zW X zshL M1 19 [some (.ref (b + 239)), some (.int t), some (.int (nI (wB (vNd (hvF M (lastK ky 0 T)) n (cV M 0)) (i + 1)))), some (.int ((vNd (hvF M (lastK ky 0 T)) n (cV M 0)) (wB (vNd (hvF M (lastK ky 0 T)) n (cV M 0)) (i + 1)))), some (.int (nI (i + 1))), q5] [] := by
    intro hx d
    induction d with
    | zero =>
      intro i M1 q5 hi hs
      obtain rfl : i = 99 := by omega
      refine z_iload (pc := 19) C 4 dX10_worst_19 rfl ?_
      refine z_bipush (pc := 21) (v := 100) C dX10_worst_21 rfl ?_
      refine z_icmp_ge (pc := 23) C 66 dX10_worst_23 (by decide) (fun c23 => ?_) (fun c23 => absurd (by decide) c23)
      refine z_iload_n (pc := 66) C 1 dX10_worst_66 rfl rfl ?_
      refine z_if_ne (pc := 67) C 74 dX10_worst_67 (by decide) (fun c67 => ?_) (fun c67 => ?_)
      · refine z_iload_n (pc := 74) C 3 dX10_worst_74 rfl rfl ?_
        refine z_ireturn (pc := 75) C K dX10_worst_75 ?_
        exact ⟨_, rfl, by rw [Fworst, zif_pos hx, if_neg c67], hs.z⟩
      · refine z_iload_n (pc := 70) C 2 dX10_worst_70 rfl rfl ?_
        refine z_goto (pc := 71) C 75 dX10_worst_71 (by decide) ?_
        refine z_ireturn (pc := 75) C K dX10_worst_75 ?_
        exact ⟨_, rfl, by rw [Fworst, zif_pos hx, if_pos c67], hs.z⟩
    | succ d ih =>
      intro i M1 q5 hi hs
      refine z_iload (pc := 19) C 4 dX10_worst_19 rfl ?_
      refine z_bipush (pc := 21) (v := 100) C dX10_worst_21 rfl ?_
      refine z_icmp_ge (pc := 23) C 66 dX10_worst_23 (by decide) (fun c23 => absurd c23 (nI_ge (b := 100) (by omega) (by omega))) (fun c23 => ?_)
      refine z_aload_n (pc := 26) C 0 dX10_worst_26 rfl rfl ?_
      refine z_iload (pc := 27) C 4 dX10_worst_27 rfl ?_
      refine z_callVi (pc := 29) C dX10_worst_29 kX10_182 (mX10_needsByR hR hs (k := i + 1) (by omega)) (by decide) sh_239 rfl rfl rfl (Nat.le_of_ble_eq_true rfl) (fun r29 M29 h29 => ?_)
      obtain ⟨rfl, s29⟩ := h29
      refine z_istore (pc := 32) C 5 dX10_worst_32 (by decide) rfl ?_
      refine z_iload (pc := 34) C 5 dX10_worst_34 rfl ?_
      refine z_iload_n (pc := 36) C 3 dX10_worst_36 rfl rfl ?_
      refine z_icmp_le (pc := 37) C 45 dX10_worst_37 (by decide) (fun c37 => ?_) (fun c37 => ?_)
      · refine z_iload_n (pc := 45) C 2 dX10_worst_45 rfl rfl ?_
        refine z_istore_n (pc := 46) C 2 dX10_worst_46 rfl (by decide) rfl ?_
        refine z_iload (pc := 47) C 5 dX10_worst_47 rfl ?_
        refine z_iload_n (pc := 49) C 3 dX10_worst_49 rfl rfl ?_
        refine z_icmp_le (pc := 50) C 58 dX10_worst_50 (by decide) (fun c50 => ?_) (fun c50 => absurd c37 c50)
        refine z_iload_n (pc := 58) C 3 dX10_worst_58 rfl rfl ?_
        refine z_istore_n (pc := 59) C 3 dX10_worst_59 rfl (by decide) rfl ?_
        refine z_iinc (pc := 60) (v := 1) C 4 dX10_worst_60 (by decide) rfl rfl rfl ?_
        refine z_goto (pc := 63) C 19 dX10_worst_63 (by decide) ?_
        have e := ih (i + 1) M29 (some (.int ((vNd (hvF M (lastK ky 0 T)) n (cV M 0)) (i + 1)))) (by omega) s29
        rw [nI_succ (i + 1), wB, if_neg (Int32.not_lt.mpr c37)] at e
        exact e
      · refine z_iload (pc := 40) C 4 dX10_worst_40 rfl ?_
        refine z_goto (pc := 42) C 46 dX10_worst_42 (by decide) ?_
        refine z_istore_n (pc := 46) C 2 dX10_worst_46 rfl (by decide) rfl ?_
        refine z_iload (pc := 47) C 5 dX10_worst_47 rfl ?_
        refine z_iload_n (pc := 49) C 3 dX10_worst_49 rfl rfl ?_
        refine z_icmp_le (pc := 50) C 58 dX10_worst_50 (by decide) (fun c50 => absurd c50 c37) (fun c50 => ?_)
        refine z_iload (pc := 53) C 5 dX10_worst_53 rfl ?_
        refine z_goto (pc := 55) C 59 dX10_worst_55 (by decide) ?_
        refine z_istore_n (pc := 59) C 3 dX10_worst_59 rfl (by decide) rfl ?_
        refine z_iinc (pc := 60) (v := 1) C 4 dX10_worst_60 (by decide) rfl rfl rfl ?_
        refine z_goto (pc := 63) C 19 dX10_worst_63 (by decide) ?_
        have e := ih (i + 1) M29 (some (.int ((vNd (hvF M (lastK ky 0 T)) n (cV M 0)) (i + 1)))) (by omega) s29
        rw [nI_succ (i + 1), wB, if_pos (Int32.not_le.mp c37)] at e
        exact e
  refine z_iload_n (pc := 0) C 1 dX10_worst_0 rfl rfl ?_
  refine z_iconst (pc := 1) (v := 0) C dX10_worst_1 rfl ?_
  refine z_iconst (pc := 2) (v := 1) C dX10_worst_2 rfl ?_
  refine z_callSi (pc := 3) C dX10_worst_3 kX10_78 mX10_in (by decide) rfl rfl (Nat.le_of_ble_eq_true rfl) (fun r3 M3 h3 => ?_)
  obtain ⟨h3, e3⟩ := h3
  subst M3
  replace h3 : zb r3 (iin t (0) (1)) := zin_b (by decide) (by decide) h3
  refine z_if_ne (pc := 6) C 12 dX10_worst_6 (by decide) (fun c6 => ?_) (fun c6 => ?_)
  · refine z_iconst (pc := 12) (v := 0) C dX10_worst_12 rfl ?_
    refine z_istore_n (pc := 13) C 2 dX10_worst_13 rfl (by decide) rfl ?_
    refine z_iconst (pc := 14) (v := -1) C dX10_worst_14 rfl ?_
    refine z_istore_n (pc := 15) C 3 dX10_worst_15 rfl (by decide) rfl ?_
    refine z_iconst (pc := 16) (v := 0) C dX10_worst_16 rfl ?_
    refine z_istore (pc := 17) C 4 dX10_worst_17 (by decide) rfl ?_
    refine z_iload (pc := 19) C 4 dX10_worst_19 rfl ?_
    refine z_bipush (pc := 21) (v := 100) C dX10_worst_21 rfl ?_
    refine z_icmp_ge (pc := 23) C 66 dX10_worst_23 (by decide) (fun c23 => absurd c23 (by decide)) (fun c23 => ?_)
    refine z_aload_n (pc := 26) C 0 dX10_worst_26 rfl rfl ?_
    refine z_iload (pc := 27) C 4 dX10_worst_27 rfl ?_
    refine z_callVi (pc := 29) C dX10_worst_29 kX10_182 (mX10_needsByR hR mS5.rfl' (k := 0) (by decide)) (by decide) sh_239 rfl rfl rfl (Nat.le_of_ble_eq_true rfl) (fun r29 M29 h29 => ?_)
    obtain ⟨rfl, s29⟩ := h29
    have hp : ¬ (vNd (hvF M (lastK ky 0 T)) n (cV M 0)) 0 ≤ -1 := by
      have := vNd_in (hvF M (lastK ky 0 T)) n (cV M 0) 0
      rw [zi_le, im1]
      omega
    refine z_istore (pc := 32) C 5 dX10_worst_32 (by decide) rfl ?_
    refine z_iload (pc := 34) C 5 dX10_worst_34 rfl ?_
    refine z_iload_n (pc := 36) C 3 dX10_worst_36 rfl rfl ?_
    refine z_icmp_le (pc := 37) C 45 dX10_worst_37 (by decide) (fun c37 => absurd c37 hp) (fun c37 => ?_)
    refine z_iload (pc := 40) C 4 dX10_worst_40 rfl ?_
    refine z_goto (pc := 42) C 46 dX10_worst_42 (by decide) ?_
    refine z_istore_n (pc := 46) C 2 dX10_worst_46 rfl (by decide) rfl ?_
    refine z_iload (pc := 47) C 5 dX10_worst_47 rfl ?_
    refine z_iload_n (pc := 49) C 3 dX10_worst_49 rfl rfl ?_
    refine z_icmp_le (pc := 50) C 58 dX10_worst_50 (by decide) (fun c50 => absurd c50 hp) (fun c50 => ?_)
    refine z_iload (pc := 53) C 5 dX10_worst_53 rfl ?_
    refine z_goto (pc := 55) C 59 dX10_worst_55 (by decide) ?_
    refine z_istore_n (pc := 59) C 3 dX10_worst_59 rfl (by decide) rfl ?_
    refine z_iinc (pc := 60) (v := 1) C 4 dX10_worst_60 (by decide) rfl rfl rfl ?_
    refine z_goto (pc := 63) C 19 dX10_worst_63 (by decide) ?_
    have e := loop (h3.yes c6) 99 0 M29 (some (.int ((vNd (hvF M (lastK ky 0 T)) n (cV M 0)) 0))) (by omega) s29
    rw [show wB (vNd (hvF M (lastK ky 0 T)) n (cV M 0)) (0 + 1) = 0 from Nat.le_zero.mp (wB_lt _ 0)] at e
    exact e
  · refine z_ldc (pc := 9) C q5_48 dX10_worst_9 ?_
    refine z_ireturn (pc := 11) C K dX10_worst_11 ?_
    exact ⟨_, rfl, by rw [Fworst, zif_neg (h3.no c6)], zSc.rfl'⟩

theorem op_worst {l : Launch} {G : zG} {b : Nat} {M : zM} (hM : Rel M) {t : Int32} : opOK l G b yX9_worst cX9_worst 4 18 yX10_worst cX10_worst 6 7 [.int t] M := by
  obtain ⟨n, T, ky, ln, hR⟩ := hM
  refine ⟨_, mX9_worst hR, fun r M1 h1 => ?_⟩
  obtain ⟨rfl, h1⟩ := h1
  have hR1 := hR.sc h1
  refine zI.post (mX10_worst hR1) (fun s M2 h2 => ?_)
  obtain ⟨rfl, h2⟩ := h2
  refine ⟨?_, _, _, _, _, hR1.sc h2⟩
  rw [h1.cV, hvF_sc h1 hR.TX]
noncomputable def Fkeeps (hv : Int32 → Int32 → Int32 → Int32) (n : Nat) (V : zVw) (x : Int32) : Int32 := zif (iin x 0 ((n : Int) - 1)) (vNd hv n (vP V x.toNatClampNeg 0 5) (V.1 3).toNatClampNeg - vNd hv n V (V.1 3).toNatClampNeg) (-1000000001)
theorem vP5_ok {n : Nat} {V : zVw} (g : vOK n V) (i : Nat) : vOK n (vP V i 0 5) := vP_ok g (fun hi => by
  obtain ⟨q0, q⟩ := g.2.2.1 i hi
  refine ⟨by show 0 ≤ (5 : Int32).toInt ∧ (5 : Int32).toInt ≤ 5; decide, ?_⟩
  simpa using q)
set_option maxHeartbeats 800000 in
set_option maxRecDepth 100000 in
theorem mX9_keeps {l : Launch} {G : zG} {b : Nat} {M : zM} {n T : Nat} {ky ln : Nat → Nat} (hR : RR M n T ky ln) {x : Int32} : zMet l G b yX9_keeps cX9_keeps 4 (some .int) 18 zshL zshL [.ref (b + 0), .int x] M (zI (qP (Fkeeps (hvF M (lastK ky 0 T)) n (cV M 0) x) M)) := by
  refine zMet.of (L0 := [some (.ref (b + 0)), some (.int x), none, none]) (by decide +kernel) (Nat.le_refl _) (Nat.le_refl _) (Nat.le_of_ble_eq_true rfl) (List.forall_mem_cons.mpr ⟨rfl, List.forall_mem_cons.mpr ⟨rfl, fun _ h => absurd h List.not_mem_nil⟩⟩) rfl (fun X C Al K => ?_)
  refine z_aload_n (pc := 0) C 0 dX9_keeps_0 rfl rfl ?_
  refine z_iload_n (pc := 1) C 1 dX9_keeps_1 rfl rfl ?_
  refine z_callVi (pc := 2) C dX9_keeps_2 kX9_96 (mX9_isOne hR.hn hR.n8) (by decide) sh_0 rfl rfl rfl (Nat.le_of_ble_eq_true rfl) (fun r2 M2 h2 => ?_)
  obtain ⟨h2, e2⟩ := h2
  subst M2
  refine z_if_ne (pc := 5) C 11 dX9_keeps_5 (by decide) (fun c5 => ?_) (fun c5 => ?_)
  · have hx := h2.yes c5
    obtain ⟨i, hi, rfl⟩ := iin_nI (by have := hR.n8; omega) hx
    have hin : i < 8 := by have := hR.n8; omega
    obtain ⟨k, hk99, hk⟩ := iin_n hR.1.1.2.2.2.1 (by decide)
    replace hk : M 5 0 0 3 = nI k := hk
    refine z_aload_n (pc := 11) C 0 dX9_keeps_11 rfl rfl ?_
    refine z_getR (pc := 12) (r := 54) C dX9_keeps_12 fX9_31 sh_0 rfl ?_
    refine z_aload_n (pc := 15) C 0 dX9_keeps_15 rfl rfl ?_
    refine z_getR (pc := 16) (r := adW 0) C dX9_keeps_16 fX9_21 sh_0 rfl ?_
    refine z_callVr (pc := 19) C dX9_keeps_19 kX9_171 (mX7_begin2 hR zSc.rfl') (by decide) sh_54 rfl rfl rfl (Nat.le_of_ble_eq_true rfl) (fun r19 M19 h19 => ?_)
    obtain ⟨rfl, v19, i19, s19⟩ := h19
    refine z_pop (pc := 22) C dX9_keeps_22 rfl ?_
    refine z_aload_n (pc := 23) C 0 dX9_keeps_23 rfl rfl ?_
    refine z_getR (pc := 24) (r := 54) C dX9_keeps_24 fX9_31 sh_0 rfl ?_
    refine z_aload_n (pc := 27) C 0 dX9_keeps_27 rfl rfl ?_
    refine z_getR (pc := 28) (r := adW 0) C dX9_keeps_28 fX9_21 sh_0 rfl ?_
    refine z_getI (pc := 31) C dX9_keeps_31 fX9_186 (shW lt0_14) rfl ?_
    refine z_aload_n (pc := 34) C 0 dX9_keeps_34 rfl rfl ?_
    refine z_getR (pc := 35) (r := adW 0) C dX9_keeps_35 fX9_21 sh_0 rfl ?_
    refine z_getI (pc := 38) C dX9_keeps_38 fX9_186 (shW lt0_14) rfl ?_
    rw [s19.w, hk]
    refine z_callVi (pc := 41) C dX9_keeps_41 kX9_175 (mX7_ponder2 i19 (a := k) (m := k + 1) (by omega) (by omega) (by rw [nI_toInt (by omega)]; omega)) (by decide) sh_54 rfl rfl rfl (Nat.le_of_ble_eq_true rfl) (fun r41 M41 h41 => ?_)
    obtain ⟨r41e, -, s41⟩ := h41
    have r41f : r41 = vNd (hvF M (lastK ky 0 T)) n (cV M 0) k := by
      rw [r41e, Nat.add_sub_cancel_left, ← vNd_c v19]
      exact Int32.zero_add _
    subst r41f
    refine z_istore_n (pc := 44) C 2 dX9_keeps_44 rfl (by decide) rfl ?_
    refine z_aload_n (pc := 45) C 0 dX9_keeps_45 rfl rfl ?_
    refine z_getR (pc := 46) (r := 54) C dX9_keeps_46 fX9_31 sh_0 rfl ?_
    refine z_aload_n (pc := 49) C 0 dX9_keeps_49 rfl rfl ?_
    refine z_getR (pc := 50) (r := adW 0) C dX9_keeps_50 fX9_21 sh_0 rfl ?_
    refine z_callVr (pc := 53) C dX9_keeps_53 kX9_171 (mX7_begin2 hR (s19.trans s41)) (by decide) sh_54 rfl rfl rfl (Nat.le_of_ble_eq_true rfl) (fun r53 M53 h53 => ?_)
    obtain ⟨rfl, v53, i53, s53⟩ := h53
    refine z_astore_n (pc := 56) C 3 dX9_keeps_56 rfl (by decide) rfl ?_
    refine z_aload_n (pc := 57) C 3 dX9_keeps_57 rfl rfl ?_
    refine z_getR (pc := 58) (r := adW 2 + 1) C dX9_keeps_58 fX9_99 (shW lt2_14) rfl ?_
    refine z_iload_n (pc := 61) C 1 dX9_keeps_61 rfl rfl ?_
    refine z_aald (pc := 62) (r := adP 2 i) C dX9_keeps_62 (shPa lt2_14) rfl rfl (pin hin) (pget hin) ?_
    refine z_iconst (pc := 63) (v := 5) C dX9_keeps_63 rfl ?_
    refine z_putII (pc := 64) C dX9_keeps_64 fX9_103 (shP (okP_w lt2_14 hin)) rfl ?_
    have v64 : veq n (cV (zu M53 1 2 i 0 5) 2) (vP (cV M 0) i 0 5) := by
      rw [cV_zu1]
      exact vP_c v53 i 0 5
    have i64 : cI (zu M53 1 2 i 0 5) 2 n (hvF M (lastK ky 0 T)) := i53.on (cFr_1 _ _ _ _ _) (vOK_c v64.symm (vP5_ok hR.1.1 i))
    have s64 : zSc M (zu M53 1 2 i 0 5) := s53.trans ((cFr_1 _ _ _ _ _).z (by decide) (by decide))
    refine z_aload_n (pc := 67) C 0 dX9_keeps_67 rfl rfl ?_
    refine z_getR (pc := 68) (r := 54) C dX9_keeps_68 fX9_31 sh_0 rfl ?_
    refine z_aload_n (pc := 71) C 0 dX9_keeps_71 rfl rfl ?_
    refine z_getR (pc := 72) (r := adW 0) C dX9_keeps_72 fX9_21 sh_0 rfl ?_
    refine z_getI (pc := 75) C dX9_keeps_75 fX9_186 (shW lt0_14) rfl ?_
    refine z_aload_n (pc := 78) C 0 dX9_keeps_78 rfl rfl ?_
    refine z_getR (pc := 79) (r := adW 0) C dX9_keeps_79 fX9_21 sh_0 rfl ?_
    refine z_getI (pc := 82) C dX9_keeps_82 fX9_186 (shW lt0_14) rfl ?_
    rw [s64.w, hk]
    refine z_callVi (pc := 85) C dX9_keeps_85 kX9_175 (mX7_ponder2 i64 (a := k) (m := k + 1) (by omega) (by omega) (by rw [nI_toInt (by omega)]; omega)) (by decide) sh_54 rfl rfl rfl (Nat.le_of_ble_eq_true rfl) (fun r85 M85 h85 => ?_)
    obtain ⟨r85e, -, s85⟩ := h85
    have r85f : r85 = vNd (hvF M (lastK ky 0 T)) n (vP (cV M 0) i 0 5) k := by
      rw [r85e, Nat.add_sub_cancel_left, ← vNd_c v64]
      exact Int32.zero_add _
    subst r85f
    refine z_iload_n (pc := 88) C 2 dX9_keeps_88 rfl rfl ?_
    refine z_isub (pc := 89) C dX9_keeps_89 ?_
    refine z_ireturn (pc := 90) C K dX9_keeps_90 ?_
    refine ⟨_, rfl, ?_, s64.trans s85⟩
    rw [Fkeeps, zif_pos hx, show (cV M 0).1 3 = nI k from hk, nI_clamp (n := k) (by omega), nI_clamp (n := i) (by omega)]
  · refine z_ldc (pc := 8) C q2_96 dX9_keeps_8 ?_
    refine z_ireturn (pc := 10) C K dX9_keeps_10 ?_
    exact ⟨_, rfl, by rw [Fkeeps, zif_neg (h2.no c5)], zSc.rfl'⟩

set_option maxHeartbeats 800000 in
set_option maxRecDepth 100000 in
theorem mX10_keeps {l : Launch} {G : zG} {b : Nat} {M : zM} {n T : Nat} {ky ln : Nat → Nat} (hR : RR M n T ky ln) {x : Int32} : zMet l G b yX10_keeps cX10_keeps 5 (some .int) 7 zshL zshL [.ref (b + 239), .int x] M (zI (qP (Fkeeps (hvF M (lastK ky 0 T)) n (cV M 0) x) M)) := by
  refine zMet.of (L0 := [some (.ref (b + 239)), some (.int x), none, none, none]) (by decide +kernel) (Nat.le_refl _) (Nat.le_refl _) (Nat.le_of_ble_eq_true rfl) (List.forall_mem_cons.mpr ⟨rfl, List.forall_mem_cons.mpr ⟨rfl, fun _ h => absurd h List.not_mem_nil⟩⟩) rfl (fun X C Al K => ?_)
  refine z_aload_n (pc := 0) C 0 dX10_keeps_0 rfl rfl ?_
  refine z_iload_n (pc := 1) C 1 dX10_keeps_1 rfl rfl ?_
  refine z_callVi (pc := 2) C dX10_keeps_2 kX10_107 (mX10_isOne hR.hm hR.n8) (by decide) sh_239 rfl rfl rfl (Nat.le_of_ble_eq_true rfl) (fun r2 M2 h2 => ?_)
  obtain ⟨h2, e2⟩ := h2
  subst M2
  refine z_if_ne (pc := 5) C 11 dX10_keeps_5 (by decide) (fun c5 => ?_) (fun c5 => ?_)
  · have hx := h2.yes c5
    obtain ⟨i, hi, rfl⟩ := iin_nI (by have := hR.n8; omega) hx
    have hin : i < 8 := by have := hR.n8; omega
    obtain ⟨k, hk99, hk⟩ := iin_n hR.1.1.2.2.2.1 (by decide)
    replace hk : M 5 0 0 3 = nI k := hk
    have hk3 : M 31 0 0 3 = nI k := (hR.f (k := 3) (by decide) (by decide)).trans hk
    refine z_aload_n (pc := 11) C 0 dX10_keeps_11 rfl rfl ?_
    refine z_aload_n (pc := 12) C 0 dX10_keeps_12 rfl rfl ?_
    refine z_getR (pc := 13) (r := 240) C dX10_keeps_13 fX10_9 sh_239 rfl ?_
    refine z_iconst (pc := 16) (v := 3) C dX10_keeps_16 rfl ?_
    refine z_iald (pc := 17) (n := 3) C dX10_keeps_17 sh_240 (zi_in.mpr (by decide)) rfl ?_
    rw [hk3]
    refine z_callVi (pc := 18) C dX10_keeps_18 kX10_182 (mX10_needsByR hR mS5.rfl' (k := k) (by omega)) (by decide) sh_239 rfl rfl rfl (Nat.le_of_ble_eq_true rfl) (fun r18 M18 h18 => ?_)
    obtain ⟨rfl, s18⟩ := h18
    refine z_istore_n (pc := 21) C 2 dX10_keeps_21 rfl (by decide) rfl ?_
    refine z_aload_n (pc := 22) C 0 dX10_keeps_22 rfl rfl ?_
    refine z_bipush (pc := 23) (v := 9) C dX10_keeps_23 rfl ?_
    refine z_bipush (pc := 25) (v := 7) C dX10_keeps_25 rfl ?_
    refine z_iload_n (pc := 27) C 1 dX10_keeps_27 rfl rfl ?_
    refine z_imul (pc := 28) C dX10_keeps_28 ?_
    refine z_iadd (pc := 29) C dX10_keeps_29 ?_
    rw [idx97 hin]
    refine z_iconst (pc := 30) (v := 5) C dX10_keeps_30 rfl ?_
    refine z_callVi (pc := 31) C dX10_keeps_31 kX10_122 (mX10_becomes (k := 9 + 7 * i) (by omega)) (by decide) sh_239 rfl rfl rfl (Nat.le_of_ble_eq_true rfl) (fun r31 M31 h31 => ?_)
    obtain ⟨rfl, e31⟩ := h31
    subst M31
    have eN : ∀ j, zu M18 31 0 0 (9 + 7 * i) 5 31 0 0 j = mput M i 0 5 31 0 0 j := fun j => by
      show (if _ then (5 : Int32) else M18 31 0 0 j) = if _ then (5 : Int32) else M 31 0 0 j
      rw [s18.1]
      rfl
    have q8 : zu M18 31 0 0 (9 + 7 * i) 5 8 = M 8 := by rw [zu_a (by decide), s18.2 8 (by decide) (by decide) (by decide) (by decide)]
    have q9 : zu M18 31 0 0 (9 + 7 * i) 5 9 = M 9 := by rw [zu_a (by decide), s18.2 9 (by decide) (by decide) (by decide) (by decide)]
    have eV : veq n (mV (zu M18 31 0 0 (9 + 7 * i) 5) 31) (vP (cV M 0) i 0 5) := by
      rw [mV_on (M := mput M i 0 5) eN]
      exact (mV_put M (i := i) (f := 0) (by decide) 5).trans (vP_c hR.1.2.1.symm i 0 5)
    have rIN : rI (zu M18 31 0 0 (9 + 7 * i) 5) n T ky ln := by
      have r0 : rI (mput M i 0 5) n T ky ln := hR.rI.on (mFr_zu M (by omega) 5) (zu_f (by omega)) (vOK_c ((mV_put M (i := i) (f := 0) (by decide) 5).trans (vP_c hR.1.2.1.symm i 0 5)).symm (vP5_ok hR.1.1 i))
      exact r0.sc eN (by rw [q8]; exact (zu_a (by decide)).symm) (by rw [q9]; exact (zu_a (by decide)).symm)
    have e3 : zu M18 31 0 0 (9 + 7 * i) 5 31 0 0 3 = nI k := by rw [zu_f (by omega), s18.1]; exact hk3
    refine z_istore_n (pc := 34) C 3 dX10_keeps_34 rfl (by decide) rfl ?_
    refine z_aload_n (pc := 35) C 0 dX10_keeps_35 rfl rfl ?_
    refine z_aload_n (pc := 36) C 0 dX10_keeps_36 rfl rfl ?_
    refine z_getR (pc := 37) (r := 240) C dX10_keeps_37 fX10_9 sh_239 rfl ?_
    refine z_iconst (pc := 40) (v := 3) C dX10_keeps_40 rfl ?_
    refine z_iald (pc := 41) (n := 3) C dX10_keeps_41 sh_240 (zi_in.mpr (by decide)) rfl ?_
    rw [e3]
    refine z_callVi (pc := 42) C dX10_keeps_42 kX10_182 (mX10_needsBy5 rIN (k := k) (by omega)) (by decide) sh_239 rfl rfl rfl (Nat.le_of_ble_eq_true rfl) (fun r42 M42 h42 => ?_)
    obtain ⟨r42e, s42⟩ := h42
    rw [hvF_c q8 q9, vNd_c eV] at r42e
    subst r42e
    refine z_istore (pc := 45) C 4 dX10_keeps_45 (by decide) rfl ?_
    refine z_aload_n (pc := 47) C 0 dX10_keeps_47 rfl rfl ?_
    refine z_iload_n (pc := 48) C 1 dX10_keeps_48 rfl rfl ?_
    refine z_iconst (pc := 49) (v := 0) C dX10_keeps_49 rfl ?_
    refine z_iload_n (pc := 50) C 3 dX10_keeps_50 rfl rfl ?_
    refine z_callVv (pc := 51) C dX10_keeps_51 kX10_82 (mX10_put (f := 0) hin (by decide)) (by decide) sh_239 rfl rfl rfl (Nat.le_of_ble_eq_true rfl) (fun M51 h51 => ?_)
    subst M51
    have hsc : mS5 M (mput M42 i 0 (M18 31 0 0 (9 + 7 * i))) := by
      refine ⟨fun j => ?_, fun a g1 g3 g4 g5 => ?_⟩
      · show (if (31 = 31 ∧ 0 = 0 ∧ 0 = 0 ∧ j = 9 + 7 * i + 0) then M18 31 0 0 (9 + 7 * i) else M42 31 0 0 j) = M 31 0 0 j
        by_cases z : j = 9 + 7 * i
        · rw [if_pos ⟨rfl, rfl, rfl, z⟩, s18.1, z]
        · rw [if_neg (fun w => z w.2.2.2), s42.1, zu_f z, s18.1]
      · show zu M42 31 0 0 (9 + 7 * i + 0) _ a = M a
        rw [zu_a g1, s42.2 a g1 g3 g4 g5, zu_a g1, s18.2 a g1 g3 g4 g5]
    refine z_iload (pc := 54) C 4 dX10_keeps_54 rfl ?_
    refine z_iload_n (pc := 56) C 2 dX10_keeps_56 rfl rfl ?_
    refine z_isub (pc := 57) C dX10_keeps_57 ?_
    refine z_ireturn (pc := 58) C K dX10_keeps_58 ?_
    refine ⟨_, rfl, ?_, hsc.z⟩
    rw [Fkeeps, zif_pos hx, show (cV M 0).1 3 = nI k from hk, nI_clamp (n := k) (by omega), nI_clamp (n := i) (by omega)]
  · refine z_ldc (pc := 8) C q5_48 dX10_keeps_8 ?_
    refine z_ireturn (pc := 10) C K dX10_keeps_10 ?_
    exact ⟨_, rfl, by rw [Fkeeps, zif_neg (h2.no c5)], zSc.rfl'⟩

theorem op_keeps {l : Launch} {G : zG} {b : Nat} {M : zM} (hM : Rel M) {x : Int32} : opOK l G b yX9_keeps cX9_keeps 4 18 yX10_keeps cX10_keeps 5 7 [.int x] M := by
  obtain ⟨n, T, ky, ln, hR⟩ := hM
  refine ⟨_, mX9_keeps hR, fun r M1 h1 => ?_⟩
  obtain ⟨rfl, h1⟩ := h1
  have hR1 := hR.sc h1
  refine zI.post (mX10_keeps hR1) (fun s M2 h2 => ?_)
  obtain ⟨rfl, h2⟩ := h2
  refine ⟨?_, _, _, _, _, hR1.sc h2⟩
  rw [h1.cV, hvF_sc h1 hR.TX]