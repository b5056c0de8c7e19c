/-! THE REFERENCE: what is thought, and put back -/
/-- now is as it was; begins, before, stack, facts are free -/
def mSc (M M' : zM) : Prop := (∀ k, M' 31 0 0 k = M 31 0 0 k) ∧ ∀ a, a ≠ 31 → a ≠ 34 → a ≠ 35 → a ≠ 42 → a ≠ 43 → M' a = M a
theorem mSc.rfl' {M : zM} : mSc M M := ⟨fun _ => rfl, fun _ _ _ _ _ _ => rfl⟩
theorem mSc.trans {M M' M2 : zM} (h : mSc M M') (h' : mSc M' M2) : mSc M M2 := ⟨fun k => (h'.1 k).trans (h.1 k), fun a h1 h2 h3 h4 h5 => (h'.2 a h1 h2 h3 h4 h5).trans (h.2 a h1 h2 h3 h4 h5)⟩
theorem mSc.mp {M M' : zM} (h : mSc M M') : mp M' = mp M := by
  funext i f
  exact h.1 _
theorem rI.sc {M M' : zM} {n T : Nat} {ky ln : Nat → Nat} (hI : rI M n T ky ln) (h1 : ∀ k, M' 31 0 0 k = M 31 0 0 k) (o8 : M' 8 = M 8) (o9 : M' 9 = M 9) : rI M' n T ky ln := by
  obtain ⟨hV, hT, hX, hm⟩ := hI
  have eV : mV M' 31 = mV M 31 := by
    have e1 : (fun k => M' 31 0 0 (mm k)) = fun k => M 31 0 0 (mm k) := funext fun k => h1 _
    have e2 : (fun i f => M' 31 0 0 (9 + 7 * i + f)) = fun i f => M 31 0 0 (9 + 7 * i + f) := funext fun i => funext fun f => h1 _
    show (_, _) = (_, _)
    rw [e1, e2]
  refine ⟨by rw [eV]; exact hV, (h1 8).trans hT, ?_, fun t ht => ?_⟩
  · unfold TX
    rw [o8, o9]
    exact hX
  · obtain ⟨g1, g2, g3⟩ := hm t ht
    exact ⟨by rw [h1]; exact g1, by rw [h1, o8]; exact g2, fun i hi => by rw [h1, o9]; exact g3 i hi⟩
theorem mnd_c {M M' : zM} (h : ∀ k, M' 31 0 0 k = M 31 0 0 k) (n : Nat) (hv : Int32 → Int32 → Int32 → Int32) (k : Nat) : mnd M' n hv k = mnd M n hv k := by
  unfold mnd
  have e : mp M' = mp M := by
    funext i f
    exact h _
  rw [h 7, h 4, h 5, e]
/-- begins holds what now held: back it goes -/
theorem sc_back {M M2 : zM} (h2 : mFr (tk M 31 35 65) M2) : mSc M (tk M2 35 31 65) := by
  refine ⟨fun k => ?_, fun a g1 g2 g3 g4 g5 => ?_⟩
  · by_cases hk : k < 65
    · rw [tk_in hk, h2.1 35 (by decide) (by decide) (by decide), tk_in hk]
    · rw [tk_f hk, h2.2 k (by omega), tk_a (by decide)]
  · rw [tk_a g1, h2.1 a g1 g4 g5, tk_a g3]
set_option maxHeartbeats 4000000 in
set_option maxRecDepth 100000 in
theorem mX10_needsBy {l : Launch} {G : zG} {b : Nat} {M : zM} {n T : Nat} {ky ln : Nat → Nat} (hI : rI M n T ky ln) {k : Nat} (hk : k < 100) : zMet l G b yX10_needsBy cX10_needsBy 3 (some .int) 6 zshL zshL [.ref (b + 239), .int (nI k)] M (zI (fun r M' => r = mnd M n (hvF M (lastK ky 0 T)) k ∧ mSc M M')) := by
  refine zMet.of (L0 := [some (.ref (b + 239)), some (.int (nI k)), none]) (by decide +kernel) (Nat.le_refl _) (Nat.le_refl _) (Nat.le_of_ble_eq_true rfl) (List.forall_mem_cons.mpr ⟨rfl, List.forall_mem_cons.mpr ⟨rfl, fun _ h => absurd h List.not_mem_nil⟩⟩) rfl (fun X C Al K => ?_)
  refine z_aload_n (pc := 0) C 0 dX10_needsBy_0 rfl rfl ?_
  refine z_aload_n (pc := 1) C 0 dX10_needsBy_1 rfl rfl ?_
  refine z_getR (pc := 2) (r := 240) C dX10_needsBy_2 fX10_9 sh_239 rfl ?_
  refine z_aload_n (pc := 5) C 0 dX10_needsBy_5 rfl rfl ?_
  refine z_getR (pc := 6) (r := 244) C dX10_needsBy_6 fX10_22 sh_239 rfl ?_
  refine z_callVv (pc := 9) C dX10_needsBy_9 kX10_175 (mX10_takes sh_240 sh_244 (by decide) (by decide) (by decide) (by decide) (by decide)) (by decide) sh_239 rfl rfl rfl (Nat.le_of_ble_eq_true rfl) (fun M9 h9 => ?_)
  subst h9
  refine z_aload_n (pc := 12) C 0 dX10_needsBy_12 rfl rfl ?_
  refine z_iload_n (pc := 13) C 1 dX10_needsBy_13 rfl rfl ?_
  have q31 : ∀ k, tk M 31 35 65 31 0 0 k = M 31 0 0 k := fun k => by rw [tk_a (by decide)]
  have q8 : tk M 31 35 65 8 = M 8 := tk_a (by decide)
  have q9 : tk M 31 35 65 9 = M 9 := tk_a (by decide)
  refine z_callVi (pc := 14) C dX10_needsBy_14 kX10_179 (mX10_needsOf (hI.sc q31 q8 q9) hk) (by decide) sh_239 rfl rfl rfl (Nat.le_of_ble_eq_true rfl) (fun r14 M14 h14 => ?_)
  obtain ⟨r14e, f14⟩ := h14
  rw [mnd_c q31, hvF_c q8 q9] at r14e
  subst r14e
  refine z_istore_n (pc := 17) C 2 dX10_needsBy_17 rfl (by decide) rfl ?_
  refine z_aload_n (pc := 18) C 0 dX10_needsBy_18 rfl rfl ?_
  refine z_aload_n (pc := 19) C 0 dX10_needsBy_19 rfl rfl ?_
  refine z_getR (pc := 20) (r := 244) C dX10_needsBy_20 fX10_22 sh_239 rfl ?_
  refine z_aload_n (pc := 23) C 0 dX10_needsBy_23 rfl rfl ?_
  refine z_getR (pc := 24) (r := 240) C dX10_needsBy_24 fX10_9 sh_239 rfl ?_
  refine z_callVv (pc := 27) C dX10_needsBy_27 kX10_175 (mX10_takes sh_244 sh_240 (by decide) (by decide) (by decide) (by decide) (by decide)) (by decide) sh_239 rfl rfl rfl (Nat.le_of_ble_eq_true rfl) (fun M27 h27 => ?_)
  subst h27
  refine z_iload_n (pc := 30) C 2 dX10_needsBy_30 rfl rfl ?_
  refine z_ireturn (pc := 31) C K dX10_needsBy_31 ?_
  exact ⟨_, rfl, rfl, sc_back f14⟩

set_option maxHeartbeats 4000000 in
set_option maxRecDepth 100000 in
theorem mX10_needsAll {l : Launch} {G : zG} {b : Nat} {M : zM} {n T : Nat} {ky ln : Nat → Nat} (hI : rI M n T ky ln) : zMet l G b yX10_needsAll cX10_needsAll 3 (some .int) 7 zshL zshL [.ref (b + 239)] M (zI (fun r M' => r = psum (mnd M n (hvF M (lastK ky 0 T))) 0 100 ∧ mSc M M')) := by
  refine zMet.of (L0 := [some (.ref (b + 239)), none, none]) (by decide +kernel) (Nat.le_refl _) (Nat.le_refl _) (Nat.le_of_ble_eq_true rfl) (List.forall_mem_cons.mpr ⟨rfl, fun _ h => absurd h List.not_mem_nil⟩) rfl (fun X C Al K => ?_)
  have loop : ∀ (k i : Nat) (M1 : zM), i + k = 100 → mSc M M1 → zW X zshL M1 4 [some (.ref (b + 239)), some (.int (psum (mnd M n (hvF M (lastK ky 0 T))) 0 i)), some (.int (nI i))] [] := by
    intro k
    induction k with
    | zero =>
      intro i M1 hi hs
      obtain rfl : i = 100 := by omega
      refine z_iload_n (pc := 4) C 2 dX10_needsAll_4 rfl rfl ?_
      refine z_bipush (pc := 5) (v := 100) C dX10_needsAll_5 rfl ?_
      refine z_icmp_ge (pc := 7) C 24 dX10_needsAll_7 (by decide) (fun c7 => ?_) (fun c7 => absurd (by decide) c7)
      refine z_iload_n (pc := 24) C 1 dX10_needsAll_24 rfl rfl ?_
      refine z_ireturn (pc := 25) C K dX10_needsAll_25 ?_
      exact ⟨_, rfl, rfl, hs⟩
    | succ k ih =>
      intro i M1 hi hs
      have q8 : M1 8 = M 8 := hs.2 8 (by decide) (by decide) (by decide) (by decide) (by decide)
      have q9 : M1 9 = M 9 := hs.2 9 (by decide) (by decide) (by decide) (by decide) (by decide)
      refine z_iload_n (pc := 4) C 2 dX10_needsAll_4 rfl rfl ?_
      refine z_bipush (pc := 5) (v := 100) C dX10_needsAll_5 rfl ?_
      refine z_icmp_ge (pc := 7) C 24 dX10_needsAll_7 (by decide) (fun c7 => absurd c7 (nI_ge (b := 100) (by omega) (by omega))) (fun c7 => ?_)
      refine z_iload_n (pc := 10) C 1 dX10_needsAll_10 rfl rfl ?_
      refine z_aload_n (pc := 11) C 0 dX10_needsAll_11 rfl rfl ?_
      refine z_iload_n (pc := 12) C 2 dX10_needsAll_12 rfl rfl ?_
      refine z_callVi (pc := 13) C dX10_needsAll_13 kX10_182 (mX10_needsBy (hI.sc hs.1 q8 q9) (k := i) (by omega)) (by decide) sh_239 rfl rfl rfl (Nat.le_of_ble_eq_true rfl) (fun r13 M13 h13 => ?_)
      obtain ⟨r13e, s13⟩ := h13
      rw [mnd_c hs.1, hvF_c q8 q9] at r13e
      subst r13e
      refine z_iadd (pc := 16) C dX10_needsAll_16 ?_
      refine z_istore_n (pc := 17) C 1 dX10_needsAll_17 rfl (by decide) rfl ?_
      refine z_iinc (pc := 18) (v := 1) C 2 dX10_needsAll_18 (by decide) rfl rfl rfl ?_
      refine z_goto (pc := 21) C 4 dX10_needsAll_21 (by decide) ?_
      have e := ih (i + 1) M13 (by omega) (hs.trans s13)
      rw [nI_succ, psum, Nat.zero_add] at e
      exact e
  refine z_iconst (pc := 0) (v := 0) C dX10_needsAll_0 rfl ?_
  refine z_istore_n (pc := 1) C 1 dX10_needsAll_1 rfl (by decide) rfl ?_
  refine z_iconst (pc := 2) (v := 0) C dX10_needsAll_2 rfl ?_
  refine z_istore_n (pc := 3) C 2 dX10_needsAll_3 rfl (by decide) rfl ?_
  exact loop 100 0 M (by omega) mSc.rfl'

/-- a try's answer and what is behind it, bolts being there (tries aside) -/
def vAns (n : Nat) (V : zVw) : Int32 := if V.1 7 = 0 then zcmp (pVoice V.2 n (V.1 4)) (V.1 3) else 0
def vStep (hv : Int32 → Int32 → Int32 → Int32) (n : Nat) (V : zVw) : zVw := if V.1 7 = 0 then vTurn hv n V else V
/-- the same but for tries -/
def v8 (n : Nat) (V V' : zVw) : Prop := (∀ k, 2 ≤ k → k ≤ 10 → k ≠ 8 → V.1 k = V'.1 k) ∧ peq n V.2 V'.2
theorem v8.symm {n : Nat} {V V' : zVw} (h : v8 n V V') : v8 n V' V := ⟨fun k h1 h2 h3 => (h.1 k h1 h2 h3).symm, h.2.symm⟩
theorem v8.trans {n : Nat} {V V' V2 : zVw} (h : v8 n V V') (h' : v8 n V' V2) : v8 n V V2 := ⟨fun k h1 h2 h3 => (h.1 k h1 h2 h3).trans (h'.1 k h1 h2 h3), h.2.trans h'.2⟩
theorem veq.v8 {n : Nat} {V V' : zVw} (h : veq n V V') : v8 n V V' := ⟨fun k h1 h2 _ => h.1 k h1 h2, h.2⟩
theorem v8_turn {hv : Int32 → Int32 → Int32 → Int32} {n : Nat} {V V' : zVw} (h : v8 n V V') : v8 n (vTurn hv n V) (vTurn hv n V') := by
  have e3 := h.1 3 (by decide) (by decide) (by decide)
  have e4 := h.1 4 (by decide) (by decide) (by decide)
  have e5 := h.1 5 (by decide) (by decide) (by decide)
  unfold vTurn
  rw [pVoice_c h.2, e3, e4, e5]
  by_cases q : pVoice V'.2 n (V'.1 4) = V'.1 3
  · rw [if_pos q, if_pos q]
    exact ⟨fun k h1 h2 h3 => by
      show (if k = 7 then (1 : Int32) else V.1 k) = if k = 7 then 1 else V'.1 k
      rw [h.1 k h1 h2 h3], h.2⟩
  · rw [if_neg q, if_neg q]
    exact ⟨fun k h1 h2 h3 => by
      show (if k = 3 then pFm (V'.1 3 + V'.1 5 * 1) else V.1 k) = if k = 3 then pFm (V'.1 3 + V'.1 5 * 1) else V'.1 k
      rw [h.1 k h1 h2 h3], pAll_c h.2 hv _ _⟩
theorem v8_step {hv : Int32 → Int32 → Int32 → Int32} {n : Nat} {V V' : zVw} (h : v8 n V V') : v8 n (vStep hv n V) (vStep hv n V') ∧ vAns n V = vAns n V' := by
  have e7 := h.1 7 (by decide) (by decide) (by decide)
  have e3 := h.1 3 (by decide) (by decide) (by decide)
  have e4 := h.1 4 (by decide) (by decide) (by decide)
  unfold vStep vAns
  rw [e7, e3, e4, pVoice_c h.2]
  by_cases q : V'.1 7 = 0
  · rw [if_pos q, if_pos q]
    exact ⟨v8_turn h, rfl⟩
  · rw [if_neg q, if_neg q]
    exact ⟨h, rfl⟩
theorem v8_T (n : Nat) (V : zVw) : v8 n (vT V) V := ⟨fun k _ _ h3 => if_neg h3, fun _ _ _ _ => rfl⟩
theorem vTurn8 {hv : Int32 → Int32 → Int32 → Int32} (n : Nat) (V : zVw) : v8 n (vTurn hv n (vT V)) (vTurn hv n V) := v8_turn (v8_T n V)
set_option maxHeartbeats 4000000 in
set_option maxRecDepth 100000 in
theorem mX10_answer {l : Launch} {G : zG} {b : Nat} {M : zM} {n T : Nat} {ky ln : Nat → Nat} (hI : rI M n T ky ln) : zMet l G b yX10_answer cX10_answer 3 (some .int) 5 zshL zshL [.ref (b + 239)] M (zI (fun r M' => r = vAns n (mV M 31) ∧ mFr M M' ∧ rI M' n T ky ln ∧ v8 n (mV M' 31) (vStep (hvF M (lastK ky 0 T)) n (mV M 31)))) := by
  refine zMet.of (L0 := [some (.ref (b + 239)), none, none]) (by decide +kernel) (Nat.le_refl _) (Nat.le_refl _) (Nat.le_of_ble_eq_true rfl) (List.forall_mem_cons.mpr ⟨rfl, fun _ h => absurd h List.not_mem_nil⟩) rfl (fun X C Al K => ?_)
  refine z_aload_n (pc := 0) C 0 dX10_answer_0 rfl rfl ?_
  refine z_getR (pc := 1) (r := 240) C dX10_answer_1 fX10_9 sh_239 rfl ?_
  refine z_bipush (pc := 4) (v := 7) C dX10_answer_4 rfl ?_
  refine z_iald (pc := 6) (n := 7) C dX10_answer_6 sh_240 (zi_in.mpr (by decide)) rfl ?_
  refine z_iconst (pc := 7) (v := 1) C dX10_answer_7 rfl ?_
  refine z_icmp_ne (pc := 8) C 13 dX10_answer_8 (by decide) (fun c8 => ?_) (fun c8 => ?_)
  · refine z_aload_n (pc := 13) C 0 dX10_answer_13 rfl rfl ?_
    refine z_getR (pc := 14) (r := 240) C dX10_answer_14 fX10_9 sh_239 rfl ?_
    refine z_iconst (pc := 17) (v := 3) C dX10_answer_17 rfl ?_
    refine z_iald (pc := 18) (n := 3) C dX10_answer_18 sh_240 (zi_in.mpr (by decide)) rfl ?_
    refine z_istore_n (pc := 19) C 1 dX10_answer_19 rfl (by decide) rfl ?_
    refine z_aload_n (pc := 20) C 0 dX10_answer_20 rfl rfl ?_
    refine z_callVi (pc := 21) C dX10_answer_21 kX10_166 (mX10_turn2 hI) (by decide) sh_239 rfl rfl rfl (Nat.le_of_ble_eq_true rfl) (fun r21 M21 h21 => ?_)
    obtain ⟨t1, t2, t3, t4⟩ := h21
    subst t1
    replace t2 := t2.v8
    refine z_istore_n (pc := 24) C 2 dX10_answer_24 rfl (by decide) rfl ?_
    refine z_iload_n (pc := 25) C 2 dX10_answer_25 rfl rfl ?_
    refine z_iload_n (pc := 26) C 1 dX10_answer_26 rfl rfl ?_
    refine z_icmp_le (pc := 27) C 34 dX10_answer_27 (by decide) (fun c27 => ?_) (fun c27 => ?_)
    · refine z_iload_n (pc := 34) C 2 dX10_answer_34 rfl rfl ?_
      refine z_iload_n (pc := 35) C 1 dX10_answer_35 rfl rfl ?_
      refine z_icmp_ge (pc := 36) C 43 dX10_answer_36 (by decide) (fun c36 => ?_) (fun c36 => ?_)
      · refine z_iconst (pc := 43) (v := 0) C dX10_answer_43 rfl ?_
        refine z_ireturn (pc := 44) C K dX10_answer_44 ?_
        have h70 : M 31 0 0 7 = 0 := by
          rcases hI.1.2.2.2.2.2.2.2 with z | z
          · exact z
          · exact absurd z c8
        refine ⟨_, rfl, ?_, t3, t4, ?_⟩
        · show _ = vAns n (mV M 31)
          unfold vAns
          rw [if_pos (show (mV M 31).1 7 = 0 from h70)]
          show _ = zcmp (pVoice (mp M) n (M 31 0 0 4)) (M 31 0 0 3)
          unfold zcmp
          rw [if_neg (Int32.not_lt.mpr c36), if_pos (Int32.le_antisymm c27 c36)]
        · refine t2.trans ?_
          unfold vStep
          rw [if_pos (show (mV M 31).1 7 = 0 from h70)]
          exact vTurn8 n (mV M 31)
      · refine z_iconst (pc := 39) (v := -1) C dX10_answer_39 rfl ?_
        refine z_goto (pc := 40) C 44 dX10_answer_40 (by decide) ?_
        refine z_ireturn (pc := 44) C K dX10_answer_44 ?_
        have h70 : M 31 0 0 7 = 0 := by
          rcases hI.1.2.2.2.2.2.2.2 with z | z
          · exact z
          · exact absurd z c8
        refine ⟨_, rfl, ?_, t3, t4, ?_⟩
        · show _ = vAns n (mV M 31)
          unfold vAns
          rw [if_pos (show (mV M 31).1 7 = 0 from h70)]
          show _ = zcmp (pVoice (mp M) n (M 31 0 0 4)) (M 31 0 0 3)
          unfold zcmp
          rw [if_pos (Int32.not_le.mp c36)]
        · refine t2.trans ?_
          unfold vStep
          rw [if_pos (show (mV M 31).1 7 = 0 from h70)]
          exact vTurn8 n (mV M 31)
    · refine z_iconst (pc := 30) (v := 1) C dX10_answer_30 rfl ?_
      refine z_goto (pc := 31) C 44 dX10_answer_31 (by decide) ?_
      refine z_ireturn (pc := 44) C K dX10_answer_44 ?_
      have h70 : M 31 0 0 7 = 0 := by
        rcases hI.1.2.2.2.2.2.2.2 with z | z
        · exact z
        · exact absurd z c8
      refine ⟨_, rfl, ?_, t3, t4, ?_⟩
      · show _ = vAns n (mV M 31)
        unfold vAns
        rw [if_pos (show (mV M 31).1 7 = 0 from h70)]
        show _ = zcmp (pVoice (mp M) n (M 31 0 0 4)) (M 31 0 0 3)
        unfold zcmp
        rw [if_neg (fun z => Int32.lt_asymm z (Int32.not_le.mp c27)), if_neg (fun z => by rw [z] at c27; exact c27 (Int32.le_refl _))]
      · refine t2.trans ?_
        unfold vStep
        rw [if_pos (show (mV M 31).1 7 = 0 from h70)]
        exact vTurn8 n (mV M 31)
  · refine z_iconst (pc := 11) (v := 0) C dX10_answer_11 rfl ?_
    refine z_ireturn (pc := 12) C K dX10_answer_12 ?_
    have h7 : ¬ (mV M 31).1 7 = 0 := fun q => absurd (q.symm.trans c8) (by decide)
    refine ⟨_, rfl, ?_, mFr.rfl', hI, ?_⟩
    · unfold vAns
      rw [if_neg h7]
    · unfold vStep
      rw [if_neg h7]
      exact veq.rfl'.v8
