/-! answers by a sheet -/
def vLk (hv : Int32 → Int32 → Int32 → Int32) (n : Nat) (g : Nat → Int32) : Nat → Nat → zVw → Prop
  | 0, _, _ => True
  | k + 1, i, V => (g i = -1000000005 ∨ g i = vAns n V) ∧ vLk hv n g k (i + 1) (vStep hv n V)
theorem vLk_c {hv : Int32 → Int32 → Int32 → Int32} {n : Nat} {g g' : Nat → Int32} : ∀ (k i : Nat) {V V' : zVw}, v8 n V V' → (∀ j, i ≤ j → j < i + k → g j = g' j) → (vLk hv n g k i V ↔ vLk hv n g' k i V')
  | 0, _, _, _, _, _ => Iff.rfl
  | k + 1, i, V, V', h, hg => by
    obtain ⟨h1, h2⟩ := v8_step (hv := hv) h
    rw [vLk, vLk, hg i (Nat.le_refl _) (by omega), h2, vLk_c k (i + 1) h1 (fun j h3 h4 => hg j (by omega) (by omega))]
def vNum (V : zVw) (x : Int32) : zVw := (fun k => if k = 3 then x else V.1 k, V.2)
theorem vOK_step {hv : Int32 → Int32 → Int32 → Int32} (hh : ∀ x y z, 0 ≤ (hv x y z).toInt ∧ (hv x y z).toInt ≤ 99) {n : Nat} {V : zVw} (g : vOK n V) : vOK n (vStep hv n V) := by
  unfold vStep
  split
  · exact vOK_turn hh g
  · exact g
theorem zcmp_b (x y : Int32) : zcmp x y = zcmp x y := rfl
set_option maxHeartbeats 4000000 in
set_option maxRecDepth 100000 in
theorem mX8_wouldAnswer {l : Launch} {G : zG} {b : Nat} {M : zM} {w n : Nat} (hw : w < 14) {hv : Int32 → Int32 → Int32 → Int32} (hh : ∀ x y z, 0 ≤ (hv x y z).toInt ∧ (hv x y z).toInt ≤ 99) (hI : cI M w n hv) {k : Nat} (hk : k < 100) {s z : Nat} (hs : s < 9) (hz : M 3 s 0 1 = nI z) (hz24 : z ≤ 24) : zMet l G b yX8_wouldAnswer cX8_wouldAnswer 5 (some .boolean) 5 zshL zshL [.ref (b + adW w), .int (nI k), .ref (b + adS s)] M (zI (fun r M' => ((r = 1 ∧ vLk hv n (M 4 s 0) z 0 (vNum (cV M w) (nI k))) ∨ (r = 0 ∧ ¬ vLk hv n (M 4 s 0) z 0 (vNum (cV M w) (nI k)))) ∧ cFr M M' w)) := by
  refine zMet.of (L0 := [some (.ref (b + adW w)), some (.int (nI k)), some (.ref (b + adS s)), none, none]) (by decide +kernel) (Nat.le_refl _) (Nat.le_refl _) (Nat.le_of_ble_eq_true rfl) (List.forall_mem_cons.mpr ⟨rfl, List.forall_mem_cons.mpr ⟨rfl, List.forall_mem_cons.mpr ⟨rfl, fun _ h => absurd h List.not_mem_nil⟩⟩⟩) rfl (fun X C Al K => ?_)
  have loop : ∀ (c i : Nat) (M1 : zM) (q : Option Value), i + c = z → cI M1 w n hv → cFr M M1 w → (vLk hv n (M 4 s 0) z 0 (vNum (cV M w) (nI k)) ↔ vLk hv n (M 4 s 0) c i (cV M1 w)) → zW X zshL M1 7 [some (.ref (b + adW w)), some (.int (nI k)), some (.ref (b + adS s)), some (.int (nI i)), q] [] := by
    intro c
    induction c with
    | zero =>
      intro i M1 q hi hI1 hf hl
      have hz1 : M1 3 s 0 1 = nI z := by rw [hf.k (a := 3) (by decide)]; exact hz
      refine z_iload_n (pc := 7) C 3 dX8_wouldAnswer_7 rfl rfl ?_
      refine z_aload_n (pc := 8) C 2 dX8_wouldAnswer_8 rfl rfl ?_
      refine z_getI (pc := 9) C dX8_wouldAnswer_9 fX8_144 (shS hs) rfl ?_
      refine z_icmp_ge (pc := 12) C 62 dX8_wouldAnswer_12 (by decide) (fun c12 => ?_) (fun c12 => absurd (zlt hz1 (by omega) (by omega)) c12)
      refine z_iconst (pc := 62) (v := 1) C dX8_wouldAnswer_62 rfl ?_
      refine z_zreturn (pc := 63) C K dX8_wouldAnswer_63 (Or.inr rfl) ?_
      exact ⟨_, rfl, Or.inl ⟨rfl, hl.mpr trivial⟩, hf⟩
    | succ c ih =>
      intro i M1 q hi hI1 hf hl
      have hz1 : M1 3 s 0 1 = nI z := by rw [hf.k (a := 3) (by decide)]; exact hz
      have hg1 : ∀ M2 : zM, cFr M M2 w → M2 4 s 0 i = M 4 s 0 i := fun M2 h => by rw [h.k (a := 4) (by decide)]
      rw [vLk] at hl
      refine z_iload_n (pc := 7) C 3 dX8_wouldAnswer_7 rfl rfl ?_
      refine z_aload_n (pc := 8) C 2 dX8_wouldAnswer_8 rfl rfl ?_
      refine z_getI (pc := 9) C dX8_wouldAnswer_9 fX8_144 (shS hs) rfl ?_
      refine z_icmp_ge (pc := 12) C 62 dX8_wouldAnswer_12 (by decide) (fun c12 => absurd c12 (zlf hz1 (by omega) (by omega))) (fun c12 => ?_)
      refine z_aload_n (pc := 15) C 0 dX8_wouldAnswer_15 rfl rfl ?_
      refine z_getI (pc := 16) C dX8_wouldAnswer_16 fX8_33 (shW hw) rfl ?_
      refine z_if_eq (pc := 19) C 26 dX8_wouldAnswer_19 (by decide) (fun c19 => ?_) (fun c19 => ?_)
      · refine z_aload_n (pc := 26) C 0 dX8_wouldAnswer_26 rfl rfl ?_
        refine z_callVi (pc := 27) C dX8_wouldAnswer_27 kX8_116 (mX8_turn2 hw hI1) (by decide) (shW hw) rfl rfl rfl (Nat.le_of_ble_eq_true rfl) (fun r27 M27 h27 => ?_)
        obtain ⟨t1, t2, t3⟩ := h27
        have f27 := hf.trans t3
        have i27 : cI M27 w n hv := hI1.on t3 (vOK_c t2.symm (vOK_turn hh hI1.1))
        have a27 : r27 = vAns n (cV M1 w) := t1.trans (if_pos c19).symm
        refine z_istore (pc := 30) C 4 dX8_wouldAnswer_30 (by decide) rfl ?_
        refine z_aload_n (pc := 32) C 2 dX8_wouldAnswer_32 rfl rfl ?_
        refine z_getR (pc := 33) (r := adS s + 1) C dX8_wouldAnswer_33 fX8_147 (shS hs) rfl ?_
        refine z_iload_n (pc := 36) C 3 dX8_wouldAnswer_36 rfl rfl ?_
        refine z_iald (pc := 37) (n := i) C dX8_wouldAnswer_37 (shSp hs) (vp_in_nI (by omega) (by omega)) (nI_clamp (by omega)) ?_
        refine z_ldc (pc := 38) C q3_105 dX8_wouldAnswer_38 ?_
        refine z_icmp_eq (pc := 40) C 56 dX8_wouldAnswer_40 (by decide) (fun c40 => ?_) (fun c40 => ?_)
        · refine z_iinc (pc := 56) (v := 1) C 3 dX8_wouldAnswer_56 (by decide) rfl rfl rfl ?_
          refine z_goto (pc := 59) C 7 dX8_wouldAnswer_59 (by decide) ?_
          rw [hg1 M27 f27] at c40
          have e := ih (i + 1) M27 (some (.int r27)) (by omega) i27 f27 ?_
          · rw [nI_succ] at e
            exact e
          · rw [hl]
            have ev : vStep hv n (cV M1 w) = vTurn hv n (cV M1 w) := if_pos c19
            rw [ev]
            exact ⟨fun y => (vLk_c c (i + 1) t2.v8.symm (fun _ _ _ => rfl)).mp y.2, fun y => ⟨(Or.inl c40), (vLk_c c (i + 1) t2.v8.symm (fun _ _ _ => rfl)).mpr y⟩⟩
        · refine z_aload_n (pc := 43) C 2 dX8_wouldAnswer_43 rfl rfl ?_
          refine z_getR (pc := 44) (r := adS s + 1) C dX8_wouldAnswer_44 fX8_147 (shS hs) rfl ?_
          refine z_iload_n (pc := 47) C 3 dX8_wouldAnswer_47 rfl rfl ?_
          refine z_iald (pc := 48) (n := i) C dX8_wouldAnswer_48 (shSp hs) (vp_in_nI (by omega) (by omega)) (nI_clamp (by omega)) ?_
          refine z_iload (pc := 49) C 4 dX8_wouldAnswer_49 rfl ?_
          refine z_icmp_eq (pc := 51) C 56 dX8_wouldAnswer_51 (by decide) (fun c51 => ?_) (fun c51 => ?_)
          · refine z_iinc (pc := 56) (v := 1) C 3 dX8_wouldAnswer_56 (by decide) rfl rfl rfl ?_
            refine z_goto (pc := 59) C 7 dX8_wouldAnswer_59 (by decide) ?_
            rw [hg1 M27 f27] at c51
            have e := ih (i + 1) M27 (some (.int r27)) (by omega) i27 f27 ?_
            · rw [nI_succ] at e
              exact e
            · rw [hl]
              have ev : vStep hv n (cV M1 w) = vTurn hv n (cV M1 w) := if_pos c19
              rw [ev]
              exact ⟨fun y => (vLk_c c (i + 1) t2.v8.symm (fun _ _ _ => rfl)).mp y.2, fun y => ⟨(Or.inr (by rw [← a27]; exact c51)), (vLk_c c (i + 1) t2.v8.symm (fun _ _ _ => rfl)).mpr y⟩⟩
          · refine z_iconst (pc := 54) (v := 0) C dX8_wouldAnswer_54 rfl ?_
            refine z_zreturn (pc := 55) C K dX8_wouldAnswer_55 (Or.inl rfl) ?_
            rw [hg1 M27 f27] at c40 c51
            exact ⟨_, rfl, Or.inr ⟨rfl, fun y => (hl.mp y).1.elim (fun e => c40 e) (fun e => c51 (by rw [e, a27]))⟩, f27⟩
      · have a0 : (0 : Int32) = vAns n (cV M1 w) := (if_neg c19).symm
        refine z_iconst (pc := 22) (v := 0) C dX8_wouldAnswer_22 rfl ?_
        refine z_goto (pc := 23) C 30 dX8_wouldAnswer_23 (by decide) ?_
        refine z_istore (pc := 30) C 4 dX8_wouldAnswer_30 (by decide) rfl ?_
        refine z_aload_n (pc := 32) C 2 dX8_wouldAnswer_32 rfl rfl ?_
        refine z_getR (pc := 33) (r := adS s + 1) C dX8_wouldAnswer_33 fX8_147 (shS hs) rfl ?_
        refine z_iload_n (pc := 36) C 3 dX8_wouldAnswer_36 rfl rfl ?_
        refine z_iald (pc := 37) (n := i) C dX8_wouldAnswer_37 (shSp hs) (vp_in_nI (by omega) (by omega)) (nI_clamp (by omega)) ?_
        refine z_ldc (pc := 38) C q3_105 dX8_wouldAnswer_38 ?_
        refine z_icmp_eq (pc := 40) C 56 dX8_wouldAnswer_40 (by decide) (fun c40 => ?_) (fun c40 => ?_)
        · refine z_iinc (pc := 56) (v := 1) C 3 dX8_wouldAnswer_56 (by decide) rfl rfl rfl ?_
          refine z_goto (pc := 59) C 7 dX8_wouldAnswer_59 (by decide) ?_
          rw [hg1 M1 hf] at c40
          have e := ih (i + 1) M1 (some (.int 0)) (by omega) hI1 hf ?_
          · rw [nI_succ] at e
            exact e
          · rw [hl]
            have ev : vStep hv n (cV M1 w) = cV M1 w := if_neg c19
            rw [ev]
            exact ⟨fun y => y.2, fun y => ⟨(Or.inl c40), y⟩⟩
        · refine z_aload_n (pc := 43) C 2 dX8_wouldAnswer_43 rfl rfl ?_
          refine z_getR (pc := 44) (r := adS s + 1) C dX8_wouldAnswer_44 fX8_147 (shS hs) rfl ?_
          refine z_iload_n (pc := 47) C 3 dX8_wouldAnswer_47 rfl rfl ?_
          refine z_iald (pc := 48) (n := i) C dX8_wouldAnswer_48 (shSp hs) (vp_in_nI (by omega) (by omega)) (nI_clamp (by omega)) ?_
          refine z_iload (pc := 49) C 4 dX8_wouldAnswer_49 rfl ?_
          refine z_icmp_eq (pc := 51) C 56 dX8_wouldAnswer_51 (by decide) (fun c51 => ?_) (fun c51 => ?_)
          · refine z_iinc (pc := 56) (v := 1) C 3 dX8_wouldAnswer_56 (by decide) rfl rfl rfl ?_
            refine z_goto (pc := 59) C 7 dX8_wouldAnswer_59 (by decide) ?_
            rw [hg1 M1 hf] at c51
            have e := ih (i + 1) M1 (some (.int 0)) (by omega) hI1 hf ?_
            · rw [nI_succ] at e
              exact e
            · rw [hl]
              have ev : vStep hv n (cV M1 w) = cV M1 w := if_neg c19
              rw [ev]
              exact ⟨fun y => y.2, fun y => ⟨(Or.inr (by rw [← a0]; exact c51)), y⟩⟩
          · refine z_iconst (pc := 54) (v := 0) C dX8_wouldAnswer_54 rfl ?_
            refine z_zreturn (pc := 55) C K dX8_wouldAnswer_55 (Or.inl rfl) ?_
            rw [hg1 M1 hf] at c40 c51
            exact ⟨_, rfl, Or.inr ⟨rfl, fun y => (hl.mp y).1.elim (fun e => c40 e) (fun e => c51 (by rw [e, a0]))⟩, hf⟩
  refine z_aload_n (pc := 0) C 0 dX8_wouldAnswer_0 rfl rfl ?_
  refine z_iload_n (pc := 1) C 1 dX8_wouldAnswer_1 rfl rfl ?_
  refine z_putII (pc := 2) C dX8_wouldAnswer_2 fX8_21 (shW hw) rfl ?_
  refine z_iconst (pc := 5) (v := 0) C dX8_wouldAnswer_5 rfl ?_
  refine z_istore_n (pc := 6) C 3 dX8_wouldAnswer_6 rfl (by decide) rfl ?_
  have hf0 : cFr M (zu M 5 w 0 3 (nI k)) w := fun a x y f z => zu_ne _ _ (fun e => z (Or.inr ⟨Or.inr e.1, e.2.1⟩))
  have ev : veq n (cV (zu M 5 w 0 3 (nI k)) w) (vNum (cV M w) (nI k)) := by
    refine ⟨fun j _ _ => ?_, fun i f _ _ => by show zu M 5 w 0 3 (nI k) 1 w i f = M 1 w i f; rw [zu_a (by decide)]⟩
    show zu M 5 w 0 3 (nI k) 5 w 0 j = if j = 3 then nI k else M 5 w 0 j
    by_cases e : j = 3
    · rw [e, zu_self, if_pos rfl]
    · rw [zu_f e, if_neg e]
  have hV : vOK n (vNum (cV M w) (nI k)) := by
    obtain ⟨g1, g2, g3, g4, g5, g6, g7, g8⟩ := hI.1
    refine ⟨g1, g2, g3, ?_, g5, g6, g7, g8⟩
    show 0 ≤ (nI k).toInt ∧ (nI k).toInt ≤ 99
    rw [nI_toInt (by omega)]
    omega
  exact loop z 0 _ _ (by omega) (hI.on hf0 (vOK_c ev.symm hV)) hf0 (vLk_c z 0 ev.v8.symm (fun _ _ _ => rfl))

set_option maxHeartbeats 4000000 in
set_option maxRecDepth 100000 in
theorem mX10_answersBy {l : Launch} {G : zG} {b : Nat} {M : zM} {n T : Nat} {ky ln : Nat → Nat} (hI : rI M n T ky ln) {s z k : Nat} (hs : s < 4) (hz : M 45 0 0 s = nI z) (hz24 : z ≤ 24) (hk : k < 100) : zMet l G b yX10_answersBy cX10_answersBy 7 (some .boolean) 6 zshL zshL [.ref (b + 239), .int (nI s), .int (nI k)] M (zI (fun r M' => ((r = 1 ∧ vLk (hvF M (lastK ky 0 T)) n (fun j => M 46 0 0 (24 * s + j)) z 0 (vNum (mV M 31) (nI k))) ∨ (r = 0 ∧ ¬ vLk (hvF M (lastK ky 0 T)) n (fun j => M 46 0 0 (24 * s + j)) z 0 (vNum (mV M 31) (nI k)))) ∧ mSc M M')) := by
  refine zMet.of (L0 := [some (.ref (b + 239)), some (.int (nI s)), some (.int (nI k)), none, none, none, none]) (by decide +kernel) (Nat.le_refl _) (Nat.le_refl _) (Nat.le_of_ble_eq_true rfl) (List.forall_mem_cons.mpr ⟨rfl, List.forall_mem_cons.mpr ⟨rfl, List.forall_mem_cons.mpr ⟨rfl, fun _ h => absurd h List.not_mem_nil⟩⟩⟩) rfl (fun X C Al K => ?_)
  have fin : ∀ (M1 : zM) (r : Int32) (q4 q5 q6 : Option Value), mFr (tk M 31 35 65) M1 → ((r = 1 ∧ vLk (hvF M (lastK ky 0 T)) n (fun j => M 46 0 0 (24 * s + j)) z 0 (vNum (mV M 31) (nI k))) ∨ (r = 0 ∧ ¬ vLk (hvF M (lastK ky 0 T)) n (fun j => M 46 0 0 (24 * s + j)) z 0 (vNum (mV M 31) (nI k)))) → zW X zshL M1 85 [some (.ref (b + 239)), some (.int (nI s)), some (.int (nI k)), some (.int r), q4, q5, q6] [] := by
    intro M1 r q4 q5 q6 hf hr
    refine z_aload_n (pc := 85) C 0 dX10_answersBy_85 rfl rfl ?_
    refine z_aload_n (pc := 86) C 0 dX10_answersBy_86 rfl rfl ?_
    refine z_getR (pc := 87) (r := 244) C dX10_answersBy_87 fX10_22 sh_239 rfl ?_
    refine z_aload_n (pc := 90) C 0 dX10_answersBy_90 rfl rfl ?_
    refine z_getR (pc := 91) (r := 240) C dX10_answersBy_91 fX10_9 sh_239 rfl ?_
    refine z_callVv (pc := 94) C dX10_answersBy_94 kX10_175 (mX10_takes sh_244 sh_240 (by decide) (by decide) (by decide) (by decide) (by decide)) (by decide) sh_239 rfl rfl rfl (Nat.le_of_ble_eq_true rfl) (fun M94 h94 => ?_)
    subst h94
    refine z_iload_n (pc := 97) C 3 dX10_answersBy_97 rfl rfl ?_
    refine z_zreturn (pc := 98) C K dX10_answersBy_98 (hr.elim (fun q => Or.inr q.1) (fun q => Or.inl q.1)) ?_
    exact ⟨_, rfl, hr, sc_back hf⟩
  have loop : ∀ (c i : Nat) (M1 : zM) (q5 q6 : Option Value), i + c = z → rI M1 n T ky ln → mFr (tk M 31 35 65) M1 → (vLk (hvF M (lastK ky 0 T)) n (fun j => M 46 0 0 (24 * s + j)) z 0 (vNum (mV M 31) (nI k)) ↔ vLk (hvF M (lastK ky 0 T)) n (fun j => M 46 0 0 (24 * s + j)) c i (mV M1 31)) → zW X zshL M1 24 [some (.ref (b + 239)), some (.int (nI s)), some (.int (nI k)), some (.int 1), some (.int (nI i)), q5, q6] [] := by
    intro c
    induction c with
    | zero =>
      intro i M1 q5 q6 hi hI1 hf hl
      have hz1 : M1 45 0 0 s = nI z := by rw [hf.1 45 (by decide) (by decide) (by decide), tk_a (by decide)]; exact hz
      refine z_iload (pc := 24) C 4 dX10_answersBy_24 rfl ?_
      refine z_aload_n (pc := 26) C 0 dX10_answersBy_26 rfl rfl ?_
      refine z_getR (pc := 27) (r := 254) C dX10_answersBy_27 fX10_54 sh_239 rfl ?_
      refine z_iload_n (pc := 30) C 1 dX10_answersBy_30 rfl rfl ?_
      refine z_iald (pc := 31) (n := s) C dX10_answersBy_31 sh_254 (vp_in_nI (by omega) (by omega)) (nI_clamp (by omega)) ?_
      refine z_icmp_ge (pc := 32) C 85 dX10_answersBy_32 (by decide) (fun c32 => ?_) (fun c32 => absurd (zlt hz1 (by omega) (by omega)) c32)
      exact fin M1 1 _ _ _ hf (Or.inl ⟨rfl, hl.mpr trivial⟩)
    | succ c ih =>
      intro i M1 q5 q6 hi hI1 hf hl
      have hz1 : M1 45 0 0 s = nI z := by rw [hf.1 45 (by decide) (by decide) (by decide), tk_a (by decide)]; exact hz
      have hg1 : M1 46 0 0 (24 * s + i) = M 46 0 0 (24 * s + i) := by rw [hf.1 46 (by decide) (by decide) (by decide), tk_a (by decide)]
      have hix : 24 * nI s + nI i = nI (24 * s + i) := by
        show nI 24 * nI s + nI i = _
        rw [pk_mul, nI_add]
      have hvE : hvF M1 (lastK ky 0 T) = hvF M (lastK ky 0 T) := by
        rw [hf.hv]
        exact hvF_c (tk_a (by decide)) (tk_a (by decide)) _
      rw [vLk] at hl
      refine z_iload (pc := 24) C 4 dX10_answersBy_24 rfl ?_
      refine z_aload_n (pc := 26) C 0 dX10_answersBy_26 rfl rfl ?_
      refine z_getR (pc := 27) (r := 254) C dX10_answersBy_27 fX10_54 sh_239 rfl ?_
      refine z_iload_n (pc := 30) C 1 dX10_answersBy_30 rfl rfl ?_
      refine z_iald (pc := 31) (n := s) C dX10_answersBy_31 sh_254 (vp_in_nI (by omega) (by omega)) (nI_clamp (by omega)) ?_
      refine z_icmp_ge (pc := 32) C 85 dX10_answersBy_32 (by decide) (fun c32 => absurd c32 (zlf hz1 (by omega) (by omega))) (fun c32 => ?_)
      refine z_iload_n (pc := 35) C 3 dX10_answersBy_35 rfl rfl ?_
      refine z_if_eq (pc := 36) C 85 dX10_answersBy_36 (by decide) (fun c36 => absurd c36 (by decide)) (fun c36 => ?_)
      refine z_aload_n (pc := 39) C 0 dX10_answersBy_39 rfl rfl ?_
      refine z_getR (pc := 40) (r := 255) C dX10_answersBy_40 fX10_57 sh_239 rfl ?_
      refine z_bipush (pc := 43) (v := 24) C dX10_answersBy_43 rfl ?_
      refine z_iload_n (pc := 45) C 1 dX10_answersBy_45 rfl rfl ?_
      refine z_imul (pc := 46) C dX10_answersBy_46 ?_
      refine z_iload (pc := 47) C 4 dX10_answersBy_47 rfl ?_
      refine z_iadd (pc := 49) C dX10_answersBy_49 ?_
      refine z_iald (pc := 50) (n := 24 * s + i) C dX10_answersBy_50 sh_255 (by rw [hix]; exact vp_in_nI (by omega) (by omega)) (by rw [hix]; exact nI_clamp (by omega)) ?_
      rw [hg1]
      refine z_istore (pc := 51) C 5 dX10_answersBy_51 (by decide) rfl ?_
      refine z_aload_n (pc := 53) C 0 dX10_answersBy_53 rfl rfl ?_
      refine z_callVi (pc := 54) C dX10_answersBy_54 kX10_195 (mX10_answer hI1) (by decide) sh_239 rfl rfl rfl (Nat.le_of_ble_eq_true rfl) (fun r54 M54 h54 => ?_)
      refine z_istore (pc := 57) C 6 dX10_answersBy_57 (by decide) rfl ?_
      refine z_iload (pc := 59) C 5 dX10_answersBy_59 rfl ?_
      refine z_ldc (pc := 61) C q5_211 dX10_answersBy_61 ?_
      refine z_icmp_eq (pc := 63) C 73 dX10_answersBy_63 (by decide) (fun c63 => ?_) (fun c63 => ?_)
      · refine z_iconst (pc := 73) (v := 1) C dX10_answersBy_73 rfl ?_
        refine z_goto (pc := 74) C 78 dX10_answersBy_74 (by decide) ?_
        refine z_istore_n (pc := 78) C 3 dX10_answersBy_78 rfl (by decide) rfl ?_
        refine z_iinc (pc := 79) (v := 1) C 4 dX10_answersBy_79 (by decide) rfl rfl rfl ?_
        refine z_goto (pc := 82) C 24 dX10_answersBy_82 (by decide) ?_
        obtain ⟨t1, t2, t3, t4⟩ := h54
        rw [hvE] at t4
        have e := ih (i + 1) M54 (some (.int (M 46 0 0 (24 * s + i)))) (some (.int r54)) (by omega) t3 (hf.trans t2) ?_
        · rw [nI_succ] at e
          exact e
        · rw [hl]
          exact ⟨fun y => (vLk_c c (i + 1) t4.symm (fun _ _ _ => rfl)).mp y.2, fun y => ⟨Or.inl c63, (vLk_c c (i + 1) t4.symm (fun _ _ _ => rfl)).mpr y⟩⟩
      · refine z_iload (pc := 66) C 5 dX10_answersBy_66 rfl ?_
        refine z_iload (pc := 68) C 6 dX10_answersBy_68 rfl ?_
        refine z_icmp_ne (pc := 70) C 77 dX10_answersBy_70 (by decide) (fun c70 => ?_) (fun c70 => ?_)
        · refine z_iconst (pc := 77) (v := 0) C dX10_answersBy_77 rfl ?_
          refine z_istore_n (pc := 78) C 3 dX10_answersBy_78 rfl (by decide) rfl ?_
          refine z_iinc (pc := 79) (v := 1) C 4 dX10_answersBy_79 (by decide) rfl rfl rfl ?_
          refine z_goto (pc := 82) C 24 dX10_answersBy_82 (by decide) ?_
          obtain ⟨t1, t2, t3, t4⟩ := h54
          rw [hvE] at t4
          refine z_iload (pc := 24) C 4 dX10_answersBy_24 rfl ?_
          refine z_aload_n (pc := 26) C 0 dX10_answersBy_26 rfl rfl ?_
          refine z_getR (pc := 27) (r := 254) C dX10_answersBy_27 fX10_54 sh_239 rfl ?_
          refine z_iload_n (pc := 30) C 1 dX10_answersBy_30 rfl rfl ?_
          refine z_iald (pc := 31) (n := s) C dX10_answersBy_31 sh_254 (vp_in_nI (by omega) (by omega)) (nI_clamp (by omega)) ?_
          refine z_icmp_ge (pc := 32) C 85 dX10_answersBy_32 (by decide) (fun c32 => ?_) (fun c32 => ?_)
          · exact fin M54 0 _ _ _ (hf.trans t2) (Or.inr ⟨rfl, fun y => (hl.mp y).1.elim (fun e => c63 e) (fun e => c70 (by rw [e, t1]))⟩)
          · refine z_iload_n (pc := 35) C 3 dX10_answersBy_35 rfl rfl ?_
            refine z_if_eq (pc := 36) C 85 dX10_answersBy_36 (by decide) (fun c36 => ?_) (fun c36 => absurd rfl c36)
            exact fin M54 0 _ _ _ (hf.trans t2) (Or.inr ⟨rfl, fun y => (hl.mp y).1.elim (fun e => c63 e) (fun e => c70 (by rw [e, t1]))⟩)
        · refine z_iconst (pc := 73) (v := 1) C dX10_answersBy_73 rfl ?_
          refine z_goto (pc := 74) C 78 dX10_answersBy_74 (by decide) ?_
          refine z_istore_n (pc := 78) C 3 dX10_answersBy_78 rfl (by decide) rfl ?_
          refine z_iinc (pc := 79) (v := 1) C 4 dX10_answersBy_79 (by decide) rfl rfl rfl ?_
          refine z_goto (pc := 82) C 24 dX10_answersBy_82 (by decide) ?_
          obtain ⟨t1, t2, t3, t4⟩ := h54
          rw [hvE] at t4
          have e := ih (i + 1) M54 (some (.int (M 46 0 0 (24 * s + i)))) (some (.int r54)) (by omega) t3 (hf.trans t2) ?_
          · rw [nI_succ] at e
            exact e
          · rw [hl]
            exact ⟨fun y => (vLk_c c (i + 1) t4.symm (fun _ _ _ => rfl)).mp y.2, fun y => ⟨Or.inr (by rw [← t1]; exact c70), (vLk_c c (i + 1) t4.symm (fun _ _ _ => rfl)).mpr y⟩⟩
  refine z_aload_n (pc := 0) C 0 dX10_answersBy_0 rfl rfl ?_
  refine z_aload_n (pc := 1) C 0 dX10_answersBy_1 rfl rfl ?_
  refine z_getR (pc := 2) (r := 240) C dX10_answersBy_2 fX10_9 sh_239 rfl ?_
  refine z_aload_n (pc := 5) C 0 dX10_answersBy_5 rfl rfl ?_
  refine z_getR (pc := 6) (r := 244) C dX10_answersBy_6 fX10_22 sh_239 rfl ?_
  refine z_callVv (pc := 9) C dX10_answersBy_9 kX10_175 (mX10_takes sh_240 sh_244 (by decide) (by decide) (by decide) (by decide) (by decide)) (by decide) sh_239 rfl rfl rfl (Nat.le_of_ble_eq_true rfl) (fun M9 h9 => ?_)
  subst h9
  refine z_aload_n (pc := 12) C 0 dX10_answersBy_12 rfl rfl ?_
  refine z_getR (pc := 13) (r := 240) C dX10_answersBy_13 fX10_9 sh_239 rfl ?_
  refine z_iconst (pc := 16) (v := 3) C dX10_answersBy_16 rfl ?_
  refine z_iload_n (pc := 17) C 2 dX10_answersBy_17 rfl rfl ?_
  refine z_iast (pc := 18) (n := 3) C dX10_answersBy_18 sh_240 (zi_in.mpr (by decide)) rfl ?_
  refine z_iconst (pc := 19) (v := 1) C dX10_answersBy_19 rfl ?_
  refine z_istore_n (pc := 20) C 3 dX10_answersBy_20 rfl (by decide) rfl ?_
  refine z_iconst (pc := 21) (v := 0) C dX10_answersBy_21 rfl ?_
  refine z_istore (pc := 22) C 4 dX10_answersBy_22 (by decide) rfl ?_
  have q31 : ∀ k, tk M 31 35 65 31 0 0 k = M 31 0 0 k := fun k => by rw [tk_a (by decide)]
  have q8 : tk M 31 35 65 8 = M 8 := tk_a (by decide)
  have q9 : tk M 31 35 65 9 = M 9 := tk_a (by decide)
  obtain ⟨p1, p2⟩ := rI_num (hI.sc q31 q8 q9) hk
  refine loop z 0 _ _ _ (by omega) p1 p2 (vLk_c z 0 (veq.v8 ?_) (fun _ _ _ => rfl))
  refine ⟨fun j h1 h2 => ?_, fun i f _ _ => ?_⟩
  · show (if j = 3 then nI k else M 31 0 0 (mm j)) = zu (tk M 31 35 65) 31 0 0 3 (nI k) 31 0 0 (mm j)
    rcases (show j = 2 ∨ j = 3 ∨ j = 4 ∨ j = 5 ∨ j = 6 ∨ j = 7 ∨ j = 8 ∨ j = 9 ∨ j = 10 by omega) with rfl | rfl | rfl | rfl | rfl | rfl | rfl | rfl | rfl <;> simp [mm, zu, q31]
  · show M 31 0 0 (9 + 7 * i + f) = zu (tk M 31 35 65) 31 0 0 3 (nI k) 31 0 0 (9 + 7 * i + f)
    rw [zu_f (by omega), q31]
