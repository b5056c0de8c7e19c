/-! TEXTS OF BOTH; the reference's setsTo, saysNow -/
def TX (M : zM) (T : Nat) (ky ln : Nat → Nat) : Prop := T ≤ 14 ∧ ∀ t, t < T → ky t < 3 ∧ ln t ≤ 96 ∧ M 8 t 0 0 = nI (ky t) ∧ M 8 t 0 2 = nI (ln t) ∧ (∀ i, i < ln t → cOK (M 9 t 0 i) ∧ (ky t ≠ 0 → M 9 t 0 i ≠ 10002)) ∧ ∀ x y z, ∃ r, eRun x y z (M 9 t 0) (ln t) = some [r]
def mTX (M : zM) (a T : Nat) (ky ln : Nat → Nat) : Prop := ∀ t, t < T → M a 0 0 (65 + 2 * t) = nI (1000 * ky t + ln t) ∧ M a 0 0 (66 + 2 * t) = M 8 t 0 1 ∧ ∀ i, i < ln t → M a 0 0 (93 + 96 * t + i) = tr (M 9 t 0 i)
def tval (M : zM) (t : Nat) (x y z : Int32) : Int32 := match eRun x y z (M 9 t 0) (M 8 t 0 2).toNatClampNeg with
  | some (r :: _) => r
  | _ => 0
def hvF (M : zM) (lw : Int32) : Int32 → Int32 → Int32 → Int32 := fun x y z => if lw < 0 then zheld ((x + y) / 2) else zheld (tval M lw.toNatClampNeg x y z)
theorem hvF_c {M M' : zM} (h8 : M' 8 = M 8) (h9 : M' 9 = M 9) (lw : Int32) : hvF M' lw = hvF M lw := by
  unfold hvF tval
  rw [h8, h9]
theorem lastK_cases (ky : Nat → Nat) (key : Nat) : ∀ T, lastK ky key T = -1 ∨ ∃ t, t < T ∧ lastK ky key T = nI t ∧ ky t = key
  | 0 => Or.inl rfl
  | T + 1 => by
    rw [lastK]
    split
    · rename_i h
      exact Or.inr ⟨T, by omega, rfl, h⟩
    · rcases lastK_cases ky key T with h | ⟨t, h1, h2⟩
      · exact Or.inl h
      · exact Or.inr ⟨t, by omega, h2⟩
theorem TX.val {M : zM} {T : Nat} {ky ln : Nat → Nat} (h : TX M T ky ln) {t : Nat} (ht : t < T) (x y z : Int32) : eRun x y z (M 9 t 0) (ln t) = some [tval M t x y z] ∧ tGives M t x y z (tval M t x y z) := by
  obtain ⟨h1, h2, h3, h4, h5, h6⟩ := h.2 t ht
  obtain ⟨r, hr⟩ := h6 x y z
  have e : tval M t x y z = r := by
    unfold tval
    rw [h4, nI_clamp (by omega), hr]
  rw [e]
  exact ⟨hr, ln t, h2, h4, hr⟩
theorem TX.okS {M : zM} {T : Nat} {ky ln : Nat → Nat} (h : TX M T ky ln) : okS M (lastK ky 0 T) (hvF M (lastK ky 0 T)) := by
  rcases lastK_cases ky 0 T with e | ⟨t, h1, h2, h3⟩
  · rw [e]
    exact Or.inl ⟨by decide, fun x y z => if_pos (by decide)⟩
  · have h14 := h.1
    rw [h2]
    refine Or.inr ⟨t, by omega, rfl, fun x y z => ⟨tval M t x y z, (h.val h1 x y z).2, ?_⟩⟩
    unfold hvF
    rw [if_neg (nI_pos (by omega)), nI_clamp (by omega)]
theorem zheld_id {x : Int32} (h1 : 0 ≤ x.toInt) (h2 : x.toInt ≤ 99) : zheld x = x := by
  have c0 : (0 : Int32).toInt = 0 := by decide
  have c9 : (99 : Int32).toInt = 99 := by decide
  unfold zheld
  rw [if_neg (fun q => by rw [zi_lt] at q; omega), if_neg (fun q => by rw [zi_lt] at q; omega)]
theorem zheld_in (x : Int32) : 0 ≤ (zheld x).toInt ∧ (zheld x).toInt ≤ 99 := by
  have c0 : (0 : Int32).toInt = 0 := by decide
  have c9 : (99 : Int32).toInt = 99 := by decide
  unfold zheld
  split
  · omega
  · rename_i h
    rw [zi_lt] at h
    split
    · omega
    · rename_i h2
      rw [zi_lt] at h2
      omega
theorem half_in {x y : Int32} (h1 : 0 ≤ x.toInt) (h2 : x.toInt ≤ 99) (h3 : 0 ≤ y.toInt) (h4 : y.toInt ≤ 99) : 0 ≤ ((x + y) / 2).toInt ∧ ((x + y) / 2).toInt ≤ 99 := by
  have c2 : (2 : Int32).toInt = 2 := by decide
  have ha : (x + y).toInt = x.toInt + y.toInt := zi_add (by omega) (by omega)
  rw [zi_div (by rw [c2]; decide), ha, c2, Int.tdiv_eq_ediv_of_nonneg (by omega)]
  omega
theorem mp_43 (N : zM) (x y z : Nat) (v : Int32) (i f : Nat) : mp (zu N 43 x y z v) i f = mp N i f := by
  unfold mp
  rw [zu_a (by decide)]
theorem mp_c {M M' : zM} (h : M' 31 = M 31) : mp M' = mp M := by
  funext i f
  unfold mp
  rw [h]
set_option maxHeartbeats 4000000 in
set_option maxRecDepth 100000 in
theorem mX10_setsTo {l : Launch} {G : zG} {b : Nat} {M : zM} {T : Nat} {ky ln : Nat → Nat} (hT : M 31 0 0 8 = nI T) (hX : TX M T ky ln) (hm : mTX M 31 T ky ln) {i : Nat} (hi : i < 8) (hlo : 0 ≤ (mp M i 4).toInt ∧ (mp M i 4).toInt ≤ 99) (hhi : 0 ≤ (mp M i 5).toInt ∧ (mp M i 5).toInt ≤ 99) : zMet l G b yX10_setsTo cX10_setsTo 5 (some .int) 2 zshL zshL [.ref (b + 239), .int (nI i)] M (zI (fun r M' => r = pSet (hvF M (lastK ky 0 T)) (mp M i) ∧ ∀ a, a ≠ 42 → a ≠ 43 → M' a = M a)) := by
  refine zMet.of (L0 := [some (.ref (b + 239)), some (.int (nI i)), none, none, none]) (by decide +kernel) (Nat.le_refl _) (Nat.le_refl _) (Nat.le_of_ble_eq_true rfl) (List.forall_mem_cons.mpr ⟨rfl, List.forall_mem_cons.mpr ⟨rfl, fun _ h => absurd h List.not_mem_nil⟩⟩) rfl (fun X C Al K => ?_)
  have key : ∀ (M3 : zM), (∀ a, a ≠ 43 → M3 a = M a) → M3 43 0 0 0 = mp M i 4 → M3 43 0 0 1 = mp M i 5 → M3 43 0 0 2 = mp M i 1 → zW X zshL M3 42 [some (.ref (b + 239)), some (.int (nI i)), some (.int (lastK ky 0 T)), none, none] [] := by
    intro M3 hf f0 f1 f2
    have e31 : mp M3 = mp M := mp_c (hf 31 (by decide))
    have tailw : ∀ (M4 : zM) (half : Int32), (∀ a, a ≠ 42 → a ≠ 43 → M4 a = M a) → hvF M (lastK ky 0 T) (mp M i 4) (mp M i 5) (mp M i 1) = half → zW X zshL M4 75 [some (.ref (b + 239)), some (.int (nI i)), some (.int (lastK ky 0 T)), none, none] [.int half] := by
      intro M4 half hf4 hh
      have e4 : mp M4 = mp M := mp_c (hf4 31 (by decide) (by decide))
      refine z_istore_n (pc := 75) C 3 dX10_setsTo_75 rfl (by decide) rfl ?_
      refine z_iload_n (pc := 76) C 3 dX10_setsTo_76 rfl rfl ?_
      refine z_aload_n (pc := 77) C 0 dX10_setsTo_77 rfl rfl ?_
      refine z_iload_n (pc := 78) C 1 dX10_setsTo_78 rfl rfl ?_
      refine z_iconst (pc := 79) (v := 3) C dX10_setsTo_79 rfl ?_
      refine z_callVi (pc := 80) C dX10_setsTo_80 kX10_96 (mX10_of hi (f := 3) (by decide)) (by decide) sh_239 rfl rfl rfl (Nat.le_of_ble_eq_true rfl) (fun r80 M80 h80 => ?_)
      obtain ⟨rfl, e80⟩ := h80
      subst M80
      rw [e4]
      refine z_iadd (pc := 83) C dX10_setsTo_83 ?_
      refine z_iconst (pc := 84) (v := 0) C dX10_setsTo_84 rfl ?_
      refine z_bipush (pc := 85) (v := 99) C dX10_setsTo_85 rfl ?_
      refine z_callSi (pc := 87) C dX10_setsTo_87 kX10_103 mX10_within (by decide) rfl rfl (Nat.le_of_ble_eq_true rfl) (fun r87 M87 h87 => ?_)
      obtain ⟨rfl, e87⟩ := h87
      subst M87
      rw [zwi_h]
      refine z_istore (pc := 90) C 4 dX10_setsTo_90 (by decide) rfl ?_
      refine z_aload_n (pc := 92) C 0 dX10_setsTo_92 rfl rfl ?_
      refine z_iload_n (pc := 93) C 1 dX10_setsTo_93 rfl rfl ?_
      refine z_iconst (pc := 94) (v := 0) C dX10_setsTo_94 rfl ?_
      refine z_callVi (pc := 95) C dX10_setsTo_95 kX10_96 (mX10_of hi (f := 0) (by decide)) (by decide) sh_239 rfl rfl rfl (Nat.le_of_ble_eq_true rfl) (fun r95 M95 h95 => ?_)
      obtain ⟨rfl, e95⟩ := h95
      subst M95
      rw [e4]
      by_cases s98_0 : mp M i 0 = 1
      · refine z_tswIn (pc := 98) C (1) 132 dX10_setsTo_98 (by rw [s98_0]; rfl) (by decide) (by decide) rfl (by decide) ?_
        refine z_aload_n (pc := 132) C 0 dX10_setsTo_132 rfl rfl ?_
        refine z_iload_n (pc := 133) C 1 dX10_setsTo_133 rfl rfl ?_
        refine z_iconst (pc := 134) (v := 1) C dX10_setsTo_134 rfl ?_
        refine z_callVi (pc := 135) C dX10_setsTo_135 kX10_96 (mX10_of hi (f := 1) (by decide)) (by decide) sh_239 rfl rfl rfl (Nat.le_of_ble_eq_true rfl) (fun r135 M135 h135 => ?_)
        obtain ⟨rfl, e135⟩ := h135
        subst M135
        rw [e4]
        refine z_iload_n (pc := 138) C 3 dX10_setsTo_138 rfl rfl ?_
        refine z_iadd (pc := 139) C dX10_setsTo_139 ?_
        refine z_iconst (pc := 140) (v := 2) C dX10_setsTo_140 rfl ?_
        refine z_idiv (pc := 141) C dX10_setsTo_141 (by decide) ?_
        refine z_ireturn (pc := 142) C K dX10_setsTo_142 ?_
        refine ⟨_, rfl, ?_, hf4⟩
        unfold pSet
        rw [hh]
        rw [if_neg (fun q => absurd (q.symm.trans s98_0) (by decide)), if_pos s98_0]
      by_cases s98_1 : mp M i 0 = 2
      · refine z_tswIn (pc := 98) C (2) 143 dX10_setsTo_98 (by rw [s98_1]; rfl) (by decide) (by decide) rfl (by decide) ?_
        refine z_iload (pc := 143) C 4 dX10_setsTo_143 rfl ?_
        refine z_ireturn (pc := 145) C K dX10_setsTo_145 ?_
        refine ⟨_, rfl, ?_, hf4⟩
        unfold pSet
        rw [hh]
        rw [if_neg (fun q => absurd (q.symm.trans s98_1) (by decide)), if_neg s98_0, if_pos s98_1]
      by_cases s98_2 : mp M i 0 = 3
      · refine z_tswIn (pc := 98) C (3) 146 dX10_setsTo_98 (by rw [s98_2]; rfl) (by decide) (by decide) rfl (by decide) ?_
        refine z_aload_n (pc := 146) C 0 dX10_setsTo_146 rfl rfl ?_
        refine z_iload_n (pc := 147) C 1 dX10_setsTo_147 rfl rfl ?_
        refine z_iconst (pc := 148) (v := 1) C dX10_setsTo_148 rfl ?_
        refine z_callVi (pc := 149) C dX10_setsTo_149 kX10_96 (mX10_of hi (f := 1) (by decide)) (by decide) sh_239 rfl rfl rfl (Nat.le_of_ble_eq_true rfl) (fun r149 M149 h149 => ?_)
        obtain ⟨rfl, e149⟩ := h149
        subst M149
        rw [e4]
        refine z_ireturn (pc := 152) C K dX10_setsTo_152 ?_
        refine ⟨_, rfl, ?_, hf4⟩
        unfold pSet
        rw [hh]
        rw [if_pos s98_2]
      by_cases s98_3 : mp M i 0 = 4
      · refine z_tswIn (pc := 98) C (4) 153 dX10_setsTo_98 (by rw [s98_3]; rfl) (by decide) (by decide) rfl (by decide) ?_
        refine z_iload (pc := 153) C 4 dX10_setsTo_153 rfl ?_
        refine z_aload_n (pc := 155) C 0 dX10_setsTo_155 rfl rfl ?_
        refine z_iload_n (pc := 156) C 1 dX10_setsTo_156 rfl rfl ?_
        refine z_iconst (pc := 157) (v := 3) C dX10_setsTo_157 rfl ?_
        refine z_callVi (pc := 158) C dX10_setsTo_158 kX10_96 (mX10_of hi (f := 3) (by decide)) (by decide) sh_239 rfl rfl rfl (Nat.le_of_ble_eq_true rfl) (fun r158 M158 h158 => ?_)
        obtain ⟨rfl, e158⟩ := h158
        subst M158
        rw [e4]
        refine z_iadd (pc := 161) C dX10_setsTo_161 ?_
        refine z_iconst (pc := 162) (v := 0) C dX10_setsTo_162 rfl ?_
        refine z_bipush (pc := 163) (v := 99) C dX10_setsTo_163 rfl ?_
        refine z_callSi (pc := 165) C dX10_setsTo_165 kX10_103 mX10_within (by decide) rfl rfl (Nat.le_of_ble_eq_true rfl) (fun r165 M165 h165 => ?_)
        obtain ⟨rfl, e165⟩ := h165
        subst M165
        rw [zwi_h]
        refine z_ireturn (pc := 168) C K dX10_setsTo_168 ?_
        refine ⟨_, rfl, ?_, hf4⟩
        unfold pSet
        rw [hh]
        rw [if_neg s98_2, if_neg s98_0, if_neg s98_1, if_pos s98_3]
      by_cases s98_4 : mp M i 0 = 5
      · refine z_tswIn (pc := 98) C (5) 169 dX10_setsTo_98 (by rw [s98_4]; rfl) (by decide) (by decide) rfl (by decide) ?_
        refine z_iload_n (pc := 169) C 3 dX10_setsTo_169 rfl rfl ?_
        refine z_bipush (pc := 170) (v := 50) C dX10_setsTo_170 rfl ?_
        refine z_icmp_lt (pc := 172) C 179 dX10_setsTo_172 (by decide) (fun c172 => ?_) (fun c172 => ?_)
        · refine z_bipush (pc := 179) (v := 99) C dX10_setsTo_179 rfl ?_
          refine z_ireturn (pc := 181) C K dX10_setsTo_181 ?_
          refine ⟨_, rfl, ?_, hf4⟩
          unfold pSet
          rw [hh]
          rw [if_neg (fun q => s98_2 q), if_neg s98_0, if_neg s98_1, if_neg s98_3, if_pos s98_4, if_pos c172]
        · refine z_iconst (pc := 175) (v := 0) C dX10_setsTo_175 rfl ?_
          refine z_goto (pc := 176) C 181 dX10_setsTo_176 (by decide) ?_
          refine z_ireturn (pc := 181) C K dX10_setsTo_181 ?_
          refine ⟨_, rfl, ?_, hf4⟩
          unfold pSet
          rw [hh]
          rw [if_neg (fun q => s98_2 q), if_neg s98_0, if_neg s98_1, if_neg s98_3, if_pos s98_4, if_neg c172]
      refine z_tswOut (pc := 98) C 182 dX10_setsTo_98 (by have g0 := lv_neT (a := 1) s98_0 rfl; have g1 := lv_neT (a := 2) s98_1 rfl; have g2 := lv_neT (a := 3) s98_2 rfl; have g3 := lv_neT (a := 4) s98_3 rfl; have g4 := lv_neT (a := 5) s98_4 rfl; omega) (by decide) ?_
      refine z_iload_n (pc := 182) C 3 dX10_setsTo_182 rfl rfl ?_
      refine z_ireturn (pc := 183) C K dX10_setsTo_183 ?_
      refine ⟨_, rfl, ?_, hf4⟩
      unfold pSet
      rw [hh]
      rw [if_neg s98_2, if_neg s98_0, if_neg s98_1, if_neg s98_3, if_neg s98_4]
    rcases lastK_cases ky 0 T with e | ⟨t, h1, h2, h3⟩
    · refine z_iload_n (pc := 42) C 2 dX10_setsTo_42 rfl rfl ?_
      refine z_if_ge (pc := 43) C 64 dX10_setsTo_43 (by decide) (fun c43 => absurd c43 (by rw [e]; decide)) (fun c43 => ?_)
      refine z_aload_n (pc := 46) C 0 dX10_setsTo_46 rfl rfl ?_
      refine z_iload_n (pc := 47) C 1 dX10_setsTo_47 rfl rfl ?_
      refine z_iconst (pc := 48) (v := 4) C dX10_setsTo_48 rfl ?_
      refine z_callVi (pc := 49) C dX10_setsTo_49 kX10_96 (mX10_of hi (f := 4) (by decide)) (by decide) sh_239 rfl rfl rfl (Nat.le_of_ble_eq_true rfl) (fun r49 M49 h49 => ?_)
      obtain ⟨rfl, e49⟩ := h49
      subst M49
      rw [e31]
      refine z_aload_n (pc := 52) C 0 dX10_setsTo_52 rfl rfl ?_
      refine z_iload_n (pc := 53) C 1 dX10_setsTo_53 rfl rfl ?_
      refine z_iconst (pc := 54) (v := 5) C dX10_setsTo_54 rfl ?_
      refine z_callVi (pc := 55) C dX10_setsTo_55 kX10_96 (mX10_of hi (f := 5) (by decide)) (by decide) sh_239 rfl rfl rfl (Nat.le_of_ble_eq_true rfl) (fun r55 M55 h55 => ?_)
      obtain ⟨rfl, e55⟩ := h55
      subst M55
      rw [e31]
      refine z_iadd (pc := 58) C dX10_setsTo_58 ?_
      refine z_iconst (pc := 59) (v := 2) C dX10_setsTo_59 rfl ?_
      refine z_idiv (pc := 60) C dX10_setsTo_60 (by decide) ?_
      refine z_goto (pc := 61) C 75 dX10_setsTo_61 (by decide) ?_
      refine tailw M3 _ (fun a h1 h2 => hf a h2) ?_
      unfold hvF
      rw [if_pos (by rw [e]; decide)]
      exact zheld_id (half_in hlo.1 hlo.2 hhi.1 hhi.2).1 (half_in hlo.1 hlo.2 hhi.1 hhi.2).2
    · have h14 := hX.1
      obtain ⟨k1, k2, k3, k4, k5, k6⟩ := hX.2 t h1
      obtain ⟨m1, m2, m3⟩ := hm t h1
      refine z_iload_n (pc := 42) C 2 dX10_setsTo_42 rfl rfl ?_
      rw [h2]
      refine z_if_ge (pc := 43) C 64 dX10_setsTo_43 (by decide) (fun c43 => ?_) (fun c43 => absurd (nI_pos' (by omega)) c43)
      refine z_aload_n (pc := 64) C 0 dX10_setsTo_64 rfl rfl ?_
      refine z_iload_n (pc := 65) C 2 dX10_setsTo_65 rfl rfl ?_
      refine z_callVi (pc := 66) C dX10_setsTo_66 kX10_100 (mX10_worksOut (by omega) k1 k2 (by rw [hf 31 (by decide)]; exact m1) (fun j hj => by rw [hf 31 (by decide)]; exact m3 j hj) (fun j hj => (k5 j hj).1) (by rw [f0, f1, f2]; exact (hX.val h1 _ _ _).1)) (by decide) sh_239 rfl rfl rfl (Nat.le_of_ble_eq_true rfl) (fun r66 M66 h66 => ?_)
      obtain ⟨rfl, e66⟩ := h66
      refine z_iconst (pc := 69) (v := 0) C dX10_setsTo_69 rfl ?_
      refine z_bipush (pc := 70) (v := 99) C dX10_setsTo_70 rfl ?_
      refine z_callSi (pc := 72) C dX10_setsTo_72 kX10_103 mX10_within (by decide) rfl rfl (Nat.le_of_ble_eq_true rfl) (fun r72 M72 h72 => ?_)
      obtain ⟨rfl, e72⟩ := h72
      subst M72
      rw [zwi_h]
      have ef := tailw M66 (zheld (tval M t (mp M i 4) (mp M i 5) (mp M i 1))) (fun a h1 h2 => (e66 a h1).trans (hf a h2)) ?_
      · rw [h2] at ef
        exact ef
      · unfold hvF
        rw [h2, if_neg (nI_pos (by omega)), nI_clamp (by omega)]
  refine z_aload_n (pc := 0) C 0 dX10_setsTo_0 rfl rfl ?_
  refine z_iconst (pc := 1) (v := 0) C dX10_setsTo_1 rfl ?_
  refine z_callVi (pc := 2) C dX10_setsTo_2 kX10_92 (mX10_counts (key := 0) hT hX.1 (fun t ht => ⟨(hX.2 t ht).1, (hX.2 t ht).2.1, (hm t ht).1⟩) (by decide)) (by decide) sh_239 rfl rfl rfl (Nat.le_of_ble_eq_true rfl) (fun r2 M2 h2 => ?_)
  obtain ⟨rfl, e2⟩ := h2
  subst M2
  refine z_istore_n (pc := 5) C 2 dX10_setsTo_5 rfl (by decide) rfl ?_
  refine z_aload_n (pc := 6) C 0 dX10_setsTo_6 rfl rfl ?_
  refine z_getR (pc := 7) (r := 252) C dX10_setsTo_7 fX10_48 sh_239 rfl ?_
  refine z_iconst (pc := 10) (v := 0) C dX10_setsTo_10 rfl ?_
  refine z_aload_n (pc := 11) C 0 dX10_setsTo_11 rfl rfl ?_
  refine z_iload_n (pc := 12) C 1 dX10_setsTo_12 rfl rfl ?_
  refine z_iconst (pc := 13) (v := 4) C dX10_setsTo_13 rfl ?_
  refine z_callVi (pc := 14) C dX10_setsTo_14 kX10_96 (mX10_of hi (f := 4) (by decide)) (by decide) sh_239 rfl rfl rfl (Nat.le_of_ble_eq_true rfl) (fun r14 M14 h14 => ?_)
  obtain ⟨rfl, e14⟩ := h14
  subst M14
  refine z_iast (pc := 17) (n := 0) C dX10_setsTo_17 sh_252 (zi_in.mpr (by decide)) rfl ?_
  refine z_aload_n (pc := 18) C 0 dX10_setsTo_18 rfl rfl ?_
  refine z_getR (pc := 19) (r := 252) C dX10_setsTo_19 fX10_48 sh_239 rfl ?_
  refine z_iconst (pc := 22) (v := 1) C dX10_setsTo_22 rfl ?_
  refine z_aload_n (pc := 23) C 0 dX10_setsTo_23 rfl rfl ?_
  refine z_iload_n (pc := 24) C 1 dX10_setsTo_24 rfl rfl ?_
  refine z_iconst (pc := 25) (v := 5) C dX10_setsTo_25 rfl ?_
  refine z_callVi (pc := 26) C dX10_setsTo_26 kX10_96 (mX10_of hi (f := 5) (by decide)) (by decide) sh_239 rfl rfl rfl (Nat.le_of_ble_eq_true rfl) (fun r26 M26 h26 => ?_)
  obtain ⟨rfl, e26⟩ := h26
  subst M26
  rw [mp_43]
  refine z_iast (pc := 29) (n := 1) C dX10_setsTo_29 sh_252 (zi_in.mpr (by decide)) rfl ?_
  refine z_aload_n (pc := 30) C 0 dX10_setsTo_30 rfl rfl ?_
  refine z_getR (pc := 31) (r := 252) C dX10_setsTo_31 fX10_48 sh_239 rfl ?_
  refine z_iconst (pc := 34) (v := 2) C dX10_setsTo_34 rfl ?_
  refine z_aload_n (pc := 35) C 0 dX10_setsTo_35 rfl rfl ?_
  refine z_iload_n (pc := 36) C 1 dX10_setsTo_36 rfl rfl ?_
  refine z_iconst (pc := 37) (v := 1) C dX10_setsTo_37 rfl ?_
  refine z_callVi (pc := 38) C dX10_setsTo_38 kX10_96 (mX10_of hi (f := 1) (by decide)) (by decide) sh_239 rfl rfl rfl (Nat.le_of_ble_eq_true rfl) (fun r38 M38 h38 => ?_)
  obtain ⟨rfl, e38⟩ := h38
  subst M38
  rw [mp_43, mp_43]
  refine z_iast (pc := 41) (n := 2) C dX10_setsTo_41 sh_252 (zi_in.mpr (by decide)) rfl ?_
  refine key _ (fun a ha => by rw [zu_a ha, zu_a ha, zu_a ha]) ?_ ?_ ?_
  · rw [zu_f (by decide), zu_f (by decide), zu_self]
  · rw [zu_f (by decide), zu_self]
  · rw [zu_self]

def pOK (q : Nat → Int32) : Prop := (0 ≤ (q 0).toInt ∧ (q 0).toInt ≤ 5) ∧ (0 ≤ (q 1).toInt ∧ (q 1).toInt ≤ 99) ∧ (1 ≤ (q 2).toInt ∧ (q 2).toInt ≤ 9) ∧ (-20 ≤ (q 3).toInt ∧ (q 3).toInt ≤ 20) ∧ (0 ≤ (q 4).toInt ∧ (q 4).toInt ≤ 99) ∧ (0 ≤ (q 5).toInt ∧ (q 5).toInt ≤ 99) ∧ (q 6 = 0 ∨ q 6 = 1)
theorem pWs_in {p : Nat → Nat → Int32} {n : Nat} (hp : ∀ i, i < n → pOK (p i)) (hn : n ≤ 8) : ∀ m, m ≤ n → (m : Int) ≤ (pWs p m).toInt ∧ (pWs p m).toInt ≤ 9 * m
  | 0, _ => by have : (pWs p 0).toInt = 0 := rfl
               omega
  | m + 1, hm => by
    obtain ⟨h1, h2⟩ := pWs_in hp hn m (by omega)
    obtain ⟨-, -, ⟨h3, h4⟩, -⟩ := hp m (by omega)
    rw [pWs, zi_add (by omega) (by omega)]
    omega
theorem pUp_99 {p : Nat → Nat → Int32} {n : Nat} (hp : ∀ i, i < n → pOK (p i)) : ∀ m, m ≤ n → pUp p 99 m = pWs p m
  | 0, _ => rfl
  | m + 1, hm => by
    obtain ⟨-, ⟨h1, h2⟩, -⟩ := hp m (by omega)
    have c9 : (99 : Int32).toInt = 99 := by decide
    rw [pUp, pWs, pUp_99 hp m (by omega), if_neg (fun q => by rw [zi_lt] at q; omega)]
/-- all that are no more than the greatest are all -/
theorem pUp_top {p : Nat → Nat → Int32} {d : Int32} : ∀ m, (∀ i, i < m → p i 1 ≤ d) → pUp p d m = pWs p m
  | 0, _ => rfl
  | m + 1, h => by
    rw [pUp, pWs, pUp_top m (fun i hi => h i (by omega)), if_neg (Int32.not_lt.mpr (h m (by omega)))]
theorem top_is (p : Nat → Nat → Int32) : ∀ m, 0 < m → ∃ j, j < m ∧ ∀ i, i < m → p i 1 ≤ p j 1
  | 0, h => absurd h (Nat.lt_irrefl 0)
  | 1, _ => ⟨0, by omega, fun i hi => by rw [show i = 0 by omega]; exact Int32.le_refl _⟩
  | m + 2, _ => by
    obtain ⟨j, h1, h2⟩ := top_is p (m + 1) (by omega)
    by_cases e : p j 1 ≤ p (m + 1) 1
    · exact ⟨m + 1, by omega, fun i hi => by
        by_cases ei : i = m + 1
        · rw [ei]; exact Int32.le_refl _
        · exact Int32.le_trans (h2 i (by omega)) e⟩
    · exact ⟨j, by omega, fun i hi => by
        by_cases ei : i = m + 1
        · rw [ei]; exact Int32.le_of_lt (Int32.not_le.mp e)
        · exact h2 i (by omega)⟩
theorem mid_eq {p : Nat → Nat → Int32} {n : Nat} (hp : ∀ i, i < n → pOK (p i)) {place : Int32} : ∀ m, m ≤ n → (mMd p n place m = -1 ∧ pMd p n place m = 99 ∧ ∀ j, j < m → ¬ place < pUp p (p j 1) n) ∨ (0 ≤ (mMd p n place m).toInt ∧ pMd p n place m = mMd p n place m)
  | 0, _ => Or.inl ⟨rfl, rfl, fun j h => absurd h (Nat.not_lt_zero _)⟩
  | m + 1, hm => by
    have c9 : (99 : Int32).toInt = 99 := by decide
    have c0 : (0 : Int32).toInt = 0 := by decide
    obtain ⟨-, ⟨h1, h2⟩, -⟩ := hp m (by omega)
    rw [mMd, pMd]
    by_cases q : place < pUp p (p m 1) n
    · rcases mid_eq hp m (by omega) with ⟨g1, g2, -⟩ | ⟨g1, g2⟩
      · rw [g1, g2, if_pos ⟨Or.inl (by decide), q⟩]
        refine Or.inr ⟨h1, ?_⟩
        by_cases e : p m 1 < 99
        · rw [if_pos ⟨e, q⟩]
        · rw [if_neg (fun z => e z.1), zi_eq]
          rw [zi_lt] at e
          omega
      · rw [g2]
        by_cases e : p m 1 < mMd p n place m
        · rw [if_pos ⟨Or.inr e, q⟩, if_pos ⟨e, q⟩]
          exact Or.inr ⟨h1, rfl⟩
        · rw [if_neg (c := (mMd p n place m < 0 ∨ p m 1 < mMd p n place m) ∧ place < pUp p (p m 1) n) (fun z => z.1.elim (fun y => by rw [zi_lt] at y; omega) (fun y => e y)), if_neg (c := p m 1 < mMd p n place m ∧ place < pUp p (p m 1) n) (fun z => e z.1)]
          exact Or.inr ⟨g1, rfl⟩
    · rw [if_neg (fun z => q z.2), if_neg (fun z => q z.2)]
      rcases mid_eq hp m (by omega) with ⟨g1, g2, g3⟩ | g
      · refine Or.inl ⟨g1, g2, fun j hj => ?_⟩
        by_cases ej : j = m
        · rw [ej]; exact q
        · exact g3 j (by omega)
      · exact Or.inr g
def mVoice (p : Nat → Nat → Int32) (n : Nat) (law : Int32) : Int32 := if n = 0 then -1 else if law = 0 then pSm p n / pWs p n else if law = 1 then mMd p n (pWs p n / 2) n else pGr p n
theorem pWs_ne {p : Nat → Nat → Int32} {n : Nat} (hp : ∀ i, i < n → pOK (p i)) (hn : n ≤ 8) (h0 : n ≠ 0) : ¬ pWs p n = 0 := by
  intro q
  have := (pWs_in hp hn n (Nat.le_refl _)).1
  rw [q] at this
  have c0 : (0 : Int32).toInt = 0 := by decide
  omega
theorem voice_eq {p : Nat → Nat → Int32} {n : Nat} (hp : ∀ i, i < n → pOK (p i)) (hn : n ≤ 8) (law : Int32) : mVoice p n law = pVoice p n law := by
  unfold mVoice pVoice
  by_cases h0 : n = 0
  · rw [if_pos h0, if_pos h0]
  · rw [if_neg h0, if_neg h0]
    by_cases h1 : law = 0
    · rw [if_pos h1, if_pos h1]
      unfold pMean
      rw [pUp_99 hp n (Nat.le_refl _), if_neg (pWs_ne hp hn h0)]
    · rw [if_neg h1, if_neg h1]
      by_cases h2 : law = 1
      · rw [if_pos h2, if_pos h2, pUp_99 hp n (Nat.le_refl _)]
        rcases mid_eq (place := pWs p n / 2) hp n (Nat.le_refl _) with ⟨-, -, g⟩ | ⟨-, g⟩
        · obtain ⟨j, j1, j2⟩ := top_is p n (by omega)
          exfalso
          refine g j j1 ?_
          rw [pUp_top n j2, zi_lt]
          have hw := pWs_in hp hn n (Nat.le_refl _)
          have c2 : (2 : Int32).toInt = 2 := by decide
          rw [zi_div (by rw [c2]; decide), c2, Int.tdiv_eq_ediv_of_nonneg (by omega)]
          omega
        · exact g.symm
      · rw [if_neg h2, if_neg h2]
set_option maxHeartbeats 4000000 in
set_option maxRecDepth 100000 in
theorem mX10_saysNow {l : Launch} {G : zG} {b : Nat} {M : zM} {n : Nat} (hn : M 31 0 0 1 = nI n) (hn8 : n ≤ 8) (hp : ∀ i, i < n → pOK (mp M i)) : zMet l G b yX10_saysNow cX10_saysNow 1 (some .int) 3 zshL zshL [.ref (b + 239)] M (zI (fun r M' => r = pVoice (mp M) n (M 31 0 0 4) ∧ M' = M)) := by
  refine zMet.of (L0 := [some (.ref (b + 239))]) (by decide +kernel) (Nat.le_refl _) (Nat.le_refl _) (Nat.le_of_ble_eq_true rfl) (List.forall_mem_cons.mpr ⟨rfl, fun _ h => absurd h List.not_mem_nil⟩) rfl (fun X C Al K => ?_)
  refine z_aload_n (pc := 0) C 0 dX10_saysNow_0 rfl rfl ?_
  refine z_getR (pc := 1) (r := 240) C dX10_saysNow_1 fX10_9 sh_239 rfl ?_
  refine z_iconst (pc := 4) (v := 1) C dX10_saysNow_4 rfl ?_
  refine z_iald (pc := 5) (n := 1) C dX10_saysNow_5 sh_240 (zi_in.mpr (by decide)) rfl ?_
  refine z_if_ne (pc := 6) C 11 dX10_saysNow_6 (by decide) (fun c6 => ?_) (fun c6 => ?_)
  · have hne : ¬ n = 0 := fun q => c6 ((nz hn hn8).mpr q)
    refine z_aload_n (pc := 11) C 0 dX10_saysNow_11 rfl rfl ?_
    refine z_getR (pc := 12) (r := 240) C dX10_saysNow_12 fX10_9 sh_239 rfl ?_
    refine z_iconst (pc := 15) (v := 4) C dX10_saysNow_15 rfl ?_
    refine z_iald (pc := 16) (n := 4) C dX10_saysNow_16 sh_240 (zi_in.mpr (by decide)) rfl ?_
    refine z_if_ne (pc := 17) C 27 dX10_saysNow_17 (by decide) (fun c17 => ?_) (fun c17 => ?_)
    · refine z_aload_n (pc := 27) C 0 dX10_saysNow_27 rfl rfl ?_
      refine z_getR (pc := 28) (r := 240) C dX10_saysNow_28 fX10_9 sh_239 rfl ?_
      refine z_iconst (pc := 31) (v := 4) C dX10_saysNow_31 rfl ?_
      refine z_iald (pc := 32) (n := 4) C dX10_saysNow_32 sh_240 (zi_in.mpr (by decide)) rfl ?_
      refine z_iconst (pc := 33) (v := 1) C dX10_saysNow_33 rfl ?_
      refine z_icmp_ne (pc := 34) C 44 dX10_saysNow_34 (by decide) (fun c34 => ?_) (fun c34 => ?_)
      · refine z_aload_n (pc := 44) C 0 dX10_saysNow_44 rfl rfl ?_
        refine z_callVi (pc := 45) C dX10_saysNow_45 kX10_152 (mX10_greatest hn hn8) (by decide) sh_239 rfl rfl rfl (Nat.le_of_ble_eq_true rfl) (fun r45 M45 h45 => ?_)
        obtain ⟨rfl, e45⟩ := h45
        subst M45
        refine z_ireturn (pc := 48) C K dX10_saysNow_48 ?_
        refine ⟨_, rfl, ?_, rfl⟩
        rw [← voice_eq hp hn8]
        unfold mVoice
        rw [if_neg hne, if_neg c17, if_neg c34]
      · refine z_aload_n (pc := 37) C 0 dX10_saysNow_37 rfl rfl ?_
        refine z_callVi (pc := 38) C dX10_saysNow_38 kX10_149 (mX10_middle hn hn8) (by decide) sh_239 rfl rfl rfl (Nat.le_of_ble_eq_true rfl) (fun r38 M38 h38 => ?_)
        obtain ⟨rfl, e38⟩ := h38
        subst M38
        refine z_goto (pc := 41) C 48 dX10_saysNow_41 (by decide) ?_
        refine z_ireturn (pc := 48) C K dX10_saysNow_48 ?_
        refine ⟨_, rfl, ?_, rfl⟩
        rw [← voice_eq hp hn8]
        unfold mVoice
        rw [if_neg hne, if_neg c17, if_pos c34]
    · refine z_aload_n (pc := 20) C 0 dX10_saysNow_20 rfl rfl ?_
      refine z_callVi (pc := 21) C dX10_saysNow_21 kX10_146 (mX10_mean hn hn8 (pWs_ne hp hn8 hne)) (by decide) sh_239 rfl rfl rfl (Nat.le_of_ble_eq_true rfl) (fun r21 M21 h21 => ?_)
      obtain ⟨rfl, e21⟩ := h21
      subst M21
      refine z_goto (pc := 24) C 48 dX10_saysNow_24 (by decide) ?_
      refine z_ireturn (pc := 48) C K dX10_saysNow_48 ?_
      refine ⟨_, rfl, ?_, rfl⟩
      rw [← voice_eq hp hn8]
      unfold mVoice
      rw [if_neg hne, if_pos c17]
  · refine z_iconst (pc := 9) (v := -1) C dX10_saysNow_9 rfl ?_
    refine z_ireturn (pc := 10) C K dX10_saysNow_10 ?_
    refine ⟨_, rfl, ?_, rfl⟩
    unfold pVoice
    rw [if_pos ((nz hn hn8).mp c6)]
