/-! texts: what one gives -/
set_option maxHeartbeats 4000000 in
set_option maxRecDepth 100000 in
theorem mX6_leaf {l : Launch} {G : zG} {b : Nat} {M : zM} {k x y z : Int32} : zMet l G b yX6_leaf cX6_leaf 4 (some .int) 0 zshL zshL [.int k, .int x, .int y, .int z] M (zI (fun r M' => r = eLeaf k x y z ∧ M' = M)) := by
  refine zMet.of (L0 := [some (.int k), some (.int x), some (.int y), some (.int z)]) (by decide +kernel) (Nat.le_refl _) (Nat.le_refl _) (Nat.le_of_ble_eq_true rfl) (List.forall_mem_cons.mpr ⟨rfl, List.forall_mem_cons.mpr ⟨rfl, List.forall_mem_cons.mpr ⟨rfl, List.forall_mem_cons.mpr ⟨rfl, fun _ h => absurd h List.not_mem_nil⟩⟩⟩⟩) rfl (fun X C Al K => ?_)
  refine z_iload_n (pc := 0) C 0 dX6_leaf_0 rfl rfl ?_
  by_cases s1_0 : k = 10000
  · refine z_tswIn (pc := 1) C (10000) 28 dX6_leaf_1 (by rw [s1_0]; rfl) (by decide) (by decide) rfl (by decide) ?_
    refine z_iload_n (pc := 28) C 1 dX6_leaf_28 rfl rfl ?_
    refine z_ireturn (pc := 29) C K dX6_leaf_29 ?_
    exact ⟨_, rfl, by simp_all [eLeaf], rfl⟩
  by_cases s1_1 : k = 10001
  · refine z_tswIn (pc := 1) C (10001) 30 dX6_leaf_1 (by rw [s1_1]; rfl) (by decide) (by decide) rfl (by decide) ?_
    refine z_iload_n (pc := 30) C 2 dX6_leaf_30 rfl rfl ?_
    refine z_ireturn (pc := 31) C K dX6_leaf_31 ?_
    exact ⟨_, rfl, by simp_all [eLeaf], rfl⟩
  by_cases s1_2 : k = 10002
  · refine z_tswIn (pc := 1) C (10002) 32 dX6_leaf_1 (by rw [s1_2]; rfl) (by decide) (by decide) rfl (by decide) ?_
    refine z_iload_n (pc := 32) C 3 dX6_leaf_32 rfl rfl ?_
    refine z_ireturn (pc := 33) C K dX6_leaf_33 ?_
    exact ⟨_, rfl, by simp_all [eLeaf], rfl⟩
  refine z_tswOut (pc := 1) C 34 dX6_leaf_1 (by have g0 := lv_neT (a := 10000) s1_0 rfl; have g1 := lv_neT (a := 10001) s1_1 rfl; have g2 := lv_neT (a := 10002) s1_2 rfl; omega) (by decide) ?_
  refine z_iload_n (pc := 34) C 0 dX6_leaf_34 rfl rfl ?_
  refine z_ireturn (pc := 35) C K dX6_leaf_35 ?_
  exact ⟨_, rfl, by simp_all [eLeaf], rfl⟩

set_option maxHeartbeats 4000000 in
set_option maxRecDepth 100000 in
theorem mX6_join {l : Launch} {G : zG} {b : Nat} {M : zM} {g x y : Int32} : zMet l G b yX6_join cX6_join 3 (some .int) 0 zshL zshL [.int g, .int x, .int y] M (zI (fun r M' => r = eJoin g x y ∧ M' = M)) := by
  refine zMet.of (L0 := [some (.int g), some (.int x), some (.int y)]) (by decide +kernel) (Nat.le_refl _) (Nat.le_refl _) (Nat.le_of_ble_eq_true rfl) (List.forall_mem_cons.mpr ⟨rfl, List.forall_mem_cons.mpr ⟨rfl, List.forall_mem_cons.mpr ⟨rfl, fun _ h => absurd h List.not_mem_nil⟩⟩⟩) rfl (fun X C Al K => ?_)
  refine z_iload_n (pc := 0) C 0 dX6_join_0 rfl rfl ?_
  by_cases s1_0 : g = 38
  · refine z_lookup (pc := 1) C 90 dX6_join_1 (by decide) (by rw [s1_0]) (by decide) ?_
    refine z_iload_n (pc := 90) C 1 dX6_join_90 rfl rfl ?_
    refine z_if_eq (pc := 91) C 102 dX6_join_91 (by decide) (fun c91 => ?_) (fun c91 => ?_)
    · refine z_iconst (pc := 102) (v := 0) C dX6_join_102 rfl ?_
      refine z_ireturn (pc := 103) C K dX6_join_103 ?_
      refine ⟨_, rfl, ?_, rfl⟩
      unfold eJoin
      simp_all [Int32.not_le, Int32.not_lt]
      try first | done | exact Int32.not_lt.mp (by assumption) | exact Int32.not_le.mp (by assumption) | (intro h; exact absurd h (Int32.not_lt.mpr (by assumption)))
    · refine z_iload_n (pc := 94) C 2 dX6_join_94 rfl rfl ?_
      refine z_if_eq (pc := 95) C 102 dX6_join_95 (by decide) (fun c95 => ?_) (fun c95 => ?_)
      · refine z_iconst (pc := 102) (v := 0) C dX6_join_102 rfl ?_
        refine z_ireturn (pc := 103) C K dX6_join_103 ?_
        refine ⟨_, rfl, ?_, rfl⟩
        unfold eJoin
        simp_all [Int32.not_le, Int32.not_lt]
        try first | done | exact Int32.not_lt.mp (by assumption) | exact Int32.not_le.mp (by assumption) | (intro h; exact absurd h (Int32.not_lt.mpr (by assumption)))
      · refine z_iconst (pc := 98) (v := 1) C dX6_join_98 rfl ?_
        refine z_goto (pc := 99) C 103 dX6_join_99 (by decide) ?_
        refine z_ireturn (pc := 103) C K dX6_join_103 ?_
        refine ⟨_, rfl, ?_, rfl⟩
        unfold eJoin
        simp_all [Int32.not_le, Int32.not_lt]
        try first | done | exact Int32.not_lt.mp (by assumption) | exact Int32.not_le.mp (by assumption) | (intro h; exact absurd h (Int32.not_lt.mpr (by assumption)))
  by_cases s1_1 : g = 42
  · refine z_lookup (pc := 1) C 145 dX6_join_1 (by decide) (by rw [s1_1]) (by decide) ?_
    refine z_iload_n (pc := 145) C 1 dX6_join_145 rfl rfl ?_
    refine z_iload_n (pc := 146) C 2 dX6_join_146 rfl rfl ?_
    refine z_imul (pc := 147) C dX6_join_147 ?_
    refine z_ireturn (pc := 148) C K dX6_join_148 ?_
    refine ⟨_, rfl, ?_, rfl⟩
    unfold eJoin
    simp_all [Int32.not_le, Int32.not_lt]
    try first | done | exact Int32.not_lt.mp (by assumption) | exact Int32.not_le.mp (by assumption) | (intro h; exact absurd h (Int32.not_lt.mpr (by assumption)))
  by_cases s1_2 : g = 43
  · refine z_lookup (pc := 1) C 137 dX6_join_1 (by decide) (by rw [s1_2]) (by decide) ?_
    refine z_iload_n (pc := 137) C 1 dX6_join_137 rfl rfl ?_
    refine z_iload_n (pc := 138) C 2 dX6_join_138 rfl rfl ?_
    refine z_iadd (pc := 139) C dX6_join_139 ?_
    refine z_ireturn (pc := 140) C K dX6_join_140 ?_
    refine ⟨_, rfl, ?_, rfl⟩
    unfold eJoin
    simp_all [Int32.not_le, Int32.not_lt]
    try first | done | exact Int32.not_lt.mp (by assumption) | exact Int32.not_le.mp (by assumption) | (intro h; exact absurd h (Int32.not_lt.mpr (by assumption)))
  by_cases s1_3 : g = 45
  · refine z_lookup (pc := 1) C 141 dX6_join_1 (by decide) (by rw [s1_3]) (by decide) ?_
    refine z_iload_n (pc := 141) C 1 dX6_join_141 rfl rfl ?_
    refine z_iload_n (pc := 142) C 2 dX6_join_142 rfl rfl ?_
    refine z_isub (pc := 143) C dX6_join_143 ?_
    refine z_ireturn (pc := 144) C K dX6_join_144 ?_
    refine ⟨_, rfl, ?_, rfl⟩
    unfold eJoin
    simp_all [Int32.not_le, Int32.not_lt]
    try first | done | exact Int32.not_lt.mp (by assumption) | exact Int32.not_le.mp (by assumption) | (intro h; exact absurd h (Int32.not_lt.mpr (by assumption)))
  by_cases s1_4 : g = 60
  · refine z_lookup (pc := 1) C 104 dX6_join_1 (by decide) (by rw [s1_4]) (by decide) ?_
    refine z_iload_n (pc := 104) C 1 dX6_join_104 rfl rfl ?_
    refine z_iload_n (pc := 105) C 2 dX6_join_105 rfl rfl ?_
    refine z_icmp_ge (pc := 106) C 113 dX6_join_106 (by decide) (fun c106 => ?_) (fun c106 => ?_)
    · refine z_iconst (pc := 113) (v := 0) C dX6_join_113 rfl ?_
      refine z_ireturn (pc := 114) C K dX6_join_114 ?_
      refine ⟨_, rfl, ?_, rfl⟩
      unfold eJoin
      simp_all [Int32.not_le, Int32.not_lt]
      try first | done | exact Int32.not_lt.mp (by assumption) | exact Int32.not_le.mp (by assumption) | (intro h; exact absurd h (Int32.not_lt.mpr (by assumption)))
    · refine z_iconst (pc := 109) (v := 1) C dX6_join_109 rfl ?_
      refine z_goto (pc := 110) C 114 dX6_join_110 (by decide) ?_
      refine z_ireturn (pc := 114) C K dX6_join_114 ?_
      refine ⟨_, rfl, ?_, rfl⟩
      unfold eJoin
      simp_all [Int32.not_le, Int32.not_lt]
      try first | done | exact Int32.not_lt.mp (by assumption) | exact Int32.not_le.mp (by assumption) | (intro h; exact absurd h (Int32.not_lt.mpr (by assumption)))
  by_cases s1_5 : g = 61
  · refine z_lookup (pc := 1) C 115 dX6_join_1 (by decide) (by rw [s1_5]) (by decide) ?_
    refine z_iload_n (pc := 115) C 1 dX6_join_115 rfl rfl ?_
    refine z_iload_n (pc := 116) C 2 dX6_join_116 rfl rfl ?_
    refine z_icmp_ne (pc := 117) C 124 dX6_join_117 (by decide) (fun c117 => ?_) (fun c117 => ?_)
    · refine z_iconst (pc := 124) (v := 0) C dX6_join_124 rfl ?_
      refine z_ireturn (pc := 125) C K dX6_join_125 ?_
      refine ⟨_, rfl, ?_, rfl⟩
      unfold eJoin
      simp_all [Int32.not_le, Int32.not_lt]
      try first | done | exact Int32.not_lt.mp (by assumption) | exact Int32.not_le.mp (by assumption) | (intro h; exact absurd h (Int32.not_lt.mpr (by assumption)))
    · refine z_iconst (pc := 120) (v := 1) C dX6_join_120 rfl ?_
      refine z_goto (pc := 121) C 125 dX6_join_121 (by decide) ?_
      refine z_ireturn (pc := 125) C K dX6_join_125 ?_
      refine ⟨_, rfl, ?_, rfl⟩
      unfold eJoin
      simp_all [Int32.not_le, Int32.not_lt]
      try first | done | exact Int32.not_lt.mp (by assumption) | exact Int32.not_le.mp (by assumption) | (intro h; exact absurd h (Int32.not_lt.mpr (by assumption)))
  by_cases s1_6 : g = 62
  · refine z_lookup (pc := 1) C 126 dX6_join_1 (by decide) (by rw [s1_6]) (by decide) ?_
    refine z_iload_n (pc := 126) C 1 dX6_join_126 rfl rfl ?_
    refine z_iload_n (pc := 127) C 2 dX6_join_127 rfl rfl ?_
    refine z_icmp_le (pc := 128) C 135 dX6_join_128 (by decide) (fun c128 => ?_) (fun c128 => ?_)
    · refine z_iconst (pc := 135) (v := 0) C dX6_join_135 rfl ?_
      refine z_ireturn (pc := 136) C K dX6_join_136 ?_
      refine ⟨_, rfl, ?_, rfl⟩
      unfold eJoin
      simp_all [Int32.not_le, Int32.not_lt]
      try first | done | exact Int32.not_lt.mp (by assumption) | exact Int32.not_le.mp (by assumption) | (intro h; exact absurd h (Int32.not_lt.mpr (by assumption)))
    · refine z_iconst (pc := 131) (v := 1) C dX6_join_131 rfl ?_
      refine z_goto (pc := 132) C 136 dX6_join_132 (by decide) ?_
      refine z_ireturn (pc := 136) C K dX6_join_136 ?_
      refine ⟨_, rfl, ?_, rfl⟩
      unfold eJoin
      simp_all [Int32.not_le, Int32.not_lt]
      try first | done | exact Int32.not_lt.mp (by assumption) | exact Int32.not_le.mp (by assumption) | (intro h; exact absurd h (Int32.not_lt.mpr (by assumption)))
  by_cases s1_7 : g = 124
  · refine z_lookup (pc := 1) C 76 dX6_join_1 (by decide) (by rw [s1_7]) (by decide) ?_
    refine z_iload_n (pc := 76) C 1 dX6_join_76 rfl rfl ?_
    refine z_if_ne (pc := 77) C 84 dX6_join_77 (by decide) (fun c77 => ?_) (fun c77 => ?_)
    · refine z_iconst (pc := 84) (v := 1) C dX6_join_84 rfl ?_
      refine z_goto (pc := 85) C 89 dX6_join_85 (by decide) ?_
      refine z_ireturn (pc := 89) C K dX6_join_89 ?_
      refine ⟨_, rfl, ?_, rfl⟩
      unfold eJoin
      simp_all [Int32.not_le, Int32.not_lt]
      try first | done | exact Int32.not_lt.mp (by assumption) | exact Int32.not_le.mp (by assumption) | (intro h; exact absurd h (Int32.not_lt.mpr (by assumption)))
    · refine z_iload_n (pc := 80) C 2 dX6_join_80 rfl rfl ?_
      refine z_if_eq (pc := 81) C 88 dX6_join_81 (by decide) (fun c81 => ?_) (fun c81 => ?_)
      · refine z_iconst (pc := 88) (v := 0) C dX6_join_88 rfl ?_
        refine z_ireturn (pc := 89) C K dX6_join_89 ?_
        refine ⟨_, rfl, ?_, rfl⟩
        unfold eJoin
        simp_all [Int32.not_le, Int32.not_lt]
        try first | done | exact Int32.not_lt.mp (by assumption) | exact Int32.not_le.mp (by assumption) | (intro h; exact absurd h (Int32.not_lt.mpr (by assumption)))
      · refine z_iconst (pc := 84) (v := 1) C dX6_join_84 rfl ?_
        refine z_goto (pc := 85) C 89 dX6_join_85 (by decide) ?_
        refine z_ireturn (pc := 89) C K dX6_join_89 ?_
        refine ⟨_, rfl, ?_, rfl⟩
        unfold eJoin
        simp_all [Int32.not_le, Int32.not_lt]
        try first | done | exact Int32.not_lt.mp (by assumption) | exact Int32.not_le.mp (by assumption) | (intro h; exact absurd h (Int32.not_lt.mpr (by assumption)))
  refine z_lookup (pc := 1) (off := 148) C 149 dX6_join_1 (by decide) (by show Op.lookupswitch.offset [(38, 89), (42, 144), (43, 136), (45, 140), (60, 103), (61, 114), (62, 125), (124, 75)] _ _ = _; rw [lv_osw (k := 38) (a := 38) s1_0 rfl, lv_osw (k := 42) (a := 42) s1_1 rfl, lv_osw (k := 43) (a := 43) s1_2 rfl, lv_osw (k := 45) (a := 45) s1_3 rfl, lv_osw (k := 60) (a := 60) s1_4 rfl, lv_osw (k := 61) (a := 61) s1_5 rfl, lv_osw (k := 62) (a := 62) s1_6 rfl, lv_osw (k := 124) (a := 124) s1_7 rfl]; rfl) (by decide) ?_
  refine z_iload_n (pc := 149) C 2 dX6_join_149 rfl rfl ?_
  refine z_if_ne (pc := 150) C 157 dX6_join_150 (by decide) (fun c150 => ?_) (fun c150 => ?_)
  · refine z_iload_n (pc := 157) C 1 dX6_join_157 rfl rfl ?_
    refine z_iload_n (pc := 158) C 2 dX6_join_158 rfl rfl ?_
    refine z_idiv (pc := 159) C dX6_join_159 c150 ?_
    refine z_ireturn (pc := 160) C K dX6_join_160 ?_
    refine ⟨_, rfl, ?_, rfl⟩
    unfold eJoin
    simp_all [Int32.not_le, Int32.not_lt]
    try first | done | exact Int32.not_lt.mp (by assumption) | exact Int32.not_le.mp (by assumption) | (intro h; exact absurd h (Int32.not_lt.mpr (by assumption)))
  · refine z_iconst (pc := 153) (v := 0) C dX6_join_153 rfl ?_
    refine z_goto (pc := 154) C 160 dX6_join_154 (by decide) ?_
    refine z_ireturn (pc := 160) C K dX6_join_160 ?_
    refine ⟨_, rfl, ?_, rfl⟩
    unfold eJoin
    simp_all [Int32.not_le, Int32.not_lt]
    try first | done | exact Int32.not_lt.mp (by assumption) | exact Int32.not_le.mp (by assumption) | (intro h; exact absurd h (Int32.not_lt.mpr (by assumption)))

theorem eStep_cases {a b c k : Int32} {st st' : List Int32} (h : eStep a b c k st = some st') : (k < 20000 ∧ st' = eLeaf k a b c :: st) ∨ (¬ k < 20000 ∧ k = 20033 ∧ ∃ x r, st = x :: r ∧ st' = (if x = 0 then 1 else 0) :: r) ∨ (¬ k < 20000 ∧ ¬ k = 20033 ∧ ∃ y x r, st = y :: x :: r ∧ st' = eJoin (k - 20000) x y :: r) := by
  unfold eStep at h
  split at h
  · rename_i h1
    exact Or.inl ⟨h1, (Option.some.inj h).symm⟩
  · rename_i h1
    split at h
    · rename_i h2
      match st, h with
      | x :: r, h => exact Or.inr (Or.inl ⟨h1, h2, x, r, rfl, (Option.some.inj h).symm⟩)
    · rename_i h2
      match st, h with
      | y :: x :: r, h => exact Or.inr (Or.inr ⟨h1, h2, y, x, r, rfl, (Option.some.inj h).symm⟩)
theorem eRun_pre {a b c : Int32} {f : Nat → Int32} : ∀ {n : Nat} {s : List Int32}, eRun a b c f n = some s → ∀ i, i ≤ n → ∃ s', eRun a b c f i = some s'
  | 0, s, h, i, hi => ⟨[], by rw [show i = 0 by omega]; rfl⟩
  | n + 1, s, h, i, hi => by
    by_cases e : i = n + 1
    · exact ⟨s, by rw [e]; exact h⟩
    · rw [eRun] at h
      cases hn : eRun a b c f n with
      | none => rw [hn] at h; cases h
      | some s2 => exact eRun_pre hn i (by omega)
theorem eRun_next {a b c : Int32} {f : Nat → Int32} {i : Nat} {s s' : List Int32} (h : eRun a b c f i = some s) (h' : eRun a b c f (i + 1) = some s') : eStep a b c (f i) s = some s' := by
  rw [eRun, h] at h'
  exact h'
theorem eRun_len {a b c : Int32} {f : Nat → Int32} : ∀ {n : Nat} {s : List Int32}, eRun a b c f n = some s → s.length ≤ n
  | 0, s, h => by cases h; exact Nat.le_refl _
  | n + 1, s, h => by
    obtain ⟨s2, h2⟩ := eRun_pre h n (by omega)
    have l2 := eRun_len h2
    rcases eStep_cases (eRun_next h2 h) with ⟨-, rfl⟩ | ⟨-, -, x, r, rfl, rfl⟩ | ⟨-, -, y, x, r, rfl, rfl⟩
    · simp only [List.length_cons]; omega
    · simp only [List.length_cons] at l2 ⊢; omega
    · simp only [List.length_cons] at l2 ⊢; omega
/-- the stack's picture: the top is the list's head -/
def stk (M : zM) (a : Nat) (st : List Int32) : Prop := ∀ j, j < st.length → M a 0 0 j = st.getD (st.length - 1 - j) 0
theorem stk.push {M : zM} {a : Nat} {st : List Int32} (h : stk M a st) (v : Int32) : stk (zu M a 0 0 st.length v) a (v :: st) := by
  intro j hj
  rw [List.length_cons] at hj ⊢
  by_cases e : j = st.length
  · rw [e, zu_self, show st.length + 1 - 1 - st.length = 0 by omega]
    rfl
  · rw [zu_f e, h j (by omega), show st.length + 1 - 1 - j = (st.length - 1 - j) + 1 by omega, List.getD_cons_succ]
theorem stk.set {M : zM} {a : Nat} {st : List Int32} {x : Int32} (h : stk M a (x :: st)) (v : Int32) : stk (zu M a 0 0 st.length v) a (v :: st) := by
  intro j hj
  have hj0 := hj
  rw [List.length_cons] at hj ⊢
  by_cases e : j = st.length
  · rw [e, zu_self, show st.length + 1 - 1 - st.length = 0 by omega]
    rfl
  · rw [zu_f e, h j hj0, List.length_cons, show st.length + 1 - 1 - j = (st.length - 1 - j) + 1 by omega, List.getD_cons_succ, List.getD_cons_succ]
theorem stk.pop {M : zM} {a : Nat} {st : List Int32} {x : Int32} (h : stk M a (x :: st)) : stk M a st := by
  intro j hj
  rw [h j (by rw [List.length_cons]; omega), List.length_cons, show st.length + 1 - 1 - j = (st.length - 1 - j) + 1 by omega, List.getD_cons_succ]
theorem stk.top {M : zM} {a : Nat} {st : List Int32} {x : Int32} (h : stk M a (x :: st)) : M a 0 0 st.length = x := by
  rw [h st.length (by rw [List.length_cons]; omega), List.length_cons, show st.length + 1 - 1 - st.length = 0 by omega]
  rfl
theorem tget {t : Nat} (h : t < 14) : ([some 4, some 6, some 8, some 10, some 12, some 14, some 16, some 18, some 20, some 22, some 24, some 26, some 28, some 30] : List (Option Nat))[(nI t).toNatClampNeg]? = some (some (adT t)) := by
  rw [nI_clamp (by omega)]
  rcases (show t = 0 ∨ t = 1 ∨ t = 2 ∨ t = 3 ∨ t = 4 ∨ t = 5 ∨ t = 6 ∨ t = 7 ∨ t = 8 ∨ t = 9 ∨ t = 10 ∨ t = 11 ∨ t = 12 ∨ t = 13 by omega) with rfl | rfl | rfl | rfl | rfl | rfl | rfl | rfl | rfl | rfl | rfl | rfl | rfl | rfl <;> rfl
theorem e12.u {M M' : zM} (h : e12 M M') {i j f : Nat} {v : Int32} : e12 M (zu M' 12 i j f v) := fun a ha => (zu_a ha).trans (h a ha)
set_option maxHeartbeats 4000000 in
set_option maxRecDepth 100000 in
theorem mX6_give {l : Launch} {G : zG} {b : Nat} {M : zM} {t : Nat} (ht : t < 14) {x y z r : Int32} (hr : tGives M t x y z r) : zMet l G b yX6_give cX6_give 9 (some .int) 1 zshL zshL [.ref (b + 1), .int (nI t), .int x, .int y, .int z] M (zI (fun v M' => v = r ∧ e12 M M')) := by
  refine zMet.of (L0 := [some (.ref (b + 1)), some (.int (nI t)), some (.int x), some (.int y), some (.int z), none, none, none, none]) (by decide +kernel) (Nat.le_refl _) (Nat.le_refl _) (Nat.le_of_ble_eq_true rfl) (List.forall_mem_cons.mpr ⟨rfl, List.forall_mem_cons.mpr ⟨rfl, List.forall_mem_cons.mpr ⟨rfl, List.forall_mem_cons.mpr ⟨rfl, List.forall_mem_cons.mpr ⟨rfl, fun _ h => absurd h List.not_mem_nil⟩⟩⟩⟩⟩) rfl (fun X C Al K => ?_)
  obtain ⟨n, hn96, hn, hev⟩ := hr
  have loop : ∀ (k i : Nat) (st : List Int32) (M1 : zM) (q : Option Value), i + k = n → e12 M M1 → eRun x y z (M 9 t 0) i = some st → stk M1 12 st → zW X zshL M1 26 [some (.ref (b + 1)), some (.int (nI t)), some (.int x), some (.int y), some (.int z), some (.ref (b + adT t)), some (.int (nI st.length)), some (.int (nI i)), q] [] := by
    intro k
    induction k with
    | zero =>
      intro i st M1 q hi he hs hk
      have hn1 : M1 8 t 0 2 = nI n := by rw [he 8 (by decide)]; exact hn
      have hi0 : i = n := by omega
      rw [hi0, hev] at hs
      have hs1 := Option.some.inj hs
      subst hs1
      refine z_iload (pc := 26) C 7 dX6_give_26 rfl ?_
      refine z_aload (pc := 28) C 5 dX6_give_28 rfl ?_
      refine z_getI (pc := 30) C dX6_give_30 fX6_22 (shT (Nat.lt_succ_of_lt ht)) rfl ?_
      refine z_icmp_ge (pc := 33) C 174 dX6_give_33 (by decide) (fun c33 => ?_) (fun c33 => absurd (zlt hn1 (by omega) (by omega)) c33)
      refine z_aload_n (pc := 174) C 0 dX6_give_174 rfl rfl ?_
      refine z_getR (pc := 175) (r := 3) C dX6_give_175 fX6_17 sh_1 rfl ?_
      refine z_iconst (pc := 178) (v := 0) C dX6_give_178 rfl ?_
      refine z_iald (pc := 179) (n := 0) C dX6_give_179 sh_3 (zi_in.mpr (by decide)) rfl ?_
      refine z_ireturn (pc := 180) C K dX6_give_180 ?_
      exact ⟨_, rfl, hk.top, he⟩
    | succ k ih =>
      intro i st M1 q hi he hs hk
      have hn1 : M1 8 t 0 2 = nI n := by rw [he 8 (by decide)]; exact hn
      have hc : M1 9 t 0 i = M 9 t 0 i := by rw [he 9 (by decide)]
      obtain ⟨st', hs'⟩ := eRun_pre hev (i + 1) (by omega)
      have hl := eRun_len hs
      have hcs := eStep_cases (eRun_next hs hs')
      rw [← hc] at hcs
      rcases hcs with ⟨g1, rfl⟩ | ⟨g1, g2, x0, r0, rfl, rfl⟩ | ⟨g1, g2, y0, x0, r0, rfl, rfl⟩
      · refine z_iload (pc := 26) C 7 dX6_give_26 rfl ?_
        refine z_aload (pc := 28) C 5 dX6_give_28 rfl ?_
        refine z_getI (pc := 30) C dX6_give_30 fX6_22 (shT (Nat.lt_succ_of_lt ht)) rfl ?_
        refine z_icmp_ge (pc := 33) C 174 dX6_give_33 (by decide) (fun c33 => absurd c33 (zlf hn1 (by omega) (by omega))) (fun c33 => ?_)
        refine z_aload (pc := 36) C 5 dX6_give_36 rfl ?_
        refine z_getR (pc := 38) (r := adT t + 1) C dX6_give_38 fX6_26 (shT (Nat.lt_succ_of_lt ht)) rfl ?_
        refine z_iload (pc := 41) C 7 dX6_give_41 rfl ?_
        refine z_iald (pc := 43) (n := i) C dX6_give_43 (shC (Nat.lt_succ_of_lt ht)) (vp_in_nI (by omega) (by omega)) (nI_clamp (by omega)) ?_
        refine z_istore (pc := 44) C 8 dX6_give_44 (by decide) rfl ?_
        refine z_iload (pc := 46) C 8 dX6_give_46 rfl ?_
        refine z_sipush (pc := 48) (v := 20000) C dX6_give_48 rfl ?_
        refine z_icmp_ge (pc := 51) C 83 dX6_give_51 (by decide) (fun c51 => absurd g1 (Int32.not_lt.mpr c51)) (fun c51 => ?_)
        refine z_iload (pc := 54) C 6 dX6_give_54 rfl ?_
        refine z_bipush (pc := 56) (v := 96) C dX6_give_56 rfl ?_
        refine z_icmp_ge (pc := 58) C 168 dX6_give_58 (by decide) (fun c58 => absurd c58 (nI_ge (b := 96) (by omega) (by omega))) (fun c58 => ?_)
        refine z_aload_n (pc := 61) C 0 dX6_give_61 rfl rfl ?_
        refine z_getR (pc := 62) (r := 3) C dX6_give_62 fX6_17 sh_1 rfl ?_
        refine z_iload (pc := 65) C 6 dX6_give_65 rfl ?_
        refine z_iload (pc := 67) C 8 dX6_give_67 rfl ?_
        refine z_iload_n (pc := 69) C 2 dX6_give_69 rfl rfl ?_
        refine z_iload_n (pc := 70) C 3 dX6_give_70 rfl rfl ?_
        refine z_iload (pc := 71) C 4 dX6_give_71 rfl ?_
        refine z_callSi (pc := 73) C dX6_give_73 kX6_29 mX6_leaf (by decide) rfl rfl (Nat.le_of_ble_eq_true rfl) (fun r73 M73 h73 => ?_)
        obtain ⟨rfl, e73⟩ := h73
        subst M73
        refine z_iast (pc := 76) (n := st.length) C dX6_give_76 sh_3 (vp_in_nI (by omega) (by omega)) (nI_clamp (by omega)) ?_
        refine z_iinc (pc := 77) (v := 1) C 6 dX6_give_77 (by decide) rfl rfl rfl ?_
        refine z_goto (pc := 80) C 168 dX6_give_80 (by decide) ?_
        refine z_iinc (pc := 168) (v := 1) C 7 dX6_give_168 (by decide) rfl rfl rfl ?_
        refine z_goto (pc := 171) C 26 dX6_give_171 (by decide) ?_
        have e := ih (i + 1) _ (zu M1 12 0 0 st.length (eLeaf (M1 9 t 0 i) x y z)) (some (.int (M1 9 t 0 i))) (by omega) he.u hs' (hk.push _)
        rw [List.length_cons, nI_succ, nI_succ] at e
        exact e
      · rw [List.length_cons] at hl
        refine z_iload (pc := 26) C 7 dX6_give_26 rfl ?_
        refine z_aload (pc := 28) C 5 dX6_give_28 rfl ?_
        refine z_getI (pc := 30) C dX6_give_30 fX6_22 (shT (Nat.lt_succ_of_lt ht)) rfl ?_
        refine z_icmp_ge (pc := 33) C 174 dX6_give_33 (by decide) (fun c33 => absurd c33 (zlf hn1 (by omega) (by omega))) (fun c33 => ?_)
        refine z_aload (pc := 36) C 5 dX6_give_36 rfl ?_
        refine z_getR (pc := 38) (r := adT t + 1) C dX6_give_38 fX6_26 (shT (Nat.lt_succ_of_lt ht)) rfl ?_
        refine z_iload (pc := 41) C 7 dX6_give_41 rfl ?_
        refine z_iald (pc := 43) (n := i) C dX6_give_43 (shC (Nat.lt_succ_of_lt ht)) (vp_in_nI (by omega) (by omega)) (nI_clamp (by omega)) ?_
        refine z_istore (pc := 44) C 8 dX6_give_44 (by decide) rfl ?_
        refine z_iload (pc := 46) C 8 dX6_give_46 rfl ?_
        refine z_sipush (pc := 48) (v := 20000) C dX6_give_48 rfl ?_
        refine z_icmp_ge (pc := 51) C 83 dX6_give_51 (by decide) (fun c51 => ?_) (fun c51 => absurd (Int32.not_lt.mp g1) c51)
        refine z_iload (pc := 83) C 8 dX6_give_83 rfl ?_
        refine z_sipush (pc := 85) (v := 20033) C dX6_give_85 rfl ?_
        refine z_icmp_ne (pc := 88) C 125 dX6_give_88 (by decide) (fun c88 => absurd g2 c88) (fun c88 => ?_)
        refine z_iload (pc := 91) C 6 dX6_give_91 rfl ?_
        refine z_if_le (pc := 93) C 168 dX6_give_93 (by decide) (fun c93 => absurd c93 (nI_nle (n := r0.length + 1) (by omega) (by omega))) (fun c93 => ?_)
        refine z_aload_n (pc := 96) C 0 dX6_give_96 rfl rfl ?_
        refine z_getR (pc := 97) (r := 3) C dX6_give_97 fX6_17 sh_1 rfl ?_
        refine z_iload (pc := 100) C 6 dX6_give_100 rfl ?_
        refine z_iconst (pc := 102) (v := 1) C dX6_give_102 rfl ?_
        refine z_isub (pc := 103) C dX6_give_103 ?_
        refine z_aload_n (pc := 104) C 0 dX6_give_104 rfl rfl ?_
        refine z_getR (pc := 105) (r := 3) C dX6_give_105 fX6_17 sh_1 rfl ?_
        refine z_iload (pc := 108) C 6 dX6_give_108 rfl ?_
        refine z_iconst (pc := 110) (v := 1) C dX6_give_110 rfl ?_
        refine z_isub (pc := 111) C dX6_give_111 ?_
        refine z_iald (pc := 112) (n := r0.length) C dX6_give_112 sh_3 (by show vp_in (nI (r0.length + 1) - 1) 96; rw [nI_pred]; exact vp_in_nI (by omega) (by omega)) (by show (nI (r0.length + 1) - 1).toNatClampNeg = r0.length; rw [nI_pred]; exact nI_clamp (by omega)) ?_
        refine z_if_ne (pc := 113) C 120 dX6_give_113 (by decide) (fun c113 => ?_) (fun c113 => ?_)
        · refine z_iconst (pc := 120) (v := 0) C dX6_give_120 rfl ?_
          refine z_iast (pc := 121) (n := r0.length) C dX6_give_121 sh_3 (by show vp_in (nI (r0.length + 1) - 1) 96; rw [nI_pred]; exact vp_in_nI (by omega) (by omega)) (by show (nI (r0.length + 1) - 1).toNatClampNeg = r0.length; rw [nI_pred]; exact nI_clamp (by omega)) ?_
          refine z_goto (pc := 122) C 168 dX6_give_122 (by decide) ?_
          refine z_iinc (pc := 168) (v := 1) C 7 dX6_give_168 (by decide) rfl rfl rfl ?_
          refine z_goto (pc := 171) C 26 dX6_give_171 (by decide) ?_
          rw [hk.top] at c113
          have e := ih (i + 1) _ (zu M1 12 0 0 r0.length (if x0 = 0 then 1 else 0)) (some (.int (M1 9 t 0 i))) (by omega) he.u hs' (hk.set _)
          rw [List.length_cons, nI_succ i, if_neg c113] at e
          exact e
        · refine z_iconst (pc := 116) (v := 1) C dX6_give_116 rfl ?_
          refine z_goto (pc := 117) C 121 dX6_give_117 (by decide) ?_
          refine z_iast (pc := 121) (n := r0.length) C dX6_give_121 sh_3 (by show vp_in (nI (r0.length + 1) - 1) 96; rw [nI_pred]; exact vp_in_nI (by omega) (by omega)) (by show (nI (r0.length + 1) - 1).toNatClampNeg = r0.length; rw [nI_pred]; exact nI_clamp (by omega)) ?_
          refine z_goto (pc := 122) C 168 dX6_give_122 (by decide) ?_
          refine z_iinc (pc := 168) (v := 1) C 7 dX6_give_168 (by decide) rfl rfl rfl ?_
          refine z_goto (pc := 171) C 26 dX6_give_171 (by decide) ?_
          rw [hk.top] at c113
          have e := ih (i + 1) _ (zu M1 12 0 0 r0.length (if x0 = 0 then 1 else 0)) (some (.int (M1 9 t 0 i))) (by omega) he.u hs' (hk.set _)
          rw [List.length_cons, nI_succ i, if_pos c113] at e
          exact e
      · rw [List.length_cons, List.length_cons] at hl
        refine z_iload (pc := 26) C 7 dX6_give_26 rfl ?_
        refine z_aload (pc := 28) C 5 dX6_give_28 rfl ?_
        refine z_getI (pc := 30) C dX6_give_30 fX6_22 (shT (Nat.lt_succ_of_lt ht)) rfl ?_
        refine z_icmp_ge (pc := 33) C 174 dX6_give_33 (by decide) (fun c33 => absurd c33 (zlf hn1 (by omega) (by omega))) (fun c33 => ?_)
        refine z_aload (pc := 36) C 5 dX6_give_36 rfl ?_
        refine z_getR (pc := 38) (r := adT t + 1) C dX6_give_38 fX6_26 (shT (Nat.lt_succ_of_lt ht)) rfl ?_
        refine z_iload (pc := 41) C 7 dX6_give_41 rfl ?_
        refine z_iald (pc := 43) (n := i) C dX6_give_43 (shC (Nat.lt_succ_of_lt ht)) (vp_in_nI (by omega) (by omega)) (nI_clamp (by omega)) ?_
        refine z_istore (pc := 44) C 8 dX6_give_44 (by decide) rfl ?_
        refine z_iload (pc := 46) C 8 dX6_give_46 rfl ?_
        refine z_sipush (pc := 48) (v := 20000) C dX6_give_48 rfl ?_
        refine z_icmp_ge (pc := 51) C 83 dX6_give_51 (by decide) (fun c51 => ?_) (fun c51 => absurd (Int32.not_lt.mp g1) c51)
        refine z_iload (pc := 83) C 8 dX6_give_83 rfl ?_
        refine z_sipush (pc := 85) (v := 20033) C dX6_give_85 rfl ?_
        refine z_icmp_ne (pc := 88) C 125 dX6_give_88 (by decide) (fun c88 => ?_) (fun c88 => absurd c88 g2)
        refine z_iload (pc := 125) C 6 dX6_give_125 rfl ?_
        refine z_iconst (pc := 127) (v := 1) C dX6_give_127 rfl ?_
        refine z_icmp_le (pc := 128) C 168 dX6_give_128 (by decide) (fun c128 => absurd c128 (nI_ge (a := 1) (b := r0.length + 2) (by omega) (by omega))) (fun c128 => ?_)
        refine z_iinc (pc := 131) (v := -1) C 6 dX6_give_131 (by decide) rfl rfl rfl ?_
        refine z_aload_n (pc := 134) C 0 dX6_give_134 rfl rfl ?_
        refine z_getR (pc := 135) (r := 3) C dX6_give_135 fX6_17 sh_1 rfl ?_
        refine z_iload (pc := 138) C 6 dX6_give_138 rfl ?_
        refine z_iconst (pc := 140) (v := 1) C dX6_give_140 rfl ?_
        refine z_isub (pc := 141) C dX6_give_141 ?_
        refine z_iload (pc := 142) C 8 dX6_give_142 rfl ?_
        refine z_sipush (pc := 144) (v := 20000) C dX6_give_144 rfl ?_
        refine z_isub (pc := 147) C dX6_give_147 ?_
        refine z_aload_n (pc := 148) C 0 dX6_give_148 rfl rfl ?_
        refine z_getR (pc := 149) (r := 3) C dX6_give_149 fX6_17 sh_1 rfl ?_
        refine z_iload (pc := 152) C 6 dX6_give_152 rfl ?_
        refine z_iconst (pc := 154) (v := 1) C dX6_give_154 rfl ?_
        refine z_isub (pc := 155) C dX6_give_155 ?_
        refine z_iald (pc := 156) (n := r0.length) C dX6_give_156 sh_3 (by show vp_in (nI (r0.length + 1 + 1) + (-1) - 1) 96; rw [pk_m1, nI_pred]; exact vp_in_nI (by omega) (by omega)) (by show (nI (r0.length + 1 + 1) + (-1) - 1).toNatClampNeg = r0.length; rw [pk_m1, nI_pred]; exact nI_clamp (by omega)) ?_
        refine z_aload_n (pc := 157) C 0 dX6_give_157 rfl rfl ?_
        refine z_getR (pc := 158) (r := 3) C dX6_give_158 fX6_17 sh_1 rfl ?_
        refine z_iload (pc := 161) C 6 dX6_give_161 rfl ?_
        refine z_iald (pc := 163) (n := r0.length + 1) C dX6_give_163 sh_3 (by show vp_in (nI (r0.length + 1 + 1) + (-1)) 96; rw [pk_m1]; exact vp_in_nI (by omega) (by omega)) (by show (nI (r0.length + 1 + 1) + (-1)).toNatClampNeg = r0.length + 1; rw [pk_m1]; exact nI_clamp (by omega)) ?_
        refine z_callSi (pc := 164) C dX6_give_164 kX6_33 mX6_join (by decide) rfl rfl (Nat.le_of_ble_eq_true rfl) (fun r164 M164 h164 => ?_)
        obtain ⟨rfl, e164⟩ := h164
        subst M164
        refine z_iast (pc := 167) (n := r0.length) C dX6_give_167 sh_3 (by show vp_in (nI (r0.length + 1 + 1) + (-1) - 1) 96; rw [pk_m1, nI_pred]; exact vp_in_nI (by omega) (by omega)) (by show (nI (r0.length + 1 + 1) + (-1) - 1).toNatClampNeg = r0.length; rw [pk_m1, nI_pred]; exact nI_clamp (by omega)) ?_
        refine z_iinc (pc := 168) (v := 1) C 7 dX6_give_168 (by decide) rfl rfl rfl ?_
        refine z_goto (pc := 171) C 26 dX6_give_171 (by decide) ?_
        have e := ih (i + 1) _ (zu M1 12 0 0 r0.length (eJoin (M1 9 t 0 i - 20000) x0 y0)) (some (.int (M1 9 t 0 i))) (by omega) he.u hs' (hk.pop.set _)
        have t1 : M1 12 0 0 (r0.length + 1) = y0 := hk.top
        have t0 : M1 12 0 0 r0.length = x0 := hk.pop.top
        rw [t1, t0]
        rw [List.length_cons, nI_succ i] at e
        have hl1 : nI (r0.length + 1 + 1) + (-1) = nI (r0.length + 1) := pk_m1 _
        rw [← hl1] at e
        exact e
  refine z_iload_n (pc := 0) C 1 dX6_give_0 rfl rfl ?_
  refine z_if_lt (pc := 1) C 10 dX6_give_1 (by decide) (fun c1 => absurd c1 (nI_pos (by omega))) (fun c1 => ?_)
  refine z_iload_n (pc := 4) C 1 dX6_give_4 rfl rfl ?_
  refine z_bipush (pc := 5) (v := 14) C dX6_give_5 rfl ?_
  refine z_icmp_lt (pc := 7) C 12 dX6_give_7 (by decide) (fun c7 => ?_) (fun c7 => absurd (nI_lt (b := 14) (by omega) (by omega)) c7)
  refine z_aload_n (pc := 12) C 0 dX6_give_12 rfl rfl ?_
  refine z_getR (pc := 13) (r := 2) C dX6_give_13 fX6_11 sh_1 rfl ?_
  refine z_iload_n (pc := 16) C 1 dX6_give_16 rfl rfl ?_
  refine z_aald (pc := 17) (r := adT t) C dX6_give_17 sh_2 rfl rfl (vp_in_nI (by omega) (by decide)) (tget ht) ?_
  refine z_astore (pc := 18) C 5 dX6_give_18 (by decide) rfl ?_
  refine z_iconst (pc := 20) (v := 0) C dX6_give_20 rfl ?_
  refine z_istore (pc := 21) C 6 dX6_give_21 (by decide) rfl ?_
  refine z_iconst (pc := 23) (v := 0) C dX6_give_23 rfl ?_
  refine z_istore (pc := 24) C 7 dX6_give_24 (by decide) rfl ?_
  exact loop n 0 [] M _ (by omega) e12.rfl' rfl (fun j hj => absurd hj (Nat.not_lt_zero _))
