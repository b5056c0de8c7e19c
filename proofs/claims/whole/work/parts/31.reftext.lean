/-! THE REFERENCE: texts -/
/-- the class's code in the reference's -/
def tr (c : Int32) : Int32 := if c < 20000 then c else if c = 20124 then -1 else if c = 20038 then -2 else if c = 20060 then -3 else if c = 20061 then -4 else if c = 20062 then -5 else if c = 20043 then -6 else if c = 20045 then -7 else if c = 20042 then -8 else if c = 20047 then -9 else -10
def cOK (c : Int32) : Prop := (0 ≤ c.toInt ∧ c.toInt ≤ 10002) ∨ c = 20033 ∨ c = 20124 ∨ c = 20038 ∨ c = 20060 ∨ c = 20061 ∨ c = 20062 ∨ c = 20043 ∨ c = 20045 ∨ c = 20042 ∨ c = 20047
def mTwo (g x y : Int32) : Int32 := if g = -1 then (if x = 0 ∧ y = 0 then 0 else 1) else if g = -2 then (if x = 0 ∨ y = 0 then 0 else 1) else if g = -3 then (if x < y then 1 else 0) else if g = -4 then (if x = y then 1 else 0) else if g = -5 then (if y < x then 1 else 0) else if g = -6 then x + y else if g = -7 then x - y else if g = -8 then x * y else (if y = 0 then 0 else x / y)
theorem mTwo_tr {c x y : Int32} (h : cOK c) (h1 : ¬ c < 20000) (h2 : ¬ c = 20033) : mTwo (tr c) x y = eJoin (c - 20000) x y ∧ tr c < 0 ∧ ¬ tr c = -10 := by
  rcases h with ⟨-, h⟩ | h | h | h | h | h | h | h | h | h | h
  · exact absurd (zi_lt.mpr (by have : (20000 : Int32).toInt = 20000 := by decide
                                omega)) h1
  · exact absurd h h2
  all_goals (subst h; exact ⟨rfl, by decide, by decide⟩)
set_option maxHeartbeats 4000000 in
set_option maxRecDepth 100000 in
theorem mX10_two {l : Launch} {G : zG} {b : Nat} {M : zM} {g x y : Int32} : zMet l G b yX10_two cX10_two 3 (some .int) 0 zshL zshL [.int g, .int x, .int y] M (zI (fun r M' => r = mTwo g x y ∧ M' = M)) := by
  refine zMet.of (L0 := [some (.int g), some (.int x), some (.int y)]) (by decide +kernel) (Nat.le_refl _) (Nat.le_refl _) (Nat.le_of_ble_eq_true rfl) (List.forall_mem_cons.mpr ⟨rfl, List.forall_mem_cons.mpr ⟨rfl, List.forall_mem_cons.mpr ⟨rfl, fun _ h => absurd h List.not_mem_nil⟩⟩⟩) rfl (fun X C Al K => ?_)
  refine z_iload_n (pc := 0) C 0 dX10_two_0 rfl rfl ?_
  by_cases s1_0 : g = (-8)
  · refine z_tswIn (pc := 1) C (-8) 117 dX10_two_1 (by rw [s1_0]; rfl) (by decide) (by decide) rfl (by decide) ?_
    refine z_iload_n (pc := 117) C 1 dX10_two_117 rfl rfl ?_
    refine z_iload_n (pc := 118) C 2 dX10_two_118 rfl rfl ?_
    refine z_imul (pc := 119) C dX10_two_119 ?_
    refine z_ireturn (pc := 120) C K dX10_two_120 ?_
    refine ⟨_, rfl, ?_, rfl⟩
    unfold mTwo
    simp_all [Int32.not_le, Int32.not_lt]
    try first | done | exact Int32.not_lt.mp (by assumption) | exact Int32.not_le.mp (by assumption) | (intro h; exact absurd h (Int32.not_lt.mpr (by assumption)))
  by_cases s1_1 : g = (-7)
  · refine z_tswIn (pc := 1) C (-7) 113 dX10_two_1 (by rw [s1_1]; rfl) (by decide) (by decide) rfl (by decide) ?_
    refine z_iload_n (pc := 113) C 1 dX10_two_113 rfl rfl ?_
    refine z_iload_n (pc := 114) C 2 dX10_two_114 rfl rfl ?_
    refine z_isub (pc := 115) C dX10_two_115 ?_
    refine z_ireturn (pc := 116) C K dX10_two_116 ?_
    refine ⟨_, rfl, ?_, rfl⟩
    unfold mTwo
    simp_all [Int32.not_le, Int32.not_lt]
    try first | done | exact Int32.not_lt.mp (by assumption) | exact Int32.not_le.mp (by assumption) | (intro h; exact absurd h (Int32.not_lt.mpr (by assumption)))
  by_cases s1_2 : g = (-6)
  · refine z_tswIn (pc := 1) C (-6) 109 dX10_two_1 (by rw [s1_2]; rfl) (by decide) (by decide) rfl (by decide) ?_
    refine z_iload_n (pc := 109) C 1 dX10_two_109 rfl rfl ?_
    refine z_iload_n (pc := 110) C 2 dX10_two_110 rfl rfl ?_
    refine z_iadd (pc := 111) C dX10_two_111 ?_
    refine z_ireturn (pc := 112) C K dX10_two_112 ?_
    refine ⟨_, rfl, ?_, rfl⟩
    unfold mTwo
    simp_all [Int32.not_le, Int32.not_lt]
    try first | done | exact Int32.not_lt.mp (by assumption) | exact Int32.not_le.mp (by assumption) | (intro h; exact absurd h (Int32.not_lt.mpr (by assumption)))
  by_cases s1_3 : g = (-5)
  · refine z_tswIn (pc := 1) C (-5) 98 dX10_two_1 (by rw [s1_3]; rfl) (by decide) (by decide) rfl (by decide) ?_
    refine z_iload_n (pc := 98) C 1 dX10_two_98 rfl rfl ?_
    refine z_iload_n (pc := 99) C 2 dX10_two_99 rfl rfl ?_
    refine z_icmp_le (pc := 100) C 107 dX10_two_100 (by decide) (fun c100 => ?_) (fun c100 => ?_)
    · refine z_iconst (pc := 107) (v := 0) C dX10_two_107 rfl ?_
      refine z_ireturn (pc := 108) C K dX10_two_108 ?_
      refine ⟨_, rfl, ?_, rfl⟩
      unfold mTwo
      simp_all [Int32.not_le, Int32.not_lt]
      try first | done | exact Int32.not_lt.mp (by assumption) | exact Int32.not_le.mp (by assumption) | (intro h; exact absurd h (Int32.not_lt.mpr (by assumption)))
    · refine z_iconst (pc := 103) (v := 1) C dX10_two_103 rfl ?_
      refine z_goto (pc := 104) C 108 dX10_two_104 (by decide) ?_
      refine z_ireturn (pc := 108) C K dX10_two_108 ?_
      refine ⟨_, rfl, ?_, rfl⟩
      unfold mTwo
      simp_all [Int32.not_le, Int32.not_lt]
      try first | done | exact Int32.not_lt.mp (by assumption) | exact Int32.not_le.mp (by assumption) | (intro h; exact absurd h (Int32.not_lt.mpr (by assumption)))
  by_cases s1_4 : g = (-4)
  · refine z_tswIn (pc := 1) C (-4) 87 dX10_two_1 (by rw [s1_4]; rfl) (by decide) (by decide) rfl (by decide) ?_
    refine z_iload_n (pc := 87) C 1 dX10_two_87 rfl rfl ?_
    refine z_iload_n (pc := 88) C 2 dX10_two_88 rfl rfl ?_
    refine z_icmp_ne (pc := 89) C 96 dX10_two_89 (by decide) (fun c89 => ?_) (fun c89 => ?_)
    · refine z_iconst (pc := 96) (v := 0) C dX10_two_96 rfl ?_
      refine z_ireturn (pc := 97) C K dX10_two_97 ?_
      refine ⟨_, rfl, ?_, rfl⟩
      unfold mTwo
      simp_all [Int32.not_le, Int32.not_lt]
      try first | done | exact Int32.not_lt.mp (by assumption) | exact Int32.not_le.mp (by assumption) | (intro h; exact absurd h (Int32.not_lt.mpr (by assumption)))
    · refine z_iconst (pc := 92) (v := 1) C dX10_two_92 rfl ?_
      refine z_goto (pc := 93) C 97 dX10_two_93 (by decide) ?_
      refine z_ireturn (pc := 97) C K dX10_two_97 ?_
      refine ⟨_, rfl, ?_, rfl⟩
      unfold mTwo
      simp_all [Int32.not_le, Int32.not_lt]
      try first | done | exact Int32.not_lt.mp (by assumption) | exact Int32.not_le.mp (by assumption) | (intro h; exact absurd h (Int32.not_lt.mpr (by assumption)))
  by_cases s1_5 : g = (-3)
  · refine z_tswIn (pc := 1) C (-3) 76 dX10_two_1 (by rw [s1_5]; rfl) (by decide) (by decide) rfl (by decide) ?_
    refine z_iload_n (pc := 76) C 1 dX10_two_76 rfl rfl ?_
    refine z_iload_n (pc := 77) C 2 dX10_two_77 rfl rfl ?_
    refine z_icmp_ge (pc := 78) C 85 dX10_two_78 (by decide) (fun c78 => ?_) (fun c78 => ?_)
    · refine z_iconst (pc := 85) (v := 0) C dX10_two_85 rfl ?_
      refine z_ireturn (pc := 86) C K dX10_two_86 ?_
      refine ⟨_, rfl, ?_, rfl⟩
      unfold mTwo
      simp_all [Int32.not_le, Int32.not_lt]
      try first | done | exact Int32.not_lt.mp (by assumption) | exact Int32.not_le.mp (by assumption) | (intro h; exact absurd h (Int32.not_lt.mpr (by assumption)))
    · refine z_iconst (pc := 81) (v := 1) C dX10_two_81 rfl ?_
      refine z_goto (pc := 82) C 86 dX10_two_82 (by decide) ?_
      refine z_ireturn (pc := 86) C K dX10_two_86 ?_
      refine ⟨_, rfl, ?_, rfl⟩
      unfold mTwo
      simp_all [Int32.not_le, Int32.not_lt]
      try first | done | exact Int32.not_lt.mp (by assumption) | exact Int32.not_le.mp (by assumption) | (intro h; exact absurd h (Int32.not_lt.mpr (by assumption)))
  by_cases s1_6 : g = (-2)
  · refine z_tswIn (pc := 1) C (-2) 62 dX10_two_1 (by rw [s1_6]; rfl) (by decide) (by decide) rfl (by decide) ?_
    refine z_iload_n (pc := 62) C 1 dX10_two_62 rfl rfl ?_
    refine z_if_eq (pc := 63) C 74 dX10_two_63 (by decide) (fun c63 => ?_) (fun c63 => ?_)
    · refine z_iconst (pc := 74) (v := 0) C dX10_two_74 rfl ?_
      refine z_ireturn (pc := 75) C K dX10_two_75 ?_
      refine ⟨_, rfl, ?_, rfl⟩
      unfold mTwo
      simp_all [Int32.not_le, Int32.not_lt]
      try first | done | exact Int32.not_lt.mp (by assumption) | exact Int32.not_le.mp (by assumption) | (intro h; exact absurd h (Int32.not_lt.mpr (by assumption)))
    · refine z_iload_n (pc := 66) C 2 dX10_two_66 rfl rfl ?_
      refine z_if_eq (pc := 67) C 74 dX10_two_67 (by decide) (fun c67 => ?_) (fun c67 => ?_)
      · refine z_iconst (pc := 74) (v := 0) C dX10_two_74 rfl ?_
        refine z_ireturn (pc := 75) C K dX10_two_75 ?_
        refine ⟨_, rfl, ?_, rfl⟩
        unfold mTwo
        simp_all [Int32.not_le, Int32.not_lt]
        try first | done | exact Int32.not_lt.mp (by assumption) | exact Int32.not_le.mp (by assumption) | (intro h; exact absurd h (Int32.not_lt.mpr (by assumption)))
      · refine z_iconst (pc := 70) (v := 1) C dX10_two_70 rfl ?_
        refine z_goto (pc := 71) C 75 dX10_two_71 (by decide) ?_
        refine z_ireturn (pc := 75) C K dX10_two_75 ?_
        refine ⟨_, rfl, ?_, rfl⟩
        unfold mTwo
        simp_all [Int32.not_le, Int32.not_lt]
        try first | done | exact Int32.not_lt.mp (by assumption) | exact Int32.not_le.mp (by assumption) | (intro h; exact absurd h (Int32.not_lt.mpr (by assumption)))
  by_cases s1_7 : g = (-1)
  · refine z_tswIn (pc := 1) C (-1) 48 dX10_two_1 (by rw [s1_7]; rfl) (by decide) (by decide) rfl (by decide) ?_
    refine z_iload_n (pc := 48) C 1 dX10_two_48 rfl rfl ?_
    refine z_if_ne (pc := 49) C 56 dX10_two_49 (by decide) (fun c49 => ?_) (fun c49 => ?_)
    · refine z_iconst (pc := 56) (v := 1) C dX10_two_56 rfl ?_
      refine z_goto (pc := 57) C 61 dX10_two_57 (by decide) ?_
      refine z_ireturn (pc := 61) C K dX10_two_61 ?_
      refine ⟨_, rfl, ?_, rfl⟩
      unfold mTwo
      simp_all [Int32.not_le, Int32.not_lt]
      try first | done | exact Int32.not_lt.mp (by assumption) | exact Int32.not_le.mp (by assumption) | (intro h; exact absurd h (Int32.not_lt.mpr (by assumption)))
    · refine z_iload_n (pc := 52) C 2 dX10_two_52 rfl rfl ?_
      refine z_if_eq (pc := 53) C 60 dX10_two_53 (by decide) (fun c53 => ?_) (fun c53 => ?_)
      · refine z_iconst (pc := 60) (v := 0) C dX10_two_60 rfl ?_
        refine z_ireturn (pc := 61) C K dX10_two_61 ?_
        refine ⟨_, rfl, ?_, rfl⟩
        unfold mTwo
        simp_all [Int32.not_le, Int32.not_lt]
        try first | done | exact Int32.not_lt.mp (by assumption) | exact Int32.not_le.mp (by assumption) | (intro h; exact absurd h (Int32.not_lt.mpr (by assumption)))
      · refine z_iconst (pc := 56) (v := 1) C dX10_two_56 rfl ?_
        refine z_goto (pc := 57) C 61 dX10_two_57 (by decide) ?_
        refine z_ireturn (pc := 61) C K dX10_two_61 ?_
        refine ⟨_, rfl, ?_, rfl⟩
        unfold mTwo
        simp_all [Int32.not_le, Int32.not_lt]
        try first | done | exact Int32.not_lt.mp (by assumption) | exact Int32.not_le.mp (by assumption) | (intro h; exact absurd h (Int32.not_lt.mpr (by assumption)))
  refine z_tswOut (pc := 1) C 121 dX10_two_1 (by have g0 := lv_neT (a := -8) s1_0 rfl; have g1 := lv_neT (a := -7) s1_1 rfl; have g2 := lv_neT (a := -6) s1_2 rfl; have g3 := lv_neT (a := -5) s1_3 rfl; have g4 := lv_neT (a := -4) s1_4 rfl; have g5 := lv_neT (a := -3) s1_5 rfl; have g6 := lv_neT (a := -2) s1_6 rfl; have g7 := lv_neT (a := -1) s1_7 rfl; omega) (by decide) ?_
  refine z_iload_n (pc := 121) C 2 dX10_two_121 rfl rfl ?_
  refine z_if_ne (pc := 122) C 129 dX10_two_122 (by decide) (fun c122 => ?_) (fun c122 => ?_)
  · refine z_iload_n (pc := 129) C 1 dX10_two_129 rfl rfl ?_
    refine z_iload_n (pc := 130) C 2 dX10_two_130 rfl rfl ?_
    refine z_idiv (pc := 131) C dX10_two_131 c122 ?_
    refine z_ireturn (pc := 132) C K dX10_two_132 ?_
    refine ⟨_, rfl, ?_, rfl⟩
    unfold mTwo
    simp_all [Int32.not_le, Int32.not_lt]
    try first | done | exact Int32.not_lt.mp (by assumption) | exact Int32.not_le.mp (by assumption) | (intro h; exact absurd h (Int32.not_lt.mpr (by assumption)))
  · refine z_iconst (pc := 125) (v := 0) C dX10_two_125 rfl ?_
    refine z_goto (pc := 126) C 132 dX10_two_126 (by decide) ?_
    refine z_ireturn (pc := 132) C K dX10_two_132 ?_
    refine ⟨_, rfl, ?_, rfl⟩
    unfold mTwo
    simp_all [Int32.not_le, Int32.not_lt]
    try first | done | exact Int32.not_lt.mp (by assumption) | exact Int32.not_le.mp (by assumption) | (intro h; exact absurd h (Int32.not_lt.mpr (by assumption)))

def lastK (ky : Nat → Nat) (key : Nat) : Nat → Int32
  | 0 => -1
  | T + 1 => if ky T = key then nI T else lastK ky key T
theorem sub1 (x : Int32) : x + (-1) = x - 1 := by rw [Int32.sub_eq_add_neg]
set_option maxHeartbeats 4000000 in
set_option maxRecDepth 100000 in
theorem mX10_counts {l : Launch} {G : zG} {b : Nat} {M : zM} {T : Nat} {ky ln : Nat → Nat} (hT : M 31 0 0 8 = nI T) (hT14 : T ≤ 14) (hk : ∀ t, t < T → ky t < 3 ∧ ln t ≤ 96 ∧ M 31 0 0 (65 + 2 * t) = nI (1000 * ky t + ln t)) {key : Nat} (hkey : key < 3) : zMet l G b yX10_counts cX10_counts 3 (some .int) 0 zshL zshL [.ref (b + 239), .int (nI key)] M (zI (fun r M' => r = lastK ky key T ∧ M' = M)) := by
  refine zMet.of (L0 := [some (.ref (b + 239)), some (.int (nI key)), none]) (by decide +kernel) (Nat.le_refl _) (Nat.le_refl _) (Nat.le_of_ble_eq_true rfl) (List.forall_mem_cons.mpr ⟨rfl, List.forall_mem_cons.mpr ⟨rfl, fun _ h => absurd h List.not_mem_nil⟩⟩) rfl (fun X C Al K => ?_)
  have loop : ∀ (j : Nat), j ≤ T → lastK ky key T = lastK ky key j → zW X zshL M 10 [some (.ref (b + 239)), some (.int (nI key)), some (.int (nI j - 1))] [] := by
    intro j
    induction j with
    | zero =>
      intro _ he
      refine z_iload_n (pc := 10) C 2 dX10_counts_10 rfl rfl ?_
      refine z_if_lt (pc := 11) C 41 dX10_counts_11 (by decide) (fun c11 => ?_) (fun c11 => absurd (by decide) c11)
      refine z_iconst (pc := 41) (v := -1) C dX10_counts_41 rfl ?_
      refine z_ireturn (pc := 42) C K dX10_counts_42 ?_
      exact ⟨_, rfl, he.symm, rfl⟩
    | succ j ih =>
      intro hj he
      obtain ⟨k1, k2, k3⟩ := hk j (by omega)
      have hix : 65 + 2 * nI j = nI (65 + 2 * j) := by
        show nI 65 + nI 2 * nI j = _
        rw [pk_mul, nI_add]
      have hdv : M 31 0 0 (65 + 2 * j) / 1000 = nI (ky j) := by
        rw [k3]
        show nI _ / nI 1000 = _
        rw [pk_div (by omega) (by decide) (by decide)]
        congr 1
        omega
      rw [nI_pred]
      refine z_iload_n (pc := 10) C 2 dX10_counts_10 rfl rfl ?_
      refine z_if_lt (pc := 11) C 41 dX10_counts_11 (by decide) (fun c11 => absurd c11 (nI_pos (by omega))) (fun c11 => ?_)
      refine z_aload_n (pc := 14) C 0 dX10_counts_14 rfl rfl ?_
      refine z_getR (pc := 15) (r := 240) C dX10_counts_15 fX10_9 sh_239 rfl ?_
      refine z_bipush (pc := 18) (v := 65) C dX10_counts_18 rfl ?_
      refine z_iconst (pc := 20) (v := 2) C dX10_counts_20 rfl ?_
      refine z_iload_n (pc := 21) C 2 dX10_counts_21 rfl rfl ?_
      refine z_imul (pc := 22) C dX10_counts_22 ?_
      refine z_iadd (pc := 23) C dX10_counts_23 ?_
      refine z_iald (pc := 24) (n := 65 + 2 * j) C dX10_counts_24 sh_240 (by rw [hix]; exact vp_in_nI (by omega) (by omega)) (by rw [hix]; exact nI_clamp (by omega)) ?_
      refine z_sipush (pc := 25) (v := 1000) C dX10_counts_25 rfl ?_
      refine z_idiv (pc := 28) C dX10_counts_28 (by decide) ?_
      rw [hdv]
      refine z_iload_n (pc := 29) C 1 dX10_counts_29 rfl rfl ?_
      refine z_icmp_ne (pc := 30) C 35 dX10_counts_30 (by decide) (fun c30 => ?_) (fun c30 => ?_)
      · refine z_iinc (pc := 35) (v := -1) C 2 dX10_counts_35 (by decide) rfl rfl rfl ?_
        refine z_goto (pc := 38) C 10 dX10_counts_38 (by decide) ?_
        rw [sub1]
        exact ih (by omega) (by rw [he, lastK, if_neg (fun q => c30 (by rw [q]))])
      · refine z_iload_n (pc := 33) C 2 dX10_counts_33 rfl rfl ?_
        refine z_ireturn (pc := 34) C K dX10_counts_34 ?_
        refine ⟨_, rfl, ?_, rfl⟩
        rw [he, lastK, if_pos ((nI_eq (by omega) (by omega)).mp c30)]
  refine z_aload_n (pc := 0) C 0 dX10_counts_0 rfl rfl ?_
  refine z_getR (pc := 1) (r := 240) C dX10_counts_1 fX10_9 sh_239 rfl ?_
  refine z_bipush (pc := 4) (v := 8) C dX10_counts_4 rfl ?_
  refine z_iald (pc := 6) (n := 8) C dX10_counts_6 sh_240 (zi_in.mpr (by decide)) rfl ?_
  rw [hT]
  refine z_iconst (pc := 7) (v := 1) C dX10_counts_7 rfl ?_
  refine z_isub (pc := 8) C dX10_counts_8 ?_
  refine z_istore_n (pc := 9) C 2 dX10_counts_9 rfl (by decide) rfl ?_
  exact loop T (Nat.le_refl _) rfl

set_option maxHeartbeats 4000000 in
set_option maxRecDepth 100000 in
theorem mX10_worksOut {l : Launch} {G : zG} {b : Nat} {M : zM} {t : Nat} (ht : t < 14) {kt n : Nat} (hkt : kt < 3) (hn96 : n ≤ 96) (hkl : M 31 0 0 (65 + 2 * t) = nI (1000 * kt + n)) {f : Nat → Int32} (hc : ∀ i, i < n → M 31 0 0 (93 + 96 * t + i) = tr (f i)) (hok : ∀ i, i < n → cOK (f i)) {r : Int32} (hev : eRun (M 43 0 0 0) (M 43 0 0 1) (M 43 0 0 2) f n = some [r]) : zMet l G b yX10_worksOut cX10_worksOut 6 (some .int) 1 zshL zshL [.ref (b + 239), .int (nI t)] M (zI (fun v M' => v = r ∧ ∀ a, a ≠ 42 → M' a = M a)) := by
  refine zMet.of (L0 := [some (.ref (b + 239)), some (.int (nI t)), none, none, none, none]) (by decide +kernel) (Nat.le_refl _) (Nat.le_refl _) (Nat.le_of_ble_eq_true rfl) (List.forall_mem_cons.mpr ⟨rfl, List.forall_mem_cons.mpr ⟨rfl, fun _ h => absurd h List.not_mem_nil⟩⟩) rfl (fun X C Al K => ?_)
  have loop : ∀ (k i : Nat) (st : List Int32) (M1 : zM) (q : Option Value), i + k = n → (∀ a, a ≠ 42 → M1 a = M a) → eRun (M 43 0 0 0) (M 43 0 0 1) (M 43 0 0 2) f i = some st → stk M1 42 st → zW X zshL M1 21 [some (.ref (b + 239)), some (.int (nI t)), some (.int (nI st.length)), some (.int (nI n)), some (.int (nI i)), q] [] := by
    intro k
    induction k with
    | zero =>
      intro i st M1 q hi he hs hk
      have hi0 : i = n := by omega
      rw [hi0, hev] at hs
      have hs1 := Option.some.inj hs
      subst hs1
      refine z_iload (pc := 21) C 4 dX10_worksOut_21 rfl ?_
      refine z_iload_n (pc := 23) C 3 dX10_worksOut_23 rfl rfl ?_
      refine z_icmp_ge (pc := 24) C 155 dX10_worksOut_24 (by decide) (fun c24 => ?_) (fun c24 => absurd (nI_le (by omega) (by omega)) c24)
      refine z_aload_n (pc := 155) C 0 dX10_worksOut_155 rfl rfl ?_
      refine z_getR (pc := 156) (r := 251) C dX10_worksOut_156 fX10_45 sh_239 rfl ?_
      refine z_iconst (pc := 159) (v := 0) C dX10_worksOut_159 rfl ?_
      refine z_iald (pc := 160) (n := 0) C dX10_worksOut_160 sh_251 (zi_in.mpr (by decide)) rfl ?_
      refine z_ireturn (pc := 161) C K dX10_worksOut_161 ?_
      exact ⟨_, rfl, hk.top, he⟩
    | succ k ih =>
      intro i st M1 q hi he hs hk
      have hci : M1 31 0 0 (93 + 96 * t + i) = tr (f i) := by rw [he 31 (by decide)]; exact hc i (by omega)
      have hoki := hok i (by omega)
      have hfa : ∀ j, M1 43 0 0 j = M 43 0 0 j := fun j => by rw [he 43 (by decide)]
      have hix : 93 + 96 * nI t + nI i = nI (93 + 96 * t + i) := by
        show nI 93 + nI 96 * nI t + nI i = _
        rw [pk_mul, nI_add, nI_add]
      obtain ⟨st', hs'⟩ := eRun_pre hev (i + 1) (by omega)
      have hl := eRun_len hs
      have hcs := eStep_cases (eRun_next hs hs')
      rcases hcs with ⟨g1, rfl⟩ | ⟨g1, g2, x0, r0, rfl, rfl⟩ | ⟨g1, g2, y0, x0, r0, rfl, rfl⟩
      · have htr : tr (f i) = f i := if_pos g1
        have hA2 : 0 ≤ (f i).toInt ∧ (f i).toInt ≤ 10002 := by
          rcases hoki with q | q | q | q | q | q | q | q | q | q | q
          · exact q
          all_goals (rw [q] at g1; exact absurd g1 (by decide))
        have hA1 : ¬ f i < 0 := fun q => by have q1 := zi_lt.mp q; have q0 : (0 : Int32).toInt = 0 := by decide
                                            omega
        refine z_iload (pc := 21) C 4 dX10_worksOut_21 rfl ?_
        refine z_iload_n (pc := 23) C 3 dX10_worksOut_23 rfl rfl ?_
        refine z_icmp_ge (pc := 24) C 155 dX10_worksOut_24 (by decide) (fun c24 => absurd c24 (nI_ge (by omega) (by omega))) (fun c24 => ?_)
        refine z_aload_n (pc := 27) C 0 dX10_worksOut_27 rfl rfl ?_
        refine z_getR (pc := 28) (r := 240) C dX10_worksOut_28 fX10_9 sh_239 rfl ?_
        refine z_bipush (pc := 31) (v := 93) C dX10_worksOut_31 rfl ?_
        refine z_bipush (pc := 33) (v := 96) C dX10_worksOut_33 rfl ?_
        refine z_iload_n (pc := 35) C 1 dX10_worksOut_35 rfl rfl ?_
        refine z_imul (pc := 36) C dX10_worksOut_36 ?_
        refine z_iadd (pc := 37) C dX10_worksOut_37 ?_
        refine z_iload (pc := 38) C 4 dX10_worksOut_38 rfl ?_
        refine z_iadd (pc := 40) C dX10_worksOut_40 ?_
        refine z_iald (pc := 41) (n := 93 + 96 * t + i) C dX10_worksOut_41 sh_240 (by rw [hix]; exact vp_in_nI (by omega) (by omega)) (by rw [hix]; exact nI_clamp (by omega)) ?_
        rw [hci]
        refine z_istore (pc := 42) C 5 dX10_worksOut_42 (by decide) rfl ?_
        refine z_iload (pc := 44) C 5 dX10_worksOut_44 rfl ?_
        refine z_if_lt (pc := 46) C 85 dX10_worksOut_46 (by decide) (fun c46 => absurd c46 (by rw [htr]; exact (hA1))) (fun c46 => ?_)
        refine z_aload_n (pc := 49) C 0 dX10_worksOut_49 rfl rfl ?_
        refine z_getR (pc := 50) (r := 251) C dX10_worksOut_50 fX10_45 sh_239 rfl ?_
        refine z_iload_n (pc := 53) C 2 dX10_worksOut_53 rfl rfl ?_
        refine z_iload (pc := 54) C 5 dX10_worksOut_54 rfl ?_
        refine z_sipush (pc := 56) (v := 10000) C dX10_worksOut_56 rfl ?_
        refine z_icmp_ge (pc := 59) C 67 dX10_worksOut_59 (by decide) (fun c59 => ?_) (fun c59 => ?_)
        · refine z_aload_n (pc := 67) C 0 dX10_worksOut_67 rfl rfl ?_
          refine z_getR (pc := 68) (r := 252) C dX10_worksOut_68 fX10_48 sh_239 rfl ?_
          have hj3 : ∃ jn, jn < 3 ∧ tr (f i) - 10000 = nI jn ∧ eLeaf (f i) (M 43 0 0 0) (M 43 0 0 1) (M 43 0 0 2) = M 43 0 0 jn := by
            rw [htr] at c59 ⊢
            rw [zi_le] at c59
            have q0 : (10000 : Int32).toInt = 10000 := by decide
            rcases (show (f i).toInt = 10000 ∨ (f i).toInt = 10001 ∨ (f i).toInt = 10002 by omega) with q | q | q
            · have q1 : f i = 10000 := zi_eq.mpr q
              exact ⟨0, by decide, by rw [q1]; decide, by rw [q1]; rfl⟩
            · have q1 : f i = 10001 := zi_eq.mpr q
              exact ⟨1, by decide, by rw [q1]; decide, by rw [q1]; rfl⟩
            · have q1 : f i = 10002 := zi_eq.mpr q
              exact ⟨2, by decide, by rw [q1]; decide, by rw [q1]; rfl⟩
          obtain ⟨jn, hj3, hjn, hlf⟩ := hj3
          refine z_iload (pc := 71) C 5 dX10_worksOut_71 rfl ?_
          refine z_sipush (pc := 73) (v := 10000) C dX10_worksOut_73 rfl ?_
          refine z_isub (pc := 76) C dX10_worksOut_76 ?_
          refine z_iald (pc := 77) (n := jn) C dX10_worksOut_77 sh_252 (by rw [hjn]; exact vp_in_nI (by omega) (by omega)) (by rw [hjn]; exact nI_clamp (by omega)) ?_
          refine z_iast (pc := 78) (n := st.length) C dX10_worksOut_78 sh_251 (vp_in_nI (by omega) (by omega)) (nI_clamp (by omega)) ?_
          refine z_iinc (pc := 79) (v := 1) C 2 dX10_worksOut_79 (by decide) rfl rfl rfl ?_
          refine z_goto (pc := 82) C 149 dX10_worksOut_82 (by decide) ?_
          refine z_iinc (pc := 149) (v := 1) C 4 dX10_worksOut_149 (by decide) rfl rfl rfl ?_
          refine z_goto (pc := 152) C 21 dX10_worksOut_152 (by decide) ?_
          have e := ih (i + 1) _ (zu M1 42 0 0 st.length (M1 43 0 0 jn)) (some (.int (tr (f i)))) (by omega) (fun a ha => (zu_a ha).trans (he a ha)) hs' (by rw [hfa jn, ← hlf]; exact hk.push _)
          rw [List.length_cons, nI_succ, nI_succ] at e
          exact e
        · refine z_iload (pc := 62) C 5 dX10_worksOut_62 rfl ?_
          refine z_goto (pc := 64) C 78 dX10_worksOut_64 (by decide) ?_
          refine z_iast (pc := 78) (n := st.length) C dX10_worksOut_78 sh_251 (vp_in_nI (by omega) (by omega)) (nI_clamp (by omega)) ?_
          refine z_iinc (pc := 79) (v := 1) C 2 dX10_worksOut_79 (by decide) rfl rfl rfl ?_
          refine z_goto (pc := 82) C 149 dX10_worksOut_82 (by decide) ?_
          refine z_iinc (pc := 149) (v := 1) C 4 dX10_worksOut_149 (by decide) rfl rfl rfl ?_
          refine z_goto (pc := 152) C 21 dX10_worksOut_152 (by decide) ?_
          have hlf : eLeaf (f i) (M 43 0 0 0) (M 43 0 0 1) (M 43 0 0 2) = tr (f i) := by
            rw [htr] at c59 ⊢
            have c59' : ¬ 10000 ≤ f i := c59
            unfold eLeaf
            rw [if_neg (fun q => c59' (by rw [q]; decide)), if_neg (fun q => c59' (by rw [q]; decide)), if_neg (fun q => c59' (by rw [q]; decide))]
          have e := ih (i + 1) _ (zu M1 42 0 0 st.length (tr (f i))) (some (.int (tr (f i)))) (by omega) (fun a ha => (zu_a ha).trans (he a ha)) hs' (by rw [hlf]; exact hk.push _)
          rw [List.length_cons, nI_succ, nI_succ] at e
          exact e
      · rw [List.length_cons] at hl
        have htr : tr (f i) = -10 := by rw [g2]; decide
        refine z_iload (pc := 21) C 4 dX10_worksOut_21 rfl ?_
        refine z_iload_n (pc := 23) C 3 dX10_worksOut_23 rfl rfl ?_
        refine z_icmp_ge (pc := 24) C 155 dX10_worksOut_24 (by decide) (fun c24 => absurd c24 (nI_ge (by omega) (by omega))) (fun c24 => ?_)
        refine z_aload_n (pc := 27) C 0 dX10_worksOut_27 rfl rfl ?_
        refine z_getR (pc := 28) (r := 240) C dX10_worksOut_28 fX10_9 sh_239 rfl ?_
        refine z_bipush (pc := 31) (v := 93) C dX10_worksOut_31 rfl ?_
        refine z_bipush (pc := 33) (v := 96) C dX10_worksOut_33 rfl ?_
        refine z_iload_n (pc := 35) C 1 dX10_worksOut_35 rfl rfl ?_
        refine z_imul (pc := 36) C dX10_worksOut_36 ?_
        refine z_iadd (pc := 37) C dX10_worksOut_37 ?_
        refine z_iload (pc := 38) C 4 dX10_worksOut_38 rfl ?_
        refine z_iadd (pc := 40) C dX10_worksOut_40 ?_
        refine z_iald (pc := 41) (n := 93 + 96 * t + i) C dX10_worksOut_41 sh_240 (by rw [hix]; exact vp_in_nI (by omega) (by omega)) (by rw [hix]; exact nI_clamp (by omega)) ?_
        rw [hci]
        refine z_istore (pc := 42) C 5 dX10_worksOut_42 (by decide) rfl ?_
        refine z_iload (pc := 44) C 5 dX10_worksOut_44 rfl ?_
        refine z_if_lt (pc := 46) C 85 dX10_worksOut_46 (by decide) (fun c46 => ?_) (fun c46 => absurd (by rw [htr]; decide) c46)
        refine z_iload (pc := 85) C 5 dX10_worksOut_85 rfl ?_
        refine z_bipush (pc := 87) (v := -10) C dX10_worksOut_87 rfl ?_
        refine z_icmp_ne (pc := 89) C 119 dX10_worksOut_89 (by decide) (fun c89 => absurd htr c89) (fun c89 => ?_)
        refine z_aload_n (pc := 92) C 0 dX10_worksOut_92 rfl rfl ?_
        refine z_getR (pc := 93) (r := 251) C dX10_worksOut_93 fX10_45 sh_239 rfl ?_
        refine z_iload_n (pc := 96) C 2 dX10_worksOut_96 rfl rfl ?_
        refine z_iconst (pc := 97) (v := 1) C dX10_worksOut_97 rfl ?_
        refine z_isub (pc := 98) C dX10_worksOut_98 ?_
        refine z_aload_n (pc := 99) C 0 dX10_worksOut_99 rfl rfl ?_
        refine z_getR (pc := 100) (r := 251) C dX10_worksOut_100 fX10_45 sh_239 rfl ?_
        refine z_iload_n (pc := 103) C 2 dX10_worksOut_103 rfl rfl ?_
        refine z_iconst (pc := 104) (v := 1) C dX10_worksOut_104 rfl ?_
        refine z_isub (pc := 105) C dX10_worksOut_105 ?_
        refine z_iald (pc := 106) (n := r0.length) C dX10_worksOut_106 sh_251 (by show vp_in (nI (r0.length + 1) - 1) 96; rw [nI_pred]; exact vp_in_nI (by omega) (by omega)) (by show (nI (r0.length + 1) - 1).toNatClampNeg = r0.length; rw [nI_pred]; exact nI_clamp (by omega)) ?_
        refine z_if_ne (pc := 107) C 114 dX10_worksOut_107 (by decide) (fun c107 => ?_) (fun c107 => ?_)
        · refine z_iconst (pc := 114) (v := 0) C dX10_worksOut_114 rfl ?_
          refine z_iast (pc := 115) (n := r0.length) C dX10_worksOut_115 sh_251 (by show vp_in (nI (r0.length + 1) - 1) 96; rw [nI_pred]; exact vp_in_nI (by omega) (by omega)) (by show (nI (r0.length + 1) - 1).toNatClampNeg = r0.length; rw [nI_pred]; exact nI_clamp (by omega)) ?_
          refine z_goto (pc := 116) C 149 dX10_worksOut_116 (by decide) ?_
          refine z_iinc (pc := 149) (v := 1) C 4 dX10_worksOut_149 (by decide) rfl rfl rfl ?_
          refine z_goto (pc := 152) C 21 dX10_worksOut_152 (by decide) ?_
          rw [hk.top] at c107
          have e := ih (i + 1) _ (zu M1 42 0 0 r0.length (if x0 = 0 then 1 else 0)) (some (.int (tr (f i)))) (by omega) (fun a ha => (zu_a ha).trans (he a ha)) hs' (hk.set _)
          rw [List.length_cons, nI_succ i, if_neg c107] at e
          exact e
        · refine z_iconst (pc := 110) (v := 1) C dX10_worksOut_110 rfl ?_
          refine z_goto (pc := 111) C 115 dX10_worksOut_111 (by decide) ?_
          refine z_iast (pc := 115) (n := r0.length) C dX10_worksOut_115 sh_251 (by show vp_in (nI (r0.length + 1) - 1) 96; rw [nI_pred]; exact vp_in_nI (by omega) (by omega)) (by show (nI (r0.length + 1) - 1).toNatClampNeg = r0.length; rw [nI_pred]; exact nI_clamp (by omega)) ?_
          refine z_goto (pc := 116) C 149 dX10_worksOut_116 (by decide) ?_
          refine z_iinc (pc := 149) (v := 1) C 4 dX10_worksOut_149 (by decide) rfl rfl rfl ?_
          refine z_goto (pc := 152) C 21 dX10_worksOut_152 (by decide) ?_
          rw [hk.top] at c107
          have e := ih (i + 1) _ (zu M1 42 0 0 r0.length (if x0 = 0 then 1 else 0)) (some (.int (tr (f i)))) (by omega) (fun a ha => (zu_a ha).trans (he a ha)) hs' (hk.set _)
          rw [List.length_cons, nI_succ i, if_pos c107] at e
          exact e
      · rw [List.length_cons, List.length_cons] at hl
        obtain ⟨hC1, hC2, hC3⟩ := mTwo_tr (x := x0) (y := y0) hoki g1 g2
        refine z_iload (pc := 21) C 4 dX10_worksOut_21 rfl ?_
        refine z_iload_n (pc := 23) C 3 dX10_worksOut_23 rfl rfl ?_
        refine z_icmp_ge (pc := 24) C 155 dX10_worksOut_24 (by decide) (fun c24 => absurd c24 (nI_ge (by omega) (by omega))) (fun c24 => ?_)
        refine z_aload_n (pc := 27) C 0 dX10_worksOut_27 rfl rfl ?_
        refine z_getR (pc := 28) (r := 240) C dX10_worksOut_28 fX10_9 sh_239 rfl ?_
        refine z_bipush (pc := 31) (v := 93) C dX10_worksOut_31 rfl ?_
        refine z_bipush (pc := 33) (v := 96) C dX10_worksOut_33 rfl ?_
        refine z_iload_n (pc := 35) C 1 dX10_worksOut_35 rfl rfl ?_
        refine z_imul (pc := 36) C dX10_worksOut_36 ?_
        refine z_iadd (pc := 37) C dX10_worksOut_37 ?_
        refine z_iload (pc := 38) C 4 dX10_worksOut_38 rfl ?_
        refine z_iadd (pc := 40) C dX10_worksOut_40 ?_
        refine z_iald (pc := 41) (n := 93 + 96 * t + i) C dX10_worksOut_41 sh_240 (by rw [hix]; exact vp_in_nI (by omega) (by omega)) (by rw [hix]; exact nI_clamp (by omega)) ?_
        rw [hci]
        refine z_istore (pc := 42) C 5 dX10_worksOut_42 (by decide) rfl ?_
        refine z_iload (pc := 44) C 5 dX10_worksOut_44 rfl ?_
        refine z_if_lt (pc := 46) C 85 dX10_worksOut_46 (by decide) (fun c46 => ?_) (fun c46 => absurd hC2 c46)
        refine z_iload (pc := 85) C 5 dX10_worksOut_85 rfl ?_
        refine z_bipush (pc := 87) (v := -10) C dX10_worksOut_87 rfl ?_
        refine z_icmp_ne (pc := 89) C 119 dX10_worksOut_89 (by decide) (fun c89 => ?_) (fun c89 => absurd c89 hC3)
        refine z_iinc (pc := 119) (v := -1) C 2 dX10_worksOut_119 (by decide) rfl rfl rfl ?_
        refine z_aload_n (pc := 122) C 0 dX10_worksOut_122 rfl rfl ?_
        refine z_getR (pc := 123) (r := 251) C dX10_worksOut_123 fX10_45 sh_239 rfl ?_
        refine z_iload_n (pc := 126) C 2 dX10_worksOut_126 rfl rfl ?_
        refine z_iconst (pc := 127) (v := 1) C dX10_worksOut_127 rfl ?_
        refine z_isub (pc := 128) C dX10_worksOut_128 ?_
        refine z_iload (pc := 129) C 5 dX10_worksOut_129 rfl ?_
        refine z_aload_n (pc := 131) C 0 dX10_worksOut_131 rfl rfl ?_
        refine z_getR (pc := 132) (r := 251) C dX10_worksOut_132 fX10_45 sh_239 rfl ?_
        refine z_iload_n (pc := 135) C 2 dX10_worksOut_135 rfl rfl ?_
        refine z_iconst (pc := 136) (v := 1) C dX10_worksOut_136 rfl ?_
        refine z_isub (pc := 137) C dX10_worksOut_137 ?_
        refine z_iald (pc := 138) (n := r0.length) C dX10_worksOut_138 sh_251 (by show vp_in (nI (r0.length + 1 + 1) + (-1) - 1) 96; rw [pk_m1, nI_pred]; exact vp_in_nI (by omega) (by omega)) (by show (nI (r0.length + 1 + 1) + (-1) - 1).toNatClampNeg = r0.length; rw [pk_m1, nI_pred]; exact nI_clamp (by omega)) ?_
        refine z_aload_n (pc := 139) C 0 dX10_worksOut_139 rfl rfl ?_
        refine z_getR (pc := 140) (r := 251) C dX10_worksOut_140 fX10_45 sh_239 rfl ?_
        refine z_iload_n (pc := 143) C 2 dX10_worksOut_143 rfl rfl ?_
        refine z_iald (pc := 144) (n := r0.length + 1) C dX10_worksOut_144 sh_251 (by show vp_in (nI (r0.length + 1 + 1) + (-1)) 96; rw [pk_m1]; exact vp_in_nI (by omega) (by omega)) (by show (nI (r0.length + 1 + 1) + (-1)).toNatClampNeg = r0.length + 1; rw [pk_m1]; exact nI_clamp (by omega)) ?_
        refine z_callSi (pc := 145) C dX10_worksOut_145 kX10_269 mX10_two (by decide) rfl rfl (Nat.le_of_ble_eq_true rfl) (fun r145 M145 h145 => ?_)
        obtain ⟨rfl, e145⟩ := h145
        subst M145
        refine z_iast (pc := 148) (n := r0.length) C dX10_worksOut_148 sh_251 (by show vp_in (nI (r0.length + 1 + 1) + (-1) - 1) 96; rw [pk_m1, nI_pred]; exact vp_in_nI (by omega) (by omega)) (by show (nI (r0.length + 1 + 1) + (-1) - 1).toNatClampNeg = r0.length; rw [pk_m1, nI_pred]; exact nI_clamp (by omega)) ?_
        refine z_iinc (pc := 149) (v := 1) C 4 dX10_worksOut_149 (by decide) rfl rfl rfl ?_
        refine z_goto (pc := 152) C 21 dX10_worksOut_152 (by decide) ?_
        have e := ih (i + 1) _ (zu M1 42 0 0 r0.length (eJoin (f i - 20000) x0 y0)) (some (.int (tr (f i)))) (by omega) (fun a ha => (zu_a ha).trans (he a ha)) hs' (hk.pop.set _)
        have t1 : M1 42 0 0 (r0.length + 1) = y0 := hk.top
        have t0 : M1 42 0 0 r0.length = x0 := hk.pop.top
        rw [t1, t0, hC1]
        rw [List.length_cons, nI_succ i] at e
        have hl1 : nI (r0.length + 1 + 1) + (-1) = nI (r0.length + 1) := pk_m1 _
        rw [← hl1] at e
        exact e
  have hix : 65 + 2 * nI t = nI (65 + 2 * t) := by
    show nI 65 + nI 2 * nI t = _
    rw [pk_mul, nI_add]
  have hrm : M 31 0 0 (65 + 2 * t) - M 31 0 0 (65 + 2 * t) / 1000 * 1000 = nI n := by
    rw [hkl]
    show nI _ - nI _ / nI 1000 * nI 1000 = _
    rw [pk_rem (by omega) (by decide) (by decide)]
    congr 1
    omega
  refine z_iconst (pc := 0) (v := 0) C dX10_worksOut_0 rfl ?_
  refine z_istore_n (pc := 1) C 2 dX10_worksOut_1 rfl (by decide) rfl ?_
  refine z_aload_n (pc := 2) C 0 dX10_worksOut_2 rfl rfl ?_
  refine z_getR (pc := 3) (r := 240) C dX10_worksOut_3 fX10_9 sh_239 rfl ?_
  refine z_bipush (pc := 6) (v := 65) C dX10_worksOut_6 rfl ?_
  refine z_iconst (pc := 8) (v := 2) C dX10_worksOut_8 rfl ?_
  refine z_iload_n (pc := 9) C 1 dX10_worksOut_9 rfl rfl ?_
  refine z_imul (pc := 10) C dX10_worksOut_10 ?_
  refine z_iadd (pc := 11) C dX10_worksOut_11 ?_
  refine z_iald (pc := 12) (n := 65 + 2 * t) C dX10_worksOut_12 sh_240 (by rw [hix]; exact vp_in_nI (by omega) (by omega)) (by rw [hix]; exact nI_clamp (by omega)) ?_
  refine z_sipush (pc := 13) (v := 1000) C dX10_worksOut_13 rfl ?_
  refine z_irem (pc := 16) C dX10_worksOut_16 (by decide) ?_
  rw [hrm]
  refine z_istore_n (pc := 17) C 3 dX10_worksOut_17 rfl (by decide) rfl ?_
  refine z_iconst (pc := 18) (v := 0) C dX10_worksOut_18 rfl ?_
  refine z_istore (pc := 19) C 4 dX10_worksOut_19 (by decide) rfl ?_
  exact loop n 0 [] M _ (by omega) (fun _ _ => rfl) rfl (fun j hj => absurd hj (Nat.not_lt_zero _))
