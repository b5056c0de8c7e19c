/-! one hears, one sets its dial -/
def pPut (M : zM) (w i : Nat) (q : Nat → Int32) : zM := fun a x y f => if a = 1 ∧ x = w ∧ y = i then q f else M a x y f
theorem pPut_at (M : zM) (w i : Nat) (q : Nat → Int32) : pPut M w i q 1 w i = q := by
  funext f
  exact if_pos ⟨rfl, rfl, rfl⟩
theorem pPut_o {M : zM} {w i : Nat} {q : Nat → Int32} {a : Nat} (h : a ≠ 1) : pPut M w i q a = M a := by
  funext x y f
  exact if_neg (fun z => h z.1)
theorem pPut_zu (M : zM) (w i f : Nat) (v : Int32) : zu M 1 w i f v = pPut M w i (fun g => if g = f then v else M 1 w i g) := by
  funext a x y g
  by_cases e : a = 1 ∧ x = w ∧ y = i
  · obtain ⟨rfl, rfl, rfl⟩ := e
    rw [pPut_at]
    by_cases e2 : g = f
    · subst e2
      rw [zu_self, if_pos rfl]
    · rw [zu_f e2, if_neg e2]
  · rw [zu_o e]
    exact (if_neg e).symm
theorem pPut_pPut (M : zM) (w i : Nat) (q q' : Nat → Int32) : pPut (pPut M w i q) w i q' = pPut M w i q' := by
  funext a x y f
  by_cases e : a = 1 ∧ x = w ∧ y = i
  · rw [show pPut (pPut M w i q) w i q' a x y f = q' f from if_pos e]
    exact (if_pos e).symm
  · rw [show pPut (pPut M w i q) w i q' a x y f = pPut M w i q a x y f from if_neg e, show pPut M w i q a x y f = M a x y f from if_neg e]
    exact (if_neg e).symm
theorem pPut_id (M : zM) (w i : Nat) : pPut M w i (M 1 w i) = M := by
  funext a x y f
  by_cases e : a = 1 ∧ x = w ∧ y = i
  · obtain ⟨rfl, rfl, rfl⟩ := e
    rw [pPut_at]
  · exact if_neg e
set_option maxHeartbeats 4000000 in
set_option maxRecDepth 100000 in
theorem mX0_setting {l : Launch} {G : zG} {b : Nat} {M : zM} {w i : Nat} (hp : okP w i) {lw : Int32} {hv : Int32 → Int32 → Int32 → Int32} (hS : okS M lw hv) : zMet l G b yX0_setting cX0_setting 4 (some .int) 2 zshL zshL [.ref (b + adP w i), .ref (b + 1), .int lw] M (zI (fun r M' => r = pSet hv (M 1 w i) ∧ e12 M M')) := by
  refine zMet.of (L0 := [some (.ref (b + adP w i)), some (.ref (b + 1)), some (.int lw), none]) (by decide +kernel) (Nat.le_refl _) (Nat.le_refl _) (Nat.le_of_ble_eq_true rfl) (List.forall_mem_cons.mpr ⟨rfl, List.forall_mem_cons.mpr ⟨rfl, List.forall_mem_cons.mpr ⟨rfl, fun _ h => absurd h List.not_mem_nil⟩⟩⟩) rfl (fun X C Al K => ?_)
  rcases hS with ⟨hl, hh⟩ | ⟨t, ht, rfl, hh⟩
  · refine z_aload_n (pc := 0) C 0 dX0_setting_0 rfl rfl ?_
    refine z_getI (pc := 1) C dX0_setting_1 fX0_25 (shP hp) rfl ?_
    refine z_iconst (pc := 4) (v := 3) C dX0_setting_4 rfl ?_
    refine z_icmp_ne (pc := 5) C 13 dX0_setting_5 (by decide) (fun c5 => ?_) (fun c5 => ?_)
    · refine z_iload_n (pc := 13) C 2 dX0_setting_13 rfl rfl ?_
      refine z_if_ge (pc := 14) C 31 dX0_setting_14 (by decide) (fun c14 => absurd c14 (Int32.not_le.mpr hl)) (fun c14 => ?_)
      refine z_aload_n (pc := 17) C 0 dX0_setting_17 rfl rfl ?_
      refine z_getI (pc := 18) C dX0_setting_18 fX0_28 (shP hp) rfl ?_
      refine z_aload_n (pc := 21) C 0 dX0_setting_21 rfl rfl ?_
      refine z_getI (pc := 22) C dX0_setting_22 fX0_31 (shP hp) rfl ?_
      refine z_iadd (pc := 25) C dX0_setting_25 ?_
      refine z_iconst (pc := 26) (v := 2) C dX0_setting_26 rfl ?_
      refine z_idiv (pc := 27) C dX0_setting_27 (by decide) ?_
      refine z_goto (pc := 28) C 48 dX0_setting_28 (by decide) ?_
      refine z_callHeld (pc := 48) C dX0_setting_48 q2_134 q2_133 q1_1 (by decide) mX9_held (by decide) rfl (Nat.le_of_ble_eq_true rfl) (fun r48 M48 h48 => ?_)
      obtain ⟨rfl, e48⟩ := h48
      subst M48
      refine z_istore_n (pc := 51) C 3 dX0_setting_51 rfl (by decide) rfl ?_
      refine z_aload_n (pc := 52) C 0 dX0_setting_52 rfl rfl ?_
      refine z_getI (pc := 53) C dX0_setting_53 fX0_25 (shP hp) rfl ?_
      by_cases s56_0 : M 1 w i 0 = 1
      · refine z_tswIn (pc := 56) C (1) 92 dX0_setting_56 (by rw [s56_0]; rfl) (by decide) (by decide) rfl (by decide) ?_
        refine z_aload_n (pc := 92) C 0 dX0_setting_92 rfl rfl ?_
        refine z_getI (pc := 93) C dX0_setting_93 fX0_11 (shP hp) rfl ?_
        refine z_iload_n (pc := 96) C 3 dX0_setting_96 rfl rfl ?_
        refine z_iadd (pc := 97) C dX0_setting_97 ?_
        refine z_iconst (pc := 98) (v := 2) C dX0_setting_98 rfl ?_
        refine z_idiv (pc := 99) C dX0_setting_99 (by decide) ?_
        refine z_ireturn (pc := 100) C K dX0_setting_100 ?_
        refine ⟨_, rfl, ?_, e12.rfl'⟩
        unfold pSet
        rw [if_neg c5, if_pos s56_0, hh]
      by_cases s56_1 : M 1 w i 0 = 2
      · refine z_tswIn (pc := 56) C (2) 101 dX0_setting_56 (by rw [s56_1]; rfl) (by decide) (by decide) rfl (by decide) ?_
        refine z_iload_n (pc := 101) C 3 dX0_setting_101 rfl rfl ?_
        refine z_aload_n (pc := 102) C 0 dX0_setting_102 rfl rfl ?_
        refine z_getI (pc := 103) C dX0_setting_103 fX0_18 (shP hp) rfl ?_
        refine z_iadd (pc := 106) C dX0_setting_106 ?_
        refine z_callHeld (pc := 107) C dX0_setting_107 q2_134 q2_133 q1_1 (by decide) mX9_held (by decide) rfl (Nat.le_of_ble_eq_true rfl) (fun r107 M107 h107 => ?_)
        obtain ⟨rfl, e107⟩ := h107
        subst M107
        refine z_ireturn (pc := 110) C K dX0_setting_110 ?_
        refine ⟨_, rfl, ?_, e12.rfl'⟩
        unfold pSet
        rw [if_neg c5, if_neg s56_0, if_pos s56_1, hh]
      by_cases s56_2 : M 1 w i 0 = 3
      · refine z_tswIn (pc := 56) C (3) 142 dX0_setting_56 (by rw [s56_2]; rfl) (by decide) (by decide) rfl (by decide) ?_
        refine z_iload_n (pc := 142) C 3 dX0_setting_142 rfl rfl ?_
        refine z_ireturn (pc := 143) C K dX0_setting_143 ?_
        refine ⟨_, rfl, ?_, e12.rfl'⟩
        unfold pSet
        first | exact absurd s56_2 c5 | rw [if_neg c5, if_neg s56_0, if_neg s56_1, if_neg s56_3, if_neg s56_4, hh]
      by_cases s56_3 : M 1 w i 0 = 4
      · refine z_tswIn (pc := 56) C (4) 111 dX0_setting_56 (by rw [s56_3]; rfl) (by decide) (by decide) rfl (by decide) ?_
        refine z_iload_n (pc := 111) C 3 dX0_setting_111 rfl rfl ?_
        refine z_aload_n (pc := 112) C 0 dX0_setting_112 rfl rfl ?_
        refine z_getI (pc := 113) C dX0_setting_113 fX0_18 (shP hp) rfl ?_
        refine z_iadd (pc := 116) C dX0_setting_116 ?_
        refine z_callHeld (pc := 117) C dX0_setting_117 q2_134 q2_133 q1_1 (by decide) mX9_held (by decide) rfl (Nat.le_of_ble_eq_true rfl) (fun r117 M117 h117 => ?_)
        obtain ⟨rfl, e117⟩ := h117
        subst M117
        refine z_aload_n (pc := 120) C 0 dX0_setting_120 rfl rfl ?_
        refine z_getI (pc := 121) C dX0_setting_121 fX0_18 (shP hp) rfl ?_
        refine z_iadd (pc := 124) C dX0_setting_124 ?_
        refine z_callHeld (pc := 125) C dX0_setting_125 q2_134 q2_133 q1_1 (by decide) mX9_held (by decide) rfl (Nat.le_of_ble_eq_true rfl) (fun r125 M125 h125 => ?_)
        obtain ⟨rfl, e125⟩ := h125
        subst M125
        refine z_ireturn (pc := 128) C K dX0_setting_128 ?_
        refine ⟨_, rfl, ?_, e12.rfl'⟩
        unfold pSet
        rw [if_neg c5, if_neg s56_0, if_neg s56_1, if_pos s56_3, hh]
      by_cases s56_4 : M 1 w i 0 = 5
      · refine z_tswIn (pc := 56) C (5) 129 dX0_setting_56 (by rw [s56_4]; rfl) (by decide) (by decide) rfl (by decide) ?_
        refine z_iload_n (pc := 129) C 3 dX0_setting_129 rfl rfl ?_
        refine z_bipush (pc := 130) (v := 50) C dX0_setting_130 rfl ?_
        refine z_icmp_lt (pc := 132) C 139 dX0_setting_132 (by decide) (fun c132 => ?_) (fun c132 => ?_)
        · refine z_bipush (pc := 139) (v := 99) C dX0_setting_139 rfl ?_
          refine z_ireturn (pc := 141) C K dX0_setting_141 ?_
          refine ⟨_, rfl, ?_, e12.rfl'⟩
          unfold pSet
          rw [if_neg c5, if_neg s56_0, if_neg s56_1, if_neg s56_3, if_pos s56_4, hh, if_pos c132]
        · refine z_iconst (pc := 135) (v := 0) C dX0_setting_135 rfl ?_
          refine z_goto (pc := 136) C 141 dX0_setting_136 (by decide) ?_
          refine z_ireturn (pc := 141) C K dX0_setting_141 ?_
          refine ⟨_, rfl, ?_, e12.rfl'⟩
          unfold pSet
          rw [if_neg c5, if_neg s56_0, if_neg s56_1, if_neg s56_3, if_pos s56_4, hh, if_neg c132]
      refine z_tswOut (pc := 56) C 142 dX0_setting_56 (by have g0 := lv_neT (a := 1) s56_0 rfl; have g1 := lv_neT (a := 2) s56_1 rfl; have g2 := lv_neT (a := 3) s56_2 rfl; have g3 := lv_neT (a := 4) s56_3 rfl; have g4 := lv_neT (a := 5) s56_4 rfl; omega) (by decide) ?_
      refine z_iload_n (pc := 142) C 3 dX0_setting_142 rfl rfl ?_
      refine z_ireturn (pc := 143) C K dX0_setting_143 ?_
      refine ⟨_, rfl, ?_, e12.rfl'⟩
      unfold pSet
      first | exact absurd s56_2 c5 | rw [if_neg c5, if_neg s56_0, if_neg s56_1, if_neg s56_3, if_neg s56_4, hh]
    · refine z_aload_n (pc := 8) C 0 dX0_setting_8 rfl rfl ?_
      refine z_getI (pc := 9) C dX0_setting_9 fX0_11 (shP hp) rfl ?_
      refine z_ireturn (pc := 12) C K dX0_setting_12 ?_
      exact ⟨_, rfl, (if_pos c5).symm, e12.rfl'⟩
  · refine z_aload_n (pc := 0) C 0 dX0_setting_0 rfl rfl ?_
    refine z_getI (pc := 1) C dX0_setting_1 fX0_25 (shP hp) rfl ?_
    refine z_iconst (pc := 4) (v := 3) C dX0_setting_4 rfl ?_
    refine z_icmp_ne (pc := 5) C 13 dX0_setting_5 (by decide) (fun c5 => ?_) (fun c5 => ?_)
    · refine z_iload_n (pc := 13) C 2 dX0_setting_13 rfl rfl ?_
      refine z_if_ge (pc := 14) C 31 dX0_setting_14 (by decide) (fun c14 => ?_) (fun c14 => absurd (nI_pos' (by omega)) c14)
      refine z_aload_n (pc := 31) C 1 dX0_setting_31 rfl rfl ?_
      refine z_iload_n (pc := 32) C 2 dX0_setting_32 rfl rfl ?_
      refine z_aload_n (pc := 33) C 0 dX0_setting_33 rfl rfl ?_
      refine z_getI (pc := 34) C dX0_setting_34 fX0_28 (shP hp) rfl ?_
      refine z_aload_n (pc := 37) C 0 dX0_setting_37 rfl rfl ?_
      refine z_getI (pc := 38) C dX0_setting_38 fX0_31 (shP hp) rfl ?_
      refine z_aload_n (pc := 41) C 0 dX0_setting_41 rfl rfl ?_
      refine z_getI (pc := 42) C dX0_setting_42 fX0_11 (shP hp) rfl ?_
      obtain ⟨r0, hg, hv0⟩ := hh (M 1 w i 4) (M 1 w i 5) (M 1 w i 1)
      refine z_callVi (pc := 45) C dX0_setting_45 kX0_38 (mX6_give ht hg) (by decide) sh_1 rfl rfl rfl (Nat.le_of_ble_eq_true rfl) (fun r45 M45 h45 => ?_)
      obtain ⟨rfl, e45⟩ := h45
      have e1 : M45 1 w i = M 1 w i := by rw [e45 1 (by decide)]
      rw [← e1] at hv0 c5
      refine z_callHeld (pc := 48) C dX0_setting_48 q2_134 q2_133 q1_1 (by decide) mX9_held (by decide) rfl (Nat.le_of_ble_eq_true rfl) (fun r48 M48 h48 => ?_)
      obtain ⟨rfl, e48⟩ := h48
      subst M48
      refine z_istore_n (pc := 51) C 3 dX0_setting_51 rfl (by decide) rfl ?_
      refine z_aload_n (pc := 52) C 0 dX0_setting_52 rfl rfl ?_
      refine z_getI (pc := 53) C dX0_setting_53 fX0_25 (shP hp) rfl ?_
      by_cases s56_0 : M45 1 w i 0 = 1
      · refine z_tswIn (pc := 56) C (1) 92 dX0_setting_56 (by rw [s56_0]; rfl) (by decide) (by decide) rfl (by decide) ?_
        refine z_aload_n (pc := 92) C 0 dX0_setting_92 rfl rfl ?_
        refine z_getI (pc := 93) C dX0_setting_93 fX0_11 (shP hp) rfl ?_
        refine z_iload_n (pc := 96) C 3 dX0_setting_96 rfl rfl ?_
        refine z_iadd (pc := 97) C dX0_setting_97 ?_
        refine z_iconst (pc := 98) (v := 2) C dX0_setting_98 rfl ?_
        refine z_idiv (pc := 99) C dX0_setting_99 (by decide) ?_
        refine z_ireturn (pc := 100) C K dX0_setting_100 ?_
        refine ⟨_, rfl, ?_, e45⟩
        rw [← e1]
        unfold pSet
        rw [if_neg c5, if_pos s56_0, hv0]
      by_cases s56_1 : M45 1 w i 0 = 2
      · refine z_tswIn (pc := 56) C (2) 101 dX0_setting_56 (by rw [s56_1]; rfl) (by decide) (by decide) rfl (by decide) ?_
        refine z_iload_n (pc := 101) C 3 dX0_setting_101 rfl rfl ?_
        refine z_aload_n (pc := 102) C 0 dX0_setting_102 rfl rfl ?_
        refine z_getI (pc := 103) C dX0_setting_103 fX0_18 (shP hp) rfl ?_
        refine z_iadd (pc := 106) C dX0_setting_106 ?_
        refine z_callHeld (pc := 107) C dX0_setting_107 q2_134 q2_133 q1_1 (by decide) mX9_held (by decide) rfl (Nat.le_of_ble_eq_true rfl) (fun r107 M107 h107 => ?_)
        obtain ⟨rfl, e107⟩ := h107
        subst M107
        refine z_ireturn (pc := 110) C K dX0_setting_110 ?_
        refine ⟨_, rfl, ?_, e45⟩
        rw [← e1]
        unfold pSet
        rw [if_neg c5, if_neg s56_0, if_pos s56_1, hv0]
      by_cases s56_2 : M45 1 w i 0 = 3
      · refine z_tswIn (pc := 56) C (3) 142 dX0_setting_56 (by rw [s56_2]; rfl) (by decide) (by decide) rfl (by decide) ?_
        refine z_iload_n (pc := 142) C 3 dX0_setting_142 rfl rfl ?_
        refine z_ireturn (pc := 143) C K dX0_setting_143 ?_
        refine ⟨_, rfl, ?_, e45⟩
        rw [← e1]
        unfold pSet
        first | exact absurd s56_2 c5 | rw [if_neg c5, if_neg s56_0, if_neg s56_1, if_neg s56_3, if_neg s56_4, hv0]
      by_cases s56_3 : M45 1 w i 0 = 4
      · refine z_tswIn (pc := 56) C (4) 111 dX0_setting_56 (by rw [s56_3]; rfl) (by decide) (by decide) rfl (by decide) ?_
        refine z_iload_n (pc := 111) C 3 dX0_setting_111 rfl rfl ?_
        refine z_aload_n (pc := 112) C 0 dX0_setting_112 rfl rfl ?_
        refine z_getI (pc := 113) C dX0_setting_113 fX0_18 (shP hp) rfl ?_
        refine z_iadd (pc := 116) C dX0_setting_116 ?_
        refine z_callHeld (pc := 117) C dX0_setting_117 q2_134 q2_133 q1_1 (by decide) mX9_held (by decide) rfl (Nat.le_of_ble_eq_true rfl) (fun r117 M117 h117 => ?_)
        obtain ⟨rfl, e117⟩ := h117
        subst M117
        refine z_aload_n (pc := 120) C 0 dX0_setting_120 rfl rfl ?_
        refine z_getI (pc := 121) C dX0_setting_121 fX0_18 (shP hp) rfl ?_
        refine z_iadd (pc := 124) C dX0_setting_124 ?_
        refine z_callHeld (pc := 125) C dX0_setting_125 q2_134 q2_133 q1_1 (by decide) mX9_held (by decide) rfl (Nat.le_of_ble_eq_true rfl) (fun r125 M125 h125 => ?_)
        obtain ⟨rfl, e125⟩ := h125
        subst M125
        refine z_ireturn (pc := 128) C K dX0_setting_128 ?_
        refine ⟨_, rfl, ?_, e45⟩
        rw [← e1]
        unfold pSet
        rw [if_neg c5, if_neg s56_0, if_neg s56_1, if_pos s56_3, hv0]
      by_cases s56_4 : M45 1 w i 0 = 5
      · refine z_tswIn (pc := 56) C (5) 129 dX0_setting_56 (by rw [s56_4]; rfl) (by decide) (by decide) rfl (by decide) ?_
        refine z_iload_n (pc := 129) C 3 dX0_setting_129 rfl rfl ?_
        refine z_bipush (pc := 130) (v := 50) C dX0_setting_130 rfl ?_
        refine z_icmp_lt (pc := 132) C 139 dX0_setting_132 (by decide) (fun c132 => ?_) (fun c132 => ?_)
        · refine z_bipush (pc := 139) (v := 99) C dX0_setting_139 rfl ?_
          refine z_ireturn (pc := 141) C K dX0_setting_141 ?_
          refine ⟨_, rfl, ?_, e45⟩
          rw [← e1]
          unfold pSet
          rw [if_neg c5, if_neg s56_0, if_neg s56_1, if_neg s56_3, if_pos s56_4, hv0, if_pos c132]
        · refine z_iconst (pc := 135) (v := 0) C dX0_setting_135 rfl ?_
          refine z_goto (pc := 136) C 141 dX0_setting_136 (by decide) ?_
          refine z_ireturn (pc := 141) C K dX0_setting_141 ?_
          refine ⟨_, rfl, ?_, e45⟩
          rw [← e1]
          unfold pSet
          rw [if_neg c5, if_neg s56_0, if_neg s56_1, if_neg s56_3, if_pos s56_4, hv0, if_neg c132]
      refine z_tswOut (pc := 56) C 142 dX0_setting_56 (by have g0 := lv_neT (a := 1) s56_0 rfl; have g1 := lv_neT (a := 2) s56_1 rfl; have g2 := lv_neT (a := 3) s56_2 rfl; have g3 := lv_neT (a := 4) s56_3 rfl; have g4 := lv_neT (a := 5) s56_4 rfl; omega) (by decide) ?_
      refine z_iload_n (pc := 142) C 3 dX0_setting_142 rfl rfl ?_
      refine z_ireturn (pc := 143) C K dX0_setting_143 ?_
      refine ⟨_, rfl, ?_, e45⟩
      rw [← e1]
      unfold pSet
      first | exact absurd s56_2 c5 | rw [if_neg c5, if_neg s56_0, if_neg s56_1, if_neg s56_3, if_neg s56_4, hv0]
    · refine z_aload_n (pc := 8) C 0 dX0_setting_8 rfl rfl ?_
      refine z_getI (pc := 9) C dX0_setting_9 fX0_11 (shP hp) rfl ?_
      refine z_ireturn (pc := 12) C K dX0_setting_12 ?_
      exact ⟨_, rfl, (if_pos c5).symm, e12.rfl'⟩

set_option maxHeartbeats 4000000 in
set_option maxRecDepth 100000 in
theorem mX0_hear {l : Launch} {G : zG} {b : Nat} {M : zM} {w i : Nat} (hp : okP w i) {s tm : Int32} : zMet l G b yX0_hear cX0_hear 3 none 2 zshL zshL [.ref (b + adP w i), .int s, .int tm] M (zV (fun M' => M' = pPut M w i (pHear s tm (M 1 w i)))) := by
  refine zMet.of (L0 := [some (.ref (b + adP w i)), some (.int s), some (.int tm)]) (by decide +kernel) (Nat.le_refl _) (Nat.le_refl _) (Nat.le_of_ble_eq_true rfl) (List.forall_mem_cons.mpr ⟨rfl, List.forall_mem_cons.mpr ⟨rfl, List.forall_mem_cons.mpr ⟨rfl, fun _ h => absurd h List.not_mem_nil⟩⟩⟩) rfl (fun X C Al K => ?_)
  refine z_aload_n (pc := 0) C 0 dX0_hear_0 rfl rfl ?_
  refine z_getI (pc := 1) C dX0_hear_1 fX0_21 (shP hp) rfl ?_
  refine z_if_ne (pc := 4) C 8 dX0_hear_4 (by decide) (fun c4 => ?_) (fun c4 => ?_)
  · refine z_iload_n (pc := 8) C 2 dX0_hear_8 rfl rfl ?_
    refine z_if_eq (pc := 9) C 25 dX0_hear_9 (by decide) (fun c9 => ?_) (fun c9 => ?_)
    · refine z_aload_n (pc := 25) C 0 dX0_hear_25 rfl rfl ?_
      refine z_iload_n (pc := 26) C 1 dX0_hear_26 rfl rfl ?_
      refine z_iconst (pc := 27) (v := 1) C dX0_hear_27 rfl ?_
      refine z_iadd (pc := 28) C dX0_hear_28 ?_
      refine z_callHeld (pc := 29) C dX0_hear_29 q2_134 q2_133 q1_1 (by decide) mX9_held (by decide) rfl (Nat.le_of_ble_eq_true rfl) (fun r29 M29 h29 => ?_)
      obtain ⟨rfl, e29⟩ := h29
      subst M29
      refine z_putII (pc := 32) C dX0_hear_32 fX0_28 (shP hp) rfl ?_
      refine z_aload_n (pc := 35) C 0 dX0_hear_35 rfl rfl ?_
      refine z_getI (pc := 36) C dX0_hear_36 fX0_28 (shP hp) rfl ?_
      refine z_aload_n (pc := 39) C 0 dX0_hear_39 rfl rfl ?_
      refine z_getI (pc := 40) C dX0_hear_40 fX0_31 (shP hp) rfl ?_
      refine z_icmp_le (pc := 43) C 50 dX0_hear_43 (by decide) (fun c43 => ?_) (fun c43 => ?_)
      · refine z_return (pc := 50) C K dX0_hear_50 ?_
        refine ⟨rfl, ?_⟩
        simp only [zu_self, zu_f (show (4 : Nat) ≠ 5 by decide), zu_f (show (5 : Nat) ≠ 4 by decide)] at c43
        simp only [pPut_zu, pPut_pPut, pPut_at]
        refine congrArg (pPut M w i) (funext fun f => ?_)
        have g1 : pLo1 (M 1 w i) s tm = zheld (s + 1) := if_pos c9
        have g2 : pHi1 (M 1 w i) s tm = M 1 w i 5 := if_pos c9
        unfold pHear
        rw [if_neg c4, g1, g2]
        rw [if_pos c43, if_pos c43]
        by_cases h4 : f = 4
        · subst h4
          simp
        · by_cases h5 : f = 5
          · subst h5
            simp
          · simp [h4, h5]
      · refine z_aload_n (pc := 46) C 0 dX0_hear_46 rfl rfl ?_
        refine z_callVv (pc := 47) C dX0_hear_47 kX0_48 (mX0_believeAll hp) (by decide) (shP hp) rfl rfl rfl (Nat.le_of_ble_eq_true rfl) (fun M47 h47 => ?_)
        subst h47
        refine z_return (pc := 50) C K dX0_hear_50 ?_
        refine ⟨rfl, ?_⟩
        simp only [zu_self, zu_f (show (4 : Nat) ≠ 5 by decide), zu_f (show (5 : Nat) ≠ 4 by decide)] at c43
        simp only [pPut_zu, pPut_pPut, pPut_at]
        refine congrArg (pPut M w i) (funext fun f => ?_)
        have g1 : pLo1 (M 1 w i) s tm = zheld (s + 1) := if_pos c9
        have g2 : pHi1 (M 1 w i) s tm = M 1 w i 5 := if_pos c9
        unfold pHear
        rw [if_neg c4, g1, g2]
        rw [if_neg c43, if_neg c43]
        by_cases h4 : f = 4
        · subst h4
          simp
        · by_cases h5 : f = 5
          · subst h5
            simp
          · simp [h4, h5]
    · refine z_aload_n (pc := 12) C 0 dX0_hear_12 rfl rfl ?_
      refine z_iload_n (pc := 13) C 1 dX0_hear_13 rfl rfl ?_
      refine z_iconst (pc := 14) (v := 1) C dX0_hear_14 rfl ?_
      refine z_isub (pc := 15) C dX0_hear_15 ?_
      refine z_callHeld (pc := 16) C dX0_hear_16 q2_134 q2_133 q1_1 (by decide) mX9_held (by decide) rfl (Nat.le_of_ble_eq_true rfl) (fun r16 M16 h16 => ?_)
      obtain ⟨rfl, e16⟩ := h16
      subst M16
      refine z_putII (pc := 19) C dX0_hear_19 fX0_31 (shP hp) rfl ?_
      refine z_goto (pc := 22) C 35 dX0_hear_22 (by decide) ?_
      refine z_aload_n (pc := 35) C 0 dX0_hear_35 rfl rfl ?_
      refine z_getI (pc := 36) C dX0_hear_36 fX0_28 (shP hp) rfl ?_
      refine z_aload_n (pc := 39) C 0 dX0_hear_39 rfl rfl ?_
      refine z_getI (pc := 40) C dX0_hear_40 fX0_31 (shP hp) rfl ?_
      refine z_icmp_le (pc := 43) C 50 dX0_hear_43 (by decide) (fun c43 => ?_) (fun c43 => ?_)
      · refine z_return (pc := 50) C K dX0_hear_50 ?_
        refine ⟨rfl, ?_⟩
        simp only [zu_self, zu_f (show (4 : Nat) ≠ 5 by decide), zu_f (show (5 : Nat) ≠ 4 by decide)] at c43
        simp only [pPut_zu, pPut_pPut, pPut_at]
        refine congrArg (pPut M w i) (funext fun f => ?_)
        have g1 : pLo1 (M 1 w i) s tm = M 1 w i 4 := if_neg c9
        have g2 : pHi1 (M 1 w i) s tm = zheld (s - 1) := if_neg c9
        unfold pHear
        rw [if_neg c4, g1, g2]
        rw [if_pos c43, if_pos c43]
        by_cases h4 : f = 4
        · subst h4
          simp
        · by_cases h5 : f = 5
          · subst h5
            simp
          · simp [h4, h5]
      · refine z_aload_n (pc := 46) C 0 dX0_hear_46 rfl rfl ?_
        refine z_callVv (pc := 47) C dX0_hear_47 kX0_48 (mX0_believeAll hp) (by decide) (shP hp) rfl rfl rfl (Nat.le_of_ble_eq_true rfl) (fun M47 h47 => ?_)
        subst h47
        refine z_return (pc := 50) C K dX0_hear_50 ?_
        refine ⟨rfl, ?_⟩
        simp only [zu_self, zu_f (show (4 : Nat) ≠ 5 by decide), zu_f (show (5 : Nat) ≠ 4 by decide)] at c43
        simp only [pPut_zu, pPut_pPut, pPut_at]
        refine congrArg (pPut M w i) (funext fun f => ?_)
        have g1 : pLo1 (M 1 w i) s tm = M 1 w i 4 := if_neg c9
        have g2 : pHi1 (M 1 w i) s tm = zheld (s - 1) := if_neg c9
        unfold pHear
        rw [if_neg c4, g1, g2]
        rw [if_neg c43, if_neg c43]
        by_cases h4 : f = 4
        · subst h4
          simp
        · by_cases h5 : f = 5
          · subst h5
            simp
          · simp [h4, h5]
  · refine z_return (pc := 7) C K dX0_hear_7 ?_
    refine ⟨rfl, ?_⟩
    have e : pHear s tm (M 1 w i) = M 1 w i := by
      funext f
      exact if_pos c4
    rw [e, pPut_id]
