/-! small methods of the class -/
set_option maxHeartbeats 4000000 in
set_option maxRecDepth 100000 in
theorem mX9_held {l : Launch} {G : zG} {b : Nat} {M : zM} {x : Int32} : zMet l G b yX9_held cX9_held 1 (some .int) 1 zshL zshL [.int x] M (zI (fun r M' => r = zheld x ∧ M' = M)) := by
  refine zMet.of (L0 := [some (.int x)]) (by decide) (Nat.le_refl _) (Nat.le_refl _) (Nat.le_of_ble_eq_true rfl) (List.forall_mem_cons.mpr ⟨rfl, fun _ h => absurd h List.not_mem_nil⟩) rfl (fun X C Al K => ?_)
  refine z_iconst (pc := 0) (v := 0) C dX9_held_0 rfl ?_
  refine z_bipush (pc := 1) (v := 99) C dX9_held_1 rfl ?_
  refine z_iload_n (pc := 3) C 0 dX9_held_3 rfl rfl ?_
  refine z_min (pc := 4) C (by decide) q2_135 q2_136 q1_12 q2_137 dX9_held_4 (Nat.le_of_ble_eq_true rfl) ?_
  refine z_max (pc := 7) C (by decide) q2_138 q2_139 q1_12 q2_140 dX9_held_7 (Nat.le_of_ble_eq_true rfl) ?_
  refine z_ireturn (pc := 10) C K dX9_held_10 ?_
  exact ⟨_, rfl, zheld_max x, rfl⟩

def s_trait (w : Int32) : Prop := w = 1 ∨ w = 2 ∨ w = 3 ∨ w = 6
set_option maxHeartbeats 4000000 in
set_option maxRecDepth 100000 in
theorem mX0_isTrait {l : Launch} {G : zG} {b : Nat} {M : zM} {x : Int32} : zMet l G b yX0_isTrait cX0_isTrait 1 (some .boolean) 0 zshL zshL [.int x] M (zI (fun r M' => (r = 1 ↔ s_trait x) ∧ (r = 0 ∨ r = 1) ∧ M' = M)) := by
  refine zMet.of (L0 := [some (.int x)]) (by decide) (Nat.le_refl _) (Nat.le_refl _) (Nat.le_of_ble_eq_true rfl) (List.forall_mem_cons.mpr ⟨rfl, fun _ h => absurd h List.not_mem_nil⟩) rfl (fun X C Al K => ?_)
  refine z_iload_n (pc := 0) C 0 dX0_isTrait_0 rfl rfl ?_
  refine z_iconst (pc := 1) (v := 1) C dX0_isTrait_1 rfl ?_
  refine z_icmp_eq (pc := 2) C 21 dX0_isTrait_2 (by decide) (fun c2 => ?_) (fun c2 => ?_)
  · refine z_iconst (pc := 21) (v := 1) C dX0_isTrait_21 rfl ?_
    refine z_goto (pc := 22) C 26 dX0_isTrait_22 (by decide) ?_
    refine z_zreturn (pc := 26) C K dX0_isTrait_26 (Or.inr rfl) ?_
    refine ⟨_, rfl, ?_, by decide, rfl⟩
    simp_all [s_trait]
  · refine z_iload_n (pc := 5) C 0 dX0_isTrait_5 rfl rfl ?_
    refine z_iconst (pc := 6) (v := 2) C dX0_isTrait_6 rfl ?_
    refine z_icmp_eq (pc := 7) C 21 dX0_isTrait_7 (by decide) (fun c7 => ?_) (fun c7 => ?_)
    · refine z_iconst (pc := 21) (v := 1) C dX0_isTrait_21 rfl ?_
      refine z_goto (pc := 22) C 26 dX0_isTrait_22 (by decide) ?_
      refine z_zreturn (pc := 26) C K dX0_isTrait_26 (Or.inr rfl) ?_
      refine ⟨_, rfl, ?_, by decide, rfl⟩
      simp_all [s_trait]
    · refine z_iload_n (pc := 10) C 0 dX0_isTrait_10 rfl rfl ?_
      refine z_iconst (pc := 11) (v := 3) C dX0_isTrait_11 rfl ?_
      refine z_icmp_eq (pc := 12) C 21 dX0_isTrait_12 (by decide) (fun c12 => ?_) (fun c12 => ?_)
      · refine z_iconst (pc := 21) (v := 1) C dX0_isTrait_21 rfl ?_
        refine z_goto (pc := 22) C 26 dX0_isTrait_22 (by decide) ?_
        refine z_zreturn (pc := 26) C K dX0_isTrait_26 (Or.inr rfl) ?_
        refine ⟨_, rfl, ?_, by decide, rfl⟩
        simp_all [s_trait]
      · refine z_iload_n (pc := 15) C 0 dX0_isTrait_15 rfl rfl ?_
        refine z_bipush (pc := 16) (v := 6) C dX0_isTrait_16 rfl ?_
        refine z_icmp_ne (pc := 18) C 25 dX0_isTrait_18 (by decide) (fun c18 => ?_) (fun c18 => ?_)
        · refine z_iconst (pc := 25) (v := 0) C dX0_isTrait_25 rfl ?_
          refine z_zreturn (pc := 26) C K dX0_isTrait_26 (Or.inl rfl) ?_
          refine ⟨_, rfl, ?_, by decide, rfl⟩
          simp_all [s_trait]
        · refine z_iconst (pc := 21) (v := 1) C dX0_isTrait_21 rfl ?_
          refine z_goto (pc := 22) C 26 dX0_isTrait_22 (by decide) ?_
          refine z_zreturn (pc := 26) C K dX0_isTrait_26 (Or.inr rfl) ?_
          refine ⟨_, rfl, ?_, by decide, rfl⟩
          simp_all [s_trait]

set_option maxHeartbeats 4000000 in
set_option maxRecDepth 100000 in
theorem mX0_believeAll {l : Launch} {G : zG} {b : Nat} {M : zM} {w i : Nat} (hp : okP w i) : zMet l G b yX0_believeAll cX0_believeAll 1 none 0 zshL zshL [.ref (b + adP w i)] M (zV (fun M' => M' = zu (zu M 1 w i 4 0) 1 w i 5 99)) := by
  refine zMet.of (L0 := [some (.ref (b + adP w i))]) (by decide) (Nat.le_refl _) (Nat.le_refl _) (Nat.le_of_ble_eq_true rfl) (List.forall_mem_cons.mpr ⟨rfl, fun _ h => absurd h List.not_mem_nil⟩) rfl (fun X C Al K => ?_)
  refine z_aload_n (pc := 0) C 0 dX0_believeAll_0 rfl rfl ?_
  refine z_iconst (pc := 1) (v := 0) C dX0_believeAll_1 rfl ?_
  refine z_putII (pc := 2) C dX0_believeAll_2 fX0_28 (shP hp) rfl ?_
  refine z_aload_n (pc := 5) C 0 dX0_believeAll_5 rfl rfl ?_
  refine z_bipush (pc := 6) (v := 99) C dX0_believeAll_6 rfl ?_
  refine z_putII (pc := 8) C dX0_believeAll_8 fX0_31 (shP hp) rfl ?_
  refine z_return (pc := 11) C K dX0_believeAll_11 ?_
  exact ⟨rfl, rfl⟩

def s_worth (k w b : Int32) : Int32 := if k = 1 then w + 10 else if k = 2 then 50 - b else if k = 3 then 2 * (w + 10) else if k = 4 then 50 - b - 3 else if k = 5 then 1 else w
set_option maxHeartbeats 4000000 in
set_option maxRecDepth 100000 in
theorem mX0_worth {l : Launch} {G : zG} {b : Nat} {M : zM} {w i : Nat} (hp : okP w i) : zMet l G b yX0_worth cX0_worth 1 (some .int) 0 zshL zshL [.ref (b + adP w i)] M (zI (fun r M' => r = s_worth (M 1 w i 0) (M 1 w i 2) (M 1 w i 3) ∧ M' = M)) := by
  refine zMet.of (L0 := [some (.ref (b + adP w i))]) (by decide) (Nat.le_refl _) (Nat.le_refl _) (Nat.le_of_ble_eq_true rfl) (List.forall_mem_cons.mpr ⟨rfl, fun _ h => absurd h List.not_mem_nil⟩) rfl (fun X C Al K => ?_)
  refine z_aload_n (pc := 0) C 0 dX0_worth_0 rfl rfl ?_
  refine z_getI (pc := 1) C dX0_worth_1 fX0_25 (shP hp) rfl ?_
  by_cases s4_0 : M 1 w i 0 = 1
  · refine z_tswIn (pc := 4) C (1) 40 dX0_worth_4 (by rw [s4_0]; rfl) (by decide) (by decide) rfl (by decide) ?_
    refine z_aload_n (pc := 40) C 0 dX0_worth_40 rfl rfl ?_
    refine z_getI (pc := 41) C dX0_worth_41 fX0_15 (shP hp) rfl ?_
    refine z_bipush (pc := 44) (v := 10) C dX0_worth_44 rfl ?_
    refine z_iadd (pc := 46) C dX0_worth_46 ?_
    refine z_ireturn (pc := 47) C K dX0_worth_47 ?_
    exact ⟨_, rfl, by simp_all [s_worth], rfl⟩
  by_cases s4_1 : M 1 w i 0 = 2
  · refine z_tswIn (pc := 4) C (2) 58 dX0_worth_4 (by rw [s4_1]; rfl) (by decide) (by decide) rfl (by decide) ?_
    refine z_bipush (pc := 58) (v := 50) C dX0_worth_58 rfl ?_
    refine z_aload_n (pc := 60) C 0 dX0_worth_60 rfl rfl ?_
    refine z_getI (pc := 61) C dX0_worth_61 fX0_18 (shP hp) rfl ?_
    refine z_isub (pc := 64) C dX0_worth_64 ?_
    refine z_ireturn (pc := 65) C K dX0_worth_65 ?_
    exact ⟨_, rfl, by simp_all [s_worth], rfl⟩
  by_cases s4_2 : M 1 w i 0 = 3
  · refine z_tswIn (pc := 4) C (3) 48 dX0_worth_4 (by rw [s4_2]; rfl) (by decide) (by decide) rfl (by decide) ?_
    refine z_iconst (pc := 48) (v := 2) C dX0_worth_48 rfl ?_
    refine z_aload_n (pc := 49) C 0 dX0_worth_49 rfl rfl ?_
    refine z_getI (pc := 50) C dX0_worth_50 fX0_15 (shP hp) rfl ?_
    refine z_bipush (pc := 53) (v := 10) C dX0_worth_53 rfl ?_
    refine z_iadd (pc := 55) C dX0_worth_55 ?_
    refine z_imul (pc := 56) C dX0_worth_56 ?_
    refine z_ireturn (pc := 57) C K dX0_worth_57 ?_
    exact ⟨_, rfl, by simp_all [s_worth], rfl⟩
  by_cases s4_3 : M 1 w i 0 = 4
  · refine z_tswIn (pc := 4) C (4) 66 dX0_worth_4 (by rw [s4_3]; rfl) (by decide) (by decide) rfl (by decide) ?_
    refine z_bipush (pc := 66) (v := 50) C dX0_worth_66 rfl ?_
    refine z_aload_n (pc := 68) C 0 dX0_worth_68 rfl rfl ?_
    refine z_getI (pc := 69) C dX0_worth_69 fX0_18 (shP hp) rfl ?_
    refine z_isub (pc := 72) C dX0_worth_72 ?_
    refine z_iconst (pc := 73) (v := 3) C dX0_worth_73 rfl ?_
    refine z_isub (pc := 74) C dX0_worth_74 ?_
    refine z_ireturn (pc := 75) C K dX0_worth_75 ?_
    exact ⟨_, rfl, by simp_all [s_worth], rfl⟩
  by_cases s4_4 : M 1 w i 0 = 5
  · refine z_tswIn (pc := 4) C (5) 76 dX0_worth_4 (by rw [s4_4]; rfl) (by decide) (by decide) rfl (by decide) ?_
    refine z_iconst (pc := 76) (v := 1) C dX0_worth_76 rfl ?_
    refine z_ireturn (pc := 77) C K dX0_worth_77 ?_
    exact ⟨_, rfl, by simp_all [s_worth], rfl⟩
  refine z_tswOut (pc := 4) C 78 dX0_worth_4 (by have g0 := lv_neT (a := 1) s4_0 rfl; have g1 := lv_neT (a := 2) s4_1 rfl; have g2 := lv_neT (a := 3) s4_2 rfl; have g3 := lv_neT (a := 4) s4_3 rfl; have g4 := lv_neT (a := 5) s4_4 rfl; omega) (by decide) ?_
  refine z_aload_n (pc := 78) C 0 dX0_worth_78 rfl rfl ?_
  refine z_getI (pc := 79) C dX0_worth_79 fX0_15 (shP hp) rfl ?_
  refine z_ireturn (pc := 82) C K dX0_worth_82 ?_
  exact ⟨_, rfl, by simp_all [s_worth], rfl⟩
