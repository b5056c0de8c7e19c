/-! the world, read -/
theorem zlt {x : Int32} {n i : Nat} (hn : x = nI n) (h : n ≤ i) (hi : i < 2 ^ 31) : x ≤ nI i := by rw [hn]; exact nI_le h hi
theorem zlf {x : Int32} {n i : Nat} (hn : x = nI n) (h : i < n) (hi : n < 2 ^ 31) : ¬ x ≤ nI i := by rw [hn]; exact nI_ge h hi
set_option maxHeartbeats 4000000 in
set_option maxRecDepth 100000 in
theorem mX8_weightUpTo {l : Launch} {G : zG} {b : Nat} {M : zM} {w n : Nat} (hw : w < 14) (hn : M 5 w 0 2 = nI n) (hn8 : n ≤ 8) {d : Int32} : zMet l G b yX8_weightUpTo cX8_weightUpTo 4 (some .int) 0 zshL zshL [.ref (b + adW w), .int d] M (zI (fun r M' => r = pUp (M 1 w) d n ∧ M' = M)) := by
  refine zMet.of (L0 := [some (.ref (b + adW w)), some (.int d), none, none]) (by decide +kernel) (Nat.le_refl _) (Nat.le_refl _) (Nat.le_of_ble_eq_true rfl) (List.forall_mem_cons.mpr ⟨rfl, List.forall_mem_cons.mpr ⟨rfl, fun _ h => absurd h List.not_mem_nil⟩⟩) rfl (fun X C Al K => ?_)
  have loop : ∀ (k i : Nat), i + k = n → zW X zshL M 4 [some (.ref (b + adW w)), some (.int d), some (.int (pUp (M 1 w) d i)), some (.int (nI i))] [] := by
    intro k
    induction k with
    | zero =>
      intro i  hi
      refine z_iload_n (pc := 4) C 3 dX8_weightUpTo_4 rfl rfl ?_
      refine z_aload_n (pc := 5) C 0 dX8_weightUpTo_5 rfl rfl ?_
      refine z_getI (pc := 6) C dX8_weightUpTo_6 fX8_17 (shW hw) rfl ?_
      refine z_icmp_ge (pc := 9) C 43 dX8_weightUpTo_9 (by decide) (fun c9 => ?_) (fun c9 => absurd (zlt hn (by omega) (by omega)) c9)
      refine z_iload_n (pc := 43) C 2 dX8_weightUpTo_43 rfl rfl ?_
      refine z_ireturn (pc := 44) C K dX8_weightUpTo_44 ?_
      obtain rfl : i = n := by omega
      exact ⟨_, rfl, rfl, rfl⟩
    | succ k ih =>
      intro i  hi
      have hin : i < 8 := by omega
      refine z_iload_n (pc := 4) C 3 dX8_weightUpTo_4 rfl rfl ?_
      refine z_aload_n (pc := 5) C 0 dX8_weightUpTo_5 rfl rfl ?_
      refine z_getI (pc := 6) C dX8_weightUpTo_6 fX8_17 (shW hw) rfl ?_
      refine z_icmp_ge (pc := 9) C 43 dX8_weightUpTo_9 (by decide) (fun c9 => absurd c9 (zlf hn (by omega) (by omega))) (fun c9 => ?_)
      refine z_aload_n (pc := 12) C 0 dX8_weightUpTo_12 rfl rfl ?_
      refine z_getR (pc := 13) (r := adW w + 1) C dX8_weightUpTo_13 fX8_11 (shW hw) rfl ?_
      refine z_iload_n (pc := 16) C 3 dX8_weightUpTo_16 rfl rfl ?_
      refine z_aald (pc := 17) (r := adP w i) C dX8_weightUpTo_17 (shPa hw) rfl rfl (pin hin) (pget hin) ?_
      refine z_getI (pc := 18) C dX8_weightUpTo_18 fX8_73 (shP (okP_w hw hin)) rfl ?_
      refine z_iload_n (pc := 21) C 1 dX8_weightUpTo_21 rfl rfl ?_
      refine z_icmp_gt (pc := 22) C 37 dX8_weightUpTo_22 (by decide) (fun c22 => ?_) (fun c22 => ?_)
      · refine z_iinc (pc := 37) (v := 1) C 3 dX8_weightUpTo_37 (by decide) rfl rfl rfl ?_
        refine z_goto (pc := 40) C 4 dX8_weightUpTo_40 (by decide) ?_
        have e := ih (i + 1) (by omega)
        rw [nI_succ] at e
        simp only [pUp] at e
        first | rw [if_pos c22] at e | rw [if_neg c22] at e
        exact e
      · refine z_iload_n (pc := 25) C 2 dX8_weightUpTo_25 rfl rfl ?_
        refine z_aload_n (pc := 26) C 0 dX8_weightUpTo_26 rfl rfl ?_
        refine z_getR (pc := 27) (r := adW w + 1) C dX8_weightUpTo_27 fX8_11 (shW hw) rfl ?_
        refine z_iload_n (pc := 30) C 3 dX8_weightUpTo_30 rfl rfl ?_
        refine z_aald (pc := 31) (r := adP w i) C dX8_weightUpTo_31 (shPa hw) rfl rfl (pin hin) (pget hin) ?_
        refine z_getI (pc := 32) C dX8_weightUpTo_32 fX8_76 (shP (okP_w hw hin)) rfl ?_
        refine z_iadd (pc := 35) C dX8_weightUpTo_35 ?_
        refine z_istore_n (pc := 36) C 2 dX8_weightUpTo_36 rfl (by decide) rfl ?_
        refine z_iinc (pc := 37) (v := 1) C 3 dX8_weightUpTo_37 (by decide) rfl rfl rfl ?_
        refine z_goto (pc := 40) C 4 dX8_weightUpTo_40 (by decide) ?_
        have e := ih (i + 1) (by omega)
        rw [nI_succ] at e
        simp only [pUp] at e
        first | rw [if_pos c22] at e | rw [if_neg c22] at e
        exact e
  refine z_iconst (pc := 0) (v := 0) C dX8_weightUpTo_0 rfl ?_
  refine z_istore_n (pc := 1) C 2 dX8_weightUpTo_1 rfl (by decide) rfl ?_
  refine z_iconst (pc := 2) (v := 0) C dX8_weightUpTo_2 rfl ?_
  refine z_istore_n (pc := 3) C 3 dX8_weightUpTo_3 rfl (by decide) rfl ?_
  exact loop n 0 (by omega)

set_option maxHeartbeats 4000000 in
set_option maxRecDepth 100000 in
theorem mX8_mean {l : Launch} {G : zG} {b : Nat} {M : zM} {w n : Nat} (hw : w < 14) (hn : M 5 w 0 2 = nI n) (hn8 : n ≤ 8) : zMet l G b yX8_mean cX8_mean 3 (some .int) 1 zshL zshL [.ref (b + adW w)] M (zI (fun r M' => r = pMean (M 1 w) n ∧ M' = M)) := by
  refine zMet.of (L0 := [some (.ref (b + adW w)), none, none]) (by decide +kernel) (Nat.le_refl _) (Nat.le_refl _) (Nat.le_of_ble_eq_true rfl) (List.forall_mem_cons.mpr ⟨rfl, fun _ h => absurd h List.not_mem_nil⟩) rfl (fun X C Al K => ?_)
  have loop : ∀ (k i : Nat), i + k = n → zW X zshL M 4 [some (.ref (b + adW w)), some (.int (pSm (M 1 w) i)), some (.int (nI i))] [] := by
    intro k
    induction k with
    | zero =>
      intro i  hi
      refine z_iload_n (pc := 4) C 2 dX8_mean_4 rfl rfl ?_
      refine z_aload_n (pc := 5) C 0 dX8_mean_5 rfl rfl ?_
      refine z_getI (pc := 6) C dX8_mean_6 fX8_17 (shW hw) rfl ?_
      refine z_icmp_ge (pc := 9) C 40 dX8_mean_9 (by decide) (fun c9 => ?_) (fun c9 => absurd (zlt hn (by omega) (by omega)) c9)
      refine z_aload_n (pc := 40) C 0 dX8_mean_40 rfl rfl ?_
      refine z_bipush (pc := 41) (v := 99) C dX8_mean_41 rfl ?_
      refine z_callVi (pc := 43) C dX8_mean_43 kX8_106 (mX8_weightUpTo hw hn hn8) (by decide) (shW hw) rfl rfl rfl (Nat.le_of_ble_eq_true rfl) (fun r43 M43 h43 => ?_)
      obtain ⟨rfl, e43⟩ := h43
      subst M43
      obtain rfl : i = n := by omega
      refine z_istore_n (pc := 46) C 2 dX8_mean_46 rfl (by decide) rfl ?_
      refine z_iload_n (pc := 47) C 2 dX8_mean_47 rfl rfl ?_
      refine z_if_ne (pc := 48) C 55 dX8_mean_48 (by decide) (fun c48 => ?_) (fun c48 => ?_)
      · refine z_iload_n (pc := 55) C 1 dX8_mean_55 rfl rfl ?_
        refine z_iload_n (pc := 56) C 2 dX8_mean_56 rfl rfl ?_
        refine z_idiv (pc := 57) C dX8_mean_57 c48 ?_
        refine z_ireturn (pc := 58) C K dX8_mean_58 ?_
        refine ⟨_, rfl, ?_, rfl⟩
        unfold pMean
        rw [if_neg c48]
      · refine z_iconst (pc := 51) (v := -1) C dX8_mean_51 rfl ?_
        refine z_goto (pc := 52) C 58 dX8_mean_52 (by decide) ?_
        refine z_ireturn (pc := 58) C K dX8_mean_58 ?_
        refine ⟨_, rfl, ?_, rfl⟩
        unfold pMean
        rw [if_pos c48]
    | succ k ih =>
      intro i  hi
      have hin : i < 8 := by omega
      refine z_iload_n (pc := 4) C 2 dX8_mean_4 rfl rfl ?_
      refine z_aload_n (pc := 5) C 0 dX8_mean_5 rfl rfl ?_
      refine z_getI (pc := 6) C dX8_mean_6 fX8_17 (shW hw) rfl ?_
      refine z_icmp_ge (pc := 9) C 40 dX8_mean_9 (by decide) (fun c9 => absurd c9 (zlf hn (by omega) (by omega))) (fun c9 => ?_)
      refine z_iload_n (pc := 12) C 1 dX8_mean_12 rfl rfl ?_
      refine z_aload_n (pc := 13) C 0 dX8_mean_13 rfl rfl ?_
      refine z_getR (pc := 14) (r := adW w + 1) C dX8_mean_14 fX8_11 (shW hw) rfl ?_
      refine z_iload_n (pc := 17) C 2 dX8_mean_17 rfl rfl ?_
      refine z_aald (pc := 18) (r := adP w i) C dX8_mean_18 (shPa hw) rfl rfl (pin hin) (pget hin) ?_
      refine z_getI (pc := 19) C dX8_mean_19 fX8_73 (shP (okP_w hw hin)) rfl ?_
      refine z_aload_n (pc := 22) C 0 dX8_mean_22 rfl rfl ?_
      refine z_getR (pc := 23) (r := adW w + 1) C dX8_mean_23 fX8_11 (shW hw) rfl ?_
      refine z_iload_n (pc := 26) C 2 dX8_mean_26 rfl rfl ?_
      refine z_aald (pc := 27) (r := adP w i) C dX8_mean_27 (shPa hw) rfl rfl (pin hin) (pget hin) ?_
      refine z_getI (pc := 28) C dX8_mean_28 fX8_76 (shP (okP_w hw hin)) rfl ?_
      refine z_imul (pc := 31) C dX8_mean_31 ?_
      refine z_iadd (pc := 32) C dX8_mean_32 ?_
      refine z_istore_n (pc := 33) C 1 dX8_mean_33 rfl (by decide) rfl ?_
      refine z_iinc (pc := 34) (v := 1) C 2 dX8_mean_34 (by decide) rfl rfl rfl ?_
      refine z_goto (pc := 37) C 4 dX8_mean_37 (by decide) ?_
      have e := ih (i + 1) (by omega)
      rw [nI_succ] at e
      exact e
  refine z_iconst (pc := 0) (v := 0) C dX8_mean_0 rfl ?_
  refine z_istore_n (pc := 1) C 1 dX8_mean_1 rfl (by decide) rfl ?_
  refine z_iconst (pc := 2) (v := 0) C dX8_mean_2 rfl ?_
  refine z_istore_n (pc := 3) C 2 dX8_mean_3 rfl (by decide) rfl ?_
  exact loop n 0 (by omega)

set_option maxHeartbeats 4000000 in
set_option maxRecDepth 100000 in
theorem mX8_middle {l : Launch} {G : zG} {b : Nat} {M : zM} {w n : Nat} (hw : w < 14) (hn : M 5 w 0 2 = nI n) (hn8 : n ≤ 8) : zMet l G b yX8_middle cX8_middle 5 (some .int) 1 zshL zshL [.ref (b + adW w)] M (zI (fun r M' => r = pMd (M 1 w) n (pUp (M 1 w) 99 n / 2) n ∧ M' = M)) := by
  refine zMet.of (L0 := [some (.ref (b + adW w)), none, none, none, none]) (by decide +kernel) (Nat.le_refl _) (Nat.le_refl _) (Nat.le_of_ble_eq_true rfl) (List.forall_mem_cons.mpr ⟨rfl, fun _ h => absurd h List.not_mem_nil⟩) rfl (fun X C Al K => ?_)
  have loop : ∀ (k i : Nat) (q : Option Value), i + k = n → zW X zshL M 14 [some (.ref (b + adW w)), some (.int (pUp (M 1 w) 99 n / 2)), some (.int (pMd (M 1 w) n (pUp (M 1 w) 99 n / 2) i)), some (.int (nI i)), q] [] := by
    intro k
    induction k with
    | zero =>
      intro i q hi
      refine z_iload_n (pc := 14) C 3 dX8_middle_14 rfl rfl ?_
      refine z_aload_n (pc := 15) C 0 dX8_middle_15 rfl rfl ?_
      refine z_getI (pc := 16) C dX8_middle_16 fX8_17 (shW hw) rfl ?_
      refine z_icmp_ge (pc := 19) C 58 dX8_middle_19 (by decide) (fun c19 => ?_) (fun c19 => absurd (zlt hn (by omega) (by omega)) c19)
      refine z_iload_n (pc := 58) C 2 dX8_middle_58 rfl rfl ?_
      refine z_ireturn (pc := 59) C K dX8_middle_59 ?_
      obtain rfl : i = n := by omega
      exact ⟨_, rfl, rfl, rfl⟩
    | succ k ih =>
      intro i q hi
      have hin : i < 8 := by omega
      refine z_iload_n (pc := 14) C 3 dX8_middle_14 rfl rfl ?_
      refine z_aload_n (pc := 15) C 0 dX8_middle_15 rfl rfl ?_
      refine z_getI (pc := 16) C dX8_middle_16 fX8_17 (shW hw) rfl ?_
      refine z_icmp_ge (pc := 19) C 58 dX8_middle_19 (by decide) (fun c19 => absurd c19 (zlf hn (by omega) (by omega))) (fun c19 => ?_)
      refine z_aload_n (pc := 22) C 0 dX8_middle_22 rfl rfl ?_
      refine z_getR (pc := 23) (r := adW w + 1) C dX8_middle_23 fX8_11 (shW hw) rfl ?_
      refine z_iload_n (pc := 26) C 3 dX8_middle_26 rfl rfl ?_
      refine z_aald (pc := 27) (r := adP w i) C dX8_middle_27 (shPa hw) rfl rfl (pin hin) (pget hin) ?_
      refine z_getI (pc := 28) C dX8_middle_28 fX8_73 (shP (okP_w hw hin)) rfl ?_
      refine z_istore (pc := 31) C 4 dX8_middle_31 (by decide) rfl ?_
      refine z_iload (pc := 33) C 4 dX8_middle_33 rfl ?_
      refine z_iload_n (pc := 35) C 2 dX8_middle_35 rfl rfl ?_
      refine z_icmp_ge (pc := 36) C 52 dX8_middle_36 (by decide) (fun c36 => ?_) (fun c36 => ?_)
      · refine z_iinc (pc := 52) (v := 1) C 3 dX8_middle_52 (by decide) rfl rfl rfl ?_
        refine z_goto (pc := 55) C 14 dX8_middle_55 (by decide) ?_
        have e := ih (i + 1) (some (.int (M 1 w i 1))) (by omega)
        rw [nI_succ] at e
        simp only [pMd] at e
        rw [if_neg (fun z => absurd z.1 (Int32.not_lt.mpr c36))] at e
        exact e
      · refine z_aload_n (pc := 39) C 0 dX8_middle_39 rfl rfl ?_
        refine z_iload (pc := 40) C 4 dX8_middle_40 rfl ?_
        refine z_callVi (pc := 42) C dX8_middle_42 kX8_106 (mX8_weightUpTo hw hn hn8) (by decide) (shW hw) rfl rfl rfl (Nat.le_of_ble_eq_true rfl) (fun r42 M42 h42 => ?_)
        obtain ⟨rfl, e42⟩ := h42
        subst M42
        refine z_iload_n (pc := 45) C 1 dX8_middle_45 rfl rfl ?_
        refine z_icmp_le (pc := 46) C 52 dX8_middle_46 (by decide) (fun c46 => ?_) (fun c46 => ?_)
        · refine z_iinc (pc := 52) (v := 1) C 3 dX8_middle_52 (by decide) rfl rfl rfl ?_
          refine z_goto (pc := 55) C 14 dX8_middle_55 (by decide) ?_
          have e := ih (i + 1) (some (.int (M 1 w i 1))) (by omega)
          rw [nI_succ] at e
          simp only [pMd] at e
          rw [if_neg (fun z => absurd z.2 (Int32.not_lt.mpr c46))] at e
          exact e
        · refine z_iload (pc := 49) C 4 dX8_middle_49 rfl ?_
          refine z_istore_n (pc := 51) C 2 dX8_middle_51 rfl (by decide) rfl ?_
          refine z_iinc (pc := 52) (v := 1) C 3 dX8_middle_52 (by decide) rfl rfl rfl ?_
          refine z_goto (pc := 55) C 14 dX8_middle_55 (by decide) ?_
          have e := ih (i + 1) (some (.int (M 1 w i 1))) (by omega)
          rw [nI_succ] at e
          simp only [pMd] at e
          rw [if_pos ⟨Int32.not_le.mp c36, Int32.not_le.mp c46⟩] at e
          exact e
  refine z_aload_n (pc := 0) C 0 dX8_middle_0 rfl rfl ?_
  refine z_bipush (pc := 1) (v := 99) C dX8_middle_1 rfl ?_
  refine z_callVi (pc := 3) C dX8_middle_3 kX8_106 (mX8_weightUpTo hw hn hn8) (by decide) (shW hw) rfl rfl rfl (Nat.le_of_ble_eq_true rfl) (fun r3 M3 h3 => ?_)
  obtain ⟨rfl, e3⟩ := h3
  subst M3
  refine z_iconst (pc := 6) (v := 2) C dX8_middle_6 rfl ?_
  refine z_idiv (pc := 7) C dX8_middle_7 (by decide) ?_
  refine z_istore_n (pc := 8) C 1 dX8_middle_8 rfl (by decide) rfl ?_
  refine z_bipush (pc := 9) (v := 99) C dX8_middle_9 rfl ?_
  refine z_istore_n (pc := 11) C 2 dX8_middle_11 rfl (by decide) rfl ?_
  refine z_iconst (pc := 12) (v := 0) C dX8_middle_12 rfl ?_
  refine z_istore_n (pc := 13) C 3 dX8_middle_13 rfl (by decide) rfl ?_
  exact loop n 0 _ (by omega)

set_option maxHeartbeats 4000000 in
set_option maxRecDepth 100000 in
theorem mX8_greatest {l : Launch} {G : zG} {b : Nat} {M : zM} {w n : Nat} (hw : w < 14) (hn : M 5 w 0 2 = nI n) (hn8 : n ≤ 8) : zMet l G b yX8_greatest cX8_greatest 3 (some .int) 1 zshL zshL [.ref (b + adW w)] M (zI (fun r M' => r = pGr (M 1 w) n ∧ M' = M)) := by
  refine zMet.of (L0 := [some (.ref (b + adW w)), none, none]) (by decide +kernel) (Nat.le_refl _) (Nat.le_refl _) (Nat.le_of_ble_eq_true rfl) (List.forall_mem_cons.mpr ⟨rfl, fun _ h => absurd h List.not_mem_nil⟩) rfl (fun X C Al K => ?_)
  have loop : ∀ (k i : Nat), i + k = n → zW X zshL M 4 [some (.ref (b + adW w)), some (.int (pGr (M 1 w) i)), some (.int (nI i))] [] := by
    intro k
    induction k with
    | zero =>
      intro i  hi
      refine z_iload_n (pc := 4) C 2 dX8_greatest_4 rfl rfl ?_
      refine z_aload_n (pc := 5) C 0 dX8_greatest_5 rfl rfl ?_
      refine z_getI (pc := 6) C dX8_greatest_6 fX8_17 (shW hw) rfl ?_
      refine z_icmp_ge (pc := 9) C 32 dX8_greatest_9 (by decide) (fun c9 => ?_) (fun c9 => absurd (zlt hn (by omega) (by omega)) c9)
      refine z_iload_n (pc := 32) C 1 dX8_greatest_32 rfl rfl ?_
      refine z_ireturn (pc := 33) C K dX8_greatest_33 ?_
      obtain rfl : i = n := by omega
      exact ⟨_, rfl, rfl, rfl⟩
    | succ k ih =>
      intro i  hi
      have hin : i < 8 := by omega
      refine z_iload_n (pc := 4) C 2 dX8_greatest_4 rfl rfl ?_
      refine z_aload_n (pc := 5) C 0 dX8_greatest_5 rfl rfl ?_
      refine z_getI (pc := 6) C dX8_greatest_6 fX8_17 (shW hw) rfl ?_
      refine z_icmp_ge (pc := 9) C 32 dX8_greatest_9 (by decide) (fun c9 => absurd c9 (zlf hn (by omega) (by omega))) (fun c9 => ?_)
      refine z_iload_n (pc := 12) C 1 dX8_greatest_12 rfl rfl ?_
      refine z_aload_n (pc := 13) C 0 dX8_greatest_13 rfl rfl ?_
      refine z_getR (pc := 14) (r := adW w + 1) C dX8_greatest_14 fX8_11 (shW hw) rfl ?_
      refine z_iload_n (pc := 17) C 2 dX8_greatest_17 rfl rfl ?_
      refine z_aald (pc := 18) (r := adP w i) C dX8_greatest_18 (shPa hw) rfl rfl (pin hin) (pget hin) ?_
      refine z_getI (pc := 19) C dX8_greatest_19 fX8_73 (shP (okP_w hw hin)) rfl ?_
      refine z_max (pc := 22) C (by decide) q2_237 q2_139 q1_12 q2_140 dX8_greatest_22 (Nat.le_of_ble_eq_true rfl) ?_
      refine z_istore_n (pc := 25) C 1 dX8_greatest_25 rfl (by decide) rfl ?_
      refine z_iinc (pc := 26) (v := 1) C 2 dX8_greatest_26 (by decide) rfl rfl rfl ?_
      refine z_goto (pc := 29) C 4 dX8_greatest_29 (by decide) ?_
      have e := ih (i + 1) (by omega)
      rw [nI_succ] at e
      exact e
  refine z_iconst (pc := 0) (v := 0) C dX8_greatest_0 rfl ?_
  refine z_istore_n (pc := 1) C 1 dX8_greatest_1 rfl (by decide) rfl ?_
  refine z_iconst (pc := 2) (v := 0) C dX8_greatest_2 rfl ?_
  refine z_istore_n (pc := 3) C 2 dX8_greatest_3 rfl (by decide) rfl ?_
  exact loop n 0 (by omega)

set_option maxHeartbeats 4000000 in
set_option maxRecDepth 100000 in
theorem mX8_voice {l : Launch} {G : zG} {b : Nat} {M : zM} {w n : Nat} (hw : w < 14) (hn : M 5 w 0 2 = nI n) (hn8 : n ≤ 8) : zMet l G b yX8_voice cX8_voice 1 (some .int) 2 zshL zshL [.ref (b + adW w)] M (zI (fun r M' => r = pVoice (M 1 w) n (M 5 w 0 4) ∧ M' = M)) := by
  refine zMet.of (L0 := [some (.ref (b + adW w))]) (by decide +kernel) (Nat.le_refl _) (Nat.le_refl _) (Nat.le_of_ble_eq_true rfl) (List.forall_mem_cons.mpr ⟨rfl, fun _ h => absurd h List.not_mem_nil⟩) rfl (fun X C Al K => ?_)
  refine z_aload_n (pc := 0) C 0 dX8_voice_0 rfl rfl ?_
  refine z_getI (pc := 1) C dX8_voice_1 fX8_17 (shW hw) rfl ?_
  refine z_if_ne (pc := 4) C 9 dX8_voice_4 (by decide) (fun c4 => ?_) (fun c4 => ?_)
  · refine z_aload_n (pc := 9) C 0 dX8_voice_9 rfl rfl ?_
    refine z_getI (pc := 10) C dX8_voice_10 fX8_24 (shW hw) rfl ?_
    refine z_if_ne (pc := 13) C 21 dX8_voice_13 (by decide) (fun c13 => ?_) (fun c13 => ?_)
    · refine z_aload_n (pc := 21) C 0 dX8_voice_21 rfl rfl ?_
      refine z_getI (pc := 22) C dX8_voice_22 fX8_24 (shW hw) rfl ?_
      refine z_iconst (pc := 25) (v := 1) C dX8_voice_25 rfl ?_
      refine z_icmp_ne (pc := 26) C 36 dX8_voice_26 (by decide) (fun c26 => ?_) (fun c26 => ?_)
      · refine z_aload_n (pc := 36) C 0 dX8_voice_36 rfl rfl ?_
        refine z_callVi (pc := 37) C dX8_voice_37 kX8_103 (mX8_greatest hw hn hn8) (by decide) (shW hw) rfl rfl rfl (Nat.le_of_ble_eq_true rfl) (fun r37 M37 h37 => ?_)
        obtain ⟨rfl, e37⟩ := h37
        subst M37
        refine z_ireturn (pc := 40) C K dX8_voice_40 ?_
        refine ⟨_, rfl, ?_, rfl⟩
        have h0 : ¬ n = 0 := fun q => c4 (by rw [hn, q]; rfl)
        unfold pVoice
        rw [if_neg h0, if_neg c13, if_neg c26]
      · refine z_aload_n (pc := 29) C 0 dX8_voice_29 rfl rfl ?_
        refine z_callVi (pc := 30) C dX8_voice_30 kX8_100 (mX8_middle hw hn hn8) (by decide) (shW hw) rfl rfl rfl (Nat.le_of_ble_eq_true rfl) (fun r30 M30 h30 => ?_)
        obtain ⟨rfl, e30⟩ := h30
        subst M30
        refine z_goto (pc := 33) C 40 dX8_voice_33 (by decide) ?_
        refine z_ireturn (pc := 40) C K dX8_voice_40 ?_
        refine ⟨_, rfl, ?_, rfl⟩
        have h0 : ¬ n = 0 := fun q => c4 (by rw [hn, q]; rfl)
        unfold pVoice
        rw [if_neg h0, if_neg c13, if_pos c26]
    · refine z_aload_n (pc := 16) C 0 dX8_voice_16 rfl rfl ?_
      refine z_callVi (pc := 17) C dX8_voice_17 kX8_97 (mX8_mean hw hn hn8) (by decide) (shW hw) rfl rfl rfl (Nat.le_of_ble_eq_true rfl) (fun r17 M17 h17 => ?_)
      obtain ⟨rfl, e17⟩ := h17
      subst M17
      refine z_ireturn (pc := 20) C K dX8_voice_20 ?_
      refine ⟨_, rfl, ?_, rfl⟩
      have h0 : ¬ n = 0 := fun q => c4 (by rw [hn, q]; rfl)
      unfold pVoice
      rw [if_neg h0, if_pos c13]
  · refine z_iconst (pc := 7) (v := -1) C dX8_voice_7 rfl ?_
    refine z_ireturn (pc := 8) C K dX8_voice_8 ?_
    refine ⟨_, rfl, ?_, rfl⟩
    have h0 : n = 0 := by
      rcases Nat.eq_zero_or_pos n with q | q
      · exact q
      · exact absurd c4 (by rw [hn]; exact nI_ne0 q (by omega))
    unfold pVoice
    rw [if_pos h0]

set_option maxHeartbeats 4000000 in
set_option maxRecDepth 100000 in
theorem mX8_drifted {l : Launch} {G : zG} {b : Nat} {M : zM} {w : Nat} (hw : w < 14) {x y : Int32} : zMet l G b yX8_drifted cX8_drifted 3 (some .int) 1 zshL zshL [.ref (b + adW w), .int x, .int y] M (zI (fun r M' => r = pFm (x + M 5 w 0 5 * y) ∧ M' = M)) := by
  refine zMet.of (L0 := [some (.ref (b + adW w)), some (.int x), some (.int y)]) (by decide +kernel) (Nat.le_refl _) (Nat.le_refl _) (Nat.le_of_ble_eq_true rfl) (List.forall_mem_cons.mpr ⟨rfl, List.forall_mem_cons.mpr ⟨rfl, List.forall_mem_cons.mpr ⟨rfl, fun _ h => absurd h List.not_mem_nil⟩⟩⟩) rfl (fun X C Al K => ?_)
  refine z_iload_n (pc := 0) C 1 dX8_drifted_0 rfl rfl ?_
  refine z_aload_n (pc := 1) C 0 dX8_drifted_1 rfl rfl ?_
  refine z_getI (pc := 2) C dX8_drifted_2 fX8_27 (shW hw) rfl ?_
  refine z_iload_n (pc := 5) C 2 dX8_drifted_5 rfl rfl ?_
  refine z_imul (pc := 6) C dX8_drifted_6 ?_
  refine z_iadd (pc := 7) C dX8_drifted_7 ?_
  refine z_bipush (pc := 8) (v := 100) C dX8_drifted_8 rfl ?_
  refine z_callSi (pc := 10) C dX8_drifted_10 kX8_141 mJ9_floorMod_7cf53 (by decide) rfl rfl (Nat.le_of_ble_eq_true rfl) (fun r10 M10 h10 => ?_)
  obtain ⟨rfl, e10⟩ := h10
  subst M10
  refine z_ireturn (pc := 13) C K dX8_drifted_13 ?_
  exact ⟨_, rfl, rfl, rfl⟩
