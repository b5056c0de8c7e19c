/-! THE REFERENCE: small methods -/
def mp (M : zM) (i f : Nat) : Int32 := M 31 0 0 (9 + 7 * i + f)
def mput (M : zM) (i f : Nat) (v : Int32) : zM := zu M 31 0 0 (9 + 7 * i + f) v
theorem mput_at {M : zM} {i f i' f' : Nat} {v : Int32} (hf : f < 7) (hf' : f' < 7) : mp (mput M i f v) i' f' = if i' = i ∧ f' = f then v else mp M i' f' := by
  unfold mp mput
  by_cases e : i' = i ∧ f' = f
  · rw [if_pos e, e.1, e.2, zu_self]
  · rw [if_neg e, zu_f (by omega)]
theorem mix {i f : Nat} (hi : i < 8) (hf : f < 7) : vp_in (9 + 7 * nI i + nI f) 1437 := by
  show vp_in (nI 9 + nI 7 * nI i + nI f) 1437
  rw [pk_mul, nI_add, nI_add]
  exact vp_in_nI (by omega) (by omega)
theorem mixn {i f : Nat} (hi : i < 8) (hf : f < 7) : (9 + 7 * nI i + nI f).toNatClampNeg = 9 + 7 * i + f := by
  show (nI 9 + nI 7 * nI i + nI f).toNatClampNeg = _
  rw [pk_mul, nI_add, nI_add]
  exact nI_clamp (by omega)
/-- whether v is least .. most -/
def zin (v a c : Int32) : Prop := a ≤ v ∧ v ≤ c
set_option maxHeartbeats 4000000 in
set_option maxRecDepth 100000 in
theorem mX10_in {l : Launch} {G : zG} {b : Nat} {M : zM} {x y z : Int32} : zMet l G b yX10_in cX10_in 3 (some .boolean) 0 zshL zshL [.int x, .int y, .int z] M (zI (fun r M' => ((r = 1 ∧ zin x y z) ∨ (r = 0 ∧ ¬ zin x y z)) ∧ M' = M)) := by
  refine zMet.of (L0 := [some (.int x), some (.int y), some (.int z)]) (by decide +kernel) (Nat.le_refl _) (Nat.le_refl _) (Nat.le_of_ble_eq_true rfl) (List.forall_mem_cons.mpr ⟨rfl, List.forall_mem_cons.mpr ⟨rfl, List.forall_mem_cons.mpr ⟨rfl, fun _ h => absurd h List.not_mem_nil⟩⟩⟩) rfl (fun X C Al K => ?_)
  refine z_iload_n (pc := 0) C 0 dX10_in_0 rfl rfl ?_
  refine z_iload_n (pc := 1) C 1 dX10_in_1 rfl rfl ?_
  refine z_icmp_lt (pc := 2) C 14 dX10_in_2 (by decide) (fun c2 => ?_) (fun c2 => ?_)
  · refine z_iconst (pc := 14) (v := 0) C dX10_in_14 rfl ?_
    refine z_zreturn (pc := 15) C K dX10_in_15 (Or.inl rfl) ?_
    exact ⟨_, rfl, Or.inr ⟨rfl, fun h => Int32.not_le.mpr c2 h.1⟩, rfl⟩
  · refine z_iload_n (pc := 5) C 0 dX10_in_5 rfl rfl ?_
    refine z_iload_n (pc := 6) C 2 dX10_in_6 rfl rfl ?_
    refine z_icmp_gt (pc := 7) C 14 dX10_in_7 (by decide) (fun c7 => ?_) (fun c7 => ?_)
    · refine z_iconst (pc := 14) (v := 0) C dX10_in_14 rfl ?_
      refine z_zreturn (pc := 15) C K dX10_in_15 (Or.inl rfl) ?_
      exact ⟨_, rfl, Or.inr ⟨rfl, fun h => Int32.not_le.mpr c7 h.2⟩, rfl⟩
    · refine z_iconst (pc := 10) (v := 1) C dX10_in_10 rfl ?_
      refine z_goto (pc := 11) C 15 dX10_in_11 (by decide) ?_
      refine z_zreturn (pc := 15) C K dX10_in_15 (Or.inr rfl) ?_
      exact ⟨_, rfl, Or.inl ⟨rfl, Int32.not_lt.mp c2, Int32.not_lt.mp c7⟩, rfl⟩

def zwi (v a c : Int32) : Int32 := if v < a then a else if c < v then c else v
set_option maxHeartbeats 4000000 in
set_option maxRecDepth 100000 in
theorem mX10_within {l : Launch} {G : zG} {b : Nat} {M : zM} {x y z : Int32} : zMet l G b yX10_within cX10_within 3 (some .int) 0 zshL zshL [.int x, .int y, .int z] M (zI (fun r M' => r = zwi x y z ∧ M' = M)) := by
  refine zMet.of (L0 := [some (.int x), some (.int y), some (.int z)]) (by decide +kernel) (Nat.le_refl _) (Nat.le_refl _) (Nat.le_of_ble_eq_true rfl) (List.forall_mem_cons.mpr ⟨rfl, List.forall_mem_cons.mpr ⟨rfl, List.forall_mem_cons.mpr ⟨rfl, fun _ h => absurd h List.not_mem_nil⟩⟩⟩) rfl (fun X C Al K => ?_)
  refine z_iload_n (pc := 0) C 0 dX10_within_0 rfl rfl ?_
  refine z_iload_n (pc := 1) C 1 dX10_within_1 rfl rfl ?_
  refine z_icmp_ge (pc := 2) C 9 dX10_within_2 (by decide) (fun c2 => ?_) (fun c2 => ?_)
  · refine z_iload_n (pc := 9) C 0 dX10_within_9 rfl rfl ?_
    refine z_iload_n (pc := 10) C 2 dX10_within_10 rfl rfl ?_
    refine z_icmp_le (pc := 11) C 18 dX10_within_11 (by decide) (fun c11 => ?_) (fun c11 => ?_)
    · refine z_iload_n (pc := 18) C 0 dX10_within_18 rfl rfl ?_
      refine z_ireturn (pc := 19) C K dX10_within_19 ?_
      refine ⟨_, rfl, ?_, rfl⟩
      unfold zwi
      rw [if_neg (Int32.not_lt.mpr c2), if_neg (Int32.not_lt.mpr c11)]
    · refine z_iload_n (pc := 14) C 2 dX10_within_14 rfl rfl ?_
      refine z_goto (pc := 15) C 19 dX10_within_15 (by decide) ?_
      refine z_ireturn (pc := 19) C K dX10_within_19 ?_
      refine ⟨_, rfl, ?_, rfl⟩
      unfold zwi
      rw [if_neg (Int32.not_lt.mpr c2), if_pos (Int32.not_le.mp c11)]
  · refine z_iload_n (pc := 5) C 1 dX10_within_5 rfl rfl ?_
    refine z_goto (pc := 6) C 19 dX10_within_6 (by decide) ?_
    refine z_ireturn (pc := 19) C K dX10_within_19 ?_
    refine ⟨_, rfl, ?_, rfl⟩
    unfold zwi
    rw [if_pos (Int32.not_le.mp c2)]

theorem zwi_h (v : Int32) : zwi v 0 99 = zheld v := rfl
set_option maxHeartbeats 4000000 in
set_option maxRecDepth 100000 in
theorem mX10_of {l : Launch} {G : zG} {b : Nat} {M : zM} {i f : Nat} (hi : i < 8) (hf : f < 7) : zMet l G b yX10_of cX10_of 3 (some .int) 0 zshL zshL [.ref (b + 239), .int (nI i), .int (nI f)] M (zI (fun r M' => r = mp M i f ∧ M' = M)) := by
  refine zMet.of (L0 := [some (.ref (b + 239)), some (.int (nI i)), some (.int (nI f))]) (by decide +kernel) (Nat.le_refl _) (Nat.le_refl _) (Nat.le_of_ble_eq_true rfl) (List.forall_mem_cons.mpr ⟨rfl, List.forall_mem_cons.mpr ⟨rfl, List.forall_mem_cons.mpr ⟨rfl, fun _ h => absurd h List.not_mem_nil⟩⟩⟩) rfl (fun X C Al K => ?_)
  refine z_aload_n (pc := 0) C 0 dX10_of_0 rfl rfl ?_
  refine z_getR (pc := 1) (r := 240) C dX10_of_1 fX10_9 sh_239 rfl ?_
  refine z_bipush (pc := 4) (v := 9) C dX10_of_4 rfl ?_
  refine z_bipush (pc := 6) (v := 7) C dX10_of_6 rfl ?_
  refine z_iload_n (pc := 8) C 1 dX10_of_8 rfl rfl ?_
  refine z_imul (pc := 9) C dX10_of_9 ?_
  refine z_iadd (pc := 10) C dX10_of_10 ?_
  refine z_iload_n (pc := 11) C 2 dX10_of_11 rfl rfl ?_
  refine z_iadd (pc := 12) C dX10_of_12 ?_
  refine z_iald (pc := 13) (n := 9 + 7 * i + f) C dX10_of_13 sh_240 (mix hi hf) (mixn hi hf) ?_
  refine z_ireturn (pc := 14) C K dX10_of_14 ?_
  exact ⟨_, rfl, rfl, rfl⟩

set_option maxHeartbeats 4000000 in
set_option maxRecDepth 100000 in
theorem mX10_put {l : Launch} {G : zG} {b : Nat} {M : zM} {i f : Nat} (hi : i < 8) (hf : f < 7) {v : Int32} : zMet l G b yX10_put cX10_put 4 none 0 zshL zshL [.ref (b + 239), .int (nI i), .int (nI f), .int v] M (zV (fun M' => M' = mput M i f v)) := by
  refine zMet.of (L0 := [some (.ref (b + 239)), some (.int (nI i)), some (.int (nI f)), some (.int v)]) (by decide +kernel) (Nat.le_refl _) (Nat.le_refl _) (Nat.le_of_ble_eq_true rfl) (List.forall_mem_cons.mpr ⟨rfl, List.forall_mem_cons.mpr ⟨rfl, List.forall_mem_cons.mpr ⟨rfl, List.forall_mem_cons.mpr ⟨rfl, fun _ h => absurd h List.not_mem_nil⟩⟩⟩⟩) rfl (fun X C Al K => ?_)
  refine z_aload_n (pc := 0) C 0 dX10_put_0 rfl rfl ?_
  refine z_getR (pc := 1) (r := 240) C dX10_put_1 fX10_9 sh_239 rfl ?_
  refine z_bipush (pc := 4) (v := 9) C dX10_put_4 rfl ?_
  refine z_bipush (pc := 6) (v := 7) C dX10_put_6 rfl ?_
  refine z_iload_n (pc := 8) C 1 dX10_put_8 rfl rfl ?_
  refine z_imul (pc := 9) C dX10_put_9 ?_
  refine z_iadd (pc := 10) C dX10_put_10 ?_
  refine z_iload_n (pc := 11) C 2 dX10_put_11 rfl rfl ?_
  refine z_iadd (pc := 12) C dX10_put_12 ?_
  refine z_iload_n (pc := 13) C 3 dX10_put_13 rfl rfl ?_
  refine z_iast (pc := 14) (n := 9 + 7 * i + f) C dX10_put_14 sh_240 (mix hi hf) (mixn hi hf) ?_
  refine z_return (pc := 15) C K dX10_put_15 ?_
  exact ⟨rfl, rfl⟩

set_option maxHeartbeats 4000000 in
set_option maxRecDepth 100000 in
theorem mX10_becomes {l : Launch} {G : zG} {b : Nat} {M : zM} {k : Nat} (hk : k < 1437) {v : Int32} : zMet l G b yX10_becomes cX10_becomes 4 (some .int) 0 zshL zshL [.ref (b + 239), .int (nI k), .int v] M (zI (fun r M' => r = M 31 0 0 k ∧ M' = zu M 31 0 0 k v)) := by
  refine zMet.of (L0 := [some (.ref (b + 239)), some (.int (nI k)), some (.int v), none]) (by decide +kernel) (Nat.le_refl _) (Nat.le_refl _) (Nat.le_of_ble_eq_true rfl) (List.forall_mem_cons.mpr ⟨rfl, List.forall_mem_cons.mpr ⟨rfl, List.forall_mem_cons.mpr ⟨rfl, fun _ h => absurd h List.not_mem_nil⟩⟩⟩) rfl (fun X C Al K => ?_)
  refine z_aload_n (pc := 0) C 0 dX10_becomes_0 rfl rfl ?_
  refine z_getR (pc := 1) (r := 240) C dX10_becomes_1 fX10_9 sh_239 rfl ?_
  refine z_iload_n (pc := 4) C 1 dX10_becomes_4 rfl rfl ?_
  refine z_iald (pc := 5) (n := k) C dX10_becomes_5 sh_240 (vp_in_nI (by omega) (by omega)) (nI_clamp (by omega)) ?_
  refine z_istore_n (pc := 6) C 3 dX10_becomes_6 rfl (by decide) rfl ?_
  refine z_aload_n (pc := 7) C 0 dX10_becomes_7 rfl rfl ?_
  refine z_getR (pc := 8) (r := 240) C dX10_becomes_8 fX10_9 sh_239 rfl ?_
  refine z_iload_n (pc := 11) C 1 dX10_becomes_11 rfl rfl ?_
  refine z_iload_n (pc := 12) C 2 dX10_becomes_12 rfl rfl ?_
  refine z_iast (pc := 13) (n := k) C dX10_becomes_13 sh_240 (vp_in_nI (by omega) (by omega)) (nI_clamp (by omega)) ?_
  refine z_iload_n (pc := 14) C 3 dX10_becomes_14 rfl rfl ?_
  refine z_ireturn (pc := 15) C K dX10_becomes_15 ?_
  exact ⟨_, rfl, rfl, rfl⟩


set_option maxHeartbeats 4000000 in
set_option maxRecDepth 100000 in
theorem mX10_weights {l : Launch} {G : zG} {b : Nat} {M : zM} {n : Nat} (hn : M 31 0 0 1 = nI n) (hn8 : n ≤ 8) : zMet l G b yX10_weights cX10_weights 3 (some .int) 1 zshL zshL [.ref (b + 239)] M (zI (fun r M' => r = pWs (mp M) n ∧ M' = M)) := by
  refine zMet.of (L0 := [some (.ref (b + 239)), none, none]) (by decide +kernel) (Nat.le_refl _) (Nat.le_refl _) (Nat.le_of_ble_eq_true rfl) (List.forall_mem_cons.mpr ⟨rfl, fun _ h => absurd h List.not_mem_nil⟩) rfl (fun X C Al K => ?_)
  have loop : ∀ (k i : Nat), i + k = n → zW X zshL M 4 [some (.ref (b + 239)), some (.int (pWs (mp M) i)), some (.int (nI i))] [] := by
    intro k
    induction k with
    | zero =>
      intro i  hi
      refine z_iload_n (pc := 4) C 2 dX10_weights_4 rfl rfl ?_
      refine z_aload_n (pc := 5) C 0 dX10_weights_5 rfl rfl ?_
      refine z_getR (pc := 6) (r := 240) C dX10_weights_6 fX10_9 sh_239 rfl ?_
      refine z_iconst (pc := 9) (v := 1) C dX10_weights_9 rfl ?_
      refine z_iald (pc := 10) (n := 1) C dX10_weights_10 sh_240 (zi_in.mpr (by decide)) rfl ?_
      refine z_icmp_ge (pc := 11) C 29 dX10_weights_11 (by decide) (fun c11 => ?_) (fun c11 => absurd (zlt hn (by omega) (by omega)) c11)
      refine z_iload_n (pc := 29) C 1 dX10_weights_29 rfl rfl ?_
      refine z_ireturn (pc := 30) C K dX10_weights_30 ?_
      obtain rfl : i = n := by omega
      exact ⟨_, rfl, rfl, rfl⟩
    | succ k ih =>
      intro i  hi
      have hin : i < 8 := by omega
      refine z_iload_n (pc := 4) C 2 dX10_weights_4 rfl rfl ?_
      refine z_aload_n (pc := 5) C 0 dX10_weights_5 rfl rfl ?_
      refine z_getR (pc := 6) (r := 240) C dX10_weights_6 fX10_9 sh_239 rfl ?_
      refine z_iconst (pc := 9) (v := 1) C dX10_weights_9 rfl ?_
      refine z_iald (pc := 10) (n := 1) C dX10_weights_10 sh_240 (zi_in.mpr (by decide)) rfl ?_
      refine z_icmp_ge (pc := 11) C 29 dX10_weights_11 (by decide) (fun c11 => absurd c11 (zlf hn (by omega) (by omega))) (fun c11 => ?_)
      refine z_iload_n (pc := 14) C 1 dX10_weights_14 rfl rfl ?_
      refine z_aload_n (pc := 15) C 0 dX10_weights_15 rfl rfl ?_
      refine z_iload_n (pc := 16) C 2 dX10_weights_16 rfl rfl ?_
      refine z_iconst (pc := 17) (v := 2) C dX10_weights_17 rfl ?_
      refine z_callVi (pc := 18) C dX10_weights_18 kX10_96 (mX10_of hin (f := 2) (by decide)) (by decide) sh_239 rfl rfl rfl (Nat.le_of_ble_eq_true rfl) (fun r18 M18 h18 => ?_)
      obtain ⟨rfl, e18⟩ := h18
      subst M18
      refine z_iadd (pc := 21) C dX10_weights_21 ?_
      refine z_istore_n (pc := 22) C 1 dX10_weights_22 rfl (by decide) rfl ?_
      refine z_iinc (pc := 23) (v := 1) C 2 dX10_weights_23 (by decide) rfl rfl rfl ?_
      refine z_goto (pc := 26) C 4 dX10_weights_26 (by decide) ?_
      have e := ih (i + 1) (by omega)
      rw [nI_succ] at e
      exact e
  refine z_iconst (pc := 0) (v := 0) C dX10_weights_0 rfl ?_
  refine z_istore_n (pc := 1) C 1 dX10_weights_1 rfl (by decide) rfl ?_
  refine z_iconst (pc := 2) (v := 0) C dX10_weights_2 rfl ?_
  refine z_istore_n (pc := 3) C 2 dX10_weights_3 rfl (by decide) rfl ?_
  exact loop n 0 (by omega)

set_option maxHeartbeats 4000000 in
set_option maxRecDepth 100000 in
theorem mX10_mean {l : Launch} {G : zG} {b : Nat} {M : zM} {n : Nat} (hn : M 31 0 0 1 = nI n) (hn8 : n ≤ 8) (hne : ¬ pWs (mp M) n = 0) : zMet l G b yX10_mean cX10_mean 3 (some .int) 2 zshL zshL [.ref (b + 239)] M (zI (fun r M' => r = pSm (mp M) n / pWs (mp M) n ∧ M' = M)) := by
  refine zMet.of (L0 := [some (.ref (b + 239)), none, none]) (by decide +kernel) (Nat.le_refl _) (Nat.le_refl _) (Nat.le_of_ble_eq_true rfl) (List.forall_mem_cons.mpr ⟨rfl, fun _ h => absurd h List.not_mem_nil⟩) rfl (fun X C Al K => ?_)
  have loop : ∀ (k i : Nat), i + k = n → zW X zshL M 4 [some (.ref (b + 239)), some (.int (pSm (mp M) i)), some (.int (nI i))] [] := by
    intro k
    induction k with
    | zero =>
      intro i  hi
      refine z_iload_n (pc := 4) C 2 dX10_mean_4 rfl rfl ?_
      refine z_aload_n (pc := 5) C 0 dX10_mean_5 rfl rfl ?_
      refine z_getR (pc := 6) (r := 240) C dX10_mean_6 fX10_9 sh_239 rfl ?_
      refine z_iconst (pc := 9) (v := 1) C dX10_mean_9 rfl ?_
      refine z_iald (pc := 10) (n := 1) C dX10_mean_10 sh_240 (zi_in.mpr (by decide)) rfl ?_
      refine z_icmp_ge (pc := 11) C 36 dX10_mean_11 (by decide) (fun c11 => ?_) (fun c11 => absurd (zlt hn (by omega) (by omega)) c11)
      refine z_iload_n (pc := 36) C 1 dX10_mean_36 rfl rfl ?_
      refine z_aload_n (pc := 37) C 0 dX10_mean_37 rfl rfl ?_
      refine z_callVi (pc := 38) C dX10_mean_38 kX10_140 (mX10_weights hn hn8) (by decide) sh_239 rfl rfl rfl (Nat.le_of_ble_eq_true rfl) (fun r38 M38 h38 => ?_)
      obtain ⟨rfl, e38⟩ := h38
      subst M38
      obtain rfl : i = n := by omega
      refine z_idiv (pc := 41) C dX10_mean_41 hne ?_
      refine z_ireturn (pc := 42) C K dX10_mean_42 ?_
      exact ⟨_, rfl, rfl, rfl⟩
    | succ k ih =>
      intro i  hi
      have hin : i < 8 := by omega
      refine z_iload_n (pc := 4) C 2 dX10_mean_4 rfl rfl ?_
      refine z_aload_n (pc := 5) C 0 dX10_mean_5 rfl rfl ?_
      refine z_getR (pc := 6) (r := 240) C dX10_mean_6 fX10_9 sh_239 rfl ?_
      refine z_iconst (pc := 9) (v := 1) C dX10_mean_9 rfl ?_
      refine z_iald (pc := 10) (n := 1) C dX10_mean_10 sh_240 (zi_in.mpr (by decide)) rfl ?_
      refine z_icmp_ge (pc := 11) C 36 dX10_mean_11 (by decide) (fun c11 => absurd c11 (zlf hn (by omega) (by omega))) (fun c11 => ?_)
      refine z_iload_n (pc := 14) C 1 dX10_mean_14 rfl rfl ?_
      refine z_aload_n (pc := 15) C 0 dX10_mean_15 rfl rfl ?_
      refine z_iload_n (pc := 16) C 2 dX10_mean_16 rfl rfl ?_
      refine z_iconst (pc := 17) (v := 1) C dX10_mean_17 rfl ?_
      refine z_callVi (pc := 18) C dX10_mean_18 kX10_96 (mX10_of hin (f := 1) (by decide)) (by decide) sh_239 rfl rfl rfl (Nat.le_of_ble_eq_true rfl) (fun r18 M18 h18 => ?_)
      obtain ⟨rfl, e18⟩ := h18
      subst M18
      refine z_aload_n (pc := 21) C 0 dX10_mean_21 rfl rfl ?_
      refine z_iload_n (pc := 22) C 2 dX10_mean_22 rfl rfl ?_
      refine z_iconst (pc := 23) (v := 2) C dX10_mean_23 rfl ?_
      refine z_callVi (pc := 24) C dX10_mean_24 kX10_96 (mX10_of hin (f := 2) (by decide)) (by decide) sh_239 rfl rfl rfl (Nat.le_of_ble_eq_true rfl) (fun r24 M24 h24 => ?_)
      obtain ⟨rfl, e24⟩ := h24
      subst M24
      refine z_imul (pc := 27) C dX10_mean_27 ?_
      refine z_iadd (pc := 28) C dX10_mean_28 ?_
      refine z_istore_n (pc := 29) C 1 dX10_mean_29 rfl (by decide) rfl ?_
      refine z_iinc (pc := 30) (v := 1) C 2 dX10_mean_30 (by decide) rfl rfl rfl ?_
      refine z_goto (pc := 33) C 4 dX10_mean_33 (by decide) ?_
      have e := ih (i + 1) (by omega)
      rw [nI_succ] at e
      exact e
  refine z_iconst (pc := 0) (v := 0) C dX10_mean_0 rfl ?_
  refine z_istore_n (pc := 1) C 1 dX10_mean_1 rfl (by decide) rfl ?_
  refine z_iconst (pc := 2) (v := 0) C dX10_mean_2 rfl ?_
  refine z_istore_n (pc := 3) C 2 dX10_mean_3 rfl (by decide) rfl ?_
  exact loop n 0 (by omega)

set_option maxHeartbeats 4000000 in
set_option maxRecDepth 100000 in
theorem mX10_upTo {l : Launch} {G : zG} {b : Nat} {M : zM} {n : Nat} (hn : M 31 0 0 1 = nI n) (hn8 : n ≤ 8) {d : Int32} : zMet l G b yX10_upTo cX10_upTo 4 (some .int) 1 zshL zshL [.ref (b + 239), .int d] M (zI (fun r M' => r = pUp (mp M) d n ∧ M' = M)) := by
  refine zMet.of (L0 := [some (.ref (b + 239)), some (.int d), none, none]) (by decide +kernel) (Nat.le_refl _) (Nat.le_refl _) (Nat.le_of_ble_eq_true rfl) (List.forall_mem_cons.mpr ⟨rfl, List.forall_mem_cons.mpr ⟨rfl, fun _ h => absurd h List.not_mem_nil⟩⟩) rfl (fun X C Al K => ?_)
  have loop : ∀ (k i : Nat), i + k = n → zW X zshL M 4 [some (.ref (b + 239)), some (.int d), some (.int (pUp (mp M) d i)), some (.int (nI i))] [] := by
    intro k
    induction k with
    | zero =>
      intro i  hi
      refine z_iload_n (pc := 4) C 3 dX10_upTo_4 rfl rfl ?_
      refine z_aload_n (pc := 5) C 0 dX10_upTo_5 rfl rfl ?_
      refine z_getR (pc := 6) (r := 240) C dX10_upTo_6 fX10_9 sh_239 rfl ?_
      refine z_iconst (pc := 9) (v := 1) C dX10_upTo_9 rfl ?_
      refine z_iald (pc := 10) (n := 1) C dX10_upTo_10 sh_240 (zi_in.mpr (by decide)) rfl ?_
      refine z_icmp_ge (pc := 11) C 43 dX10_upTo_11 (by decide) (fun c11 => ?_) (fun c11 => absurd (zlt hn (by omega) (by omega)) c11)
      refine z_iload_n (pc := 43) C 2 dX10_upTo_43 rfl rfl ?_
      refine z_ireturn (pc := 44) C K dX10_upTo_44 ?_
      obtain rfl : i = n := by omega
      exact ⟨_, rfl, rfl, rfl⟩
    | succ k ih =>
      intro i  hi
      have hin : i < 8 := by omega
      refine z_iload_n (pc := 4) C 3 dX10_upTo_4 rfl rfl ?_
      refine z_aload_n (pc := 5) C 0 dX10_upTo_5 rfl rfl ?_
      refine z_getR (pc := 6) (r := 240) C dX10_upTo_6 fX10_9 sh_239 rfl ?_
      refine z_iconst (pc := 9) (v := 1) C dX10_upTo_9 rfl ?_
      refine z_iald (pc := 10) (n := 1) C dX10_upTo_10 sh_240 (zi_in.mpr (by decide)) rfl ?_
      refine z_icmp_ge (pc := 11) C 43 dX10_upTo_11 (by decide) (fun c11 => absurd c11 (zlf hn (by omega) (by omega))) (fun c11 => ?_)
      refine z_iload_n (pc := 14) C 2 dX10_upTo_14 rfl rfl ?_
      refine z_aload_n (pc := 15) C 0 dX10_upTo_15 rfl rfl ?_
      refine z_iload_n (pc := 16) C 3 dX10_upTo_16 rfl rfl ?_
      refine z_iconst (pc := 17) (v := 1) C dX10_upTo_17 rfl ?_
      refine z_callVi (pc := 18) C dX10_upTo_18 kX10_96 (mX10_of hin (f := 1) (by decide)) (by decide) sh_239 rfl rfl rfl (Nat.le_of_ble_eq_true rfl) (fun r18 M18 h18 => ?_)
      obtain ⟨rfl, e18⟩ := h18
      subst M18
      refine z_iload_n (pc := 21) C 1 dX10_upTo_21 rfl rfl ?_
      refine z_icmp_gt (pc := 22) C 34 dX10_upTo_22 (by decide) (fun c22 => ?_) (fun c22 => ?_)
      · refine z_iconst (pc := 34) (v := 0) C dX10_upTo_34 rfl ?_
        refine z_iadd (pc := 35) C dX10_upTo_35 ?_
        refine z_istore_n (pc := 36) C 2 dX10_upTo_36 rfl (by decide) rfl ?_
        refine z_iinc (pc := 37) (v := 1) C 3 dX10_upTo_37 (by decide) rfl rfl rfl ?_
        refine z_goto (pc := 40) C 4 dX10_upTo_40 (by decide) ?_
        have e := ih (i + 1) (by omega)
        rw [nI_succ] at e
        simp only [pUp] at e
        rw [if_pos c22] at e
        rw [Int32.add_zero]
        exact e
      · refine z_aload_n (pc := 25) C 0 dX10_upTo_25 rfl rfl ?_
        refine z_iload_n (pc := 26) C 3 dX10_upTo_26 rfl rfl ?_
        refine z_iconst (pc := 27) (v := 2) C dX10_upTo_27 rfl ?_
        refine z_callVi (pc := 28) C dX10_upTo_28 kX10_96 (mX10_of hin (f := 2) (by decide)) (by decide) sh_239 rfl rfl rfl (Nat.le_of_ble_eq_true rfl) (fun r28 M28 h28 => ?_)
        obtain ⟨rfl, e28⟩ := h28
        subst M28
        refine z_goto (pc := 31) C 35 dX10_upTo_31 (by decide) ?_
        refine z_iadd (pc := 35) C dX10_upTo_35 ?_
        refine z_istore_n (pc := 36) C 2 dX10_upTo_36 rfl (by decide) rfl ?_
        refine z_iinc (pc := 37) (v := 1) C 3 dX10_upTo_37 (by decide) rfl rfl rfl ?_
        refine z_goto (pc := 40) C 4 dX10_upTo_40 (by decide) ?_
        have e := ih (i + 1) (by omega)
        rw [nI_succ] at e
        simp only [pUp] at e
        rw [if_neg c22] at e
        exact e
  refine z_iconst (pc := 0) (v := 0) C dX10_upTo_0 rfl ?_
  refine z_istore_n (pc := 1) C 2 dX10_upTo_1 rfl (by decide) rfl ?_
  refine z_iconst (pc := 2) (v := 0) C dX10_upTo_2 rfl ?_
  refine z_istore_n (pc := 3) C 3 dX10_upTo_3 rfl (by decide) rfl ?_
  exact loop n 0 (by omega)

def mMd (p : Nat → Nat → Int32) (n : Nat) (place : Int32) : Nat → Int32
  | 0 => -1
  | k + 1 => if (mMd p n place k < 0 ∨ p k 1 < mMd p n place k) ∧ place < pUp p (p k 1) n then p k 1 else mMd p n place k
set_option maxHeartbeats 4000000 in
set_option maxRecDepth 100000 in
theorem mX10_middle {l : Launch} {G : zG} {b : Nat} {M : zM} {n : Nat} (hn : M 31 0 0 1 = nI n) (hn8 : n ≤ 8) : zMet l G b yX10_middle cX10_middle 5 (some .int) 2 zshL zshL [.ref (b + 239)] M (zI (fun r M' => r = mMd (mp M) n (pWs (mp M) n / 2) n ∧ M' = M)) := by
  refine zMet.of (L0 := [some (.ref (b + 239)), none, none, none, none]) (by decide +kernel) (Nat.le_refl _) (Nat.le_refl _) (Nat.le_of_ble_eq_true rfl) (List.forall_mem_cons.mpr ⟨rfl, fun _ h => absurd h List.not_mem_nil⟩) rfl (fun X C Al K => ?_)
  have loop : ∀ (k i : Nat) (q : Option Value), i + k = n → zW X zshL M 11 [some (.ref (b + 239)), some (.int (pWs (mp M) n / 2)), some (.int (mMd (mp M) n (pWs (mp M) n / 2) i)), some (.int (nI i)), q] [] := by
    intro k
    induction k with
    | zero =>
      intro i q hi
      refine z_iload_n (pc := 11) C 3 dX10_middle_11 rfl rfl ?_
      refine z_aload_n (pc := 12) C 0 dX10_middle_12 rfl rfl ?_
      refine z_getR (pc := 13) (r := 240) C dX10_middle_13 fX10_9 sh_239 rfl ?_
      refine z_iconst (pc := 16) (v := 1) C dX10_middle_16 rfl ?_
      refine z_iald (pc := 17) (n := 1) C dX10_middle_17 sh_240 (zi_in.mpr (by decide)) rfl ?_
      refine z_icmp_ge (pc := 18) C 62 dX10_middle_18 (by decide) (fun c18 => ?_) (fun c18 => absurd (zlt hn (by omega) (by omega)) c18)
      refine z_iload_n (pc := 62) C 2 dX10_middle_62 rfl rfl ?_
      refine z_ireturn (pc := 63) C K dX10_middle_63 ?_
      obtain rfl : i = n := by omega
      exact ⟨_, rfl, rfl, rfl⟩
    | succ k ih =>
      intro i q hi
      have hin : i < 8 := by omega
      refine z_iload_n (pc := 11) C 3 dX10_middle_11 rfl rfl ?_
      refine z_aload_n (pc := 12) C 0 dX10_middle_12 rfl rfl ?_
      refine z_getR (pc := 13) (r := 240) C dX10_middle_13 fX10_9 sh_239 rfl ?_
      refine z_iconst (pc := 16) (v := 1) C dX10_middle_16 rfl ?_
      refine z_iald (pc := 17) (n := 1) C dX10_middle_17 sh_240 (zi_in.mpr (by decide)) rfl ?_
      refine z_icmp_ge (pc := 18) C 62 dX10_middle_18 (by decide) (fun c18 => absurd c18 (zlf hn (by omega) (by omega))) (fun c18 => ?_)
      refine z_aload_n (pc := 21) C 0 dX10_middle_21 rfl rfl ?_
      refine z_iload_n (pc := 22) C 3 dX10_middle_22 rfl rfl ?_
      refine z_iconst (pc := 23) (v := 1) C dX10_middle_23 rfl ?_
      refine z_callVi (pc := 24) C dX10_middle_24 kX10_96 (mX10_of hin (f := 1) (by decide)) (by decide) sh_239 rfl rfl rfl (Nat.le_of_ble_eq_true rfl) (fun r24 M24 h24 => ?_)
      obtain ⟨rfl, e24⟩ := h24
      subst M24
      refine z_istore (pc := 27) C 4 dX10_middle_27 (by decide) rfl ?_
      refine z_iload_n (pc := 29) C 2 dX10_middle_29 rfl rfl ?_
      refine z_if_lt (pc := 30) C 39 dX10_middle_30 (by decide) (fun c30 => ?_) (fun c30 => ?_)
      · refine z_aload_n (pc := 39) C 0 dX10_middle_39 rfl rfl ?_
        refine z_iload (pc := 40) C 4 dX10_middle_40 rfl ?_
        refine z_callVi (pc := 42) C dX10_middle_42 kX10_143 (mX10_upTo hn hn8) (by decide) sh_239 rfl rfl rfl (Nat.le_of_ble_eq_true rfl) (fun r42 M42 h42 => ?_)
        obtain ⟨rfl, e42⟩ := h42
        subst M42
        refine z_iload_n (pc := 45) C 1 dX10_middle_45 rfl rfl ?_
        refine z_icmp_le (pc := 46) C 54 dX10_middle_46 (by decide) (fun c46 => ?_) (fun c46 => ?_)
        · refine z_iload_n (pc := 54) C 2 dX10_middle_54 rfl rfl ?_
          refine z_istore_n (pc := 55) C 2 dX10_middle_55 rfl (by decide) rfl ?_
          refine z_iinc (pc := 56) (v := 1) C 3 dX10_middle_56 (by decide) rfl rfl rfl ?_
          refine z_goto (pc := 59) C 11 dX10_middle_59 (by decide) ?_
          have e := ih (i + 1) (some (.int (mp M i 1))) (by omega)
          rw [nI_succ] at e
          simp only [mMd] at e
          rw [if_neg (fun z => absurd z.2 (Int32.not_lt.mpr c46))] at e
          exact e
        · refine z_iload (pc := 49) C 4 dX10_middle_49 rfl ?_
          refine z_goto (pc := 51) C 55 dX10_middle_51 (by decide) ?_
          refine z_istore_n (pc := 55) C 2 dX10_middle_55 rfl (by decide) rfl ?_
          refine z_iinc (pc := 56) (v := 1) C 3 dX10_middle_56 (by decide) rfl rfl rfl ?_
          refine z_goto (pc := 59) C 11 dX10_middle_59 (by decide) ?_
          have e := ih (i + 1) (some (.int (mp M i 1))) (by omega)
          rw [nI_succ] at e
          simp only [mMd] at e
          rw [if_pos ⟨Or.inl c30, Int32.not_le.mp c46⟩] at e
          exact e
      · refine z_iload (pc := 33) C 4 dX10_middle_33 rfl ?_
        refine z_iload_n (pc := 35) C 2 dX10_middle_35 rfl rfl ?_
        refine z_icmp_ge (pc := 36) C 54 dX10_middle_36 (by decide) (fun c36 => ?_) (fun c36 => ?_)
        · refine z_iload_n (pc := 54) C 2 dX10_middle_54 rfl rfl ?_
          refine z_istore_n (pc := 55) C 2 dX10_middle_55 rfl (by decide) rfl ?_
          refine z_iinc (pc := 56) (v := 1) C 3 dX10_middle_56 (by decide) rfl rfl rfl ?_
          refine z_goto (pc := 59) C 11 dX10_middle_59 (by decide) ?_
          have e := ih (i + 1) (some (.int (mp M i 1))) (by omega)
          rw [nI_succ] at e
          simp only [mMd] at e
          rw [if_neg (fun z => z.1.elim (fun q => c30 q) (fun q => absurd q (Int32.not_lt.mpr c36)))] at e
          exact e
        · refine z_aload_n (pc := 39) C 0 dX10_middle_39 rfl rfl ?_
          refine z_iload (pc := 40) C 4 dX10_middle_40 rfl ?_
          refine z_callVi (pc := 42) C dX10_middle_42 kX10_143 (mX10_upTo hn hn8) (by decide) sh_239 rfl rfl rfl (Nat.le_of_ble_eq_true rfl) (fun r42 M42 h42 => ?_)
          obtain ⟨rfl, e42⟩ := h42
          subst M42
          refine z_iload_n (pc := 45) C 1 dX10_middle_45 rfl rfl ?_
          refine z_icmp_le (pc := 46) C 54 dX10_middle_46 (by decide) (fun c46 => ?_) (fun c46 => ?_)
          · refine z_iload_n (pc := 54) C 2 dX10_middle_54 rfl rfl ?_
            refine z_istore_n (pc := 55) C 2 dX10_middle_55 rfl (by decide) rfl ?_
            refine z_iinc (pc := 56) (v := 1) C 3 dX10_middle_56 (by decide) rfl rfl rfl ?_
            refine z_goto (pc := 59) C 11 dX10_middle_59 (by decide) ?_
            have e := ih (i + 1) (some (.int (mp M i 1))) (by omega)
            rw [nI_succ] at e
            simp only [mMd] at e
            rw [if_neg (fun z => absurd z.2 (Int32.not_lt.mpr c46))] at e
            exact e
          · refine z_iload (pc := 49) C 4 dX10_middle_49 rfl ?_
            refine z_goto (pc := 51) C 55 dX10_middle_51 (by decide) ?_
            refine z_istore_n (pc := 55) C 2 dX10_middle_55 rfl (by decide) rfl ?_
            refine z_iinc (pc := 56) (v := 1) C 3 dX10_middle_56 (by decide) rfl rfl rfl ?_
            refine z_goto (pc := 59) C 11 dX10_middle_59 (by decide) ?_
            have e := ih (i + 1) (some (.int (mp M i 1))) (by omega)
            rw [nI_succ] at e
            simp only [mMd] at e
            rw [if_pos ⟨Or.inr (Int32.not_le.mp c36), Int32.not_le.mp c46⟩] at e
            exact e
  refine z_aload_n (pc := 0) C 0 dX10_middle_0 rfl rfl ?_
  refine z_callVi (pc := 1) C dX10_middle_1 kX10_140 (mX10_weights hn hn8) (by decide) sh_239 rfl rfl rfl (Nat.le_of_ble_eq_true rfl) (fun r1 M1 h1 => ?_)
  obtain ⟨rfl, e1⟩ := h1
  subst M1
  refine z_iconst (pc := 4) (v := 2) C dX10_middle_4 rfl ?_
  refine z_idiv (pc := 5) C dX10_middle_5 (by decide) ?_
  refine z_istore_n (pc := 6) C 1 dX10_middle_6 rfl (by decide) rfl ?_
  refine z_iconst (pc := 7) (v := -1) C dX10_middle_7 rfl ?_
  refine z_istore_n (pc := 8) C 2 dX10_middle_8 rfl (by decide) rfl ?_
  refine z_iconst (pc := 9) (v := 0) C dX10_middle_9 rfl ?_
  refine z_istore_n (pc := 10) C 3 dX10_middle_10 rfl (by decide) rfl ?_
  exact loop n 0 _ (by omega)

set_option maxHeartbeats 4000000 in
set_option maxRecDepth 100000 in
theorem mX10_greatest {l : Launch} {G : zG} {b : Nat} {M : zM} {n : Nat} (hn : M 31 0 0 1 = nI n) (hn8 : n ≤ 8) : zMet l G b yX10_greatest cX10_greatest 3 (some .int) 1 zshL zshL [.ref (b + 239)] M (zI (fun r M' => r = pGr (mp M) n ∧ M' = M)) := by
  refine zMet.of (L0 := [some (.ref (b + 239)), none, none]) (by decide +kernel) (Nat.le_refl _) (Nat.le_refl _) (Nat.le_of_ble_eq_true rfl) (List.forall_mem_cons.mpr ⟨rfl, fun _ h => absurd h List.not_mem_nil⟩) rfl (fun X C Al K => ?_)
  have loop : ∀ (k i : Nat), i + k = n → zW X zshL M 4 [some (.ref (b + 239)), some (.int (pGr (mp M) i)), some (.int (nI i))] [] := by
    intro k
    induction k with
    | zero =>
      intro i  hi
      refine z_iload_n (pc := 4) C 2 dX10_greatest_4 rfl rfl ?_
      refine z_aload_n (pc := 5) C 0 dX10_greatest_5 rfl rfl ?_
      refine z_getR (pc := 6) (r := 240) C dX10_greatest_6 fX10_9 sh_239 rfl ?_
      refine z_iconst (pc := 9) (v := 1) C dX10_greatest_9 rfl ?_
      refine z_iald (pc := 10) (n := 1) C dX10_greatest_10 sh_240 (zi_in.mpr (by decide)) rfl ?_
      refine z_icmp_ge (pc := 11) C 41 dX10_greatest_11 (by decide) (fun c11 => ?_) (fun c11 => absurd (zlt hn (by omega) (by omega)) c11)
      refine z_iload_n (pc := 41) C 1 dX10_greatest_41 rfl rfl ?_
      refine z_ireturn (pc := 42) C K dX10_greatest_42 ?_
      obtain rfl : i = n := by omega
      exact ⟨_, rfl, rfl, rfl⟩
    | succ k ih =>
      intro i  hi
      have hin : i < 8 := by omega
      refine z_iload_n (pc := 4) C 2 dX10_greatest_4 rfl rfl ?_
      refine z_aload_n (pc := 5) C 0 dX10_greatest_5 rfl rfl ?_
      refine z_getR (pc := 6) (r := 240) C dX10_greatest_6 fX10_9 sh_239 rfl ?_
      refine z_iconst (pc := 9) (v := 1) C dX10_greatest_9 rfl ?_
      refine z_iald (pc := 10) (n := 1) C dX10_greatest_10 sh_240 (zi_in.mpr (by decide)) rfl ?_
      refine z_icmp_ge (pc := 11) C 41 dX10_greatest_11 (by decide) (fun c11 => absurd c11 (zlf hn (by omega) (by omega))) (fun c11 => ?_)
      refine z_aload_n (pc := 14) C 0 dX10_greatest_14 rfl rfl ?_
      refine z_iload_n (pc := 15) C 2 dX10_greatest_15 rfl rfl ?_
      refine z_iconst (pc := 16) (v := 1) C dX10_greatest_16 rfl ?_
      refine z_callVi (pc := 17) C dX10_greatest_17 kX10_96 (mX10_of hin (f := 1) (by decide)) (by decide) sh_239 rfl rfl rfl (Nat.le_of_ble_eq_true rfl) (fun r17 M17 h17 => ?_)
      obtain ⟨rfl, e17⟩ := h17
      subst M17
      refine z_iload_n (pc := 20) C 1 dX10_greatest_20 rfl rfl ?_
      refine z_icmp_le (pc := 21) C 33 dX10_greatest_21 (by decide) (fun c21 => ?_) (fun c21 => ?_)
      · refine z_iload_n (pc := 33) C 1 dX10_greatest_33 rfl rfl ?_
        refine z_istore_n (pc := 34) C 1 dX10_greatest_34 rfl (by decide) rfl ?_
        refine z_iinc (pc := 35) (v := 1) C 2 dX10_greatest_35 (by decide) rfl rfl rfl ?_
        refine z_goto (pc := 38) C 4 dX10_greatest_38 (by decide) ?_
        have e := ih (i + 1) (by omega)
        rw [nI_succ] at e
        simp only [pGr] at e
        rw [if_neg (Int32.not_lt.mpr c21)] at e
        exact e
      · refine z_aload_n (pc := 24) C 0 dX10_greatest_24 rfl rfl ?_
        refine z_iload_n (pc := 25) C 2 dX10_greatest_25 rfl rfl ?_
        refine z_iconst (pc := 26) (v := 1) C dX10_greatest_26 rfl ?_
        refine z_callVi (pc := 27) C dX10_greatest_27 kX10_96 (mX10_of hin (f := 1) (by decide)) (by decide) sh_239 rfl rfl rfl (Nat.le_of_ble_eq_true rfl) (fun r27 M27 h27 => ?_)
        obtain ⟨rfl, e27⟩ := h27
        subst M27
        refine z_goto (pc := 30) C 34 dX10_greatest_30 (by decide) ?_
        refine z_istore_n (pc := 34) C 1 dX10_greatest_34 rfl (by decide) rfl ?_
        refine z_iinc (pc := 35) (v := 1) C 2 dX10_greatest_35 (by decide) rfl rfl rfl ?_
        refine z_goto (pc := 38) C 4 dX10_greatest_38 (by decide) ?_
        have e := ih (i + 1) (by omega)
        rw [nI_succ] at e
        simp only [pGr] at e
        rw [if_pos (Int32.not_le.mp c21)] at e
        exact e
  refine z_iconst (pc := 0) (v := 0) C dX10_greatest_0 rfl ?_
  refine z_istore_n (pc := 1) C 1 dX10_greatest_1 rfl (by decide) rfl ?_
  refine z_iconst (pc := 2) (v := 0) C dX10_greatest_2 rfl ?_
  refine z_istore_n (pc := 3) C 2 dX10_greatest_3 rfl (by decide) rfl ?_
  exact loop n 0 (by omega)
