/-! JDK: compare, floorMod; people; the world, read -/
def zcmp (x y : Int32) : Int32 := if x < y then -1 else if x = y then 0 else 1
set_option maxHeartbeats 4000000 in
set_option maxRecDepth 100000 in
theorem mJ6_compare_7cf53 {l : Launch} {G : zG} {b : Nat} {M : zM} {x y : Int32} : zMet l G b yJ6_compare_7cf53 cJ6_compare_7cf53 2 (some .int) 0 zshL zshL [.int x, .int y] M (zI (fun r M' => r = zcmp x y ∧ M' = M)) := by
  refine zMet.of (L0 := [some (.int x), some (.int y)]) (by decide +kernel) (Nat.le_refl _) (Nat.le_refl _) (Nat.le_of_ble_eq_true rfl) (List.forall_mem_cons.mpr ⟨rfl, List.forall_mem_cons.mpr ⟨rfl, fun _ h => absurd h List.not_mem_nil⟩⟩) rfl (fun X C Al K => ?_)
  refine z_iload_n (pc := 0) C 0 dJ6_compare_7cf53_0 rfl rfl ?_
  refine z_iload_n (pc := 1) C 1 dJ6_compare_7cf53_1 rfl rfl ?_
  refine z_icmp_ge (pc := 2) C 9 dJ6_compare_7cf53_2 (by decide) (fun c2 => ?_) (fun c2 => ?_)
  · refine z_iload_n (pc := 9) C 0 dJ6_compare_7cf53_9 rfl rfl ?_
    refine z_iload_n (pc := 10) C 1 dJ6_compare_7cf53_10 rfl rfl ?_
    refine z_icmp_ne (pc := 11) C 18 dJ6_compare_7cf53_11 (by decide) (fun c11 => ?_) (fun c11 => ?_)
    · refine z_iconst (pc := 18) (v := 1) C dJ6_compare_7cf53_18 rfl ?_
      refine z_ireturn (pc := 19) C K dJ6_compare_7cf53_19 ?_
      refine ⟨_, rfl, ?_, rfl⟩
      simp_all [zcmp]
    · refine z_iconst (pc := 14) (v := 0) C dJ6_compare_7cf53_14 rfl ?_
      refine z_goto (pc := 15) C 19 dJ6_compare_7cf53_15 (by decide) ?_
      refine z_ireturn (pc := 19) C K dJ6_compare_7cf53_19 ?_
      refine ⟨_, rfl, ?_, rfl⟩
      simp_all [zcmp]
  · refine z_iconst (pc := 5) (v := -1) C dJ6_compare_7cf53_5 rfl ?_
    refine z_goto (pc := 6) C 19 dJ6_compare_7cf53_6 (by decide) ?_
    refine z_ireturn (pc := 19) C K dJ6_compare_7cf53_19 ?_
    refine ⟨_, rfl, ?_, rfl⟩
    simp_all [zcmp]

set_option maxHeartbeats 4000000 in
set_option maxRecDepth 100000 in
theorem mJ9_floorMod_7cf53 {l : Launch} {G : zG} {b : Nat} {M : zM} {x : Int32} : zMet l G b yJ9_floorMod_7cf53 cJ9_floorMod_7cf53 3 (some .int) 0 zshL zshL [.int x, .int 100] M (zI (fun r M' => r = pFm x ∧ M' = M)) := by
  refine zMet.ofF (L0 := [some (.int x), some (.int 100), none]) (by decide +kernel) (Nat.le_refl _) (Nat.le_refl _) (Nat.le_of_ble_eq_true rfl) (List.forall_mem_cons.mpr ⟨rfl, List.forall_mem_cons.mpr ⟨rfl, fun _ h => absurd h List.not_mem_nil⟩⟩) rfl (fun X C Al K => ?_)
  refine z_iload_n (pc := 0) C 0 dJ9_floorMod_7cf53_0 rfl rfl ?_
  refine z_iload_n (pc := 1) C 1 dJ9_floorMod_7cf53_1 rfl rfl ?_
  refine z_irem (pc := 2) C dJ9_floorMod_7cf53_2 (by decide) ?_
  refine z_istore_n (pc := 3) C 2 dJ9_floorMod_7cf53_3 rfl (by decide) rfl ?_
  refine z_iload_n (pc := 4) C 0 dJ9_floorMod_7cf53_4 rfl rfl ?_
  refine z_iload_n (pc := 5) C 1 dJ9_floorMod_7cf53_5 rfl rfl ?_
  refine z_ixor (pc := 6) C dJ9_floorMod_7cf53_6 ?_
  refine z_if_ge (pc := 7) C 18 dJ9_floorMod_7cf53_7 (by decide) (fun c7 => ?_) (fun c7 => ?_)
  · refine z_iload_n (pc := 18) C 2 dJ9_floorMod_7cf53_18 rfl rfl ?_
    refine z_ireturn (pc := 19) C K dJ9_floorMod_7cf53_19 ?_
    refine ⟨_, rfl, (if_neg (fun q => ?_)).symm, rfl⟩
    first | exact (znn _).mp c7 ((zx100 x).mpr q.1) | exact q.2 c11
  · refine z_iload_n (pc := 10) C 2 dJ9_floorMod_7cf53_10 rfl rfl ?_
    refine z_if_eq (pc := 11) C 18 dJ9_floorMod_7cf53_11 (by decide) (fun c11 => ?_) (fun c11 => ?_)
    · refine z_iload_n (pc := 18) C 2 dJ9_floorMod_7cf53_18 rfl rfl ?_
      refine z_ireturn (pc := 19) C K dJ9_floorMod_7cf53_19 ?_
      refine ⟨_, rfl, (if_neg (fun q => ?_)).symm, rfl⟩
      first | exact (znn _).mp c7 ((zx100 x).mpr q.1) | exact q.2 c11
    · refine z_iload_n (pc := 14) C 2 dJ9_floorMod_7cf53_14 rfl rfl ?_
      refine z_iload_n (pc := 15) C 1 dJ9_floorMod_7cf53_15 rfl rfl ?_
      refine z_iadd (pc := 16) C dJ9_floorMod_7cf53_16 ?_
      refine z_ireturn (pc := 17) C K dJ9_floorMod_7cf53_17 ?_
      exact ⟨_, rfl, (if_pos ⟨(zx100 x).mp (Int32.not_le.mp c7), c11⟩).symm, rfl⟩

def pCopy (M : zM) (w i w' i' : Nat) : zM := fun a x y f => if a = 1 ∧ x = w ∧ y = i ∧ f < 7 then M 1 w' i' f else M a x y f
set_option maxHeartbeats 4000000 in
set_option maxRecDepth 100000 in
theorem mX0_become {l : Launch} {G : zG} {b : Nat} {M : zM} {w i w' i' : Nat} (hp : okP w i) (hq : okP w' i') (hb : M 1 w' i' 6 = 0 ∨ M 1 w' i' 6 = 1) : zMet l G b yX0_become cX0_become 2 none 0 zshL zshL [.ref (b + adP w i), .ref (b + adP w' i')] M (zV (fun M' => M' = pCopy M w i w' i')) := by
  refine zMet.of (L0 := [some (.ref (b + adP w i)), some (.ref (b + adP w' i'))]) (by decide +kernel) (Nat.le_refl _) (Nat.le_refl _) (Nat.le_of_ble_eq_true rfl) (List.forall_mem_cons.mpr ⟨rfl, List.forall_mem_cons.mpr ⟨rfl, fun _ h => absurd h List.not_mem_nil⟩⟩) rfl (fun X C Al K => ?_)
  refine z_aload_n (pc := 0) C 0 dX0_become_0 rfl rfl ?_
  refine z_aload_n (pc := 1) C 1 dX0_become_1 rfl rfl ?_
  refine z_getI (pc := 2) C dX0_become_2 fX0_25 (shP hq) rfl ?_
  refine z_putII (pc := 5) C dX0_become_5 fX0_25 (shP hp) rfl ?_
  refine z_aload_n (pc := 8) C 0 dX0_become_8 rfl rfl ?_
  refine z_aload_n (pc := 9) C 1 dX0_become_9 rfl rfl ?_
  refine z_getI (pc := 10) C dX0_become_10 fX0_11 (shP hq) rfl ?_
  refine z_putII (pc := 13) C dX0_become_13 fX0_11 (shP hp) rfl ?_
  refine z_aload_n (pc := 16) C 0 dX0_become_16 rfl rfl ?_
  refine z_aload_n (pc := 17) C 1 dX0_become_17 rfl rfl ?_
  refine z_getI (pc := 18) C dX0_become_18 fX0_15 (shP hq) rfl ?_
  refine z_putII (pc := 21) C dX0_become_21 fX0_15 (shP hp) rfl ?_
  refine z_aload_n (pc := 24) C 0 dX0_become_24 rfl rfl ?_
  refine z_aload_n (pc := 25) C 1 dX0_become_25 rfl rfl ?_
  refine z_getI (pc := 26) C dX0_become_26 fX0_18 (shP hq) rfl ?_
  refine z_putII (pc := 29) C dX0_become_29 fX0_18 (shP hp) rfl ?_
  refine z_aload_n (pc := 32) C 0 dX0_become_32 rfl rfl ?_
  refine z_aload_n (pc := 33) C 1 dX0_become_33 rfl rfl ?_
  refine z_getI (pc := 34) C dX0_become_34 fX0_28 (shP hq) rfl ?_
  refine z_putII (pc := 37) C dX0_become_37 fX0_28 (shP hp) rfl ?_
  refine z_aload_n (pc := 40) C 0 dX0_become_40 rfl rfl ?_
  refine z_aload_n (pc := 41) C 1 dX0_become_41 rfl rfl ?_
  refine z_getI (pc := 42) C dX0_become_42 fX0_31 (shP hq) rfl ?_
  refine z_putII (pc := 45) C dX0_become_45 fX0_31 (shP hp) rfl ?_
  refine z_aload_n (pc := 48) C 0 dX0_become_48 rfl rfl ?_
  refine z_aload_n (pc := 49) C 1 dX0_become_49 rfl rfl ?_
  refine z_getI (pc := 50) C dX0_become_50 fX0_21 (shP hq) rfl ?_
  refine z_putZ (pc := 53) C dX0_become_53 fX0_21 (shP hp) rfl (by simp [zu]; exact hb) ?_
  refine z_return (pc := 56) C K dX0_become_56 ?_
  refine ⟨rfl, ?_⟩
  funext a x y f
  by_cases e : a = 1 ∧ x = w ∧ y = i
  · obtain ⟨rfl, rfl, rfl⟩ := e
    rcases (show f = 0 ∨ f = 1 ∨ f = 2 ∨ f = 3 ∨ f = 4 ∨ f = 5 ∨ f = 6 ∨ 7 ≤ f by omega) with rfl | rfl | rfl | rfl | rfl | rfl | rfl | hf
    · simp [pCopy, zu]
    · simp [pCopy, zu]
    · simp [pCopy, zu]
    · simp [pCopy, zu]
    · simp [pCopy, zu]
    · simp [pCopy, zu]
    · simp [pCopy, zu]
    · rw [zu_f (by omega), zu_f (by omega), zu_f (by omega), zu_f (by omega), zu_f (by omega), zu_f (by omega), zu_f (by omega)]
      exact (if_neg (fun q => absurd q.2.2.2 (by omega))).symm
  · simp only [zu_o e]
    exact (if_neg (fun q => e ⟨q.1, q.2.1, q.2.2.1⟩)).symm
