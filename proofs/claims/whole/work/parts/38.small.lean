/-! small methods of both -/
def iin (x : Int32) (a c : Int) : Prop := a ≤ x.toInt ∧ x.toInt ≤ c
theorem zin_i {x a c : Int32} : zin x a c ↔ iin x a.toInt c.toInt := by
  unfold zin iin
  rw [zi_le, zi_le]
/-- an answer that is a truth -/
def zb (r : Int32) (P : Prop) : Prop := (r = 1 ∧ P) ∨ (r = 0 ∧ ¬ P)
theorem zb.bool {r : Int32} {P : Prop} (h : zb r P) : r = 0 ∨ r = 1 := h.elim (fun q => Or.inr q.1) (fun q => Or.inl q.1)
theorem zb.yes {r : Int32} {P : Prop} (h : zb r P) (g : ¬ r = 0) : P := h.elim (fun q => q.2) (fun q => absurd q.1 g)
theorem zb.no {r : Int32} {P : Prop} (h : zb r P) (g : r = 0) : ¬ P := h.elim (fun q => absurd (q.1.symm.trans g) (by decide)) (fun q => q.2)
theorem i0 : (0 : Int32).toInt = 0 := by decide
theorem i1 : (1 : Int32).toInt = 1 := by decide
theorem i2 : (2 : Int32).toInt = 2 := by decide
theorem i3 : (3 : Int32).toInt = 3 := by decide
theorem i4 : (4 : Int32).toInt = 4 := by decide
theorem i5 : (5 : Int32).toInt = 5 := by decide
theorem i6 : (6 : Int32).toInt = 6 := by decide
theorem i9 : (9 : Int32).toInt = 9 := by decide
theorem i20 : (20 : Int32).toInt = 20 := by decide
theorem i99 : (99 : Int32).toInt = 99 := by decide
theorem i100 : (100 : Int32).toInt = 100 := by decide
theorem im5 : (-5 : Int32).toInt = -5 := by decide
theorem im20 : (-20 : Int32).toInt = -20 := by decide
theorem im1 : (-1 : Int32).toInt = -1 := by decide
set_option maxHeartbeats 4000000 in
set_option maxRecDepth 100000 in
theorem mX9_isKind {l : Launch} {G : zG} {b : Nat} {M : zM} {x : Int32} : zMet l G b yX9_isKind cX9_isKind 1 (some .boolean) 0 zshL zshL [.int x] M (zI (fun r M' => zb r (iin x 0 5) ∧ M' = M)) := by
  refine zMet.of (L0 := [some (.int x)]) (by decide +kernel) (Nat.le_refl _) (Nat.le_refl _) (Nat.le_of_ble_eq_true rfl) (List.forall_mem_cons.mpr ⟨rfl, fun _ h => absurd h List.not_mem_nil⟩) rfl (fun X C Al K => ?_)
  refine z_iload_n (pc := 0) C 0 dX9_isKind_0 rfl rfl ?_
  refine z_if_lt (pc := 1) C 14 dX9_isKind_1 (by decide) (fun c1 => ?_) (fun c1 => ?_)
  · refine z_iconst (pc := 14) (v := 0) C dX9_isKind_14 rfl ?_
    refine z_zreturn (pc := 15) C K dX9_isKind_15 (Or.inl rfl) ?_
    refine ⟨_, rfl, Or.inr ⟨rfl, ?_⟩, rfl⟩
    simp only [zi_lt, zi_le, zi_eq, i0, i1, i2, i3, i4, i5, i6, i9, i20, i99, i100, im5, im20, im1] at c1
    unfold iin
    omega
  · refine z_iload_n (pc := 4) C 0 dX9_isKind_4 rfl rfl ?_
    refine z_bipush (pc := 5) (v := 6) C dX9_isKind_5 rfl ?_
    refine z_icmp_ge (pc := 7) C 14 dX9_isKind_7 (by decide) (fun c7 => ?_) (fun c7 => ?_)
    · refine z_iconst (pc := 14) (v := 0) C dX9_isKind_14 rfl ?_
      refine z_zreturn (pc := 15) C K dX9_isKind_15 (Or.inl rfl) ?_
      refine ⟨_, rfl, Or.inr ⟨rfl, ?_⟩, rfl⟩
      simp only [zi_lt, zi_le, zi_eq, i0, i1, i2, i3, i4, i5, i6, i9, i20, i99, i100, im5, im20, im1] at c1 c7
      unfold iin
      omega
    · refine z_iconst (pc := 10) (v := 1) C dX9_isKind_10 rfl ?_
      refine z_goto (pc := 11) C 15 dX9_isKind_11 (by decide) ?_
      refine z_zreturn (pc := 15) C K dX9_isKind_15 (Or.inr rfl) ?_
      refine ⟨_, rfl, Or.inl ⟨rfl, ?_⟩, rfl⟩
      simp only [zi_lt, zi_le, zi_eq, i0, i1, i2, i3, i4, i5, i6, i9, i20, i99, i100, im5, im20, im1] at c1 c7
      unfold iin
      omega

set_option maxHeartbeats 4000000 in
set_option maxRecDepth 100000 in
theorem mX9_isSheet {l : Launch} {G : zG} {b : Nat} {M : zM} {x : Int32} : zMet l G b yX9_isSheet cX9_isSheet 1 (some .boolean) 0 zshL zshL [.int x] M (zI (fun r M' => zb r (iin x 0 3) ∧ M' = M)) := by
  refine zMet.of (L0 := [some (.int x)]) (by decide +kernel) (Nat.le_refl _) (Nat.le_refl _) (Nat.le_of_ble_eq_true rfl) (List.forall_mem_cons.mpr ⟨rfl, fun _ h => absurd h List.not_mem_nil⟩) rfl (fun X C Al K => ?_)
  refine z_iload_n (pc := 0) C 0 dX9_isSheet_0 rfl rfl ?_
  refine z_if_lt (pc := 1) C 13 dX9_isSheet_1 (by decide) (fun c1 => ?_) (fun c1 => ?_)
  · refine z_iconst (pc := 13) (v := 0) C dX9_isSheet_13 rfl ?_
    refine z_zreturn (pc := 14) C K dX9_isSheet_14 (Or.inl rfl) ?_
    refine ⟨_, rfl, Or.inr ⟨rfl, ?_⟩, rfl⟩
    simp only [zi_lt, zi_le, zi_eq, i0, i1, i2, i3, i4, i5, i6, i9, i20, i99, i100, im5, im20, im1] at c1
    unfold iin
    omega
  · refine z_iload_n (pc := 4) C 0 dX9_isSheet_4 rfl rfl ?_
    refine z_iconst (pc := 5) (v := 4) C dX9_isSheet_5 rfl ?_
    refine z_icmp_ge (pc := 6) C 13 dX9_isSheet_6 (by decide) (fun c6 => ?_) (fun c6 => ?_)
    · refine z_iconst (pc := 13) (v := 0) C dX9_isSheet_13 rfl ?_
      refine z_zreturn (pc := 14) C K dX9_isSheet_14 (Or.inl rfl) ?_
      refine ⟨_, rfl, Or.inr ⟨rfl, ?_⟩, rfl⟩
      simp only [zi_lt, zi_le, zi_eq, i0, i1, i2, i3, i4, i5, i6, i9, i20, i99, i100, im5, im20, im1] at c1 c6
      unfold iin
      omega
    · refine z_iconst (pc := 9) (v := 1) C dX9_isSheet_9 rfl ?_
      refine z_goto (pc := 10) C 14 dX9_isSheet_10 (by decide) ?_
      refine z_zreturn (pc := 14) C K dX9_isSheet_14 (Or.inr rfl) ?_
      refine ⟨_, rfl, Or.inl ⟨rfl, ?_⟩, rfl⟩
      simp only [zi_lt, zi_le, zi_eq, i0, i1, i2, i3, i4, i5, i6, i9, i20, i99, i100, im5, im20, im1] at c1 c6
      unfold iin
      omega

set_option maxHeartbeats 4000000 in
set_option maxRecDepth 100000 in
theorem mX9_isSlot {l : Launch} {G : zG} {b : Nat} {M : zM} {x : Int32} : zMet l G b yX9_isSlot cX9_isSlot 1 (some .boolean) 0 zshL zshL [.int x] M (zI (fun r M' => zb r (iin x 0 4) ∧ M' = M)) := by
  refine zMet.of (L0 := [some (.int x)]) (by decide +kernel) (Nat.le_refl _) (Nat.le_refl _) (Nat.le_of_ble_eq_true rfl) (List.forall_mem_cons.mpr ⟨rfl, fun _ h => absurd h List.not_mem_nil⟩) rfl (fun X C Al K => ?_)
  refine z_iload_n (pc := 0) C 0 dX9_isSlot_0 rfl rfl ?_
  refine z_if_lt (pc := 1) C 13 dX9_isSlot_1 (by decide) (fun c1 => ?_) (fun c1 => ?_)
  · refine z_iconst (pc := 13) (v := 0) C dX9_isSlot_13 rfl ?_
    refine z_zreturn (pc := 14) C K dX9_isSlot_14 (Or.inl rfl) ?_
    refine ⟨_, rfl, Or.inr ⟨rfl, ?_⟩, rfl⟩
    simp only [zi_lt, zi_le, zi_eq, i0, i1, i2, i3, i4, i5, i6, i9, i20, i99, i100, im5, im20, im1] at c1
    unfold iin
    omega
  · refine z_iload_n (pc := 4) C 0 dX9_isSlot_4 rfl rfl ?_
    refine z_iconst (pc := 5) (v := 5) C dX9_isSlot_5 rfl ?_
    refine z_icmp_ge (pc := 6) C 13 dX9_isSlot_6 (by decide) (fun c6 => ?_) (fun c6 => ?_)
    · refine z_iconst (pc := 13) (v := 0) C dX9_isSlot_13 rfl ?_
      refine z_zreturn (pc := 14) C K dX9_isSlot_14 (Or.inl rfl) ?_
      refine ⟨_, rfl, Or.inr ⟨rfl, ?_⟩, rfl⟩
      simp only [zi_lt, zi_le, zi_eq, i0, i1, i2, i3, i4, i5, i6, i9, i20, i99, i100, im5, im20, im1] at c1 c6
      unfold iin
      omega
    · refine z_iconst (pc := 9) (v := 1) C dX9_isSlot_9 rfl ?_
      refine z_goto (pc := 10) C 14 dX9_isSlot_10 (by decide) ?_
      refine z_zreturn (pc := 14) C K dX9_isSlot_14 (Or.inr rfl) ?_
      refine ⟨_, rfl, Or.inl ⟨rfl, ?_⟩, rfl⟩
      simp only [zi_lt, zi_le, zi_eq, i0, i1, i2, i3, i4, i5, i6, i9, i20, i99, i100, im5, im20, im1] at c1 c6
      unfold iin
      omega


def pMay (t v : Int32) : Prop := (t.toInt = 1 ∧ iin v 0 99) ∨ (t.toInt = 2 ∧ iin v 1 9) ∨ (t.toInt = 3 ∧ iin v (-20) 20) ∨ (t.toInt = 6 ∧ iin v 0 1)
def wMay (t v : Int32) : Prop := (t.toInt = 0 ∧ iin v 0 99) ∨ (t.toInt = 1 ∧ iin v 0 2) ∨ (t.toInt = 2 ∧ iin v (-5) 5) ∨ (t.toInt = 3 ∧ iin v 0 99) ∨ (t.toInt = 4 ∧ iin v 0 1)
set_option maxHeartbeats 4000000 in
set_option maxRecDepth 100000 in
theorem mX0_mayBe {l : Launch} {G : zG} {b : Nat} {M : zM} {t v : Int32} : zMet l G b yX0_mayBe cX0_mayBe 2 (some .boolean) 0 zshL zshL [.int t, .int v] M (zI (fun r M' => zb r (pMay t v) ∧ M' = M)) := by
  refine zMet.of (L0 := [some (.int t), some (.int v)]) (by decide +kernel) (Nat.le_refl _) (Nat.le_refl _) (Nat.le_of_ble_eq_true rfl) (List.forall_mem_cons.mpr ⟨rfl, List.forall_mem_cons.mpr ⟨rfl, fun _ h => absurd h List.not_mem_nil⟩⟩) rfl (fun X C Al K => ?_)
  refine z_iload_n (pc := 0) C 0 dX0_mayBe_0 rfl rfl ?_
  by_cases s1_0 : t = 1
  · refine z_tswIn (pc := 1) C (1) 40 dX0_mayBe_1 (by rw [s1_0]; rfl) (by decide) (by decide) rfl (by decide) ?_
    refine z_iload_n (pc := 40) C 1 dX0_mayBe_40 rfl rfl ?_
    refine z_if_lt (pc := 41) C 54 dX0_mayBe_41 (by decide) (fun c41 => ?_) (fun c41 => ?_)
    · refine z_iconst (pc := 54) (v := 0) C dX0_mayBe_54 rfl ?_
      refine z_zreturn (pc := 55) C K dX0_mayBe_55 (Or.inl rfl) ?_
      refine ⟨_, rfl, Or.inr ⟨rfl, ?_⟩, rfl⟩
      simp only [zi_lt, zi_le, zi_eq, i0, i1, i2, i3, i4, i5, i6, i9, i20, i99, i100, im5, im20, im1] at s1_0 c41
      unfold pMay iin
      omega
    · refine z_iload_n (pc := 44) C 1 dX0_mayBe_44 rfl rfl ?_
      refine z_bipush (pc := 45) (v := 100) C dX0_mayBe_45 rfl ?_
      refine z_icmp_ge (pc := 47) C 54 dX0_mayBe_47 (by decide) (fun c47 => ?_) (fun c47 => ?_)
      · refine z_iconst (pc := 54) (v := 0) C dX0_mayBe_54 rfl ?_
        refine z_zreturn (pc := 55) C K dX0_mayBe_55 (Or.inl rfl) ?_
        refine ⟨_, rfl, Or.inr ⟨rfl, ?_⟩, rfl⟩
        simp only [zi_lt, zi_le, zi_eq, i0, i1, i2, i3, i4, i5, i6, i9, i20, i99, i100, im5, im20, im1] at s1_0 c41 c47
        unfold pMay iin
        omega
      · refine z_iconst (pc := 50) (v := 1) C dX0_mayBe_50 rfl ?_
        refine z_goto (pc := 51) C 55 dX0_mayBe_51 (by decide) ?_
        refine z_zreturn (pc := 55) C K dX0_mayBe_55 (Or.inr rfl) ?_
        refine ⟨_, rfl, Or.inl ⟨rfl, ?_⟩, rfl⟩
        simp only [zi_lt, zi_le, zi_eq, i0, i1, i2, i3, i4, i5, i6, i9, i20, i99, i100, im5, im20, im1] at s1_0 c41 c47
        unfold pMay iin
        omega
  by_cases s1_1 : t = 2
  · refine z_tswIn (pc := 1) C (2) 56 dX0_mayBe_1 (by rw [s1_1]; rfl) (by decide) (by decide) rfl (by decide) ?_
    refine z_iload_n (pc := 56) C 1 dX0_mayBe_56 rfl rfl ?_
    refine z_iconst (pc := 57) (v := 1) C dX0_mayBe_57 rfl ?_
    refine z_icmp_lt (pc := 58) C 71 dX0_mayBe_58 (by decide) (fun c58 => ?_) (fun c58 => ?_)
    · refine z_iconst (pc := 71) (v := 0) C dX0_mayBe_71 rfl ?_
      refine z_zreturn (pc := 72) C K dX0_mayBe_72 (Or.inl rfl) ?_
      refine ⟨_, rfl, Or.inr ⟨rfl, ?_⟩, rfl⟩
      simp only [zi_lt, zi_le, zi_eq, i0, i1, i2, i3, i4, i5, i6, i9, i20, i99, i100, im5, im20, im1] at s1_0 s1_1 c58
      unfold pMay iin
      omega
    · refine z_iload_n (pc := 61) C 1 dX0_mayBe_61 rfl rfl ?_
      refine z_bipush (pc := 62) (v := 9) C dX0_mayBe_62 rfl ?_
      refine z_icmp_gt (pc := 64) C 71 dX0_mayBe_64 (by decide) (fun c64 => ?_) (fun c64 => ?_)
      · refine z_iconst (pc := 71) (v := 0) C dX0_mayBe_71 rfl ?_
        refine z_zreturn (pc := 72) C K dX0_mayBe_72 (Or.inl rfl) ?_
        refine ⟨_, rfl, Or.inr ⟨rfl, ?_⟩, rfl⟩
        simp only [zi_lt, zi_le, zi_eq, i0, i1, i2, i3, i4, i5, i6, i9, i20, i99, i100, im5, im20, im1] at s1_0 s1_1 c58 c64
        unfold pMay iin
        omega
      · refine z_iconst (pc := 67) (v := 1) C dX0_mayBe_67 rfl ?_
        refine z_goto (pc := 68) C 72 dX0_mayBe_68 (by decide) ?_
        refine z_zreturn (pc := 72) C K dX0_mayBe_72 (Or.inr rfl) ?_
        refine ⟨_, rfl, Or.inl ⟨rfl, ?_⟩, rfl⟩
        simp only [zi_lt, zi_le, zi_eq, i0, i1, i2, i3, i4, i5, i6, i9, i20, i99, i100, im5, im20, im1] at s1_0 s1_1 c58 c64
        unfold pMay iin
        omega
  by_cases s1_2 : t = 3
  · refine z_tswIn (pc := 1) C (3) 73 dX0_mayBe_1 (by rw [s1_2]; rfl) (by decide) (by decide) rfl (by decide) ?_
    refine z_iload_n (pc := 73) C 1 dX0_mayBe_73 rfl rfl ?_
    refine z_bipush (pc := 74) (v := -20) C dX0_mayBe_74 rfl ?_
    refine z_icmp_lt (pc := 76) C 89 dX0_mayBe_76 (by decide) (fun c76 => ?_) (fun c76 => ?_)
    · refine z_iconst (pc := 89) (v := 0) C dX0_mayBe_89 rfl ?_
      refine z_zreturn (pc := 90) C K dX0_mayBe_90 (Or.inl rfl) ?_
      refine ⟨_, rfl, Or.inr ⟨rfl, ?_⟩, rfl⟩
      simp only [zi_lt, zi_le, zi_eq, i0, i1, i2, i3, i4, i5, i6, i9, i20, i99, i100, im5, im20, im1] at s1_0 s1_1 s1_2 c76
      unfold pMay iin
      omega
    · refine z_iload_n (pc := 79) C 1 dX0_mayBe_79 rfl rfl ?_
      refine z_bipush (pc := 80) (v := 20) C dX0_mayBe_80 rfl ?_
      refine z_icmp_gt (pc := 82) C 89 dX0_mayBe_82 (by decide) (fun c82 => ?_) (fun c82 => ?_)
      · refine z_iconst (pc := 89) (v := 0) C dX0_mayBe_89 rfl ?_
        refine z_zreturn (pc := 90) C K dX0_mayBe_90 (Or.inl rfl) ?_
        refine ⟨_, rfl, Or.inr ⟨rfl, ?_⟩, rfl⟩
        simp only [zi_lt, zi_le, zi_eq, i0, i1, i2, i3, i4, i5, i6, i9, i20, i99, i100, im5, im20, im1] at s1_0 s1_1 s1_2 c76 c82
        unfold pMay iin
        omega
      · refine z_iconst (pc := 85) (v := 1) C dX0_mayBe_85 rfl ?_
        refine z_goto (pc := 86) C 90 dX0_mayBe_86 (by decide) ?_
        refine z_zreturn (pc := 90) C K dX0_mayBe_90 (Or.inr rfl) ?_
        refine ⟨_, rfl, Or.inl ⟨rfl, ?_⟩, rfl⟩
        simp only [zi_lt, zi_le, zi_eq, i0, i1, i2, i3, i4, i5, i6, i9, i20, i99, i100, im5, im20, im1] at s1_0 s1_1 s1_2 c76 c82
        unfold pMay iin
        omega
  by_cases s1_3 : t = 4
  · refine z_tswIn (pc := 1) C (4) 106 dX0_mayBe_1 (by rw [s1_3]; rfl) (by decide) (by decide) rfl (by decide) ?_
    refine z_iconst (pc := 106) (v := 0) C dX0_mayBe_106 rfl ?_
    refine z_zreturn (pc := 107) C K dX0_mayBe_107 (Or.inl rfl) ?_
    refine ⟨_, rfl, Or.inr ⟨rfl, ?_⟩, rfl⟩
    simp only [zi_lt, zi_le, zi_eq, i0, i1, i2, i3, i4, i5, i6, i9, i20, i99, i100, im5, im20, im1] at s1_0 s1_1 s1_2 s1_3
    unfold pMay iin
    omega
  by_cases s1_4 : t = 5
  · refine z_tswIn (pc := 1) C (5) 106 dX0_mayBe_1 (by rw [s1_4]; rfl) (by decide) (by decide) rfl (by decide) ?_
    refine z_iconst (pc := 106) (v := 0) C dX0_mayBe_106 rfl ?_
    refine z_zreturn (pc := 107) C K dX0_mayBe_107 (Or.inl rfl) ?_
    refine ⟨_, rfl, Or.inr ⟨rfl, ?_⟩, rfl⟩
    simp only [zi_lt, zi_le, zi_eq, i0, i1, i2, i3, i4, i5, i6, i9, i20, i99, i100, im5, im20, im1] at s1_0 s1_1 s1_2 s1_3 s1_4
    unfold pMay iin
    omega
  by_cases s1_5 : t = 6
  · refine z_tswIn (pc := 1) C (6) 91 dX0_mayBe_1 (by rw [s1_5]; rfl) (by decide) (by decide) rfl (by decide) ?_
    refine z_iload_n (pc := 91) C 1 dX0_mayBe_91 rfl rfl ?_
    refine z_if_eq (pc := 92) C 100 dX0_mayBe_92 (by decide) (fun c92 => ?_) (fun c92 => ?_)
    · refine z_iconst (pc := 100) (v := 1) C dX0_mayBe_100 rfl ?_
      refine z_goto (pc := 101) C 105 dX0_mayBe_101 (by decide) ?_
      refine z_zreturn (pc := 105) C K dX0_mayBe_105 (Or.inr rfl) ?_
      refine ⟨_, rfl, Or.inl ⟨rfl, ?_⟩, rfl⟩
      simp only [zi_lt, zi_le, zi_eq, i0, i1, i2, i3, i4, i5, i6, i9, i20, i99, i100, im5, im20, im1] at s1_0 s1_1 s1_2 s1_3 s1_4 s1_5 c92
      unfold pMay iin
      omega
    · refine z_iload_n (pc := 95) C 1 dX0_mayBe_95 rfl rfl ?_
      refine z_iconst (pc := 96) (v := 1) C dX0_mayBe_96 rfl ?_
      refine z_icmp_ne (pc := 97) C 104 dX0_mayBe_97 (by decide) (fun c97 => ?_) (fun c97 => ?_)
      · refine z_iconst (pc := 104) (v := 0) C dX0_mayBe_104 rfl ?_
        refine z_zreturn (pc := 105) C K dX0_mayBe_105 (Or.inl rfl) ?_
        refine ⟨_, rfl, Or.inr ⟨rfl, ?_⟩, rfl⟩
        simp only [zi_lt, zi_le, zi_eq, i0, i1, i2, i3, i4, i5, i6, i9, i20, i99, i100, im5, im20, im1] at s1_0 s1_1 s1_2 s1_3 s1_4 s1_5 c92 c97
        unfold pMay iin
        omega
      · refine z_iconst (pc := 100) (v := 1) C dX0_mayBe_100 rfl ?_
        refine z_goto (pc := 101) C 105 dX0_mayBe_101 (by decide) ?_
        refine z_zreturn (pc := 105) C K dX0_mayBe_105 (Or.inr rfl) ?_
        refine ⟨_, rfl, Or.inl ⟨rfl, ?_⟩, rfl⟩
        simp only [zi_lt, zi_le, zi_eq, i0, i1, i2, i3, i4, i5, i6, i9, i20, i99, i100, im5, im20, im1] at s1_0 s1_1 s1_2 s1_3 s1_4 s1_5 c92 c97
        unfold pMay iin
        omega
  refine z_tswOut (pc := 1) C 106 dX0_mayBe_1 (by have g0 := lv_neT (a := 1) s1_0 rfl; have g1 := lv_neT (a := 2) s1_1 rfl; have g2 := lv_neT (a := 3) s1_2 rfl; have g3 := lv_neT (a := 4) s1_3 rfl; have g4 := lv_neT (a := 5) s1_4 rfl; have g5 := lv_neT (a := 6) s1_5 rfl; omega) (by decide) ?_
  refine z_iconst (pc := 106) (v := 0) C dX0_mayBe_106 rfl ?_
  refine z_zreturn (pc := 107) C K dX0_mayBe_107 (Or.inl rfl) ?_
  refine ⟨_, rfl, Or.inr ⟨rfl, ?_⟩, rfl⟩
  simp only [zi_lt, zi_le, zi_eq, i0, i1, i2, i3, i4, i5, i6, i9, i20, i99, i100, im5, im20, im1] at s1_0 s1_1 s1_2 s1_3 s1_4 s1_5
  unfold pMay iin
  omega

set_option maxHeartbeats 4000000 in
set_option maxRecDepth 100000 in
theorem mX8_mayBe {l : Launch} {G : zG} {b : Nat} {M : zM} {t v : Int32} : zMet l G b yX8_mayBe cX8_mayBe 2 (some .boolean) 0 zshL zshL [.int t, .int v] M (zI (fun r M' => zb r (wMay t v) ∧ M' = M)) := by
  refine zMet.of (L0 := [some (.int t), some (.int v)]) (by decide +kernel) (Nat.le_refl _) (Nat.le_refl _) (Nat.le_of_ble_eq_true rfl) (List.forall_mem_cons.mpr ⟨rfl, List.forall_mem_cons.mpr ⟨rfl, fun _ h => absurd h List.not_mem_nil⟩⟩) rfl (fun X C Al K => ?_)
  refine z_iload_n (pc := 0) C 0 dX8_mayBe_0 rfl rfl ?_
  by_cases s1_0 : t = 0
  · refine z_tswIn (pc := 1) C (0) 36 dX8_mayBe_1 (by rw [s1_0]; rfl) (by decide) (by decide) rfl (by decide) ?_
    refine z_iload_n (pc := 36) C 1 dX8_mayBe_36 rfl rfl ?_
    refine z_if_lt (pc := 37) C 50 dX8_mayBe_37 (by decide) (fun c37 => ?_) (fun c37 => ?_)
    · refine z_iconst (pc := 50) (v := 0) C dX8_mayBe_50 rfl ?_
      refine z_zreturn (pc := 51) C K dX8_mayBe_51 (Or.inl rfl) ?_
      refine ⟨_, rfl, Or.inr ⟨rfl, ?_⟩, rfl⟩
      simp only [zi_lt, zi_le, zi_eq, i0, i1, i2, i3, i4, i5, i6, i9, i20, i99, i100, im5, im20, im1] at s1_0 c37
      unfold wMay iin
      omega
    · refine z_iload_n (pc := 40) C 1 dX8_mayBe_40 rfl rfl ?_
      refine z_bipush (pc := 41) (v := 100) C dX8_mayBe_41 rfl ?_
      refine z_icmp_ge (pc := 43) C 50 dX8_mayBe_43 (by decide) (fun c43 => ?_) (fun c43 => ?_)
      · refine z_iconst (pc := 50) (v := 0) C dX8_mayBe_50 rfl ?_
        refine z_zreturn (pc := 51) C K dX8_mayBe_51 (Or.inl rfl) ?_
        refine ⟨_, rfl, Or.inr ⟨rfl, ?_⟩, rfl⟩
        simp only [zi_lt, zi_le, zi_eq, i0, i1, i2, i3, i4, i5, i6, i9, i20, i99, i100, im5, im20, im1] at s1_0 c37 c43
        unfold wMay iin
        omega
      · refine z_iconst (pc := 46) (v := 1) C dX8_mayBe_46 rfl ?_
        refine z_goto (pc := 47) C 51 dX8_mayBe_47 (by decide) ?_
        refine z_zreturn (pc := 51) C K dX8_mayBe_51 (Or.inr rfl) ?_
        refine ⟨_, rfl, Or.inl ⟨rfl, ?_⟩, rfl⟩
        simp only [zi_lt, zi_le, zi_eq, i0, i1, i2, i3, i4, i5, i6, i9, i20, i99, i100, im5, im20, im1] at s1_0 c37 c43
        unfold wMay iin
        omega
  by_cases s1_1 : t = 1
  · refine z_tswIn (pc := 1) C (1) 52 dX8_mayBe_1 (by rw [s1_1]; rfl) (by decide) (by decide) rfl (by decide) ?_
    refine z_iload_n (pc := 52) C 1 dX8_mayBe_52 rfl rfl ?_
    refine z_if_lt (pc := 53) C 65 dX8_mayBe_53 (by decide) (fun c53 => ?_) (fun c53 => ?_)
    · refine z_iconst (pc := 65) (v := 0) C dX8_mayBe_65 rfl ?_
      refine z_zreturn (pc := 66) C K dX8_mayBe_66 (Or.inl rfl) ?_
      refine ⟨_, rfl, Or.inr ⟨rfl, ?_⟩, rfl⟩
      simp only [zi_lt, zi_le, zi_eq, i0, i1, i2, i3, i4, i5, i6, i9, i20, i99, i100, im5, im20, im1] at s1_0 s1_1 c53
      unfold wMay iin
      omega
    · refine z_iload_n (pc := 56) C 1 dX8_mayBe_56 rfl rfl ?_
      refine z_iconst (pc := 57) (v := 2) C dX8_mayBe_57 rfl ?_
      refine z_icmp_gt (pc := 58) C 65 dX8_mayBe_58 (by decide) (fun c58 => ?_) (fun c58 => ?_)
      · refine z_iconst (pc := 65) (v := 0) C dX8_mayBe_65 rfl ?_
        refine z_zreturn (pc := 66) C K dX8_mayBe_66 (Or.inl rfl) ?_
        refine ⟨_, rfl, Or.inr ⟨rfl, ?_⟩, rfl⟩
        simp only [zi_lt, zi_le, zi_eq, i0, i1, i2, i3, i4, i5, i6, i9, i20, i99, i100, im5, im20, im1] at s1_0 s1_1 c53 c58
        unfold wMay iin
        omega
      · refine z_iconst (pc := 61) (v := 1) C dX8_mayBe_61 rfl ?_
        refine z_goto (pc := 62) C 66 dX8_mayBe_62 (by decide) ?_
        refine z_zreturn (pc := 66) C K dX8_mayBe_66 (Or.inr rfl) ?_
        refine ⟨_, rfl, Or.inl ⟨rfl, ?_⟩, rfl⟩
        simp only [zi_lt, zi_le, zi_eq, i0, i1, i2, i3, i4, i5, i6, i9, i20, i99, i100, im5, im20, im1] at s1_0 s1_1 c53 c58
        unfold wMay iin
        omega
  by_cases s1_2 : t = 2
  · refine z_tswIn (pc := 1) C (2) 67 dX8_mayBe_1 (by rw [s1_2]; rfl) (by decide) (by decide) rfl (by decide) ?_
    refine z_iload_n (pc := 67) C 1 dX8_mayBe_67 rfl rfl ?_
    refine z_bipush (pc := 68) (v := -5) C dX8_mayBe_68 rfl ?_
    refine z_icmp_lt (pc := 70) C 82 dX8_mayBe_70 (by decide) (fun c70 => ?_) (fun c70 => ?_)
    · refine z_iconst (pc := 82) (v := 0) C dX8_mayBe_82 rfl ?_
      refine z_zreturn (pc := 83) C K dX8_mayBe_83 (Or.inl rfl) ?_
      refine ⟨_, rfl, Or.inr ⟨rfl, ?_⟩, rfl⟩
      simp only [zi_lt, zi_le, zi_eq, i0, i1, i2, i3, i4, i5, i6, i9, i20, i99, i100, im5, im20, im1] at s1_0 s1_1 s1_2 c70
      unfold wMay iin
      omega
    · refine z_iload_n (pc := 73) C 1 dX8_mayBe_73 rfl rfl ?_
      refine z_iconst (pc := 74) (v := 5) C dX8_mayBe_74 rfl ?_
      refine z_icmp_gt (pc := 75) C 82 dX8_mayBe_75 (by decide) (fun c75 => ?_) (fun c75 => ?_)
      · refine z_iconst (pc := 82) (v := 0) C dX8_mayBe_82 rfl ?_
        refine z_zreturn (pc := 83) C K dX8_mayBe_83 (Or.inl rfl) ?_
        refine ⟨_, rfl, Or.inr ⟨rfl, ?_⟩, rfl⟩
        simp only [zi_lt, zi_le, zi_eq, i0, i1, i2, i3, i4, i5, i6, i9, i20, i99, i100, im5, im20, im1] at s1_0 s1_1 s1_2 c70 c75
        unfold wMay iin
        omega
      · refine z_iconst (pc := 78) (v := 1) C dX8_mayBe_78 rfl ?_
        refine z_goto (pc := 79) C 83 dX8_mayBe_79 (by decide) ?_
        refine z_zreturn (pc := 83) C K dX8_mayBe_83 (Or.inr rfl) ?_
        refine ⟨_, rfl, Or.inl ⟨rfl, ?_⟩, rfl⟩
        simp only [zi_lt, zi_le, zi_eq, i0, i1, i2, i3, i4, i5, i6, i9, i20, i99, i100, im5, im20, im1] at s1_0 s1_1 s1_2 c70 c75
        unfold wMay iin
        omega
  by_cases s1_3 : t = 3
  · refine z_tswIn (pc := 1) C (3) 84 dX8_mayBe_1 (by rw [s1_3]; rfl) (by decide) (by decide) rfl (by decide) ?_
    refine z_iload_n (pc := 84) C 1 dX8_mayBe_84 rfl rfl ?_
    refine z_if_lt (pc := 85) C 98 dX8_mayBe_85 (by decide) (fun c85 => ?_) (fun c85 => ?_)
    · refine z_iconst (pc := 98) (v := 0) C dX8_mayBe_98 rfl ?_
      refine z_zreturn (pc := 99) C K dX8_mayBe_99 (Or.inl rfl) ?_
      refine ⟨_, rfl, Or.inr ⟨rfl, ?_⟩, rfl⟩
      simp only [zi_lt, zi_le, zi_eq, i0, i1, i2, i3, i4, i5, i6, i9, i20, i99, i100, im5, im20, im1] at s1_0 s1_1 s1_2 s1_3 c85
      unfold wMay iin
      omega
    · refine z_iload_n (pc := 88) C 1 dX8_mayBe_88 rfl rfl ?_
      refine z_bipush (pc := 89) (v := 99) C dX8_mayBe_89 rfl ?_
      refine z_icmp_gt (pc := 91) C 98 dX8_mayBe_91 (by decide) (fun c91 => ?_) (fun c91 => ?_)
      · refine z_iconst (pc := 98) (v := 0) C dX8_mayBe_98 rfl ?_
        refine z_zreturn (pc := 99) C K dX8_mayBe_99 (Or.inl rfl) ?_
        refine ⟨_, rfl, Or.inr ⟨rfl, ?_⟩, rfl⟩
        simp only [zi_lt, zi_le, zi_eq, i0, i1, i2, i3, i4, i5, i6, i9, i20, i99, i100, im5, im20, im1] at s1_0 s1_1 s1_2 s1_3 c85 c91
        unfold wMay iin
        omega
      · refine z_iconst (pc := 94) (v := 1) C dX8_mayBe_94 rfl ?_
        refine z_goto (pc := 95) C 99 dX8_mayBe_95 (by decide) ?_
        refine z_zreturn (pc := 99) C K dX8_mayBe_99 (Or.inr rfl) ?_
        refine ⟨_, rfl, Or.inl ⟨rfl, ?_⟩, rfl⟩
        simp only [zi_lt, zi_le, zi_eq, i0, i1, i2, i3, i4, i5, i6, i9, i20, i99, i100, im5, im20, im1] at s1_0 s1_1 s1_2 s1_3 c85 c91
        unfold wMay iin
        omega
  by_cases s1_4 : t = 4
  · refine z_tswIn (pc := 1) C (4) 100 dX8_mayBe_1 (by rw [s1_4]; rfl) (by decide) (by decide) rfl (by decide) ?_
    refine z_iload_n (pc := 100) C 1 dX8_mayBe_100 rfl rfl ?_
    refine z_if_eq (pc := 101) C 109 dX8_mayBe_101 (by decide) (fun c101 => ?_) (fun c101 => ?_)
    · refine z_iconst (pc := 109) (v := 1) C dX8_mayBe_109 rfl ?_
      refine z_goto (pc := 110) C 114 dX8_mayBe_110 (by decide) ?_
      refine z_zreturn (pc := 114) C K dX8_mayBe_114 (Or.inr rfl) ?_
      refine ⟨_, rfl, Or.inl ⟨rfl, ?_⟩, rfl⟩
      simp only [zi_lt, zi_le, zi_eq, i0, i1, i2, i3, i4, i5, i6, i9, i20, i99, i100, im5, im20, im1] at s1_0 s1_1 s1_2 s1_3 s1_4 c101
      unfold wMay iin
      omega
    · refine z_iload_n (pc := 104) C 1 dX8_mayBe_104 rfl rfl ?_
      refine z_iconst (pc := 105) (v := 1) C dX8_mayBe_105 rfl ?_
      refine z_icmp_ne (pc := 106) C 113 dX8_mayBe_106 (by decide) (fun c106 => ?_) (fun c106 => ?_)
      · refine z_iconst (pc := 113) (v := 0) C dX8_mayBe_113 rfl ?_
        refine z_zreturn (pc := 114) C K dX8_mayBe_114 (Or.inl rfl) ?_
        refine ⟨_, rfl, Or.inr ⟨rfl, ?_⟩, rfl⟩
        simp only [zi_lt, zi_le, zi_eq, i0, i1, i2, i3, i4, i5, i6, i9, i20, i99, i100, im5, im20, im1] at s1_0 s1_1 s1_2 s1_3 s1_4 c101 c106
        unfold wMay iin
        omega
      · refine z_iconst (pc := 109) (v := 1) C dX8_mayBe_109 rfl ?_
        refine z_goto (pc := 110) C 114 dX8_mayBe_110 (by decide) ?_
        refine z_zreturn (pc := 114) C K dX8_mayBe_114 (Or.inr rfl) ?_
        refine ⟨_, rfl, Or.inl ⟨rfl, ?_⟩, rfl⟩
        simp only [zi_lt, zi_le, zi_eq, i0, i1, i2, i3, i4, i5, i6, i9, i20, i99, i100, im5, im20, im1] at s1_0 s1_1 s1_2 s1_3 s1_4 c101 c106
        unfold wMay iin
        omega
  refine z_tswOut (pc := 1) C 115 dX8_mayBe_1 (by have g0 := lv_neT (a := 0) s1_0 rfl; have g1 := lv_neT (a := 1) s1_1 rfl; have g2 := lv_neT (a := 2) s1_2 rfl; have g3 := lv_neT (a := 3) s1_3 rfl; have g4 := lv_neT (a := 4) s1_4 rfl; omega) (by decide) ?_
  refine z_iconst (pc := 115) (v := 0) C dX8_mayBe_115 rfl ?_
  refine z_zreturn (pc := 116) C K dX8_mayBe_116 (Or.inl rfl) ?_
  refine ⟨_, rfl, Or.inr ⟨rfl, ?_⟩, rfl⟩
  simp only [zi_lt, zi_le, zi_eq, i0, i1, i2, i3, i4, i5, i6, i9, i20, i99, i100, im5, im20, im1] at s1_0 s1_1 s1_2 s1_3 s1_4
  unfold wMay iin
  omega

def b01 (x : Int32) : Int32 := if x = 0 then 0 else 1
set_option maxHeartbeats 4000000 in
set_option maxRecDepth 100000 in
theorem mX0_trait {l : Launch} {G : zG} {b : Nat} {M : zM} {w i : Nat} (hp : okP w i) {t : Int32} : zMet l G b yX0_trait cX0_trait 2 (some .int) 0 zshL zshL [.ref (b + adP w i), .int t] M (zI (fun r M' => r = (if t = 1 then M 1 w i 1 else if t = 2 then M 1 w i 2 else if t = 3 then M 1 w i 3 else b01 (M 1 w i 6)) ∧ M' = M)) := by
  refine zMet.of (L0 := [some (.ref (b + adP w i)), some (.int t)]) (by decide +kernel) (Nat.le_refl _) (Nat.le_refl _) (Nat.le_of_ble_eq_true rfl) (List.forall_mem_cons.mpr ⟨rfl, List.forall_mem_cons.mpr ⟨rfl, fun _ h => absurd h List.not_mem_nil⟩⟩) rfl (fun X C Al K => ?_)
  refine z_iload_n (pc := 0) C 1 dX0_trait_0 rfl rfl ?_
  by_cases s1_0 : t = 1
  · refine z_tswIn (pc := 1) C (1) 28 dX0_trait_1 (by rw [s1_0]; rfl) (by decide) (by decide) rfl (by decide) ?_
    refine z_aload_n (pc := 28) C 0 dX0_trait_28 rfl rfl ?_
    refine z_getI (pc := 29) C dX0_trait_29 fX0_11 (shP hp) rfl ?_
    refine z_ireturn (pc := 32) C K dX0_trait_32 ?_
    exact ⟨_, rfl, (if_pos s1_0).symm, rfl⟩
  by_cases s1_1 : t = 2
  · refine z_tswIn (pc := 1) C (2) 33 dX0_trait_1 (by rw [s1_1]; rfl) (by decide) (by decide) rfl (by decide) ?_
    refine z_aload_n (pc := 33) C 0 dX0_trait_33 rfl rfl ?_
    refine z_getI (pc := 34) C dX0_trait_34 fX0_15 (shP hp) rfl ?_
    refine z_ireturn (pc := 37) C K dX0_trait_37 ?_
    refine ⟨_, rfl, ?_, rfl⟩
    rw [if_neg s1_0, if_pos s1_1]
  by_cases s1_2 : t = 3
  · refine z_tswIn (pc := 1) C (3) 38 dX0_trait_1 (by rw [s1_2]; rfl) (by decide) (by decide) rfl (by decide) ?_
    refine z_aload_n (pc := 38) C 0 dX0_trait_38 rfl rfl ?_
    refine z_getI (pc := 39) C dX0_trait_39 fX0_18 (shP hp) rfl ?_
    refine z_ireturn (pc := 42) C K dX0_trait_42 ?_
    refine ⟨_, rfl, ?_, rfl⟩
    rw [if_neg s1_0, if_neg s1_1, if_pos s1_2]
  refine z_tswOut (pc := 1) C 43 dX0_trait_1 (by have g0 := lv_neT (a := 1) s1_0 rfl; have g1 := lv_neT (a := 2) s1_1 rfl; have g2 := lv_neT (a := 3) s1_2 rfl; omega) (by decide) ?_
  refine z_aload_n (pc := 43) C 0 dX0_trait_43 rfl rfl ?_
  refine z_getI (pc := 44) C dX0_trait_44 fX0_21 (shP hp) rfl ?_
  refine z_if_eq (pc := 47) C 54 dX0_trait_47 (by decide) (fun c47 => ?_) (fun c47 => ?_)
  · refine z_iconst (pc := 54) (v := 0) C dX0_trait_54 rfl ?_
    refine z_ireturn (pc := 55) C K dX0_trait_55 ?_
    refine ⟨_, rfl, ?_, rfl⟩
    rw [if_neg s1_0, if_neg s1_1, if_neg s1_2]
    exact (if_pos c47).symm
  · refine z_iconst (pc := 50) (v := 1) C dX0_trait_50 rfl ?_
    refine z_goto (pc := 51) C 55 dX0_trait_51 (by decide) ?_
    refine z_ireturn (pc := 55) C K dX0_trait_55 ?_
    refine ⟨_, rfl, ?_, rfl⟩
    rw [if_neg s1_0, if_neg s1_1, if_neg s1_2]
    exact (if_neg c47).symm

set_option maxHeartbeats 4000000 in
set_option maxRecDepth 100000 in
theorem mX0_change {l : Launch} {G : zG} {b : Nat} {M : zM} {w i : Nat} (hp : okP w i) {t v : Int32} : zMet l G b yX0_change cX0_change 3 none 0 zshL zshL [.ref (b + adP w i), .int t, .int v] M (zV (fun M' => M' = if t = 1 then zu M 1 w i 1 v else if t = 2 then zu M 1 w i 2 v else if t = 3 then zu M 1 w i 3 v else zu M 1 w i 6 (if v = 1 then 1 else 0))) := by
  refine zMet.of (L0 := [some (.ref (b + adP w i)), some (.int t), some (.int v)]) (by decide +kernel) (Nat.le_refl _) (Nat.le_refl _) (Nat.le_of_ble_eq_true rfl) (List.forall_mem_cons.mpr ⟨rfl, List.forall_mem_cons.mpr ⟨rfl, List.forall_mem_cons.mpr ⟨rfl, fun _ h => absurd h List.not_mem_nil⟩⟩⟩) rfl (fun X C Al K => ?_)
  refine z_iload_n (pc := 0) C 1 dX0_change_0 rfl rfl ?_
  by_cases s1_0 : t = 1
  · refine z_tswIn (pc := 1) C (1) 28 dX0_change_1 (by rw [s1_0]; rfl) (by decide) (by decide) rfl (by decide) ?_
    refine z_aload_n (pc := 28) C 0 dX0_change_28 rfl rfl ?_
    refine z_iload_n (pc := 29) C 2 dX0_change_29 rfl rfl ?_
    refine z_putII (pc := 30) C dX0_change_30 fX0_11 (shP hp) rfl ?_
    refine z_goto (pc := 33) C 66 dX0_change_33 (by decide) ?_
    refine z_return (pc := 66) C K dX0_change_66 ?_
    refine ⟨rfl, ?_⟩
    exact (if_pos s1_0).symm
  by_cases s1_1 : t = 2
  · refine z_tswIn (pc := 1) C (2) 36 dX0_change_1 (by rw [s1_1]; rfl) (by decide) (by decide) rfl (by decide) ?_
    refine z_aload_n (pc := 36) C 0 dX0_change_36 rfl rfl ?_
    refine z_iload_n (pc := 37) C 2 dX0_change_37 rfl rfl ?_
    refine z_putII (pc := 38) C dX0_change_38 fX0_15 (shP hp) rfl ?_
    refine z_goto (pc := 41) C 66 dX0_change_41 (by decide) ?_
    refine z_return (pc := 66) C K dX0_change_66 ?_
    refine ⟨rfl, ?_⟩
    rw [if_neg s1_0, if_pos s1_1]
  by_cases s1_2 : t = 3
  · refine z_tswIn (pc := 1) C (3) 44 dX0_change_1 (by rw [s1_2]; rfl) (by decide) (by decide) rfl (by decide) ?_
    refine z_aload_n (pc := 44) C 0 dX0_change_44 rfl rfl ?_
    refine z_iload_n (pc := 45) C 2 dX0_change_45 rfl rfl ?_
    refine z_putII (pc := 46) C dX0_change_46 fX0_18 (shP hp) rfl ?_
    refine z_goto (pc := 49) C 66 dX0_change_49 (by decide) ?_
    refine z_return (pc := 66) C K dX0_change_66 ?_
    refine ⟨rfl, ?_⟩
    rw [if_neg s1_0, if_neg s1_1, if_pos s1_2]
  refine z_tswOut (pc := 1) C 52 dX0_change_1 (by have g0 := lv_neT (a := 1) s1_0 rfl; have g1 := lv_neT (a := 2) s1_1 rfl; have g2 := lv_neT (a := 3) s1_2 rfl; omega) (by decide) ?_
  refine z_aload_n (pc := 52) C 0 dX0_change_52 rfl rfl ?_
  refine z_iload_n (pc := 53) C 2 dX0_change_53 rfl rfl ?_
  refine z_iconst (pc := 54) (v := 1) C dX0_change_54 rfl ?_
  refine z_icmp_ne (pc := 55) C 62 dX0_change_55 (by decide) (fun c55 => ?_) (fun c55 => ?_)
  · refine z_iconst (pc := 62) (v := 0) C dX0_change_62 rfl ?_
    refine z_putZ (pc := 63) C dX0_change_63 fX0_21 (shP hp) rfl (Or.inl rfl) ?_
    refine z_return (pc := 66) C K dX0_change_66 ?_
    refine ⟨rfl, ?_⟩
    rw [if_neg s1_0, if_neg s1_1, if_neg s1_2, if_neg c55]
  · refine z_iconst (pc := 58) (v := 1) C dX0_change_58 rfl ?_
    refine z_goto (pc := 59) C 63 dX0_change_59 (by decide) ?_
    refine z_putZ (pc := 63) C dX0_change_63 fX0_21 (shP hp) rfl (Or.inr rfl) ?_
    refine z_return (pc := 66) C K dX0_change_66 ?_
    refine ⟨rfl, ?_⟩
    rw [if_neg s1_0, if_neg s1_1, if_neg s1_2, if_pos c55]

set_option maxHeartbeats 4000000 in
set_option maxRecDepth 100000 in
theorem mX8_part {l : Launch} {G : zG} {b : Nat} {M : zM} {w : Nat} (hw : w < 14) {t : Int32} : zMet l G b yX8_part cX8_part 2 (some .int) 0 zshL zshL [.ref (b + adW w), .int t] M (zI (fun r M' => r = (if t = 0 then M 5 w 0 3 else if t = 1 then M 5 w 0 4 else if t = 2 then M 5 w 0 5 else if t = 3 then M 5 w 0 6 else b01 (M 5 w 0 7)) ∧ M' = M)) := by
  refine zMet.of (L0 := [some (.ref (b + adW w)), some (.int t)]) (by decide +kernel) (Nat.le_refl _) (Nat.le_refl _) (Nat.le_of_ble_eq_true rfl) (List.forall_mem_cons.mpr ⟨rfl, List.forall_mem_cons.mpr ⟨rfl, fun _ h => absurd h List.not_mem_nil⟩⟩) rfl (fun X C Al K => ?_)
  refine z_iload_n (pc := 0) C 1 dX8_part_0 rfl rfl ?_
  by_cases s1_0 : t = 0
  · refine z_tswIn (pc := 1) C (0) 32 dX8_part_1 (by rw [s1_0]; rfl) (by decide) (by decide) rfl (by decide) ?_
    refine z_aload_n (pc := 32) C 0 dX8_part_32 rfl rfl ?_
    refine z_getI (pc := 33) C dX8_part_33 fX8_21 (shW hw) rfl ?_
    refine z_ireturn (pc := 36) C K dX8_part_36 ?_
    exact ⟨_, rfl, (if_pos s1_0).symm, rfl⟩
  by_cases s1_1 : t = 1
  · refine z_tswIn (pc := 1) C (1) 37 dX8_part_1 (by rw [s1_1]; rfl) (by decide) (by decide) rfl (by decide) ?_
    refine z_aload_n (pc := 37) C 0 dX8_part_37 rfl rfl ?_
    refine z_getI (pc := 38) C dX8_part_38 fX8_24 (shW hw) rfl ?_
    refine z_ireturn (pc := 41) C K dX8_part_41 ?_
    refine ⟨_, rfl, ?_, rfl⟩
    rw [if_neg s1_0, if_pos s1_1]
  by_cases s1_2 : t = 2
  · refine z_tswIn (pc := 1) C (2) 42 dX8_part_1 (by rw [s1_2]; rfl) (by decide) (by decide) rfl (by decide) ?_
    refine z_aload_n (pc := 42) C 0 dX8_part_42 rfl rfl ?_
    refine z_getI (pc := 43) C dX8_part_43 fX8_27 (shW hw) rfl ?_
    refine z_ireturn (pc := 46) C K dX8_part_46 ?_
    refine ⟨_, rfl, ?_, rfl⟩
    rw [if_neg s1_0, if_neg s1_1, if_pos s1_2]
  by_cases s1_3 : t = 3
  · refine z_tswIn (pc := 1) C (3) 47 dX8_part_1 (by rw [s1_3]; rfl) (by decide) (by decide) rfl (by decide) ?_
    refine z_aload_n (pc := 47) C 0 dX8_part_47 rfl rfl ?_
    refine z_getI (pc := 48) C dX8_part_48 fX8_30 (shW hw) rfl ?_
    refine z_ireturn (pc := 51) C K dX8_part_51 ?_
    refine ⟨_, rfl, ?_, rfl⟩
    rw [if_neg s1_0, if_neg s1_1, if_neg s1_2, if_pos s1_3]
  refine z_tswOut (pc := 1) C 52 dX8_part_1 (by have g0 := lv_neT (a := 0) s1_0 rfl; have g1 := lv_neT (a := 1) s1_1 rfl; have g2 := lv_neT (a := 2) s1_2 rfl; have g3 := lv_neT (a := 3) s1_3 rfl; omega) (by decide) ?_
  refine z_aload_n (pc := 52) C 0 dX8_part_52 rfl rfl ?_
  refine z_getI (pc := 53) C dX8_part_53 fX8_33 (shW hw) rfl ?_
  refine z_if_eq (pc := 56) C 63 dX8_part_56 (by decide) (fun c56 => ?_) (fun c56 => ?_)
  · refine z_iconst (pc := 63) (v := 0) C dX8_part_63 rfl ?_
    refine z_ireturn (pc := 64) C K dX8_part_64 ?_
    refine ⟨_, rfl, ?_, rfl⟩
    rw [if_neg s1_0, if_neg s1_1, if_neg s1_2, if_neg s1_3]
    exact (if_pos c56).symm
  · refine z_iconst (pc := 59) (v := 1) C dX8_part_59 rfl ?_
    refine z_goto (pc := 60) C 64 dX8_part_60 (by decide) ?_
    refine z_ireturn (pc := 64) C K dX8_part_64 ?_
    refine ⟨_, rfl, ?_, rfl⟩
    rw [if_neg s1_0, if_neg s1_1, if_neg s1_2, if_neg s1_3]
    exact (if_neg c56).symm

set_option maxHeartbeats 4000000 in
set_option maxRecDepth 100000 in
theorem mX8_change {l : Launch} {G : zG} {b : Nat} {M : zM} {w : Nat} (hw : w < 14) {t v : Int32} : zMet l G b yX8_change cX8_change 3 none 0 zshL zshL [.ref (b + adW w), .int t, .int v] M (zV (fun M' => M' = if t = 0 then zu M 5 w 0 3 v else if t = 1 then zu M 5 w 0 4 v else if t = 2 then zu M 5 w 0 5 v else if t = 3 then zu M 5 w 0 6 v else zu M 5 w 0 7 (if v = 1 then 1 else 0))) := by
  refine zMet.of (L0 := [some (.ref (b + adW w)), some (.int t), some (.int v)]) (by decide +kernel) (Nat.le_refl _) (Nat.le_refl _) (Nat.le_of_ble_eq_true rfl) (List.forall_mem_cons.mpr ⟨rfl, List.forall_mem_cons.mpr ⟨rfl, List.forall_mem_cons.mpr ⟨rfl, fun _ h => absurd h List.not_mem_nil⟩⟩⟩) rfl (fun X C Al K => ?_)
  refine z_iload_n (pc := 0) C 1 dX8_change_0 rfl rfl ?_
  by_cases s1_0 : t = 0
  · refine z_tswIn (pc := 1) C (0) 32 dX8_change_1 (by rw [s1_0]; rfl) (by decide) (by decide) rfl (by decide) ?_
    refine z_aload_n (pc := 32) C 0 dX8_change_32 rfl rfl ?_
    refine z_iload_n (pc := 33) C 2 dX8_change_33 rfl rfl ?_
    refine z_putII (pc := 34) C dX8_change_34 fX8_21 (shW hw) rfl ?_
    refine z_goto (pc := 37) C 78 dX8_change_37 (by decide) ?_
    refine z_return (pc := 78) C K dX8_change_78 ?_
    refine ⟨rfl, ?_⟩
    exact (if_pos s1_0).symm
  by_cases s1_1 : t = 1
  · refine z_tswIn (pc := 1) C (1) 40 dX8_change_1 (by rw [s1_1]; rfl) (by decide) (by decide) rfl (by decide) ?_
    refine z_aload_n (pc := 40) C 0 dX8_change_40 rfl rfl ?_
    refine z_iload_n (pc := 41) C 2 dX8_change_41 rfl rfl ?_
    refine z_putII (pc := 42) C dX8_change_42 fX8_24 (shW hw) rfl ?_
    refine z_goto (pc := 45) C 78 dX8_change_45 (by decide) ?_
    refine z_return (pc := 78) C K dX8_change_78 ?_
    refine ⟨rfl, ?_⟩
    rw [if_neg s1_0, if_pos s1_1]
  by_cases s1_2 : t = 2
  · refine z_tswIn (pc := 1) C (2) 48 dX8_change_1 (by rw [s1_2]; rfl) (by decide) (by decide) rfl (by decide) ?_
    refine z_aload_n (pc := 48) C 0 dX8_change_48 rfl rfl ?_
    refine z_iload_n (pc := 49) C 2 dX8_change_49 rfl rfl ?_
    refine z_putII (pc := 50) C dX8_change_50 fX8_27 (shW hw) rfl ?_
    refine z_goto (pc := 53) C 78 dX8_change_53 (by decide) ?_
    refine z_return (pc := 78) C K dX8_change_78 ?_
    refine ⟨rfl, ?_⟩
    rw [if_neg s1_0, if_neg s1_1, if_pos s1_2]
  by_cases s1_3 : t = 3
  · refine z_tswIn (pc := 1) C (3) 56 dX8_change_1 (by rw [s1_3]; rfl) (by decide) (by decide) rfl (by decide) ?_
    refine z_aload_n (pc := 56) C 0 dX8_change_56 rfl rfl ?_
    refine z_iload_n (pc := 57) C 2 dX8_change_57 rfl rfl ?_
    refine z_putII (pc := 58) C dX8_change_58 fX8_30 (shW hw) rfl ?_
    refine z_goto (pc := 61) C 78 dX8_change_61 (by decide) ?_
    refine z_return (pc := 78) C K dX8_change_78 ?_
    refine ⟨rfl, ?_⟩
    rw [if_neg s1_0, if_neg s1_1, if_neg s1_2, if_pos s1_3]
  refine z_tswOut (pc := 1) C 64 dX8_change_1 (by have g0 := lv_neT (a := 0) s1_0 rfl; have g1 := lv_neT (a := 1) s1_1 rfl; have g2 := lv_neT (a := 2) s1_2 rfl; have g3 := lv_neT (a := 3) s1_3 rfl; omega) (by decide) ?_
  refine z_aload_n (pc := 64) C 0 dX8_change_64 rfl rfl ?_
  refine z_iload_n (pc := 65) C 2 dX8_change_65 rfl rfl ?_
  refine z_iconst (pc := 66) (v := 1) C dX8_change_66 rfl ?_
  refine z_icmp_ne (pc := 67) C 74 dX8_change_67 (by decide) (fun c67 => ?_) (fun c67 => ?_)
  · refine z_iconst (pc := 74) (v := 0) C dX8_change_74 rfl ?_
    refine z_putZ (pc := 75) C dX8_change_75 fX8_33 (shW hw) rfl (Or.inl rfl) ?_
    refine z_return (pc := 78) C K dX8_change_78 ?_
    refine ⟨rfl, ?_⟩
    rw [if_neg s1_0, if_neg s1_1, if_neg s1_2, if_neg s1_3, if_neg c67]
  · refine z_iconst (pc := 70) (v := 1) C dX8_change_70 rfl ?_
    refine z_goto (pc := 71) C 75 dX8_change_71 (by decide) ?_
    refine z_putZ (pc := 75) C dX8_change_75 fX8_33 (shW hw) rfl (Or.inr rfl) ?_
    refine z_return (pc := 78) C K dX8_change_78 ?_
    refine ⟨rfl, ?_⟩
    rw [if_neg s1_0, if_neg s1_1, if_neg s1_2, if_neg s1_3, if_pos c67]

set_option maxHeartbeats 4000000 in
set_option maxRecDepth 100000 in
theorem mX8_lawOf {l : Launch} {G : zG} {b : Nat} {M : zM} {w : Nat} (hw : w < 14) {k : Nat} (hk : k < 3) : zMet l G b yX8_lawOf cX8_lawOf 2 (some .int) 0 zshL zshL [.ref (b + adW w), .int (nI k)] M (zI (fun r M' => r = M 6 w 0 k ∧ M' = M)) := by
  refine zMet.of (L0 := [some (.ref (b + adW w)), some (.int (nI k))]) (by decide +kernel) (Nat.le_refl _) (Nat.le_refl _) (Nat.le_of_ble_eq_true rfl) (List.forall_mem_cons.mpr ⟨rfl, List.forall_mem_cons.mpr ⟨rfl, fun _ h => absurd h List.not_mem_nil⟩⟩) rfl (fun X C Al K => ?_)
  refine z_iload_n (pc := 0) C 1 dX8_lawOf_0 rfl rfl ?_
  refine z_if_lt (pc := 1) C 18 dX8_lawOf_1 (by decide) (fun c1 => absurd c1 (nI_pos (by omega))) (fun c1 => ?_)
  refine z_iload_n (pc := 4) C 1 dX8_lawOf_4 rfl rfl ?_
  refine z_iconst (pc := 5) (v := 3) C dX8_lawOf_5 rfl ?_
  refine z_icmp_ge (pc := 6) C 18 dX8_lawOf_6 (by decide) (fun c6 => absurd c6 (nI_ge (b := 3) (by omega) (by omega))) (fun c6 => ?_)
  refine z_aload_n (pc := 9) C 0 dX8_lawOf_9 rfl rfl ?_
  refine z_getR (pc := 10) (r := adW w + 2) C dX8_lawOf_10 fX8_46 (shW hw) rfl ?_
  refine z_iload_n (pc := 13) C 1 dX8_lawOf_13 rfl rfl ?_
  refine z_iald (pc := 14) (n := k) C dX8_lawOf_14 (shLw hw) (vp_in_nI (by omega) (by omega)) (nI_clamp (by omega)) ?_
  refine z_goto (pc := 15) C 19 dX8_lawOf_15 (by decide) ?_
  refine z_ireturn (pc := 19) C K dX8_lawOf_19 ?_
  exact ⟨_, rfl, rfl, rfl⟩

def pNew (k d w b : Int32) : Nat → Int32 := fun f => if f = 0 then k else if f = 1 then d else if f = 2 then w else if f = 3 then b else if f = 4 then 0 else if f = 5 then 99 else 1
set_option maxHeartbeats 4000000 in
set_option maxRecDepth 100000 in
theorem mX8_welcome {l : Launch} {G : zG} {b : Nat} {M : zM} {w n : Nat} (hw : w < 14) (hn : M 5 w 0 2 = nI n) (hn8 : n < 8) {k d g e : Int32} : zMet l G b yX8_welcome cX8_welcome 7 (some .int) 1 zshL zshL [.ref (b + adW w), .int k, .int d, .int g, .int e] M (zI (fun r M' => r = nI n ∧ M' = zu (pPut M w n (fun f => if f < 7 then pNew k d g e f else M 1 w n f)) 5 w 0 2 (nI (n + 1)))) := by
  refine zMet.of (L0 := [some (.ref (b + adW w)), some (.int k), some (.int d), some (.int g), some (.int e), none, none]) (by decide +kernel) (Nat.le_refl _) (Nat.le_refl _) (Nat.le_of_ble_eq_true rfl) (List.forall_mem_cons.mpr ⟨rfl, List.forall_mem_cons.mpr ⟨rfl, List.forall_mem_cons.mpr ⟨rfl, List.forall_mem_cons.mpr ⟨rfl, List.forall_mem_cons.mpr ⟨rfl, fun _ h => absurd h List.not_mem_nil⟩⟩⟩⟩⟩) rfl (fun X C Al K => ?_)
  refine z_aload_n (pc := 0) C 0 dX8_welcome_0 rfl rfl ?_
  refine z_getI (pc := 1) C dX8_welcome_1 fX8_17 (shW hw) rfl ?_
  rw [hn]
  refine z_istore (pc := 4) C 5 dX8_welcome_4 (by decide) rfl ?_
  refine z_aload_n (pc := 6) C 0 dX8_welcome_6 rfl rfl ?_
  refine z_getR (pc := 7) (r := adW w + 1) C dX8_welcome_7 fX8_11 (shW hw) rfl ?_
  refine z_iload (pc := 10) C 5 dX8_welcome_10 rfl ?_
  refine z_aald (pc := 12) (r := adP w n) C dX8_welcome_12 (shPa hw) rfl rfl (pin hn8) (pget hn8) ?_
  refine z_astore (pc := 13) C 6 dX8_welcome_13 (by decide) rfl ?_
  refine z_aload (pc := 15) C 6 dX8_welcome_15 rfl ?_
  refine z_iload_n (pc := 17) C 1 dX8_welcome_17 rfl rfl ?_
  refine z_putII (pc := 18) C dX8_welcome_18 fX8_70 (shP (okP_w hw hn8)) rfl ?_
  refine z_aload (pc := 21) C 6 dX8_welcome_21 rfl ?_
  refine z_iload_n (pc := 23) C 2 dX8_welcome_23 rfl rfl ?_
  refine z_putII (pc := 24) C dX8_welcome_24 fX8_73 (shP (okP_w hw hn8)) rfl ?_
  refine z_aload (pc := 27) C 6 dX8_welcome_27 rfl ?_
  refine z_iload_n (pc := 29) C 3 dX8_welcome_29 rfl rfl ?_
  refine z_putII (pc := 30) C dX8_welcome_30 fX8_76 (shP (okP_w hw hn8)) rfl ?_
  refine z_aload (pc := 33) C 6 dX8_welcome_33 rfl ?_
  refine z_iload (pc := 35) C 4 dX8_welcome_35 rfl ?_
  refine z_putII (pc := 37) C dX8_welcome_37 fX8_79 (shP (okP_w hw hn8)) rfl ?_
  refine z_aload (pc := 40) C 6 dX8_welcome_40 rfl ?_
  refine z_iconst (pc := 42) (v := 1) C dX8_welcome_42 rfl ?_
  refine z_putZ (pc := 43) C dX8_welcome_43 fX8_82 (shP (okP_w hw hn8)) rfl (Or.inr rfl) ?_
  refine z_aload (pc := 46) C 6 dX8_welcome_46 rfl ?_
  refine z_callVv (pc := 48) C dX8_welcome_48 kX8_85 (mX0_believeAll (okP_w hw hn8)) (by decide) (shP (okP_w hw hn8)) rfl rfl rfl (Nat.le_of_ble_eq_true rfl) (fun M48 h48 => ?_)
  subst h48
  simp only [pPut_zu, pPut_pPut, pPut_at]
  refine z_aload_n (pc := 51) C 0 dX8_welcome_51 rfl rfl ?_
  refine z_dup (pc := 52) C dX8_welcome_52 rfl ?_
  refine z_getI (pc := 53) C dX8_welcome_53 fX8_17 (shW hw) rfl ?_
  refine z_iconst (pc := 56) (v := 1) C dX8_welcome_56 rfl ?_
  rw [pPut_o (by decide), hn]
  refine z_iadd (pc := 57) C dX8_welcome_57 ?_
  rw [nI_1]
  refine z_putII (pc := 58) C dX8_welcome_58 fX8_17 (shW hw) rfl ?_
  refine z_iload (pc := 61) C 5 dX8_welcome_61 rfl ?_
  refine z_ireturn (pc := 63) C K dX8_welcome_63 ?_
  refine ⟨_, rfl, rfl, ?_⟩
  congr 1
  refine congrArg (pPut M w n) (funext fun f => ?_)
  unfold pNew
  rcases (show f = 0 ∨ f = 1 ∨ f = 2 ∨ f = 3 ∨ f = 4 ∨ f = 5 ∨ f = 6 ∨ 7 ≤ f by omega) with rfl | rfl | rfl | rfl | rfl | rfl | rfl | hf
  · simp
  · simp
  · simp
  · simp
  · simp
  · simp
  · simp
  · simp [show ¬ f < 7 by omega, show ¬ f = 0 by omega, show ¬ f = 1 by omega, show ¬ f = 2 by omega, show ¬ f = 3 by omega, show ¬ f = 4 by omega, show ¬ f = 5 by omega, show ¬ f = 6 by omega]

def zdraw (z : Int32) : Int32 := z * 1103515245 + 12345
set_option maxHeartbeats 4000000 in
set_option maxRecDepth 100000 in
theorem mX8_draw {l : Launch} {G : zG} {b : Nat} {M : zM} {w : Nat} (hw : w < 14) : zMet l G b yX8_draw cX8_draw 1 (some .int) 0 zshL zshL [.ref (b + adW w)] M (zI (fun r M' => r = zushr (zdraw (M 5 w 0 9)) 8 ∧ M' = zu M 5 w 0 9 (zdraw (M 5 w 0 9)))) := by
  refine zMet.of (L0 := [some (.ref (b + adW w))]) (by decide +kernel) (Nat.le_refl _) (Nat.le_refl _) (Nat.le_of_ble_eq_true rfl) (List.forall_mem_cons.mpr ⟨rfl, fun _ h => absurd h List.not_mem_nil⟩) rfl (fun X C Al K => ?_)
  refine z_aload_n (pc := 0) C 0 dX8_draw_0 rfl rfl ?_
  refine z_aload_n (pc := 1) C 0 dX8_draw_1 rfl rfl ?_
  refine z_getI (pc := 2) C dX8_draw_2 fX8_40 (shW hw) rfl ?_
  refine z_ldc (pc := 5) C q2_192 dX8_draw_5 ?_
  refine z_imul (pc := 7) C dX8_draw_7 ?_
  refine z_sipush (pc := 8) (v := 12345) C dX8_draw_8 rfl ?_
  refine z_iadd (pc := 11) C dX8_draw_11 ?_
  refine z_putII (pc := 12) C dX8_draw_12 fX8_40 (shW hw) rfl ?_
  refine z_aload_n (pc := 15) C 0 dX8_draw_15 rfl rfl ?_
  refine z_getI (pc := 16) C dX8_draw_16 fX8_40 (shW hw) rfl ?_
  refine z_bipush (pc := 19) (v := 8) C dX8_draw_19 rfl ?_
  refine z_iushr (pc := 21) C dX8_draw_21 ?_
  refine z_ireturn (pc := 22) C K dX8_draw_22 ?_
  refine ⟨_, rfl, ?_, rfl⟩
  rw [zu_self]
  rfl

set_option maxHeartbeats 4000000 in
set_option maxRecDepth 100000 in
theorem mX10_draw {l : Launch} {G : zG} {b : Nat} {M : zM} : zMet l G b yX10_draw cX10_draw 1 (some .int) 0 zshL zshL [.ref (b + 239)] M (zI (fun r M' => r = zushr (zdraw (M 31 0 0 0)) 8 ∧ M' = zu M 31 0 0 0 (zdraw (M 31 0 0 0)))) := by
  refine zMet.of (L0 := [some (.ref (b + 239))]) (by decide +kernel) (Nat.le_refl _) (Nat.le_refl _) (Nat.le_of_ble_eq_true rfl) (List.forall_mem_cons.mpr ⟨rfl, fun _ h => absurd h List.not_mem_nil⟩) rfl (fun X C Al K => ?_)
  refine z_aload_n (pc := 0) C 0 dX10_draw_0 rfl rfl ?_
  refine z_getR (pc := 1) (r := 240) C dX10_draw_1 fX10_9 sh_239 rfl ?_
  refine z_iconst (pc := 4) (v := 0) C dX10_draw_4 rfl ?_
  refine z_aload_n (pc := 5) C 0 dX10_draw_5 rfl rfl ?_
  refine z_getR (pc := 6) (r := 240) C dX10_draw_6 fX10_9 sh_239 rfl ?_
  refine z_iconst (pc := 9) (v := 0) C dX10_draw_9 rfl ?_
  refine z_iald (pc := 10) (n := 0) C dX10_draw_10 sh_240 (zi_in.mpr (by decide)) rfl ?_
  refine z_ldc (pc := 11) C q5_134 dX10_draw_11 ?_
  refine z_imul (pc := 13) C dX10_draw_13 ?_
  refine z_sipush (pc := 14) (v := 12345) C dX10_draw_14 rfl ?_
  refine z_iadd (pc := 17) C dX10_draw_17 ?_
  refine z_iast (pc := 18) (n := 0) C dX10_draw_18 sh_240 (zi_in.mpr (by decide)) rfl ?_
  refine z_aload_n (pc := 19) C 0 dX10_draw_19 rfl rfl ?_
  refine z_getR (pc := 20) (r := 240) C dX10_draw_20 fX10_9 sh_239 rfl ?_
  refine z_iconst (pc := 23) (v := 0) C dX10_draw_23 rfl ?_
  refine z_iald (pc := 24) (n := 0) C dX10_draw_24 sh_240 (zi_in.mpr (by decide)) rfl ?_
  refine z_bipush (pc := 25) (v := 8) C dX10_draw_25 rfl ?_
  refine z_iushr (pc := 27) C dX10_draw_27 ?_
  refine z_ireturn (pc := 28) C K dX10_draw_28 ?_
  refine ⟨_, rfl, ?_, rfl⟩
  rw [zu_self]
  rfl
