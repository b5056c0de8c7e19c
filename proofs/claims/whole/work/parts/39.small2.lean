/-! small methods, further -/
set_option maxHeartbeats 4000000 in
set_option maxRecDepth 100000 in
theorem mX9_isOne {l : Launch} {G : zG} {b : Nat} {M : zM} {x : Int32} {n : Nat} (hn : M 5 0 0 2 = nI n) (hn8 : n ≤ 8) : zMet l G b yX9_isOne cX9_isOne 2 (some .boolean) 0 zshL zshL [.ref (b + 0), .int x] M (zI (fun r M' => zb r (iin x 0 ((n : Int) - 1)) ∧ M' = M)) := by
  refine zMet.of (L0 := [some (.ref (b + 0)), some (.int x)]) (by decide +kernel) (Nat.le_refl _) (Nat.le_refl _) (Nat.le_of_ble_eq_true rfl) (List.forall_mem_cons.mpr ⟨rfl, List.forall_mem_cons.mpr ⟨rfl, fun _ h => absurd h List.not_mem_nil⟩⟩) rfl (fun X C Al K => ?_)
  refine z_iload_n (pc := 0) C 1 dX9_isOne_0 rfl rfl ?_
  refine z_if_lt (pc := 1) C 19 dX9_isOne_1 (by decide) (fun c1 => ?_) (fun c1 => ?_)
  · refine z_iconst (pc := 19) (v := 0) C dX9_isOne_19 rfl ?_
    refine z_zreturn (pc := 20) C K dX9_isOne_20 (Or.inl rfl) ?_
    refine ⟨_, rfl, Or.inr ⟨rfl, ?_⟩, rfl⟩
    have hni : (nI n).toInt = n := nI_toInt (by omega)
    simp only [zi_lt, zi_le, zi_eq, i0, i1, i2, i3, i4, i5, i6, i9, i20, i99, i100, im5, im20, im1] at c1
    unfold iin
    omega
  · refine z_iload_n (pc := 4) C 1 dX9_isOne_4 rfl rfl ?_
    refine z_aload_n (pc := 5) C 0 dX9_isOne_5 rfl rfl ?_
    refine z_getR (pc := 6) (r := adW 0) C dX9_isOne_6 fX9_21 sh_0 rfl ?_
    refine z_getI (pc := 9) C dX9_isOne_9 fX9_88 (shW lt0_14) rfl ?_
    rw [hn]
    refine z_icmp_ge (pc := 12) C 19 dX9_isOne_12 (by decide) (fun c12 => ?_) (fun c12 => ?_)
    · refine z_iconst (pc := 19) (v := 0) C dX9_isOne_19 rfl ?_
      refine z_zreturn (pc := 20) C K dX9_isOne_20 (Or.inl rfl) ?_
      refine ⟨_, rfl, Or.inr ⟨rfl, ?_⟩, rfl⟩
      have hni : (nI n).toInt = n := nI_toInt (by omega)
      simp only [zi_lt, zi_le, zi_eq, i0, i1, i2, i3, i4, i5, i6, i9, i20, i99, i100, im5, im20, im1] at c1 c12
      unfold iin
      omega
    · refine z_iconst (pc := 15) (v := 1) C dX9_isOne_15 rfl ?_
      refine z_goto (pc := 16) C 20 dX9_isOne_16 (by decide) ?_
      refine z_zreturn (pc := 20) C K dX9_isOne_20 (Or.inr rfl) ?_
      refine ⟨_, rfl, Or.inl ⟨rfl, ?_⟩, rfl⟩
      have hni : (nI n).toInt = n := nI_toInt (by omega)
      simp only [zi_lt, zi_le, zi_eq, i0, i1, i2, i3, i4, i5, i6, i9, i20, i99, i100, im5, im20, im1] at c1 c12
      unfold iin
      omega

def sUn (k x : Int32) : Prop := x.toInt = 0 ∨ k.toInt = x.toInt ∨ (x.toInt = 1 ∧ k.toInt = 3) ∨ (x.toInt = 2 ∧ k.toInt = 4)
theorem k05 {k : Int32} (h : iin k 0 5) : k = 0 ∨ k = 1 ∨ k = 2 ∨ k = 3 ∨ k = 4 ∨ k = 5 := by
  unfold iin at h
  simp only [zi_eq, i0, i1, i2, i3, i4, i5]
  omega
set_option maxHeartbeats 4000000 in
set_option maxRecDepth 100000 in
theorem mX0_isOf {l : Launch} {G : zG} {b : Nat} {M : zM} {w i : Nat} (hp : okP w i) (hk : iin (M 1 w i 0) 0 5) {x : Int32} : zMet l G b yX0_isOf cX0_isOf 4 (some .boolean) 0 zshL zshL [.ref (b + adP w i), .int x] M (zI (fun r M' => zb r (sUn (M 1 w i 0) x) ∧ M' = M)) := by
  refine zMet.of (L0 := [some (.ref (b + adP w i)), some (.int x), none, none]) (by decide +kernel) (Nat.le_refl _) (Nat.le_refl _) (Nat.le_of_ble_eq_true rfl) (List.forall_mem_cons.mpr ⟨rfl, List.forall_mem_cons.mpr ⟨rfl, fun _ h => absurd h List.not_mem_nil⟩⟩) rfl (fun X C Al K => ?_)
  rcases k05 hk with hk | hk | hk | hk | hk | hk
  · refine z_aload_n (pc := 0) C 0 dX0_isOf_0 rfl rfl ?_
    refine z_getI (pc := 1) C dX0_isOf_1 fX0_25 (shP hp) rfl ?_
    rw [hk]
    refine z_istore_n (pc := 4) C 2 dX0_isOf_4 rfl (by decide) rfl ?_
    refine z_iconst (pc := 5) (v := 0) C dX0_isOf_5 rfl ?_
    refine z_istore_n (pc := 6) C 3 dX0_isOf_6 rfl (by decide) rfl ?_
    refine z_iload_n (pc := 7) C 3 dX0_isOf_7 rfl rfl ?_
    refine z_bipush (pc := 8) (v := 6) C dX0_isOf_8 rfl ?_
    refine z_icmp_ge (pc := 10) C 42 dX0_isOf_10 (by decide) (fun c10 => absurd c10 (by decide)) (fun c10 => ?_)
    refine z_iload_n (pc := 13) C 2 dX0_isOf_13 rfl rfl ?_
    refine z_if_lt (pc := 14) C 42 dX0_isOf_14 (by decide) (fun c14 => absurd c14 (by decide)) (fun c14 => ?_)
    refine z_iload_n (pc := 17) C 2 dX0_isOf_17 rfl rfl ?_
    refine z_bipush (pc := 18) (v := 6) C dX0_isOf_18 rfl ?_
    refine z_icmp_ge (pc := 20) C 42 dX0_isOf_20 (by decide) (fun c20 => absurd c20 (by decide)) (fun c20 => ?_)
    refine z_iload_n (pc := 23) C 2 dX0_isOf_23 rfl rfl ?_
    refine z_iload_n (pc := 24) C 1 dX0_isOf_24 rfl rfl ?_
    refine z_icmp_ne (pc := 25) C 30 dX0_isOf_25 (by decide) (fun c25_1 => ?_) (fun c25_1 => ?_)
    · refine z_above (pc := 30) C dX0_isOf_30 ?_
      refine z_iload_n (pc := 33) C 2 dX0_isOf_33 rfl rfl ?_
      refine z_aboveld (pc := 34) C dX0_isOf_34 (zi_in.mpr (by decide)) ?_
      show zW _ _ _ _ _ (.int (-1) :: _)
      refine z_istore_n (pc := 35) C 2 dX0_isOf_35 rfl (by decide) rfl ?_
      refine z_iinc (pc := 36) (v := 1) C 3 dX0_isOf_36 (by decide) rfl rfl rfl ?_
      refine z_goto (pc := 39) C 7 dX0_isOf_39 (by decide) ?_
      refine z_iload_n (pc := 7) C 3 dX0_isOf_7 rfl rfl ?_
      refine z_bipush (pc := 8) (v := 6) C dX0_isOf_8 rfl ?_
      refine z_icmp_ge (pc := 10) C 42 dX0_isOf_10 (by decide) (fun c10 => absurd c10 (by decide)) (fun c10 => ?_)
      refine z_iload_n (pc := 13) C 2 dX0_isOf_13 rfl rfl ?_
      refine z_if_lt (pc := 14) C 42 dX0_isOf_14 (by decide) (fun c14 => ?_) (fun c14 => absurd c14 (by decide))
      refine z_iconst (pc := 42) (v := 0) C dX0_isOf_42 rfl ?_
      refine z_zreturn (pc := 43) C K dX0_isOf_43 (Or.inl rfl) ?_
      refine ⟨_, rfl, Or.inr ⟨rfl, ?_⟩, rfl⟩
      simp only [zi_lt, zi_le, zi_eq, i0, i1, i2, i3, i4, i5, i6, i9, i20, i99, i100, im5, im20, im1] at c25_1
      unfold sUn
      rw [hk]
      simp only [zi_lt, zi_le, zi_eq, i0, i1, i2, i3, i4, i5, i6, i9, i20, i99, i100, im5, im20, im1, and_true]
      omega
    · refine z_iconst (pc := 28) (v := 1) C dX0_isOf_28 rfl ?_
      refine z_zreturn (pc := 29) C K dX0_isOf_29 (Or.inr rfl) ?_
      refine ⟨_, rfl, Or.inl ⟨rfl, ?_⟩, rfl⟩
      simp only [zi_lt, zi_le, zi_eq, i0, i1, i2, i3, i4, i5, i6, i9, i20, i99, i100, im5, im20, im1] at c25_1
      unfold sUn
      rw [hk]
      simp only [zi_lt, zi_le, zi_eq, i0, i1, i2, i3, i4, i5, i6, i9, i20, i99, i100, im5, im20, im1, and_true]
      omega
  · refine z_aload_n (pc := 0) C 0 dX0_isOf_0 rfl rfl ?_
    refine z_getI (pc := 1) C dX0_isOf_1 fX0_25 (shP hp) rfl ?_
    rw [hk]
    refine z_istore_n (pc := 4) C 2 dX0_isOf_4 rfl (by decide) rfl ?_
    refine z_iconst (pc := 5) (v := 0) C dX0_isOf_5 rfl ?_
    refine z_istore_n (pc := 6) C 3 dX0_isOf_6 rfl (by decide) rfl ?_
    refine z_iload_n (pc := 7) C 3 dX0_isOf_7 rfl rfl ?_
    refine z_bipush (pc := 8) (v := 6) C dX0_isOf_8 rfl ?_
    refine z_icmp_ge (pc := 10) C 42 dX0_isOf_10 (by decide) (fun c10 => absurd c10 (by decide)) (fun c10 => ?_)
    refine z_iload_n (pc := 13) C 2 dX0_isOf_13 rfl rfl ?_
    refine z_if_lt (pc := 14) C 42 dX0_isOf_14 (by decide) (fun c14 => absurd c14 (by decide)) (fun c14 => ?_)
    refine z_iload_n (pc := 17) C 2 dX0_isOf_17 rfl rfl ?_
    refine z_bipush (pc := 18) (v := 6) C dX0_isOf_18 rfl ?_
    refine z_icmp_ge (pc := 20) C 42 dX0_isOf_20 (by decide) (fun c20 => absurd c20 (by decide)) (fun c20 => ?_)
    refine z_iload_n (pc := 23) C 2 dX0_isOf_23 rfl rfl ?_
    refine z_iload_n (pc := 24) C 1 dX0_isOf_24 rfl rfl ?_
    refine z_icmp_ne (pc := 25) C 30 dX0_isOf_25 (by decide) (fun c25_1 => ?_) (fun c25_1 => ?_)
    · refine z_above (pc := 30) C dX0_isOf_30 ?_
      refine z_iload_n (pc := 33) C 2 dX0_isOf_33 rfl rfl ?_
      refine z_aboveld (pc := 34) C dX0_isOf_34 (zi_in.mpr (by decide)) ?_
      show zW _ _ _ _ _ (.int (0) :: _)
      refine z_istore_n (pc := 35) C 2 dX0_isOf_35 rfl (by decide) rfl ?_
      refine z_iinc (pc := 36) (v := 1) C 3 dX0_isOf_36 (by decide) rfl rfl rfl ?_
      refine z_goto (pc := 39) C 7 dX0_isOf_39 (by decide) ?_
      refine z_iload_n (pc := 7) C 3 dX0_isOf_7 rfl rfl ?_
      refine z_bipush (pc := 8) (v := 6) C dX0_isOf_8 rfl ?_
      refine z_icmp_ge (pc := 10) C 42 dX0_isOf_10 (by decide) (fun c10 => absurd c10 (by decide)) (fun c10 => ?_)
      refine z_iload_n (pc := 13) C 2 dX0_isOf_13 rfl rfl ?_
      refine z_if_lt (pc := 14) C 42 dX0_isOf_14 (by decide) (fun c14 => absurd c14 (by decide)) (fun c14 => ?_)
      refine z_iload_n (pc := 17) C 2 dX0_isOf_17 rfl rfl ?_
      refine z_bipush (pc := 18) (v := 6) C dX0_isOf_18 rfl ?_
      refine z_icmp_ge (pc := 20) C 42 dX0_isOf_20 (by decide) (fun c20 => absurd c20 (by decide)) (fun c20 => ?_)
      refine z_iload_n (pc := 23) C 2 dX0_isOf_23 rfl rfl ?_
      refine z_iload_n (pc := 24) C 1 dX0_isOf_24 rfl rfl ?_
      refine z_icmp_ne (pc := 25) C 30 dX0_isOf_25 (by decide) (fun c25_2 => ?_) (fun c25_2 => ?_)
      · refine z_above (pc := 30) C dX0_isOf_30 ?_
        refine z_iload_n (pc := 33) C 2 dX0_isOf_33 rfl rfl ?_
        refine z_aboveld (pc := 34) C dX0_isOf_34 (zi_in.mpr (by decide)) ?_
        show zW _ _ _ _ _ (.int (-1) :: _)
        refine z_istore_n (pc := 35) C 2 dX0_isOf_35 rfl (by decide) rfl ?_
        refine z_iinc (pc := 36) (v := 1) C 3 dX0_isOf_36 (by decide) rfl rfl rfl ?_
        refine z_goto (pc := 39) C 7 dX0_isOf_39 (by decide) ?_
        refine z_iload_n (pc := 7) C 3 dX0_isOf_7 rfl rfl ?_
        refine z_bipush (pc := 8) (v := 6) C dX0_isOf_8 rfl ?_
        refine z_icmp_ge (pc := 10) C 42 dX0_isOf_10 (by decide) (fun c10 => absurd c10 (by decide)) (fun c10 => ?_)
        refine z_iload_n (pc := 13) C 2 dX0_isOf_13 rfl rfl ?_
        refine z_if_lt (pc := 14) C 42 dX0_isOf_14 (by decide) (fun c14 => ?_) (fun c14 => absurd c14 (by decide))
        refine z_iconst (pc := 42) (v := 0) C dX0_isOf_42 rfl ?_
        refine z_zreturn (pc := 43) C K dX0_isOf_43 (Or.inl rfl) ?_
        refine ⟨_, rfl, Or.inr ⟨rfl, ?_⟩, rfl⟩
        simp only [zi_lt, zi_le, zi_eq, i0, i1, i2, i3, i4, i5, i6, i9, i20, i99, i100, im5, im20, im1] at c25_1 c25_2
        unfold sUn
        rw [hk]
        simp only [zi_lt, zi_le, zi_eq, i0, i1, i2, i3, i4, i5, i6, i9, i20, i99, i100, im5, im20, im1, and_true]
        omega
      · refine z_iconst (pc := 28) (v := 1) C dX0_isOf_28 rfl ?_
        refine z_zreturn (pc := 29) C K dX0_isOf_29 (Or.inr rfl) ?_
        refine ⟨_, rfl, Or.inl ⟨rfl, ?_⟩, rfl⟩
        simp only [zi_lt, zi_le, zi_eq, i0, i1, i2, i3, i4, i5, i6, i9, i20, i99, i100, im5, im20, im1] at c25_1 c25_2
        unfold sUn
        rw [hk]
        simp only [zi_lt, zi_le, zi_eq, i0, i1, i2, i3, i4, i5, i6, i9, i20, i99, i100, im5, im20, im1, and_true]
        omega
    · refine z_iconst (pc := 28) (v := 1) C dX0_isOf_28 rfl ?_
      refine z_zreturn (pc := 29) C K dX0_isOf_29 (Or.inr rfl) ?_
      refine ⟨_, rfl, Or.inl ⟨rfl, ?_⟩, rfl⟩
      simp only [zi_lt, zi_le, zi_eq, i0, i1, i2, i3, i4, i5, i6, i9, i20, i99, i100, im5, im20, im1] at c25_1
      unfold sUn
      rw [hk]
      simp only [zi_lt, zi_le, zi_eq, i0, i1, i2, i3, i4, i5, i6, i9, i20, i99, i100, im5, im20, im1, and_true]
      omega
  · refine z_aload_n (pc := 0) C 0 dX0_isOf_0 rfl rfl ?_
    refine z_getI (pc := 1) C dX0_isOf_1 fX0_25 (shP hp) rfl ?_
    rw [hk]
    refine z_istore_n (pc := 4) C 2 dX0_isOf_4 rfl (by decide) rfl ?_
    refine z_iconst (pc := 5) (v := 0) C dX0_isOf_5 rfl ?_
    refine z_istore_n (pc := 6) C 3 dX0_isOf_6 rfl (by decide) rfl ?_
    refine z_iload_n (pc := 7) C 3 dX0_isOf_7 rfl rfl ?_
    refine z_bipush (pc := 8) (v := 6) C dX0_isOf_8 rfl ?_
    refine z_icmp_ge (pc := 10) C 42 dX0_isOf_10 (by decide) (fun c10 => absurd c10 (by decide)) (fun c10 => ?_)
    refine z_iload_n (pc := 13) C 2 dX0_isOf_13 rfl rfl ?_
    refine z_if_lt (pc := 14) C 42 dX0_isOf_14 (by decide) (fun c14 => absurd c14 (by decide)) (fun c14 => ?_)
    refine z_iload_n (pc := 17) C 2 dX0_isOf_17 rfl rfl ?_
    refine z_bipush (pc := 18) (v := 6) C dX0_isOf_18 rfl ?_
    refine z_icmp_ge (pc := 20) C 42 dX0_isOf_20 (by decide) (fun c20 => absurd c20 (by decide)) (fun c20 => ?_)
    refine z_iload_n (pc := 23) C 2 dX0_isOf_23 rfl rfl ?_
    refine z_iload_n (pc := 24) C 1 dX0_isOf_24 rfl rfl ?_
    refine z_icmp_ne (pc := 25) C 30 dX0_isOf_25 (by decide) (fun c25_1 => ?_) (fun c25_1 => ?_)
    · refine z_above (pc := 30) C dX0_isOf_30 ?_
      refine z_iload_n (pc := 33) C 2 dX0_isOf_33 rfl rfl ?_
      refine z_aboveld (pc := 34) C dX0_isOf_34 (zi_in.mpr (by decide)) ?_
      show zW _ _ _ _ _ (.int (0) :: _)
      refine z_istore_n (pc := 35) C 2 dX0_isOf_35 rfl (by decide) rfl ?_
      refine z_iinc (pc := 36) (v := 1) C 3 dX0_isOf_36 (by decide) rfl rfl rfl ?_
      refine z_goto (pc := 39) C 7 dX0_isOf_39 (by decide) ?_
      refine z_iload_n (pc := 7) C 3 dX0_isOf_7 rfl rfl ?_
      refine z_bipush (pc := 8) (v := 6) C dX0_isOf_8 rfl ?_
      refine z_icmp_ge (pc := 10) C 42 dX0_isOf_10 (by decide) (fun c10 => absurd c10 (by decide)) (fun c10 => ?_)
      refine z_iload_n (pc := 13) C 2 dX0_isOf_13 rfl rfl ?_
      refine z_if_lt (pc := 14) C 42 dX0_isOf_14 (by decide) (fun c14 => absurd c14 (by decide)) (fun c14 => ?_)
      refine z_iload_n (pc := 17) C 2 dX0_isOf_17 rfl rfl ?_
      refine z_bipush (pc := 18) (v := 6) C dX0_isOf_18 rfl ?_
      refine z_icmp_ge (pc := 20) C 42 dX0_isOf_20 (by decide) (fun c20 => absurd c20 (by decide)) (fun c20 => ?_)
      refine z_iload_n (pc := 23) C 2 dX0_isOf_23 rfl rfl ?_
      refine z_iload_n (pc := 24) C 1 dX0_isOf_24 rfl rfl ?_
      refine z_icmp_ne (pc := 25) C 30 dX0_isOf_25 (by decide) (fun c25_2 => ?_) (fun c25_2 => ?_)
      · refine z_above (pc := 30) C dX0_isOf_30 ?_
        refine z_iload_n (pc := 33) C 2 dX0_isOf_33 rfl rfl ?_
        refine z_aboveld (pc := 34) C dX0_isOf_34 (zi_in.mpr (by decide)) ?_
        show zW _ _ _ _ _ (.int (-1) :: _)
        refine z_istore_n (pc := 35) C 2 dX0_isOf_35 rfl (by decide) rfl ?_
        refine z_iinc (pc := 36) (v := 1) C 3 dX0_isOf_36 (by decide) rfl rfl rfl ?_
        refine z_goto (pc := 39) C 7 dX0_isOf_39 (by decide) ?_
        refine z_iload_n (pc := 7) C 3 dX0_isOf_7 rfl rfl ?_
        refine z_bipush (pc := 8) (v := 6) C dX0_isOf_8 rfl ?_
        refine z_icmp_ge (pc := 10) C 42 dX0_isOf_10 (by decide) (fun c10 => absurd c10 (by decide)) (fun c10 => ?_)
        refine z_iload_n (pc := 13) C 2 dX0_isOf_13 rfl rfl ?_
        refine z_if_lt (pc := 14) C 42 dX0_isOf_14 (by decide) (fun c14 => ?_) (fun c14 => absurd c14 (by decide))
        refine z_iconst (pc := 42) (v := 0) C dX0_isOf_42 rfl ?_
        refine z_zreturn (pc := 43) C K dX0_isOf_43 (Or.inl rfl) ?_
        refine ⟨_, rfl, Or.inr ⟨rfl, ?_⟩, rfl⟩
        simp only [zi_lt, zi_le, zi_eq, i0, i1, i2, i3, i4, i5, i6, i9, i20, i99, i100, im5, im20, im1] at c25_1 c25_2
        unfold sUn
        rw [hk]
        simp only [zi_lt, zi_le, zi_eq, i0, i1, i2, i3, i4, i5, i6, i9, i20, i99, i100, im5, im20, im1, and_true]
        omega
      · refine z_iconst (pc := 28) (v := 1) C dX0_isOf_28 rfl ?_
        refine z_zreturn (pc := 29) C K dX0_isOf_29 (Or.inr rfl) ?_
        refine ⟨_, rfl, Or.inl ⟨rfl, ?_⟩, rfl⟩
        simp only [zi_lt, zi_le, zi_eq, i0, i1, i2, i3, i4, i5, i6, i9, i20, i99, i100, im5, im20, im1] at c25_1 c25_2
        unfold sUn
        rw [hk]
        simp only [zi_lt, zi_le, zi_eq, i0, i1, i2, i3, i4, i5, i6, i9, i20, i99, i100, im5, im20, im1, and_true]
        omega
    · refine z_iconst (pc := 28) (v := 1) C dX0_isOf_28 rfl ?_
      refine z_zreturn (pc := 29) C K dX0_isOf_29 (Or.inr rfl) ?_
      refine ⟨_, rfl, Or.inl ⟨rfl, ?_⟩, rfl⟩
      simp only [zi_lt, zi_le, zi_eq, i0, i1, i2, i3, i4, i5, i6, i9, i20, i99, i100, im5, im20, im1] at c25_1
      unfold sUn
      rw [hk]
      simp only [zi_lt, zi_le, zi_eq, i0, i1, i2, i3, i4, i5, i6, i9, i20, i99, i100, im5, im20, im1, and_true]
      omega
  · refine z_aload_n (pc := 0) C 0 dX0_isOf_0 rfl rfl ?_
    refine z_getI (pc := 1) C dX0_isOf_1 fX0_25 (shP hp) rfl ?_
    rw [hk]
    refine z_istore_n (pc := 4) C 2 dX0_isOf_4 rfl (by decide) rfl ?_
    refine z_iconst (pc := 5) (v := 0) C dX0_isOf_5 rfl ?_
    refine z_istore_n (pc := 6) C 3 dX0_isOf_6 rfl (by decide) rfl ?_
    refine z_iload_n (pc := 7) C 3 dX0_isOf_7 rfl rfl ?_
    refine z_bipush (pc := 8) (v := 6) C dX0_isOf_8 rfl ?_
    refine z_icmp_ge (pc := 10) C 42 dX0_isOf_10 (by decide) (fun c10 => absurd c10 (by decide)) (fun c10 => ?_)
    refine z_iload_n (pc := 13) C 2 dX0_isOf_13 rfl rfl ?_
    refine z_if_lt (pc := 14) C 42 dX0_isOf_14 (by decide) (fun c14 => absurd c14 (by decide)) (fun c14 => ?_)
    refine z_iload_n (pc := 17) C 2 dX0_isOf_17 rfl rfl ?_
    refine z_bipush (pc := 18) (v := 6) C dX0_isOf_18 rfl ?_
    refine z_icmp_ge (pc := 20) C 42 dX0_isOf_20 (by decide) (fun c20 => absurd c20 (by decide)) (fun c20 => ?_)
    refine z_iload_n (pc := 23) C 2 dX0_isOf_23 rfl rfl ?_
    refine z_iload_n (pc := 24) C 1 dX0_isOf_24 rfl rfl ?_
    refine z_icmp_ne (pc := 25) C 30 dX0_isOf_25 (by decide) (fun c25_1 => ?_) (fun c25_1 => ?_)
    · refine z_above (pc := 30) C dX0_isOf_30 ?_
      refine z_iload_n (pc := 33) C 2 dX0_isOf_33 rfl rfl ?_
      refine z_aboveld (pc := 34) C dX0_isOf_34 (zi_in.mpr (by decide)) ?_
      show zW _ _ _ _ _ (.int (1) :: _)
      refine z_istore_n (pc := 35) C 2 dX0_isOf_35 rfl (by decide) rfl ?_
      refine z_iinc (pc := 36) (v := 1) C 3 dX0_isOf_36 (by decide) rfl rfl rfl ?_
      refine z_goto (pc := 39) C 7 dX0_isOf_39 (by decide) ?_
      refine z_iload_n (pc := 7) C 3 dX0_isOf_7 rfl rfl ?_
      refine z_bipush (pc := 8) (v := 6) C dX0_isOf_8 rfl ?_
      refine z_icmp_ge (pc := 10) C 42 dX0_isOf_10 (by decide) (fun c10 => absurd c10 (by decide)) (fun c10 => ?_)
      refine z_iload_n (pc := 13) C 2 dX0_isOf_13 rfl rfl ?_
      refine z_if_lt (pc := 14) C 42 dX0_isOf_14 (by decide) (fun c14 => absurd c14 (by decide)) (fun c14 => ?_)
      refine z_iload_n (pc := 17) C 2 dX0_isOf_17 rfl rfl ?_
      refine z_bipush (pc := 18) (v := 6) C dX0_isOf_18 rfl ?_
      refine z_icmp_ge (pc := 20) C 42 dX0_isOf_20 (by decide) (fun c20 => absurd c20 (by decide)) (fun c20 => ?_)
      refine z_iload_n (pc := 23) C 2 dX0_isOf_23 rfl rfl ?_
      refine z_iload_n (pc := 24) C 1 dX0_isOf_24 rfl rfl ?_
      refine z_icmp_ne (pc := 25) C 30 dX0_isOf_25 (by decide) (fun c25_2 => ?_) (fun c25_2 => ?_)
      · refine z_above (pc := 30) C dX0_isOf_30 ?_
        refine z_iload_n (pc := 33) C 2 dX0_isOf_33 rfl rfl ?_
        refine z_aboveld (pc := 34) C dX0_isOf_34 (zi_in.mpr (by decide)) ?_
        show zW _ _ _ _ _ (.int (0) :: _)
        refine z_istore_n (pc := 35) C 2 dX0_isOf_35 rfl (by decide) rfl ?_
        refine z_iinc (pc := 36) (v := 1) C 3 dX0_isOf_36 (by decide) rfl rfl rfl ?_
        refine z_goto (pc := 39) C 7 dX0_isOf_39 (by decide) ?_
        refine z_iload_n (pc := 7) C 3 dX0_isOf_7 rfl rfl ?_
        refine z_bipush (pc := 8) (v := 6) C dX0_isOf_8 rfl ?_
        refine z_icmp_ge (pc := 10) C 42 dX0_isOf_10 (by decide) (fun c10 => absurd c10 (by decide)) (fun c10 => ?_)
        refine z_iload_n (pc := 13) C 2 dX0_isOf_13 rfl rfl ?_
        refine z_if_lt (pc := 14) C 42 dX0_isOf_14 (by decide) (fun c14 => absurd c14 (by decide)) (fun c14 => ?_)
        refine z_iload_n (pc := 17) C 2 dX0_isOf_17 rfl rfl ?_
        refine z_bipush (pc := 18) (v := 6) C dX0_isOf_18 rfl ?_
        refine z_icmp_ge (pc := 20) C 42 dX0_isOf_20 (by decide) (fun c20 => absurd c20 (by decide)) (fun c20 => ?_)
        refine z_iload_n (pc := 23) C 2 dX0_isOf_23 rfl rfl ?_
        refine z_iload_n (pc := 24) C 1 dX0_isOf_24 rfl rfl ?_
        refine z_icmp_ne (pc := 25) C 30 dX0_isOf_25 (by decide) (fun c25_3 => ?_) (fun c25_3 => ?_)
        · refine z_above (pc := 30) C dX0_isOf_30 ?_
          refine z_iload_n (pc := 33) C 2 dX0_isOf_33 rfl rfl ?_
          refine z_aboveld (pc := 34) C dX0_isOf_34 (zi_in.mpr (by decide)) ?_
          show zW _ _ _ _ _ (.int (-1) :: _)
          refine z_istore_n (pc := 35) C 2 dX0_isOf_35 rfl (by decide) rfl ?_
          refine z_iinc (pc := 36) (v := 1) C 3 dX0_isOf_36 (by decide) rfl rfl rfl ?_
          refine z_goto (pc := 39) C 7 dX0_isOf_39 (by decide) ?_
          refine z_iload_n (pc := 7) C 3 dX0_isOf_7 rfl rfl ?_
          refine z_bipush (pc := 8) (v := 6) C dX0_isOf_8 rfl ?_
          refine z_icmp_ge (pc := 10) C 42 dX0_isOf_10 (by decide) (fun c10 => absurd c10 (by decide)) (fun c10 => ?_)
          refine z_iload_n (pc := 13) C 2 dX0_isOf_13 rfl rfl ?_
          refine z_if_lt (pc := 14) C 42 dX0_isOf_14 (by decide) (fun c14 => ?_) (fun c14 => absurd c14 (by decide))
          refine z_iconst (pc := 42) (v := 0) C dX0_isOf_42 rfl ?_
          refine z_zreturn (pc := 43) C K dX0_isOf_43 (Or.inl rfl) ?_
          refine ⟨_, rfl, Or.inr ⟨rfl, ?_⟩, rfl⟩
          simp only [zi_lt, zi_le, zi_eq, i0, i1, i2, i3, i4, i5, i6, i9, i20, i99, i100, im5, im20, im1] at c25_1 c25_2 c25_3
          unfold sUn
          rw [hk]
          simp only [zi_lt, zi_le, zi_eq, i0, i1, i2, i3, i4, i5, i6, i9, i20, i99, i100, im5, im20, im1, and_true]
          omega
        · refine z_iconst (pc := 28) (v := 1) C dX0_isOf_28 rfl ?_
          refine z_zreturn (pc := 29) C K dX0_isOf_29 (Or.inr rfl) ?_
          refine ⟨_, rfl, Or.inl ⟨rfl, ?_⟩, rfl⟩
          simp only [zi_lt, zi_le, zi_eq, i0, i1, i2, i3, i4, i5, i6, i9, i20, i99, i100, im5, im20, im1] at c25_1 c25_2 c25_3
          unfold sUn
          rw [hk]
          simp only [zi_lt, zi_le, zi_eq, i0, i1, i2, i3, i4, i5, i6, i9, i20, i99, i100, im5, im20, im1, and_true]
          omega
      · refine z_iconst (pc := 28) (v := 1) C dX0_isOf_28 rfl ?_
        refine z_zreturn (pc := 29) C K dX0_isOf_29 (Or.inr rfl) ?_
        refine ⟨_, rfl, Or.inl ⟨rfl, ?_⟩, rfl⟩
        simp only [zi_lt, zi_le, zi_eq, i0, i1, i2, i3, i4, i5, i6, i9, i20, i99, i100, im5, im20, im1] at c25_1 c25_2
        unfold sUn
        rw [hk]
        simp only [zi_lt, zi_le, zi_eq, i0, i1, i2, i3, i4, i5, i6, i9, i20, i99, i100, im5, im20, im1, and_true]
        omega
    · refine z_iconst (pc := 28) (v := 1) C dX0_isOf_28 rfl ?_
      refine z_zreturn (pc := 29) C K dX0_isOf_29 (Or.inr rfl) ?_
      refine ⟨_, rfl, Or.inl ⟨rfl, ?_⟩, rfl⟩
      simp only [zi_lt, zi_le, zi_eq, i0, i1, i2, i3, i4, i5, i6, i9, i20, i99, i100, im5, im20, im1] at c25_1
      unfold sUn
      rw [hk]
      simp only [zi_lt, zi_le, zi_eq, i0, i1, i2, i3, i4, i5, i6, i9, i20, i99, i100, im5, im20, im1, and_true]
      omega
  · refine z_aload_n (pc := 0) C 0 dX0_isOf_0 rfl rfl ?_
    refine z_getI (pc := 1) C dX0_isOf_1 fX0_25 (shP hp) rfl ?_
    rw [hk]
    refine z_istore_n (pc := 4) C 2 dX0_isOf_4 rfl (by decide) rfl ?_
    refine z_iconst (pc := 5) (v := 0) C dX0_isOf_5 rfl ?_
    refine z_istore_n (pc := 6) C 3 dX0_isOf_6 rfl (by decide) rfl ?_
    refine z_iload_n (pc := 7) C 3 dX0_isOf_7 rfl rfl ?_
    refine z_bipush (pc := 8) (v := 6) C dX0_isOf_8 rfl ?_
    refine z_icmp_ge (pc := 10) C 42 dX0_isOf_10 (by decide) (fun c10 => absurd c10 (by decide)) (fun c10 => ?_)
    refine z_iload_n (pc := 13) C 2 dX0_isOf_13 rfl rfl ?_
    refine z_if_lt (pc := 14) C 42 dX0_isOf_14 (by decide) (fun c14 => absurd c14 (by decide)) (fun c14 => ?_)
    refine z_iload_n (pc := 17) C 2 dX0_isOf_17 rfl rfl ?_
    refine z_bipush (pc := 18) (v := 6) C dX0_isOf_18 rfl ?_
    refine z_icmp_ge (pc := 20) C 42 dX0_isOf_20 (by decide) (fun c20 => absurd c20 (by decide)) (fun c20 => ?_)
    refine z_iload_n (pc := 23) C 2 dX0_isOf_23 rfl rfl ?_
    refine z_iload_n (pc := 24) C 1 dX0_isOf_24 rfl rfl ?_
    refine z_icmp_ne (pc := 25) C 30 dX0_isOf_25 (by decide) (fun c25_1 => ?_) (fun c25_1 => ?_)
    · refine z_above (pc := 30) C dX0_isOf_30 ?_
      refine z_iload_n (pc := 33) C 2 dX0_isOf_33 rfl rfl ?_
      refine z_aboveld (pc := 34) C dX0_isOf_34 (zi_in.mpr (by decide)) ?_
      show zW _ _ _ _ _ (.int (2) :: _)
      refine z_istore_n (pc := 35) C 2 dX0_isOf_35 rfl (by decide) rfl ?_
      refine z_iinc (pc := 36) (v := 1) C 3 dX0_isOf_36 (by decide) rfl rfl rfl ?_
      refine z_goto (pc := 39) C 7 dX0_isOf_39 (by decide) ?_
      refine z_iload_n (pc := 7) C 3 dX0_isOf_7 rfl rfl ?_
      refine z_bipush (pc := 8) (v := 6) C dX0_isOf_8 rfl ?_
      refine z_icmp_ge (pc := 10) C 42 dX0_isOf_10 (by decide) (fun c10 => absurd c10 (by decide)) (fun c10 => ?_)
      refine z_iload_n (pc := 13) C 2 dX0_isOf_13 rfl rfl ?_
      refine z_if_lt (pc := 14) C 42 dX0_isOf_14 (by decide) (fun c14 => absurd c14 (by decide)) (fun c14 => ?_)
      refine z_iload_n (pc := 17) C 2 dX0_isOf_17 rfl rfl ?_
      refine z_bipush (pc := 18) (v := 6) C dX0_isOf_18 rfl ?_
      refine z_icmp_ge (pc := 20) C 42 dX0_isOf_20 (by decide) (fun c20 => absurd c20 (by decide)) (fun c20 => ?_)
      refine z_iload_n (pc := 23) C 2 dX0_isOf_23 rfl rfl ?_
      refine z_iload_n (pc := 24) C 1 dX0_isOf_24 rfl rfl ?_
      refine z_icmp_ne (pc := 25) C 30 dX0_isOf_25 (by decide) (fun c25_2 => ?_) (fun c25_2 => ?_)
      · refine z_above (pc := 30) C dX0_isOf_30 ?_
        refine z_iload_n (pc := 33) C 2 dX0_isOf_33 rfl rfl ?_
        refine z_aboveld (pc := 34) C dX0_isOf_34 (zi_in.mpr (by decide)) ?_
        show zW _ _ _ _ _ (.int (0) :: _)
        refine z_istore_n (pc := 35) C 2 dX0_isOf_35 rfl (by decide) rfl ?_
        refine z_iinc (pc := 36) (v := 1) C 3 dX0_isOf_36 (by decide) rfl rfl rfl ?_
        refine z_goto (pc := 39) C 7 dX0_isOf_39 (by decide) ?_
        refine z_iload_n (pc := 7) C 3 dX0_isOf_7 rfl rfl ?_
        refine z_bipush (pc := 8) (v := 6) C dX0_isOf_8 rfl ?_
        refine z_icmp_ge (pc := 10) C 42 dX0_isOf_10 (by decide) (fun c10 => absurd c10 (by decide)) (fun c10 => ?_)
        refine z_iload_n (pc := 13) C 2 dX0_isOf_13 rfl rfl ?_
        refine z_if_lt (pc := 14) C 42 dX0_isOf_14 (by decide) (fun c14 => absurd c14 (by decide)) (fun c14 => ?_)
        refine z_iload_n (pc := 17) C 2 dX0_isOf_17 rfl rfl ?_
        refine z_bipush (pc := 18) (v := 6) C dX0_isOf_18 rfl ?_
        refine z_icmp_ge (pc := 20) C 42 dX0_isOf_20 (by decide) (fun c20 => absurd c20 (by decide)) (fun c20 => ?_)
        refine z_iload_n (pc := 23) C 2 dX0_isOf_23 rfl rfl ?_
        refine z_iload_n (pc := 24) C 1 dX0_isOf_24 rfl rfl ?_
        refine z_icmp_ne (pc := 25) C 30 dX0_isOf_25 (by decide) (fun c25_3 => ?_) (fun c25_3 => ?_)
        · refine z_above (pc := 30) C dX0_isOf_30 ?_
          refine z_iload_n (pc := 33) C 2 dX0_isOf_33 rfl rfl ?_
          refine z_aboveld (pc := 34) C dX0_isOf_34 (zi_in.mpr (by decide)) ?_
          show zW _ _ _ _ _ (.int (-1) :: _)
          refine z_istore_n (pc := 35) C 2 dX0_isOf_35 rfl (by decide) rfl ?_
          refine z_iinc (pc := 36) (v := 1) C 3 dX0_isOf_36 (by decide) rfl rfl rfl ?_
          refine z_goto (pc := 39) C 7 dX0_isOf_39 (by decide) ?_
          refine z_iload_n (pc := 7) C 3 dX0_isOf_7 rfl rfl ?_
          refine z_bipush (pc := 8) (v := 6) C dX0_isOf_8 rfl ?_
          refine z_icmp_ge (pc := 10) C 42 dX0_isOf_10 (by decide) (fun c10 => absurd c10 (by decide)) (fun c10 => ?_)
          refine z_iload_n (pc := 13) C 2 dX0_isOf_13 rfl rfl ?_
          refine z_if_lt (pc := 14) C 42 dX0_isOf_14 (by decide) (fun c14 => ?_) (fun c14 => absurd c14 (by decide))
          refine z_iconst (pc := 42) (v := 0) C dX0_isOf_42 rfl ?_
          refine z_zreturn (pc := 43) C K dX0_isOf_43 (Or.inl rfl) ?_
          refine ⟨_, rfl, Or.inr ⟨rfl, ?_⟩, rfl⟩
          simp only [zi_lt, zi_le, zi_eq, i0, i1, i2, i3, i4, i5, i6, i9, i20, i99, i100, im5, im20, im1] at c25_1 c25_2 c25_3
          unfold sUn
          rw [hk]
          simp only [zi_lt, zi_le, zi_eq, i0, i1, i2, i3, i4, i5, i6, i9, i20, i99, i100, im5, im20, im1, and_true]
          omega
        · refine z_iconst (pc := 28) (v := 1) C dX0_isOf_28 rfl ?_
          refine z_zreturn (pc := 29) C K dX0_isOf_29 (Or.inr rfl) ?_
          refine ⟨_, rfl, Or.inl ⟨rfl, ?_⟩, rfl⟩
          simp only [zi_lt, zi_le, zi_eq, i0, i1, i2, i3, i4, i5, i6, i9, i20, i99, i100, im5, im20, im1] at c25_1 c25_2 c25_3
          unfold sUn
          rw [hk]
          simp only [zi_lt, zi_le, zi_eq, i0, i1, i2, i3, i4, i5, i6, i9, i20, i99, i100, im5, im20, im1, and_true]
          omega
      · refine z_iconst (pc := 28) (v := 1) C dX0_isOf_28 rfl ?_
        refine z_zreturn (pc := 29) C K dX0_isOf_29 (Or.inr rfl) ?_
        refine ⟨_, rfl, Or.inl ⟨rfl, ?_⟩, rfl⟩
        simp only [zi_lt, zi_le, zi_eq, i0, i1, i2, i3, i4, i5, i6, i9, i20, i99, i100, im5, im20, im1] at c25_1 c25_2
        unfold sUn
        rw [hk]
        simp only [zi_lt, zi_le, zi_eq, i0, i1, i2, i3, i4, i5, i6, i9, i20, i99, i100, im5, im20, im1, and_true]
        omega
    · refine z_iconst (pc := 28) (v := 1) C dX0_isOf_28 rfl ?_
      refine z_zreturn (pc := 29) C K dX0_isOf_29 (Or.inr rfl) ?_
      refine ⟨_, rfl, Or.inl ⟨rfl, ?_⟩, rfl⟩
      simp only [zi_lt, zi_le, zi_eq, i0, i1, i2, i3, i4, i5, i6, i9, i20, i99, i100, im5, im20, im1] at c25_1
      unfold sUn
      rw [hk]
      simp only [zi_lt, zi_le, zi_eq, i0, i1, i2, i3, i4, i5, i6, i9, i20, i99, i100, im5, im20, im1, and_true]
      omega
  · refine z_aload_n (pc := 0) C 0 dX0_isOf_0 rfl rfl ?_
    refine z_getI (pc := 1) C dX0_isOf_1 fX0_25 (shP hp) rfl ?_
    rw [hk]
    refine z_istore_n (pc := 4) C 2 dX0_isOf_4 rfl (by decide) rfl ?_
    refine z_iconst (pc := 5) (v := 0) C dX0_isOf_5 rfl ?_
    refine z_istore_n (pc := 6) C 3 dX0_isOf_6 rfl (by decide) rfl ?_
    refine z_iload_n (pc := 7) C 3 dX0_isOf_7 rfl rfl ?_
    refine z_bipush (pc := 8) (v := 6) C dX0_isOf_8 rfl ?_
    refine z_icmp_ge (pc := 10) C 42 dX0_isOf_10 (by decide) (fun c10 => absurd c10 (by decide)) (fun c10 => ?_)
    refine z_iload_n (pc := 13) C 2 dX0_isOf_13 rfl rfl ?_
    refine z_if_lt (pc := 14) C 42 dX0_isOf_14 (by decide) (fun c14 => absurd c14 (by decide)) (fun c14 => ?_)
    refine z_iload_n (pc := 17) C 2 dX0_isOf_17 rfl rfl ?_
    refine z_bipush (pc := 18) (v := 6) C dX0_isOf_18 rfl ?_
    refine z_icmp_ge (pc := 20) C 42 dX0_isOf_20 (by decide) (fun c20 => absurd c20 (by decide)) (fun c20 => ?_)
    refine z_iload_n (pc := 23) C 2 dX0_isOf_23 rfl rfl ?_
    refine z_iload_n (pc := 24) C 1 dX0_isOf_24 rfl rfl ?_
    refine z_icmp_ne (pc := 25) C 30 dX0_isOf_25 (by decide) (fun c25_1 => ?_) (fun c25_1 => ?_)
    · refine z_above (pc := 30) C dX0_isOf_30 ?_
      refine z_iload_n (pc := 33) C 2 dX0_isOf_33 rfl rfl ?_
      refine z_aboveld (pc := 34) C dX0_isOf_34 (zi_in.mpr (by decide)) ?_
      show zW _ _ _ _ _ (.int (0) :: _)
      refine z_istore_n (pc := 35) C 2 dX0_isOf_35 rfl (by decide) rfl ?_
      refine z_iinc (pc := 36) (v := 1) C 3 dX0_isOf_36 (by decide) rfl rfl rfl ?_
      refine z_goto (pc := 39) C 7 dX0_isOf_39 (by decide) ?_
      refine z_iload_n (pc := 7) C 3 dX0_isOf_7 rfl rfl ?_
      refine z_bipush (pc := 8) (v := 6) C dX0_isOf_8 rfl ?_
      refine z_icmp_ge (pc := 10) C 42 dX0_isOf_10 (by decide) (fun c10 => absurd c10 (by decide)) (fun c10 => ?_)
      refine z_iload_n (pc := 13) C 2 dX0_isOf_13 rfl rfl ?_
      refine z_if_lt (pc := 14) C 42 dX0_isOf_14 (by decide) (fun c14 => absurd c14 (by decide)) (fun c14 => ?_)
      refine z_iload_n (pc := 17) C 2 dX0_isOf_17 rfl rfl ?_
      refine z_bipush (pc := 18) (v := 6) C dX0_isOf_18 rfl ?_
      refine z_icmp_ge (pc := 20) C 42 dX0_isOf_20 (by decide) (fun c20 => absurd c20 (by decide)) (fun c20 => ?_)
      refine z_iload_n (pc := 23) C 2 dX0_isOf_23 rfl rfl ?_
      refine z_iload_n (pc := 24) C 1 dX0_isOf_24 rfl rfl ?_
      refine z_icmp_ne (pc := 25) C 30 dX0_isOf_25 (by decide) (fun c25_2 => ?_) (fun c25_2 => ?_)
      · refine z_above (pc := 30) C dX0_isOf_30 ?_
        refine z_iload_n (pc := 33) C 2 dX0_isOf_33 rfl rfl ?_
        refine z_aboveld (pc := 34) C dX0_isOf_34 (zi_in.mpr (by decide)) ?_
        show zW _ _ _ _ _ (.int (-1) :: _)
        refine z_istore_n (pc := 35) C 2 dX0_isOf_35 rfl (by decide) rfl ?_
        refine z_iinc (pc := 36) (v := 1) C 3 dX0_isOf_36 (by decide) rfl rfl rfl ?_
        refine z_goto (pc := 39) C 7 dX0_isOf_39 (by decide) ?_
        refine z_iload_n (pc := 7) C 3 dX0_isOf_7 rfl rfl ?_
        refine z_bipush (pc := 8) (v := 6) C dX0_isOf_8 rfl ?_
        refine z_icmp_ge (pc := 10) C 42 dX0_isOf_10 (by decide) (fun c10 => absurd c10 (by decide)) (fun c10 => ?_)
        refine z_iload_n (pc := 13) C 2 dX0_isOf_13 rfl rfl ?_
        refine z_if_lt (pc := 14) C 42 dX0_isOf_14 (by decide) (fun c14 => ?_) (fun c14 => absurd c14 (by decide))
        refine z_iconst (pc := 42) (v := 0) C dX0_isOf_42 rfl ?_
        refine z_zreturn (pc := 43) C K dX0_isOf_43 (Or.inl rfl) ?_
        refine ⟨_, rfl, Or.inr ⟨rfl, ?_⟩, rfl⟩
        simp only [zi_lt, zi_le, zi_eq, i0, i1, i2, i3, i4, i5, i6, i9, i20, i99, i100, im5, im20, im1] at c25_1 c25_2
        unfold sUn
        rw [hk]
        simp only [zi_lt, zi_le, zi_eq, i0, i1, i2, i3, i4, i5, i6, i9, i20, i99, i100, im5, im20, im1, and_true]
        omega
      · refine z_iconst (pc := 28) (v := 1) C dX0_isOf_28 rfl ?_
        refine z_zreturn (pc := 29) C K dX0_isOf_29 (Or.inr rfl) ?_
        refine ⟨_, rfl, Or.inl ⟨rfl, ?_⟩, rfl⟩
        simp only [zi_lt, zi_le, zi_eq, i0, i1, i2, i3, i4, i5, i6, i9, i20, i99, i100, im5, im20, im1] at c25_1 c25_2
        unfold sUn
        rw [hk]
        simp only [zi_lt, zi_le, zi_eq, i0, i1, i2, i3, i4, i5, i6, i9, i20, i99, i100, im5, im20, im1, and_true]
        omega
    · refine z_iconst (pc := 28) (v := 1) C dX0_isOf_28 rfl ?_
      refine z_zreturn (pc := 29) C K dX0_isOf_29 (Or.inr rfl) ?_
      refine ⟨_, rfl, Or.inl ⟨rfl, ?_⟩, rfl⟩
      simp only [zi_lt, zi_le, zi_eq, i0, i1, i2, i3, i4, i5, i6, i9, i20, i99, i100, im5, im20, im1] at c25_1
      unfold sUn
      rw [hk]
      simp only [zi_lt, zi_le, zi_eq, i0, i1, i2, i3, i4, i5, i6, i9, i20, i99, i100, im5, im20, im1, and_true]
      omega

def zrm (x y : Int32) : Int32 := x - x / y * y
def dk (z : Int32) : Int32 := zrm (zushr (zdraw z) 8) 6
def dd (z : Int32) : Int32 := zrm (zushr (zdraw (zdraw z)) 8) 100
def dw (z : Int32) : Int32 := 1 + zrm (zushr (zdraw (zdraw (zdraw z))) 8) 5
def db (z : Int32) : Int32 := zrm (zushr (zdraw (zdraw (zdraw (zdraw z)))) 8) 21 - 10
def z4 (z : Int32) : Int32 := zdraw (zdraw (zdraw (zdraw z)))
theorem zu_zu (M : zM) (a i j f : Nat) (v u : Int32) : zu (zu M a i j f v) a i j f u = zu M a i j f u := by
  funext a' i' j' f'
  by_cases h : a' = a ∧ i' = i ∧ j' = j ∧ f' = f
  · obtain ⟨rfl, rfl, rfl, rfl⟩ := h
    rw [zu_self, zu_self]
  · rw [zu_ne _ _ h, zu_ne _ _ h, zu_ne _ _ h]
set_option maxHeartbeats 4000000 in
set_option maxRecDepth 100000 in
theorem mX8_drawOne {l : Launch} {G : zG} {b : Nat} {M : zM} {w n : Nat} (hw : w < 14) (hn : M 5 w 0 2 = nI n) (hn8 : n < 8) : zMet l G b yX8_drawOne cX8_drawOne 5 none 2 zshL zshL [.ref (b + adW w)] M (zV (fun M' => M' = zu (pPut (zu M 5 w 0 9 (z4 (M 5 w 0 9))) w n (fun f => if f < 7 then pNew (dk (M 5 w 0 9)) (dd (M 5 w 0 9)) (dw (M 5 w 0 9)) (db (M 5 w 0 9)) f else M 1 w n f)) 5 w 0 2 (nI (n + 1)))) := by
  refine zMet.of (L0 := [some (.ref (b + adW w)), none, none, none, none]) (by decide +kernel) (Nat.le_refl _) (Nat.le_refl _) (Nat.le_of_ble_eq_true rfl) (List.forall_mem_cons.mpr ⟨rfl, fun _ h => absurd h List.not_mem_nil⟩) rfl (fun X C Al K => ?_)
  refine z_aload_n (pc := 0) C 0 dX8_drawOne_0 rfl rfl ?_
  refine z_callVi (pc := 1) C dX8_drawOne_1 kX8_88 (mX8_draw hw) (by decide) (shW hw) rfl rfl rfl (Nat.le_of_ble_eq_true rfl) (fun r1 M1 h1 => ?_)
  obtain ⟨rfl, e1⟩ := h1
  subst M1
  refine z_bipush (pc := 4) (v := 6) C dX8_drawOne_4 rfl ?_
  refine z_irem (pc := 6) C dX8_drawOne_6 (by decide) ?_
  refine z_istore_n (pc := 7) C 1 dX8_drawOne_7 rfl (by decide) rfl ?_
  refine z_aload_n (pc := 8) C 0 dX8_drawOne_8 rfl rfl ?_
  refine z_callVi (pc := 9) C dX8_drawOne_9 kX8_88 (mX8_draw hw) (by decide) (shW hw) rfl rfl rfl (Nat.le_of_ble_eq_true rfl) (fun r9 M9 h9 => ?_)
  obtain ⟨rfl, e9⟩ := h9
  subst M9
  simp only [zu_self, zu_zu]
  refine z_bipush (pc := 12) (v := 100) C dX8_drawOne_12 rfl ?_
  refine z_irem (pc := 14) C dX8_drawOne_14 (by decide) ?_
  refine z_istore_n (pc := 15) C 2 dX8_drawOne_15 rfl (by decide) rfl ?_
  refine z_iconst (pc := 16) (v := 1) C dX8_drawOne_16 rfl ?_
  refine z_aload_n (pc := 17) C 0 dX8_drawOne_17 rfl rfl ?_
  refine z_callVi (pc := 18) C dX8_drawOne_18 kX8_88 (mX8_draw hw) (by decide) (shW hw) rfl rfl rfl (Nat.le_of_ble_eq_true rfl) (fun r18 M18 h18 => ?_)
  obtain ⟨rfl, e18⟩ := h18
  subst M18
  simp only [zu_self, zu_zu]
  refine z_iconst (pc := 21) (v := 5) C dX8_drawOne_21 rfl ?_
  refine z_irem (pc := 22) C dX8_drawOne_22 (by decide) ?_
  refine z_iadd (pc := 23) C dX8_drawOne_23 ?_
  refine z_istore_n (pc := 24) C 3 dX8_drawOne_24 rfl (by decide) rfl ?_
  refine z_aload_n (pc := 25) C 0 dX8_drawOne_25 rfl rfl ?_
  refine z_callVi (pc := 26) C dX8_drawOne_26 kX8_88 (mX8_draw hw) (by decide) (shW hw) rfl rfl rfl (Nat.le_of_ble_eq_true rfl) (fun r26 M26 h26 => ?_)
  obtain ⟨rfl, e26⟩ := h26
  subst M26
  simp only [zu_self, zu_zu]
  refine z_bipush (pc := 29) (v := 21) C dX8_drawOne_29 rfl ?_
  refine z_irem (pc := 31) C dX8_drawOne_31 (by decide) ?_
  refine z_bipush (pc := 32) (v := 10) C dX8_drawOne_32 rfl ?_
  refine z_isub (pc := 34) C dX8_drawOne_34 ?_
  refine z_istore (pc := 35) C 4 dX8_drawOne_35 (by decide) rfl ?_
  refine z_aload_n (pc := 37) C 0 dX8_drawOne_37 rfl rfl ?_
  refine z_iload_n (pc := 38) C 1 dX8_drawOne_38 rfl rfl ?_
  refine z_iload_n (pc := 39) C 2 dX8_drawOne_39 rfl rfl ?_
  refine z_iload_n (pc := 40) C 3 dX8_drawOne_40 rfl rfl ?_
  refine z_iload (pc := 41) C 4 dX8_drawOne_41 rfl ?_
  refine z_callVi (pc := 43) C dX8_drawOne_43 kX8_92 (mX8_welcome hw (n := n) (by rw [zu_f (by decide)]; exact hn) hn8) (by decide) (shW hw) rfl rfl rfl (Nat.le_of_ble_eq_true rfl) (fun r43 M43 h43 => ?_)
  obtain ⟨rfl, e43⟩ := h43
  subst M43
  refine z_pop (pc := 46) C dX8_drawOne_46 rfl ?_
  refine z_return (pc := 47) C K dX8_drawOne_47 ?_
  exact ⟨rfl, by rw [zu_a (a := 5) (a' := 1) (by decide)]; rfl⟩

def pWho (p : Nat → Nat → Int32) : Nat → Int32
  | 0 => 0
  | n + 1 => if p n 6 = 0 then pWho p n else pWho p n ||| ((1 : Int32) <<< (nI n &&& 31))
def pWh2 (p : Nat → Nat → Int32) : Nat → Int32
  | 0 => 0
  | n + 1 => pWh2 p n ||| (p n 6 <<< (nI n &&& 31))
theorem pWh_eq {p : Nat → Nat → Int32} : ∀ (n : Nat), (∀ i, i < n → p i 6 = 0 ∨ p i 6 = 1) → pWh2 p n = pWho p n
  | 0, _ => rfl
  | n + 1, h => by
    have e := pWh_eq n (fun i hi => h i (by omega))
    unfold pWh2 pWho
    rw [e]
    rcases h n (by omega) with q | q
    · rw [if_pos q, q, Int32.zero_shiftLeft, Int32.or_zero]
    · rw [if_neg (by rw [q]; decide), q]
theorem pWho_c {p q : Nat → Nat → Int32} : ∀ (n : Nat), peq n p q → pWho p n = pWho q n
  | 0, _ => rfl
  | n + 1, h => by
    have e := pWho_c n (fun i f hi hf => h i f (by omega) hf)
    unfold pWho
    rw [e, h n 6 (by omega) (by omega)]
set_option maxHeartbeats 4000000 in
set_option maxRecDepth 100000 in
theorem mX8_whoHear {l : Launch} {G : zG} {b : Nat} {M : zM} {w n : Nat} (hw : w < 14) (hn : M 5 w 0 2 = nI n) (hn8 : n ≤ 8) : zMet l G b yX8_whoHear cX8_whoHear 3 (some .int) 0 zshL zshL [.ref (b + adW w)] M (zI (fun r M' => r = pWho (M 1 w) n ∧ M' = M)) := by
  refine zMet.of (L0 := [some (.ref (b + adW w)), none, none]) (by decide +kernel) (Nat.le_refl _) (Nat.le_refl _) (Nat.le_of_ble_eq_true rfl) (List.forall_mem_cons.mpr ⟨rfl, fun _ h => absurd h List.not_mem_nil⟩) rfl (fun X C Al K => ?_)
  have loop : ∀ (k i : Nat), i + k = n → zW X zshL M 4 [some (.ref (b + adW w)), some (.int (pWho (M 1 w) i)), some (.int (nI i))] [] := by
    intro k
    induction k with
    | zero =>
      intro i  hi
      refine z_iload_n (pc := 4) C 2 dX8_whoHear_4 rfl rfl ?_
      refine z_aload_n (pc := 5) C 0 dX8_whoHear_5 rfl rfl ?_
      refine z_getI (pc := 6) C dX8_whoHear_6 fX8_17 (shW hw) rfl ?_
      refine z_icmp_ge (pc := 9) C 36 dX8_whoHear_9 (by decide) (fun c9 => ?_) (fun c9 => absurd (zlt hn (by omega) (by omega)) c9)
      refine z_iload_n (pc := 36) C 1 dX8_whoHear_36 rfl rfl ?_
      refine z_ireturn (pc := 37) C K dX8_whoHear_37 ?_
      obtain rfl : i = n := by omega
      exact ⟨_, rfl, rfl, rfl⟩
    | succ k ih =>
      intro i  hi
      have hin : i < 8 := by omega
      refine z_iload_n (pc := 4) C 2 dX8_whoHear_4 rfl rfl ?_
      refine z_aload_n (pc := 5) C 0 dX8_whoHear_5 rfl rfl ?_
      refine z_getI (pc := 6) C dX8_whoHear_6 fX8_17 (shW hw) rfl ?_
      refine z_icmp_ge (pc := 9) C 36 dX8_whoHear_9 (by decide) (fun c9 => absurd c9 (zlf hn (by omega) (by omega))) (fun c9 => ?_)
      refine z_aload_n (pc := 12) C 0 dX8_whoHear_12 rfl rfl ?_
      refine z_getR (pc := 13) (r := adW w + 1) C dX8_whoHear_13 fX8_11 (shW hw) rfl ?_
      refine z_iload_n (pc := 16) C 2 dX8_whoHear_16 rfl rfl ?_
      refine z_aald (pc := 17) (r := adP w i) C dX8_whoHear_17 (shPa hw) rfl rfl (pin hin) (pget hin) ?_
      refine z_getI (pc := 18) C dX8_whoHear_18 fX8_82 (shP (okP_w hw hin)) rfl ?_
      refine z_if_eq (pc := 21) C 30 dX8_whoHear_21 (by decide) (fun c21 => ?_) (fun c21 => ?_)
      · refine z_iinc (pc := 30) (v := 1) C 2 dX8_whoHear_30 (by decide) rfl rfl rfl ?_
        refine z_goto (pc := 33) C 4 dX8_whoHear_33 (by decide) ?_
        have e := ih (i + 1) (by omega)
        rw [nI_succ] at e
        simp only [pWho] at e
        first | rw [if_pos c21] at e | rw [if_neg c21] at e
        exact e
      · refine z_iload_n (pc := 24) C 1 dX8_whoHear_24 rfl rfl ?_
        refine z_iconst (pc := 25) (v := 1) C dX8_whoHear_25 rfl ?_
        refine z_iload_n (pc := 26) C 2 dX8_whoHear_26 rfl rfl ?_
        refine z_ishl (pc := 27) C dX8_whoHear_27 ?_
        refine z_ior (pc := 28) C dX8_whoHear_28 ?_
        refine z_istore_n (pc := 29) C 1 dX8_whoHear_29 rfl (by decide) rfl ?_
        refine z_iinc (pc := 30) (v := 1) C 2 dX8_whoHear_30 (by decide) rfl rfl rfl ?_
        refine z_goto (pc := 33) C 4 dX8_whoHear_33 (by decide) ?_
        have e := ih (i + 1) (by omega)
        rw [nI_succ] at e
        simp only [pWho] at e
        first | rw [if_pos c21] at e | rw [if_neg c21] at e
        exact e
  refine z_iconst (pc := 0) (v := 0) C dX8_whoHear_0 rfl ?_
  refine z_istore_n (pc := 1) C 1 dX8_whoHear_1 rfl (by decide) rfl ?_
  refine z_iconst (pc := 2) (v := 0) C dX8_whoHear_2 rfl ?_
  refine z_istore_n (pc := 3) C 2 dX8_whoHear_3 rfl (by decide) rfl ?_
  exact loop n 0 (by omega)

set_option maxHeartbeats 4000000 in
set_option maxRecDepth 100000 in
theorem mX10_hearing {l : Launch} {G : zG} {b : Nat} {M : zM} {n : Nat} (hn : M 31 0 0 1 = nI n) (hn8 : n ≤ 8) : zMet l G b yX10_hearing cX10_hearing 3 (some .int) 1 zshL zshL [.ref (b + 239)] M (zI (fun r M' => r = pWh2 (mp M) n ∧ M' = M)) := by
  refine zMet.of (L0 := [some (.ref (b + 239)), none, none]) (by decide +kernel) (Nat.le_refl _) (Nat.le_refl _) (Nat.le_of_ble_eq_true rfl) (List.forall_mem_cons.mpr ⟨rfl, fun _ h => absurd h List.not_mem_nil⟩) rfl (fun X C Al K => ?_)
  have loop : ∀ (k i : Nat), i + k = n → zW X zshL M 4 [some (.ref (b + 239)), some (.int (pWh2 (mp M) i)), some (.int (nI i))] [] := by
    intro k
    induction k with
    | zero =>
      intro i  hi
      refine z_iload_n (pc := 4) C 2 dX10_hearing_4 rfl rfl ?_
      refine z_aload_n (pc := 5) C 0 dX10_hearing_5 rfl rfl ?_
      refine z_getR (pc := 6) (r := 240) C dX10_hearing_6 fX10_9 sh_239 rfl ?_
      refine z_iconst (pc := 9) (v := 1) C dX10_hearing_9 rfl ?_
      refine z_iald (pc := 10) (n := 1) C dX10_hearing_10 sh_240 (zi_in.mpr (by decide)) rfl ?_
      refine z_icmp_ge (pc := 11) C 32 dX10_hearing_11 (by decide) (fun c11 => ?_) (fun c11 => absurd (zlt hn (by omega) (by omega)) c11)
      refine z_iload_n (pc := 32) C 1 dX10_hearing_32 rfl rfl ?_
      refine z_ireturn (pc := 33) C K dX10_hearing_33 ?_
      obtain rfl : i = n := by omega
      exact ⟨_, rfl, rfl, rfl⟩
    | succ k ih =>
      intro i  hi
      have hin : i < 8 := by omega
      refine z_iload_n (pc := 4) C 2 dX10_hearing_4 rfl rfl ?_
      refine z_aload_n (pc := 5) C 0 dX10_hearing_5 rfl rfl ?_
      refine z_getR (pc := 6) (r := 240) C dX10_hearing_6 fX10_9 sh_239 rfl ?_
      refine z_iconst (pc := 9) (v := 1) C dX10_hearing_9 rfl ?_
      refine z_iald (pc := 10) (n := 1) C dX10_hearing_10 sh_240 (zi_in.mpr (by decide)) rfl ?_
      refine z_icmp_ge (pc := 11) C 32 dX10_hearing_11 (by decide) (fun c11 => absurd c11 (zlf hn (by omega) (by omega))) (fun c11 => ?_)
      refine z_iload_n (pc := 14) C 1 dX10_hearing_14 rfl rfl ?_
      refine z_aload_n (pc := 15) C 0 dX10_hearing_15 rfl rfl ?_
      refine z_iload_n (pc := 16) C 2 dX10_hearing_16 rfl rfl ?_
      refine z_bipush (pc := 17) (v := 6) C dX10_hearing_17 rfl ?_
      refine z_callVi (pc := 19) C dX10_hearing_19 kX10_96 (mX10_of (f := 6) hin (by decide)) (by decide) sh_239 rfl rfl rfl (Nat.le_of_ble_eq_true rfl) (fun r19 M19 h19 => ?_)
      obtain ⟨rfl, e19⟩ := h19
      subst M19
      refine z_iload_n (pc := 22) C 2 dX10_hearing_22 rfl rfl ?_
      refine z_ishl (pc := 23) C dX10_hearing_23 ?_
      refine z_ior (pc := 24) C dX10_hearing_24 ?_
      refine z_istore_n (pc := 25) C 1 dX10_hearing_25 rfl (by decide) rfl ?_
      refine z_iinc (pc := 26) (v := 1) C 2 dX10_hearing_26 (by decide) rfl rfl rfl ?_
      refine z_goto (pc := 29) C 4 dX10_hearing_29 (by decide) ?_
      have e := ih (i + 1) (by omega)
      rw [nI_succ] at e
      exact e
  refine z_iconst (pc := 0) (v := 0) C dX10_hearing_0 rfl ?_
  refine z_istore_n (pc := 1) C 1 dX10_hearing_1 rfl (by decide) rfl ?_
  refine z_iconst (pc := 2) (v := 0) C dX10_hearing_2 rfl ?_
  refine z_istore_n (pc := 3) C 2 dX10_hearing_3 rfl (by decide) rfl ?_
  exact loop n 0 (by omega)

def oH (M : zM) (w i : Nat) (x : Int32) : zM := fun a y z f => if a = 1 ∧ y = w ∧ z < i ∧ f = 6 then (if nI z = x then 1 else 0) else M a y z f
theorem oH_0 (M : zM) (w : Nat) (x : Int32) : oH M w 0 x = M := by
  funext a y z f
  exact if_neg (fun q => absurd q.2.2.1 (Nat.not_lt_zero _))
theorem oH_succ (M : zM) (w i : Nat) (x v : Int32) (hv : v = if nI i = x then 1 else 0) : zu (oH M w i x) 1 w i 6 v = oH M w (i + 1) x := by
  funext a y z f
  unfold zu oH
  by_cases h : a = 1 ∧ y = w ∧ z = i ∧ f = 6
  · obtain ⟨rfl, rfl, rfl, rfl⟩ := h
    rw [if_pos ⟨rfl, rfl, rfl, rfl⟩, if_pos ⟨rfl, rfl, by omega, rfl⟩, hv]
  · rw [if_neg h]
    by_cases h2 : a = 1 ∧ y = w ∧ z < i ∧ f = 6
    · have h3 : a = 1 ∧ y = w ∧ z < i + 1 ∧ f = 6 := ⟨h2.1, h2.2.1, by omega, h2.2.2.2⟩
      rw [if_pos h2, if_pos h3]
    · rw [if_neg h2, if_neg (fun q => ?_)]
      rcases Nat.lt_or_ge z i with g | g
      · exact h2 ⟨q.1, q.2.1, g, q.2.2.2⟩
      · exact h ⟨q.1, q.2.1, by omega, q.2.2.2⟩
theorem oH_5 (M : zM) (w i : Nat) (x : Int32) {a : Nat} (h : a ≠ 1) : oH M w i x a = M a := by
  funext y z f
  exact if_neg (fun q => h q.1)
set_option maxHeartbeats 4000000 in
set_option maxRecDepth 100000 in
theorem mX8_onlyHears {l : Launch} {G : zG} {b : Nat} {M : zM} {w n : Nat} (hw : w < 14) (hn : M 5 w 0 2 = nI n) (hn8 : n ≤ 8) {x : Int32} : zMet l G b yX8_onlyHears cX8_onlyHears 3 none 0 zshL zshL [.ref (b + adW w), .int x] M (zV (fun M' => M' = oH M w n x)) := by
  refine zMet.of (L0 := [some (.ref (b + adW w)), some (.int x), none]) (by decide +kernel) (Nat.le_refl _) (Nat.le_refl _) (Nat.le_of_ble_eq_true rfl) (List.forall_mem_cons.mpr ⟨rfl, List.forall_mem_cons.mpr ⟨rfl, fun _ h => absurd h List.not_mem_nil⟩⟩) rfl (fun X C Al K => ?_)
  have loop : ∀ (k i : Nat), i + k = n → zW X zshL (oH M w i x) 2 [some (.ref (b + adW w)), some (.int x), some (.int (nI i))] [] := by
    intro k
    induction k with
    | zero =>
      intro i hi
      have hn : oH M w i x 5 w 0 2 = nI n := by rw [oH_5 _ _ _ _ (by decide)]; exact hn
      refine z_iload_n (pc := 2) C 2 dX8_onlyHears_2 rfl rfl ?_
      refine z_aload_n (pc := 3) C 0 dX8_onlyHears_3 rfl rfl ?_
      refine z_getI (pc := 4) C dX8_onlyHears_4 fX8_17 (shW hw) rfl ?_
      refine z_icmp_ge (pc := 7) C 35 dX8_onlyHears_7 (by decide) (fun c7 => ?_) (fun c7 => absurd (zlt hn (by omega) (by omega)) c7)
      refine z_return (pc := 35) C K dX8_onlyHears_35 ?_
      obtain rfl : i = n := by omega
      exact ⟨rfl, rfl⟩
    | succ k ih =>
      intro i hi
      have hin : i < 8 := by omega
      have hn : oH M w i x 5 w 0 2 = nI n := by rw [oH_5 _ _ _ _ (by decide)]; exact hn
      refine z_iload_n (pc := 2) C 2 dX8_onlyHears_2 rfl rfl ?_
      refine z_aload_n (pc := 3) C 0 dX8_onlyHears_3 rfl rfl ?_
      refine z_getI (pc := 4) C dX8_onlyHears_4 fX8_17 (shW hw) rfl ?_
      refine z_icmp_ge (pc := 7) C 35 dX8_onlyHears_7 (by decide) (fun c7 => absurd c7 (zlf hn (by omega) (by omega))) (fun c7 => ?_)
      refine z_aload_n (pc := 10) C 0 dX8_onlyHears_10 rfl rfl ?_
      refine z_getR (pc := 11) (r := adW w + 1) C dX8_onlyHears_11 fX8_11 (shW hw) rfl ?_
      refine z_iload_n (pc := 14) C 2 dX8_onlyHears_14 rfl rfl ?_
      refine z_aald (pc := 15) (r := adP w i) C dX8_onlyHears_15 (shPa hw) rfl rfl (pin hin) (pget hin) ?_
      refine z_iload_n (pc := 16) C 2 dX8_onlyHears_16 rfl rfl ?_
      refine z_iload_n (pc := 17) C 1 dX8_onlyHears_17 rfl rfl ?_
      refine z_icmp_ne (pc := 18) C 25 dX8_onlyHears_18 (by decide) (fun c18 => ?_) (fun c18 => ?_)
      · refine z_iconst (pc := 25) (v := 0) C dX8_onlyHears_25 rfl ?_
        refine z_putZ (pc := 26) C dX8_onlyHears_26 fX8_82 (shP (okP_w hw hin)) rfl (Or.inl rfl) ?_
        refine z_iinc (pc := 29) (v := 1) C 2 dX8_onlyHears_29 (by decide) rfl rfl rfl ?_
        refine z_goto (pc := 32) C 2 dX8_onlyHears_32 (by decide) ?_
        have e := ih (i + 1) (by omega)
        rw [nI_succ] at e
        rw [oH_succ _ _ _ _ _ (if_neg c18).symm]
        exact e
      · refine z_iconst (pc := 21) (v := 1) C dX8_onlyHears_21 rfl ?_
        refine z_goto (pc := 22) C 26 dX8_onlyHears_22 (by decide) ?_
        refine z_putZ (pc := 26) C dX8_onlyHears_26 fX8_82 (shP (okP_w hw hin)) rfl (Or.inr rfl) ?_
        refine z_iinc (pc := 29) (v := 1) C 2 dX8_onlyHears_29 (by decide) rfl rfl rfl ?_
        refine z_goto (pc := 32) C 2 dX8_onlyHears_32 (by decide) ?_
        have e := ih (i + 1) (by omega)
        rw [nI_succ] at e
        rw [oH_succ _ _ _ _ _ (if_pos c18).symm]
        exact e
  refine z_iconst (pc := 0) (v := 0) C dX8_onlyHears_0 rfl ?_
  refine z_istore_n (pc := 1) C 2 dX8_onlyHears_1 rfl (by decide) rfl ?_
  have e := loop n 0 (by omega)
  rw [oH_0] at e
  exact e

theorem shget {s : Nat} (h : s < 4) : ([some 211, some 213, some 215, some 217] : List (Option Nat))[(nI s).toNatClampNeg]? = some (some (adS s)) := by
  rw [nI_clamp (by omega)]
  rcases (show s = 0 ∨ s = 1 ∨ s = 2 ∨ s = 3 by omega) with rfl | rfl | rfl | rfl <;> rfl
theorem slget {s : Nat} (h : s < 5) : ([some 219, some 223, some 227, some 231, some 235] : List (Option Nat))[(nI s).toNatClampNeg]? = some (some (219 + 4 * s)) := by
  rw [nI_clamp (by omega)]
  rcases (show s = 0 ∨ s = 1 ∨ s = 2 ∨ s = 3 ∨ s = 4 by omega) with rfl | rfl | rfl | rfl | rfl <;> rfl
set_option maxHeartbeats 4000000 in
set_option maxRecDepth 100000 in
theorem mX8_addText {l : Launch} {G : zG} {b : Nat} {M : zM} {w T kt : Nat} (hw : w < 14) (hT : M 5 w 0 10 = nI T) (hT14 : T < 14) (hk : M 8 T 0 0 = nI kt) (hk3 : kt < 3) : zMet l G b yX8_addText cX8_addText 3 (some .int) 0 zshL zshL [.ref (b + adW w)] M (zI (fun r M' => r = nI T ∧ M' = zu (zu M 6 w 0 kt (nI T)) 5 w 0 10 (nI (T + 1)))) := by
  refine zMet.of (L0 := [some (.ref (b + adW w)), none, none]) (by decide +kernel) (Nat.le_refl _) (Nat.le_refl _) (Nat.le_of_ble_eq_true rfl) (List.forall_mem_cons.mpr ⟨rfl, fun _ h => absurd h List.not_mem_nil⟩) rfl (fun X C Al K => ?_)
  refine z_aload_n (pc := 0) C 0 dX8_addText_0 rfl rfl ?_
  refine z_getI (pc := 1) C dX8_addText_1 fX8_43 (shW hw) rfl ?_
  rw [hT]
  refine z_istore_n (pc := 4) C 1 dX8_addText_4 rfl (by decide) rfl ?_
  refine z_aload_n (pc := 5) C 0 dX8_addText_5 rfl rfl ?_
  refine z_getR (pc := 6) (r := 1) C dX8_addText_6 fX8_50 (shW hw) rfl ?_
  refine z_getR (pc := 9) (r := 2) C dX8_addText_9 fX8_59 sh_1 rfl ?_
  refine z_iload_n (pc := 12) C 1 dX8_addText_12 rfl rfl ?_
  refine z_aald (pc := 13) (r := adT T) C dX8_addText_13 sh_2 rfl rfl (vp_in_nI hT14 (by decide)) (tget hT14) ?_
  refine z_getI (pc := 14) C dX8_addText_14 fX8_65 (shT (by omega)) rfl ?_
  rw [hk]
  refine z_istore_n (pc := 17) C 2 dX8_addText_17 rfl (by decide) rfl ?_
  refine z_iload_n (pc := 18) C 2 dX8_addText_18 rfl rfl ?_
  refine z_if_lt (pc := 19) C 34 dX8_addText_19 (by decide) (fun c19 => absurd c19 (nI_pos (by omega))) (fun c19 => ?_)
  refine z_iload_n (pc := 22) C 2 dX8_addText_22 rfl rfl ?_
  refine z_iconst (pc := 23) (v := 3) C dX8_addText_23 rfl ?_
  refine z_icmp_ge (pc := 24) C 34 dX8_addText_24 (by decide) (fun c24 => absurd c24 (nI_ge (b := 3) (by omega) (by omega))) (fun c24 => ?_)
  refine z_aload_n (pc := 27) C 0 dX8_addText_27 rfl rfl ?_
  refine z_getR (pc := 28) (r := adW w + 2) C dX8_addText_28 fX8_46 (shW hw) rfl ?_
  refine z_iload_n (pc := 31) C 2 dX8_addText_31 rfl rfl ?_
  refine z_iload_n (pc := 32) C 1 dX8_addText_32 rfl rfl ?_
  refine z_iast (pc := 33) (n := kt) C dX8_addText_33 (shLw hw) (vp_in_nI (by omega) (by omega)) (nI_clamp (by omega)) ?_
  refine z_aload_n (pc := 34) C 0 dX8_addText_34 rfl rfl ?_
  refine z_dup (pc := 35) C dX8_addText_35 rfl ?_
  refine z_getI (pc := 36) C dX8_addText_36 fX8_43 (shW hw) rfl ?_
  refine z_iconst (pc := 39) (v := 1) C dX8_addText_39 rfl ?_
  rw [zu_a (by decide), hT]
  refine z_iadd (pc := 40) C dX8_addText_40 ?_
  rw [nI_1]
  refine z_putII (pc := 41) C dX8_addText_41 fX8_43 (shW hw) rfl ?_
  refine z_iload_n (pc := 44) C 1 dX8_addText_44 rfl rfl ?_
  refine z_ireturn (pc := 45) C K dX8_addText_45 ?_
  exact ⟨_, rfl, rfl, rfl⟩

def shZ (M : zM) (s i : Nat) : zM := fun a y z f => if a = 4 ∧ y = s ∧ z = 0 ∧ f < i then 0 else M a y z f
theorem shZ_0 (M : zM) (s : Nat) : shZ M s 0 = M := by
  funext a y z f
  exact if_neg (fun q => absurd q.2.2.2 (Nat.not_lt_zero _))
theorem shZ_succ (M : zM) (s i : Nat) : zu (shZ M s i) 4 s 0 i 0 = shZ M s (i + 1) := by
  funext a y z f
  unfold zu shZ
  by_cases h : a = 4 ∧ y = s ∧ z = 0 ∧ f = i
  · obtain ⟨rfl, rfl, rfl, rfl⟩ := h
    rw [if_pos ⟨rfl, rfl, rfl, rfl⟩, if_pos ⟨rfl, rfl, rfl, by omega⟩]
  · rw [if_neg h]
    by_cases h2 : a = 4 ∧ y = s ∧ z = 0 ∧ f < i
    · rw [if_pos h2, if_pos ⟨h2.1, h2.2.1, h2.2.2.1, by omega⟩]
    · rw [if_neg h2, if_neg (fun q => ?_)]
      rcases Nat.lt_or_ge f i with g | g
      · exact h2 ⟨q.1, q.2.1, q.2.2.1, g⟩
      · exact h ⟨q.1, q.2.1, q.2.2.1, by omega⟩
def shN (M : zM) (s : Nat) (x y : Int32) : zM := shZ (zu (zu M 3 s 0 0 x) 3 s 0 1 y) s 24
set_option maxHeartbeats 4000000 in
set_option maxRecDepth 100000 in
theorem mX2_become {l : Launch} {G : zG} {b : Nat} {M : zM} {s : Nat} (hs : s < 9) {x y : Int32} : zMet l G b yX2_become cX2_become 4 none 0 zshL zshL [.ref (b + adS s), .int x, .int y] M (zV (fun M' => M' = shN M s x y)) := by
  refine zMet.of (L0 := [some (.ref (b + adS s)), some (.int x), some (.int y), none]) (by decide +kernel) (Nat.le_refl _) (Nat.le_refl _) (Nat.le_of_ble_eq_true rfl) (List.forall_mem_cons.mpr ⟨rfl, List.forall_mem_cons.mpr ⟨rfl, List.forall_mem_cons.mpr ⟨rfl, fun _ h => absurd h List.not_mem_nil⟩⟩⟩) rfl (fun X C Al K => ?_)
  have loop : ∀ (k i : Nat), i + k = 24 → zW X zshL (shZ (zu (zu M 3 s 0 0 x) 3 s 0 1 y) s i) 12 [some (.ref (b + adS s)), some (.int x), some (.int y), some (.int (nI i))] [] := by
    intro k
    induction k with
    | zero =>
      intro i hi
      obtain rfl : i = 24 := by omega
      refine z_iload_n (pc := 12) C 3 dX2_become_12 rfl rfl ?_
      refine z_bipush (pc := 13) (v := 24) C dX2_become_13 rfl ?_
      refine z_icmp_ge (pc := 15) C 31 dX2_become_15 (by decide) (fun c15 => ?_) (fun c15 => absurd (by decide) c15)
      refine z_return (pc := 31) C K dX2_become_31 ?_
      exact ⟨rfl, rfl⟩
    | succ k ih =>
      intro i hi
      refine z_iload_n (pc := 12) C 3 dX2_become_12 rfl rfl ?_
      refine z_bipush (pc := 13) (v := 24) C dX2_become_13 rfl ?_
      refine z_icmp_ge (pc := 15) C 31 dX2_become_15 (by decide) (fun c15 => absurd c15 (nI_ge (b := 24) (by omega) (by omega))) (fun c15 => ?_)
      refine z_aload_n (pc := 18) C 0 dX2_become_18 rfl rfl ?_
      refine z_getR (pc := 19) (r := adS s + 1) C dX2_become_19 fX2_18 (shS hs) rfl ?_
      refine z_iload_n (pc := 22) C 3 dX2_become_22 rfl rfl ?_
      refine z_iconst (pc := 23) (v := 0) C dX2_become_23 rfl ?_
      refine z_iast (pc := 24) (n := i) C dX2_become_24 (shSp hs) (vp_in_nI (by omega) (by omega)) (nI_clamp (by omega)) ?_
      refine z_iinc (pc := 25) (v := 1) C 3 dX2_become_25 (by decide) rfl rfl rfl ?_
      refine z_goto (pc := 28) C 12 dX2_become_28 (by decide) ?_
      have e := ih (i + 1) (by omega)
      rw [nI_succ] at e
      rw [shZ_succ]
      exact e
  refine z_aload_n (pc := 0) C 0 dX2_become_0 rfl rfl ?_
  refine z_iload_n (pc := 1) C 1 dX2_become_1 rfl rfl ?_
  refine z_putII (pc := 2) C dX2_become_2 fX2_9 (shS hs) rfl ?_
  refine z_aload_n (pc := 5) C 0 dX2_become_5 rfl rfl ?_
  refine z_iload_n (pc := 6) C 2 dX2_become_6 rfl rfl ?_
  refine z_putII (pc := 7) C dX2_become_7 fX2_15 (shS hs) rfl ?_
  refine z_iconst (pc := 10) (v := 0) C dX2_become_10 rfl ?_
  refine z_istore_n (pc := 11) C 3 dX2_become_11 rfl (by decide) rfl ?_
  have e := loop 24 0 (by omega)
  rw [shZ_0] at e
  exact e

def shC2 (M : zM) (s s2 : Nat) : zM := zcp (zu (zu M 3 s 0 0 (M 3 s2 0 0)) 3 s 0 1 (M 3 s2 0 1)) 4 s2 0 4 s 0 0 0 24
set_option maxHeartbeats 4000000 in
set_option maxRecDepth 100000 in
theorem mX2_become_ {l : Launch} {G : zG} {b : Nat} {M : zM} {s : Nat} (hs : s < 9) {s2 : Nat} (hs2 : s2 < 9) (hne : s2 ≠ s) : zMet l G b yX2_become_ cX2_become_ 2 none 1 zshL zshL [.ref (b + adS s), .ref (b + adS s2)] M (zV (fun M' => M' = shC2 M s s2)) := by
  refine zMet.of (L0 := [some (.ref (b + adS s)), some (.ref (b + adS s2))]) (by decide +kernel) (Nat.le_refl _) (Nat.le_refl _) (Nat.le_of_ble_eq_true rfl) (List.forall_mem_cons.mpr ⟨rfl, List.forall_mem_cons.mpr ⟨rfl, fun _ h => absurd h List.not_mem_nil⟩⟩) rfl (fun X C Al K => ?_)
  refine z_aload_n (pc := 0) C 0 dX2_become__0 rfl rfl ?_
  refine z_aload_n (pc := 1) C 1 dX2_become__1 rfl rfl ?_
  refine z_getI (pc := 2) C dX2_become__2 fX2_9 (shS hs2) rfl ?_
  refine z_putII (pc := 5) C dX2_become__5 fX2_9 (shS hs) rfl ?_
  refine z_aload_n (pc := 8) C 0 dX2_become__8 rfl rfl ?_
  refine z_aload_n (pc := 9) C 1 dX2_become__9 rfl rfl ?_
  refine z_getI (pc := 10) C dX2_become__10 fX2_15 (shS hs2) rfl ?_
  rw [zu_o (fun q => hne q.2.1)]
  refine z_putII (pc := 13) C dX2_become__13 fX2_15 (shS hs) rfl ?_
  refine z_aload_n (pc := 16) C 1 dX2_become__16 rfl rfl ?_
  refine z_getR (pc := 17) (r := adS s2 + 1) C dX2_become__17 fX2_18 (shS hs2) rfl ?_
  refine z_iconst (pc := 20) (v := 0) C dX2_become__20 rfl ?_
  refine z_aload_n (pc := 21) C 0 dX2_become__21 rfl rfl ?_
  refine z_getR (pc := 22) (r := adS s + 1) C dX2_become__22 fX2_18 (shS hs) rfl ?_
  refine z_iconst (pc := 25) (v := 0) C dX2_become__25 rfl ?_
  refine z_bipush (pc := 26) (v := 24) C dX2_become__26 rfl ?_
  refine z_copy (pc := 28) C (by decide) (Nat.le_of_eq zshL_len.symm) q4_131 q4_67 q4_66 q1_19 dX2_become__28 (shSp hs2) (shSp hs) (by decide) (by decide) (by decide) (by decide) (by decide) (Nat.le_of_ble_eq_true rfl) ?_
  refine z_return (pc := 31) C K dX2_become__31 ?_
  exact ⟨rfl, rfl⟩

set_option maxHeartbeats 4000000 in
set_option maxRecDepth 100000 in
theorem mX2_hasPlace {l : Launch} {G : zG} {b : Nat} {M : zM} {s : Nat} (hs : s < 9) {x : Int32} : zMet l G b yX2_hasPlace cX2_hasPlace 2 (some .boolean) 0 zshL zshL [.ref (b + adS s), .int x] M (zI (fun r M' => zb r (iin x 0 ((M 3 s 0 1).toInt - 1)) ∧ M' = M)) := by
  refine zMet.of (L0 := [some (.ref (b + adS s)), some (.int x)]) (by decide +kernel) (Nat.le_refl _) (Nat.le_refl _) (Nat.le_of_ble_eq_true rfl) (List.forall_mem_cons.mpr ⟨rfl, List.forall_mem_cons.mpr ⟨rfl, fun _ h => absurd h List.not_mem_nil⟩⟩) rfl (fun X C Al K => ?_)
  refine z_iload_n (pc := 0) C 1 dX2_hasPlace_0 rfl rfl ?_
  refine z_if_lt (pc := 1) C 16 dX2_hasPlace_1 (by decide) (fun c1 => ?_) (fun c1 => ?_)
  · refine z_iconst (pc := 16) (v := 0) C dX2_hasPlace_16 rfl ?_
    refine z_zreturn (pc := 17) C K dX2_hasPlace_17 (Or.inl rfl) ?_
    refine ⟨_, rfl, Or.inr ⟨rfl, ?_⟩, rfl⟩
    simp only [zi_lt, zi_le, zi_eq, i0, i1, i2, i3, i4, i5, i6, i9, i20, i99, i100, im5, im20, im1] at c1
    unfold iin
    omega
  · refine z_iload_n (pc := 4) C 1 dX2_hasPlace_4 rfl rfl ?_
    refine z_aload_n (pc := 5) C 0 dX2_hasPlace_5 rfl rfl ?_
    refine z_getI (pc := 6) C dX2_hasPlace_6 fX2_15 (shS hs) rfl ?_
    refine z_icmp_ge (pc := 9) C 16 dX2_hasPlace_9 (by decide) (fun c9 => ?_) (fun c9 => ?_)
    · refine z_iconst (pc := 16) (v := 0) C dX2_hasPlace_16 rfl ?_
      refine z_zreturn (pc := 17) C K dX2_hasPlace_17 (Or.inl rfl) ?_
      refine ⟨_, rfl, Or.inr ⟨rfl, ?_⟩, rfl⟩
      simp only [zi_lt, zi_le, zi_eq, i0, i1, i2, i3, i4, i5, i6, i9, i20, i99, i100, im5, im20, im1] at c1 c9
      unfold iin
      omega
    · refine z_iconst (pc := 12) (v := 1) C dX2_hasPlace_12 rfl ?_
      refine z_goto (pc := 13) C 17 dX2_hasPlace_13 (by decide) ?_
      refine z_zreturn (pc := 17) C K dX2_hasPlace_17 (Or.inr rfl) ?_
      refine ⟨_, rfl, Or.inl ⟨rfl, ?_⟩, rfl⟩
      simp only [zi_lt, zi_le, zi_eq, i0, i1, i2, i3, i4, i5, i6, i9, i20, i99, i100, im5, im20, im1] at c1 c9
      unfold iin
      omega

def hRun (z x y : Int) : Prop := 0 ≤ x ∧ 0 ≤ y ∧ x ≤ z ∧ y ≤ z - x
set_option maxHeartbeats 4000000 in
set_option maxRecDepth 100000 in
theorem mX2_hasRun {l : Launch} {G : zG} {b : Nat} {M : zM} {s : Nat} (hs : s < 9) (hz : iin (M 3 s 0 1) 0 24) {x y : Int32} : zMet l G b yX2_hasRun cX2_hasRun 3 (some .boolean) 0 zshL zshL [.ref (b + adS s), .int x, .int y] M (zI (fun r M' => zb r (hRun (M 3 s 0 1).toInt x.toInt y.toInt) ∧ M' = M)) := by
  refine zMet.of (L0 := [some (.ref (b + adS s)), some (.int x), some (.int y)]) (by decide +kernel) (Nat.le_refl _) (Nat.le_refl _) (Nat.le_of_ble_eq_true rfl) (List.forall_mem_cons.mpr ⟨rfl, List.forall_mem_cons.mpr ⟨rfl, List.forall_mem_cons.mpr ⟨rfl, fun _ h => absurd h List.not_mem_nil⟩⟩⟩) rfl (fun X C Al K => ?_)
  refine z_iload_n (pc := 0) C 1 dX2_hasRun_0 rfl rfl ?_
  refine z_if_lt (pc := 1) C 30 dX2_hasRun_1 (by decide) (fun c1 => ?_) (fun c1 => ?_)
  · refine z_iconst (pc := 30) (v := 0) C dX2_hasRun_30 rfl ?_
    refine z_zreturn (pc := 31) C K dX2_hasRun_31 (Or.inl rfl) ?_
    refine ⟨_, rfl, Or.inr ⟨rfl, ?_⟩, rfl⟩
    unfold iin at hz
    simp only [zi_lt, zi_le, zi_eq, i0, i1, i2, i3, i4, i5, i6, i9, i20, i99, i100, im5, im20, im1] at c1
    unfold hRun
    omega
  · refine z_iload_n (pc := 4) C 2 dX2_hasRun_4 rfl rfl ?_
    refine z_if_lt (pc := 5) C 30 dX2_hasRun_5 (by decide) (fun c5 => ?_) (fun c5 => ?_)
    · refine z_iconst (pc := 30) (v := 0) C dX2_hasRun_30 rfl ?_
      refine z_zreturn (pc := 31) C K dX2_hasRun_31 (Or.inl rfl) ?_
      refine ⟨_, rfl, Or.inr ⟨rfl, ?_⟩, rfl⟩
      unfold iin at hz
      simp only [zi_lt, zi_le, zi_eq, i0, i1, i2, i3, i4, i5, i6, i9, i20, i99, i100, im5, im20, im1] at c1 c5
      unfold hRun
      omega
    · refine z_iload_n (pc := 8) C 1 dX2_hasRun_8 rfl rfl ?_
      refine z_aload_n (pc := 9) C 0 dX2_hasRun_9 rfl rfl ?_
      refine z_getI (pc := 10) C dX2_hasRun_10 fX2_15 (shS hs) rfl ?_
      refine z_icmp_gt (pc := 13) C 30 dX2_hasRun_13 (by decide) (fun c13 => ?_) (fun c13 => ?_)
      · refine z_iconst (pc := 30) (v := 0) C dX2_hasRun_30 rfl ?_
        refine z_zreturn (pc := 31) C K dX2_hasRun_31 (Or.inl rfl) ?_
        refine ⟨_, rfl, Or.inr ⟨rfl, ?_⟩, rfl⟩
        unfold iin at hz
        simp only [zi_lt, zi_le, zi_eq, i0, i1, i2, i3, i4, i5, i6, i9, i20, i99, i100, im5, im20, im1] at c1 c5 c13
        unfold hRun
        omega
      · refine z_iload_n (pc := 16) C 2 dX2_hasRun_16 rfl rfl ?_
        refine z_aload_n (pc := 17) C 0 dX2_hasRun_17 rfl rfl ?_
        refine z_getI (pc := 18) C dX2_hasRun_18 fX2_15 (shS hs) rfl ?_
        refine z_iload_n (pc := 21) C 1 dX2_hasRun_21 rfl rfl ?_
        refine z_isub (pc := 22) C dX2_hasRun_22 ?_
        refine z_icmp_gt (pc := 23) C 30 dX2_hasRun_23 (by decide) (fun c23 => ?_) (fun c23 => ?_)
        · refine z_iconst (pc := 30) (v := 0) C dX2_hasRun_30 rfl ?_
          refine z_zreturn (pc := 31) C K dX2_hasRun_31 (Or.inl rfl) ?_
          refine ⟨_, rfl, Or.inr ⟨rfl, ?_⟩, rfl⟩
          unfold iin at hz
          have e : (M 3 s 0 1 - x).toInt = (M 3 s 0 1).toInt - x.toInt := by
            simp only [zi_lt, zi_le, zi_eq, i0, i1, i2, i3, i4, i5, i6, i9, i20, i99, i100, im5, im20, im1] at c1 c13
            exact zi_sub (by omega) (by omega)
          simp only [zi_lt, zi_le, zi_eq, i0, i1, i2, i3, i4, i5, i6, i9, i20, i99, i100, im5, im20, im1] at c1 c5 c13 c23
          rw [e] at c23
          unfold hRun
          omega
        · refine z_iconst (pc := 26) (v := 1) C dX2_hasRun_26 rfl ?_
          refine z_goto (pc := 27) C 31 dX2_hasRun_27 (by decide) ?_
          refine z_zreturn (pc := 31) C K dX2_hasRun_31 (Or.inr rfl) ?_
          refine ⟨_, rfl, Or.inl ⟨rfl, ?_⟩, rfl⟩
          unfold iin at hz
          have e : (M 3 s 0 1 - x).toInt = (M 3 s 0 1).toInt - x.toInt := by
            simp only [zi_lt, zi_le, zi_eq, i0, i1, i2, i3, i4, i5, i6, i9, i20, i99, i100, im5, im20, im1] at c1 c13
            exact zi_sub (by omega) (by omega)
          simp only [zi_lt, zi_le, zi_eq, i0, i1, i2, i3, i4, i5, i6, i9, i20, i99, i100, im5, im20, im1] at c1 c5 c13 c23
          rw [e] at c23
          unfold hRun
          omega

def tAt (M : zM) (t : Nat) (x : Int32) : Int32 := if x.toInt < 0 ∨ (t : Int) ≤ x.toInt then -1 else M 20 0 0 x.toNatClampNeg
theorem i96 : (96 : Int32).toInt = 96 := by decide
set_option maxHeartbeats 4000000 in
set_option maxRecDepth 100000 in
theorem mX4_at {l : Launch} {G : zG} {b : Nat} {M : zM} {t : Nat} (ht : M 19 0 0 1 = nI t) (ht96 : t ≤ 96) {x : Int32} : zMet l G b yX4_at cX4_at 2 (some .int) 0 zshL zshL [.ref (b + 203), .int x] M (zI (fun r M' => r = tAt M t x ∧ M' = M)) := by
  refine zMet.of (L0 := [some (.ref (b + 203)), some (.int x)]) (by decide +kernel) (Nat.le_refl _) (Nat.le_refl _) (Nat.le_of_ble_eq_true rfl) (List.forall_mem_cons.mpr ⟨rfl, List.forall_mem_cons.mpr ⟨rfl, fun _ h => absurd h List.not_mem_nil⟩⟩) rfl (fun X C Al K => ?_)
  refine z_iload_n (pc := 0) C 1 dX4_at_0 rfl rfl ?_
  refine z_if_lt (pc := 1) C 27 dX4_at_1 (by decide) (fun c1 => ?_) (fun c1 => ?_)
  · refine z_iconst (pc := 27) (v := -1) C dX4_at_27 rfl ?_
    refine z_ireturn (pc := 28) C K dX4_at_28 ?_
    refine ⟨_, rfl, ?_, rfl⟩
    have hni : (nI t).toInt = t := nI_toInt (by omega)
    simp only [zi_lt, zi_le, zi_eq, i0, i1, i2, i3, i4, i5, i6, i9, i20, i99, i100, im5, im20, im1, i96] at c1
    unfold tAt
    rw [if_pos (by omega)]
  · refine z_iload_n (pc := 4) C 1 dX4_at_4 rfl rfl ?_
    refine z_aload_n (pc := 5) C 0 dX4_at_5 rfl rfl ?_
    refine z_getI (pc := 6) C dX4_at_6 fX4_15 sh_203 rfl ?_
    rw [ht]
    refine z_icmp_ge (pc := 9) C 27 dX4_at_9 (by decide) (fun c9 => ?_) (fun c9 => ?_)
    · refine z_iconst (pc := 27) (v := -1) C dX4_at_27 rfl ?_
      refine z_ireturn (pc := 28) C K dX4_at_28 ?_
      refine ⟨_, rfl, ?_, rfl⟩
      have hni : (nI t).toInt = t := nI_toInt (by omega)
      simp only [zi_lt, zi_le, zi_eq, i0, i1, i2, i3, i4, i5, i6, i9, i20, i99, i100, im5, im20, im1, i96] at c1 c9
      unfold tAt
      rw [if_pos (by omega)]
    · refine z_iload_n (pc := 12) C 1 dX4_at_12 rfl rfl ?_
      refine z_bipush (pc := 13) (v := 96) C dX4_at_13 rfl ?_
      refine z_icmp_ge (pc := 15) C 27 dX4_at_15 (by decide) (fun c15 => ?_) (fun c15 => ?_)
      · refine z_iconst (pc := 27) (v := -1) C dX4_at_27 rfl ?_
        refine z_ireturn (pc := 28) C K dX4_at_28 ?_
        refine ⟨_, rfl, ?_, rfl⟩
        have hni : (nI t).toInt = t := nI_toInt (by omega)
        simp only [zi_lt, zi_le, zi_eq, i0, i1, i2, i3, i4, i5, i6, i9, i20, i99, i100, im5, im20, im1, i96] at c1 c9 c15
        unfold tAt
        rw [if_pos (by omega)]
      · refine z_aload_n (pc := 18) C 0 dX4_at_18 rfl rfl ?_
        refine z_getR (pc := 19) (r := 204) C dX4_at_19 fX4_9 sh_203 rfl ?_
        refine z_iload_n (pc := 22) C 1 dX4_at_22 rfl rfl ?_
        refine z_iald (pc := 23) (n := x.toNatClampNeg) C dX4_at_23 sh_204 (zi_in.mpr (by simp only [zi_lt, zi_le, zi_eq, i0, i1, i2, i3, i4, i5, i6, i9, i20, i99, i100, im5, im20, im1, i96] at c1 c15; omega)) rfl ?_
        refine z_goto (pc := 24) C 28 dX4_at_24 (by decide) ?_
        refine z_ireturn (pc := 28) C K dX4_at_28 ?_
        refine ⟨_, rfl, ?_, rfl⟩
        have hni : (nI t).toInt = t := nI_toInt (by omega)
        simp only [zi_lt, zi_le, zi_eq, i0, i1, i2, i3, i4, i5, i6, i9, i20, i99, i100, im5, im20, im1, i96] at c1 c9 c15
        unfold tAt
        rw [if_neg (by omega)]

def zby (v : Int32) (k : Nat) : Int32 := zushr v (24 - 8 * nI k) &&& 255
def tkM (M : zM) (t : Nat) (v : Int32) (j : Nat) : zM := fun a x y f => if a = 20 ∧ x = 0 ∧ y = 0 ∧ t ≤ f ∧ f < t + j then zby v (f - t) else if a = 19 ∧ x = 0 ∧ y = 0 ∧ f = 1 then nI (t + j) else M a x y f
theorem tkM_0 {M : zM} {t : Nat} {v : Int32} (h : M 19 0 0 1 = nI t) : tkM M t v 0 = M := by
  funext a x y f
  unfold tkM
  rw [if_neg (fun q => by omega)]
  by_cases g : a = 19 ∧ x = 0 ∧ y = 0 ∧ f = 1
  · obtain ⟨rfl, rfl, rfl, rfl⟩ := g
    rw [if_pos ⟨rfl, rfl, rfl, rfl⟩, h]
    rfl
  · rw [if_neg g]
theorem tkM_l {M : zM} {t j : Nat} {v : Int32} : tkM M t v j 19 0 0 1 = nI (t + j) := by
  unfold tkM
  rw [if_neg (fun q => absurd q.1 (by decide)), if_pos ⟨rfl, rfl, rfl, rfl⟩]
theorem tkM_succ {M : zM} {t j : Nat} {v u : Int32} (hu : u = zby v j) : zu (zu (tkM M t v j) 20 0 0 (t + j) u) 19 0 0 1 (nI (t + j + 1)) = tkM M t v (j + 1) := by
  funext a x y f
  unfold zu tkM
  by_cases g : a = 19 ∧ x = 0 ∧ y = 0 ∧ f = 1
  · obtain ⟨rfl, rfl, rfl, rfl⟩ := g
    rw [if_pos ⟨rfl, rfl, rfl, rfl⟩, if_neg (fun q => absurd q.1 (by decide)), if_pos ⟨rfl, rfl, rfl, rfl⟩]
    rfl
  · rw [if_neg g, if_neg g, if_neg g]
    by_cases h : a = 20 ∧ x = 0 ∧ y = 0 ∧ f = t + j
    · obtain ⟨rfl, rfl, rfl, rfl⟩ := h
      rw [if_pos ⟨rfl, rfl, rfl, rfl⟩, if_pos ⟨rfl, rfl, rfl, by omega, by omega⟩, hu, Nat.add_sub_cancel_left]
    · rw [if_neg h]
      by_cases h2 : a = 20 ∧ x = 0 ∧ y = 0 ∧ t ≤ f ∧ f < t + j
      · rw [if_pos h2, if_pos ⟨h2.1, h2.2.1, h2.2.2.1, h2.2.2.2.1, by omega⟩]
      · rw [if_neg h2, if_neg (fun q => ?_)]
        rcases Nat.lt_or_ge f (t + j) with r | r
        · exact h2 ⟨q.1, q.2.1, q.2.2.1, q.2.2.2.1, r⟩
        · exact h ⟨q.1, q.2.1, q.2.2.1, by omega⟩
theorem sh24 {j : Nat} (h : j < 4) : ¬ (24 - 8 * nI j < 0) ∧ 24 - 8 * nI j + -8 = 24 - 8 * nI (j + 1) := by
  rcases (show j = 0 ∨ j = 1 ∨ j = 2 ∨ j = 3 by omega) with rfl | rfl | rfl | rfl <;> decide
set_option maxHeartbeats 4000000 in
set_option maxRecDepth 100000 in
theorem mX4_take {l : Launch} {G : zG} {b : Nat} {M : zM} {t : Nat} (ht : M 19 0 0 1 = nI t) (ht96 : t + 4 ≤ 96) {v : Int32} : zMet l G b yX4_take cX4_take 3 none 0 zshL zshL [.ref (b + 203), .int v] M (zV (fun M' => M' = tkM M t v 4)) := by
  refine zMet.of (L0 := [some (.ref (b + 203)), some (.int v), none]) (by decide +kernel) (Nat.le_refl _) (Nat.le_refl _) (Nat.le_of_ble_eq_true rfl) (List.forall_mem_cons.mpr ⟨rfl, List.forall_mem_cons.mpr ⟨rfl, fun _ h => absurd h List.not_mem_nil⟩⟩) rfl (fun X C Al K => ?_)
  have loop : ∀ (k i : Nat), i + k = 4 → zW X zshL (tkM M t v i) 3 [some (.ref (b + 203)), some (.int v), some (.int (24 - 8 * nI i))] [] := by
    intro k
    induction k with
    | zero =>
      intro i hi
      obtain rfl : i = 4 := by omega
      refine z_iload_n (pc := 3) C 2 dX4_take_3 rfl rfl ?_
      refine z_if_lt (pc := 4) C 48 dX4_take_4 (by decide) (fun c4 => ?_) (fun c4 => absurd (by decide) c4)
      refine z_return (pc := 48) C K dX4_take_48 ?_
      exact ⟨rfl, rfl⟩
    | succ k ih =>
      intro i hi
      refine z_iload_n (pc := 3) C 2 dX4_take_3 rfl rfl ?_
      refine z_if_lt (pc := 4) C 48 dX4_take_4 (by decide) (fun c4 => absurd c4 (sh24 (by omega)).1) (fun c4 => ?_)
      refine z_aload_n (pc := 7) C 0 dX4_take_7 rfl rfl ?_
      refine z_getI (pc := 8) C dX4_take_8 fX4_15 sh_203 rfl ?_
      rw [tkM_l]
      refine z_bipush (pc := 11) (v := 96) C dX4_take_11 rfl ?_
      refine z_icmp_ge (pc := 13) C 48 dX4_take_13 (by decide) (fun c13 => absurd c13 (nI_ge (b := 96) (by omega) (by omega))) (fun c13 => ?_)
      refine z_aload_n (pc := 16) C 0 dX4_take_16 rfl rfl ?_
      refine z_getR (pc := 17) (r := 204) C dX4_take_17 fX4_9 sh_203 rfl ?_
      refine z_aload_n (pc := 20) C 0 dX4_take_20 rfl rfl ?_
      refine z_getI (pc := 21) C dX4_take_21 fX4_15 sh_203 rfl ?_
      rw [tkM_l]
      refine z_iload_n (pc := 24) C 1 dX4_take_24 rfl rfl ?_
      refine z_iload_n (pc := 25) C 2 dX4_take_25 rfl rfl ?_
      refine z_iushr (pc := 26) C dX4_take_26 ?_
      refine z_sipush (pc := 27) (v := 255) C dX4_take_27 rfl ?_
      refine z_iand (pc := 30) C dX4_take_30 ?_
      refine z_iast (pc := 31) (n := t + i) C dX4_take_31 sh_204 (vp_in_nI (by omega) (by omega)) (nI_clamp (by omega)) ?_
      refine z_aload_n (pc := 32) C 0 dX4_take_32 rfl rfl ?_
      refine z_dup (pc := 33) C dX4_take_33 rfl ?_
      refine z_getI (pc := 34) C dX4_take_34 fX4_15 sh_203 rfl ?_
      rw [zu_a (by decide), tkM_l]
      refine z_iconst (pc := 37) (v := 1) C dX4_take_37 rfl ?_
      refine z_iadd (pc := 38) C dX4_take_38 ?_
      rw [nI_1]
      refine z_putII (pc := 39) C dX4_take_39 fX4_15 sh_203 rfl ?_
      refine z_iinc (pc := 42) (v := -8) C 2 dX4_take_42 (by decide) rfl rfl rfl ?_
      refine z_goto (pc := 45) C 3 dX4_take_45 (by decide) ?_
      have e := ih (i + 1) (by omega)
      rw [tkM_succ (M := M) (t := t) (j := i) (v := v) (u := zushr v (24 - 8 * nI i) &&& 255) rfl]
      rw [← (sh24 (j := i) (by omega)).2] at e
      exact e
  refine z_bipush (pc := 0) (v := 24) C dX4_take_0 rfl ?_
  refine z_istore_n (pc := 2) C 2 dX4_take_2 rfl (by decide) rfl ?_
  have e := loop 4 0 (by omega)
  rw [tkM_0 ht] at e
  exact e

set_option maxHeartbeats 4000000 in
set_option maxRecDepth 100000 in
theorem mX10_isOne {l : Launch} {G : zG} {b : Nat} {M : zM} {x : Int32} {n : Nat} (hn : M 31 0 0 1 = nI n) (hn8 : n ≤ 8) : zMet l G b yX10_isOne cX10_isOne 2 (some .boolean) 1 zshL zshL [.ref (b + 239), .int x] M (zI (fun r M' => zb r (iin x 0 ((n : Int) - 1)) ∧ M' = M)) := by
  refine zMet.of (L0 := [some (.ref (b + 239)), some (.int x)]) (by decide +kernel) (Nat.le_refl _) (Nat.le_refl _) (Nat.le_of_ble_eq_true rfl) (List.forall_mem_cons.mpr ⟨rfl, List.forall_mem_cons.mpr ⟨rfl, fun _ h => absurd h List.not_mem_nil⟩⟩) rfl (fun X C Al K => ?_)
  refine z_iload_n (pc := 0) C 1 dX10_isOne_0 rfl rfl ?_
  refine z_iconst (pc := 1) (v := 0) C dX10_isOne_1 rfl ?_
  refine z_aload_n (pc := 2) C 0 dX10_isOne_2 rfl rfl ?_
  refine z_getR (pc := 3) (r := 240) C dX10_isOne_3 fX10_9 sh_239 rfl ?_
  refine z_iconst (pc := 6) (v := 1) C dX10_isOne_6 rfl ?_
  refine z_iald (pc := 7) (n := 1) C dX10_isOne_7 sh_240 (zi_in.mpr (by decide)) rfl ?_
  rw [hn]
  refine z_iconst (pc := 8) (v := 1) C dX10_isOne_8 rfl ?_
  refine z_isub (pc := 9) C dX10_isOne_9 ?_
  refine z_callSi (pc := 10) C dX10_isOne_10 kX10_78 mX10_in (by decide) rfl rfl (Nat.le_of_ble_eq_true rfl) (fun r10 M10 h10 => ?_)
  obtain ⟨h10, e10⟩ := h10
  subst M10
  rw [zin_i] at h10
  have hni : (nI n - 1).toInt = (n : Int) - 1 := by
    have e : (nI n).toInt = n := nI_toInt (by omega)
    rw [zi_sub (by rw [e, i1]; omega) (by rw [e, i1]; omega), e, i1]
  rw [hni, i0] at h10
  refine z_zreturn (pc := 13) C K dX10_isOne_13 (zb.bool h10) ?_
  exact ⟨_, rfl, h10, rfl⟩

set_option maxHeartbeats 4000000 in
set_option maxRecDepth 100000 in
theorem mX10_isSheet {l : Launch} {G : zG} {b : Nat} {M : zM} {x : Int32} : zMet l G b yX10_isSheet cX10_isSheet 1 (some .boolean) 1 zshL zshL [.int x] M (zI (fun r M' => zb r (iin x 0 3) ∧ M' = M)) := by
  refine zMet.of (L0 := [some (.int x)]) (by decide +kernel) (Nat.le_refl _) (Nat.le_refl _) (Nat.le_of_ble_eq_true rfl) (List.forall_mem_cons.mpr ⟨rfl, fun _ h => absurd h List.not_mem_nil⟩) rfl (fun X C Al K => ?_)
  refine z_iload_n (pc := 0) C 0 dX10_isSheet_0 rfl rfl ?_
  refine z_iconst (pc := 1) (v := 0) C dX10_isSheet_1 rfl ?_
  refine z_iconst (pc := 2) (v := 3) C dX10_isSheet_2 rfl ?_
  refine z_callSi (pc := 3) C dX10_isSheet_3 kX10_78 mX10_in (by decide) rfl rfl (Nat.le_of_ble_eq_true rfl) (fun r3 M3 h3 => ?_)
  obtain ⟨h3, e3⟩ := h3
  subst M3
  rw [zin_i] at h3
  refine z_zreturn (pc := 6) C K dX10_isSheet_6 (zb.bool h3) ?_
  exact ⟨_, rfl, h3, rfl⟩

set_option maxHeartbeats 4000000 in
set_option maxRecDepth 100000 in
theorem mX10_isSlot {l : Launch} {G : zG} {b : Nat} {M : zM} {x : Int32} : zMet l G b yX10_isSlot cX10_isSlot 1 (some .boolean) 1 zshL zshL [.int x] M (zI (fun r M' => zb r (iin x 0 4) ∧ M' = M)) := by
  refine zMet.of (L0 := [some (.int x)]) (by decide +kernel) (Nat.le_refl _) (Nat.le_refl _) (Nat.le_of_ble_eq_true rfl) (List.forall_mem_cons.mpr ⟨rfl, fun _ h => absurd h List.not_mem_nil⟩) rfl (fun X C Al K => ?_)
  refine z_iload_n (pc := 0) C 0 dX10_isSlot_0 rfl rfl ?_
  refine z_iconst (pc := 1) (v := 0) C dX10_isSlot_1 rfl ?_
  refine z_iconst (pc := 2) (v := 4) C dX10_isSlot_2 rfl ?_
  refine z_callSi (pc := 3) C dX10_isSlot_3 kX10_78 mX10_in (by decide) rfl rfl (Nat.le_of_ble_eq_true rfl) (fun r3 M3 h3 => ?_)
  obtain ⟨h3, e3⟩ := h3
  subst M3
  rw [zin_i] at h3
  refine z_zreturn (pc := 6) C K dX10_isSlot_6 (zb.bool h3) ?_
  exact ⟨_, rfl, h3, rfl⟩

set_option maxHeartbeats 4000000 in
set_option maxRecDepth 100000 in
theorem mX10_isUnder {l : Launch} {G : zG} {b : Nat} {M : zM} {k x : Int32} : zMet l G b yX10_isUnder cX10_isUnder 2 (some .boolean) 0 zshL zshL [.int k, .int x] M (zI (fun r M' => zb r (sUn k x) ∧ M' = M)) := by
  refine zMet.of (L0 := [some (.int k), some (.int x)]) (by decide +kernel) (Nat.le_refl _) (Nat.le_refl _) (Nat.le_of_ble_eq_true rfl) (List.forall_mem_cons.mpr ⟨rfl, List.forall_mem_cons.mpr ⟨rfl, fun _ h => absurd h List.not_mem_nil⟩⟩) rfl (fun X C Al K => ?_)
  refine z_iload_n (pc := 0) C 1 dX10_isUnder_0 rfl rfl ?_
  refine z_if_eq (pc := 1) C 29 dX10_isUnder_1 (by decide) (fun c1 => ?_) (fun c1 => ?_)
  · refine z_iconst (pc := 29) (v := 1) C dX10_isUnder_29 rfl ?_
    refine z_goto (pc := 30) C 34 dX10_isUnder_30 (by decide) ?_
    refine z_zreturn (pc := 34) C K dX10_isUnder_34 (Or.inr rfl) ?_
    refine ⟨_, rfl, Or.inl ⟨rfl, ?_⟩, rfl⟩
    simp only [zi_lt, zi_le, zi_eq, i0, i1, i2, i3, i4, i5, i6, i9, i20, i99, i100, im5, im20, im1] at c1
    unfold sUn
    omega
  · refine z_iload_n (pc := 4) C 0 dX10_isUnder_4 rfl rfl ?_
    refine z_iload_n (pc := 5) C 1 dX10_isUnder_5 rfl rfl ?_
    refine z_icmp_eq (pc := 6) C 29 dX10_isUnder_6 (by decide) (fun c6 => ?_) (fun c6 => ?_)
    · refine z_iconst (pc := 29) (v := 1) C dX10_isUnder_29 rfl ?_
      refine z_goto (pc := 30) C 34 dX10_isUnder_30 (by decide) ?_
      refine z_zreturn (pc := 34) C K dX10_isUnder_34 (Or.inr rfl) ?_
      refine ⟨_, rfl, Or.inl ⟨rfl, ?_⟩, rfl⟩
      simp only [zi_lt, zi_le, zi_eq, i0, i1, i2, i3, i4, i5, i6, i9, i20, i99, i100, im5, im20, im1] at c1 c6
      unfold sUn
      omega
    · refine z_iload_n (pc := 9) C 1 dX10_isUnder_9 rfl rfl ?_
      refine z_iconst (pc := 10) (v := 1) C dX10_isUnder_10 rfl ?_
      refine z_icmp_ne (pc := 11) C 19 dX10_isUnder_11 (by decide) (fun c11 => ?_) (fun c11 => ?_)
      · refine z_iload_n (pc := 19) C 1 dX10_isUnder_19 rfl rfl ?_
        refine z_iconst (pc := 20) (v := 2) C dX10_isUnder_20 rfl ?_
        refine z_icmp_ne (pc := 21) C 33 dX10_isUnder_21 (by decide) (fun c21 => ?_) (fun c21 => ?_)
        · refine z_iconst (pc := 33) (v := 0) C dX10_isUnder_33 rfl ?_
          refine z_zreturn (pc := 34) C K dX10_isUnder_34 (Or.inl rfl) ?_
          refine ⟨_, rfl, Or.inr ⟨rfl, ?_⟩, rfl⟩
          simp only [zi_lt, zi_le, zi_eq, i0, i1, i2, i3, i4, i5, i6, i9, i20, i99, i100, im5, im20, im1] at c1 c6 c11 c21
          unfold sUn
          omega
        · refine z_iload_n (pc := 24) C 0 dX10_isUnder_24 rfl rfl ?_
          refine z_iconst (pc := 25) (v := 4) C dX10_isUnder_25 rfl ?_
          refine z_icmp_ne (pc := 26) C 33 dX10_isUnder_26 (by decide) (fun c26 => ?_) (fun c26 => ?_)
          · refine z_iconst (pc := 33) (v := 0) C dX10_isUnder_33 rfl ?_
            refine z_zreturn (pc := 34) C K dX10_isUnder_34 (Or.inl rfl) ?_
            refine ⟨_, rfl, Or.inr ⟨rfl, ?_⟩, rfl⟩
            simp only [zi_lt, zi_le, zi_eq, i0, i1, i2, i3, i4, i5, i6, i9, i20, i99, i100, im5, im20, im1] at c1 c6 c11 c21 c26
            unfold sUn
            omega
          · refine z_iconst (pc := 29) (v := 1) C dX10_isUnder_29 rfl ?_
            refine z_goto (pc := 30) C 34 dX10_isUnder_30 (by decide) ?_
            refine z_zreturn (pc := 34) C K dX10_isUnder_34 (Or.inr rfl) ?_
            refine ⟨_, rfl, Or.inl ⟨rfl, ?_⟩, rfl⟩
            simp only [zi_lt, zi_le, zi_eq, i0, i1, i2, i3, i4, i5, i6, i9, i20, i99, i100, im5, im20, im1] at c1 c6 c11 c21 c26
            unfold sUn
            omega
      · refine z_iload_n (pc := 14) C 0 dX10_isUnder_14 rfl rfl ?_
        refine z_iconst (pc := 15) (v := 3) C dX10_isUnder_15 rfl ?_
        refine z_icmp_eq (pc := 16) C 29 dX10_isUnder_16 (by decide) (fun c16 => ?_) (fun c16 => ?_)
        · refine z_iconst (pc := 29) (v := 1) C dX10_isUnder_29 rfl ?_
          refine z_goto (pc := 30) C 34 dX10_isUnder_30 (by decide) ?_
          refine z_zreturn (pc := 34) C K dX10_isUnder_34 (Or.inr rfl) ?_
          refine ⟨_, rfl, Or.inl ⟨rfl, ?_⟩, rfl⟩
          simp only [zi_lt, zi_le, zi_eq, i0, i1, i2, i3, i4, i5, i6, i9, i20, i99, i100, im5, im20, im1] at c1 c6 c11 c16
          unfold sUn
          omega
        · refine z_iload_n (pc := 19) C 1 dX10_isUnder_19 rfl rfl ?_
          refine z_iconst (pc := 20) (v := 2) C dX10_isUnder_20 rfl ?_
          refine z_icmp_ne (pc := 21) C 33 dX10_isUnder_21 (by decide) (fun c21 => ?_) (fun c21 => ?_)
          · refine z_iconst (pc := 33) (v := 0) C dX10_isUnder_33 rfl ?_
            refine z_zreturn (pc := 34) C K dX10_isUnder_34 (Or.inl rfl) ?_
            refine ⟨_, rfl, Or.inr ⟨rfl, ?_⟩, rfl⟩
            simp only [zi_lt, zi_le, zi_eq, i0, i1, i2, i3, i4, i5, i6, i9, i20, i99, i100, im5, im20, im1] at c1 c6 c11 c16 c21
            unfold sUn
            omega
          · refine z_iload_n (pc := 24) C 0 dX10_isUnder_24 rfl rfl ?_
            refine z_iconst (pc := 25) (v := 4) C dX10_isUnder_25 rfl ?_
            refine z_icmp_ne (pc := 26) C 33 dX10_isUnder_26 (by decide) (fun c26 => ?_) (fun c26 => ?_)
            · refine z_iconst (pc := 33) (v := 0) C dX10_isUnder_33 rfl ?_
              refine z_zreturn (pc := 34) C K dX10_isUnder_34 (Or.inl rfl) ?_
              refine ⟨_, rfl, Or.inr ⟨rfl, ?_⟩, rfl⟩
              simp only [zi_lt, zi_le, zi_eq, i0, i1, i2, i3, i4, i5, i6, i9, i20, i99, i100, im5, im20, im1] at c1 c6 c11 c16 c21 c26
              unfold sUn
              omega
            · refine z_iconst (pc := 29) (v := 1) C dX10_isUnder_29 rfl ?_
              refine z_goto (pc := 30) C 34 dX10_isUnder_30 (by decide) ?_
              refine z_zreturn (pc := 34) C K dX10_isUnder_34 (Or.inr rfl) ?_
              refine ⟨_, rfl, Or.inl ⟨rfl, ?_⟩, rfl⟩
              simp only [zi_lt, zi_le, zi_eq, i0, i1, i2, i3, i4, i5, i6, i9, i20, i99, i100, im5, im20, im1] at c1 c6 c11 c16 c21 c26
              unfold sUn
              omega

set_option maxHeartbeats 4000000 in
set_option maxRecDepth 100000 in
theorem mX10_leastOf {l : Launch} {G : zG} {b : Nat} {M : zM} {t : Int32} : zMet l G b yX10_leastOf cX10_leastOf 1 (some .int) 0 zshL zshL [.int t] M (zI (fun r M' => r = (if t = 2 then 1 else if t = 3 then -20 else 0) ∧ M' = M)) := by
  refine zMet.of (L0 := [some (.int t)]) (by decide +kernel) (Nat.le_refl _) (Nat.le_refl _) (Nat.le_of_ble_eq_true rfl) (List.forall_mem_cons.mpr ⟨rfl, fun _ h => absurd h List.not_mem_nil⟩) rfl (fun X C Al K => ?_)
  refine z_iload_n (pc := 0) C 0 dX10_leastOf_0 rfl rfl ?_
  refine z_iconst (pc := 1) (v := 2) C dX10_leastOf_1 rfl ?_
  refine z_icmp_ne (pc := 2) C 9 dX10_leastOf_2 (by decide) (fun c2 => ?_) (fun c2 => ?_)
  · refine z_iload_n (pc := 9) C 0 dX10_leastOf_9 rfl rfl ?_
    refine z_iconst (pc := 10) (v := 3) C dX10_leastOf_10 rfl ?_
    refine z_icmp_ne (pc := 11) C 19 dX10_leastOf_11 (by decide) (fun c11 => ?_) (fun c11 => ?_)
    · refine z_iconst (pc := 19) (v := 0) C dX10_leastOf_19 rfl ?_
      refine z_ireturn (pc := 20) C K dX10_leastOf_20 ?_
      refine ⟨_, rfl, ?_, rfl⟩
      simp_all
    · refine z_bipush (pc := 14) (v := -20) C dX10_leastOf_14 rfl ?_
      refine z_goto (pc := 16) C 20 dX10_leastOf_16 (by decide) ?_
      refine z_ireturn (pc := 20) C K dX10_leastOf_20 ?_
      refine ⟨_, rfl, ?_, rfl⟩
      simp_all
  · refine z_iconst (pc := 5) (v := 1) C dX10_leastOf_5 rfl ?_
    refine z_goto (pc := 6) C 20 dX10_leastOf_6 (by decide) ?_
    refine z_ireturn (pc := 20) C K dX10_leastOf_20 ?_
    refine ⟨_, rfl, ?_, rfl⟩
    simp_all

set_option maxHeartbeats 4000000 in
set_option maxRecDepth 100000 in
theorem mX10_mostOf {l : Launch} {G : zG} {b : Nat} {M : zM} {t : Int32} : zMet l G b yX10_mostOf cX10_mostOf 1 (some .int) 0 zshL zshL [.int t] M (zI (fun r M' => r = (if t = 1 then 99 else if t = 2 then 9 else if t = 3 then 20 else 1) ∧ M' = M)) := by
  refine zMet.of (L0 := [some (.int t)]) (by decide +kernel) (Nat.le_refl _) (Nat.le_refl _) (Nat.le_of_ble_eq_true rfl) (List.forall_mem_cons.mpr ⟨rfl, fun _ h => absurd h List.not_mem_nil⟩) rfl (fun X C Al K => ?_)
  refine z_iload_n (pc := 0) C 0 dX10_mostOf_0 rfl rfl ?_
  refine z_iconst (pc := 1) (v := 1) C dX10_mostOf_1 rfl ?_
  refine z_icmp_ne (pc := 2) C 10 dX10_mostOf_2 (by decide) (fun c2 => ?_) (fun c2 => ?_)
  · refine z_iload_n (pc := 10) C 0 dX10_mostOf_10 rfl rfl ?_
    refine z_iconst (pc := 11) (v := 2) C dX10_mostOf_11 rfl ?_
    refine z_icmp_ne (pc := 12) C 20 dX10_mostOf_12 (by decide) (fun c12 => ?_) (fun c12 => ?_)
    · refine z_iload_n (pc := 20) C 0 dX10_mostOf_20 rfl rfl ?_
      refine z_iconst (pc := 21) (v := 3) C dX10_mostOf_21 rfl ?_
      refine z_icmp_ne (pc := 22) C 30 dX10_mostOf_22 (by decide) (fun c22 => ?_) (fun c22 => ?_)
      · refine z_iconst (pc := 30) (v := 1) C dX10_mostOf_30 rfl ?_
        refine z_ireturn (pc := 31) C K dX10_mostOf_31 ?_
        refine ⟨_, rfl, ?_, rfl⟩
        simp_all
      · refine z_bipush (pc := 25) (v := 20) C dX10_mostOf_25 rfl ?_
        refine z_goto (pc := 27) C 31 dX10_mostOf_27 (by decide) ?_
        refine z_ireturn (pc := 31) C K dX10_mostOf_31 ?_
        refine ⟨_, rfl, ?_, rfl⟩
        simp_all
    · refine z_bipush (pc := 15) (v := 9) C dX10_mostOf_15 rfl ?_
      refine z_goto (pc := 17) C 31 dX10_mostOf_17 (by decide) ?_
      refine z_ireturn (pc := 31) C K dX10_mostOf_31 ?_
      refine ⟨_, rfl, ?_, rfl⟩
      simp_all
  · refine z_bipush (pc := 5) (v := 99) C dX10_mostOf_5 rfl ?_
    refine z_goto (pc := 7) C 31 dX10_mostOf_7 (by decide) ?_
    refine z_ireturn (pc := 31) C K dX10_mostOf_31 ?_
    refine ⟨_, rfl, ?_, rfl⟩
    simp_all

theorem s47 {x : Int32} (h : iin x (-20) 20) : 50 - x - 3 = 47 - x := by
  unfold iin at h
  have a : (50 : Int32).toInt = 50 := by decide
  have c : (47 : Int32).toInt = 47 := by decide
  have e1 : (50 - x).toInt = 50 - x.toInt := by rw [zi_sub (by rw [a]; omega) (by rw [a]; omega), a]
  have e2 : (50 - x - 3).toInt = 50 - x.toInt - 3 := by rw [zi_sub (by rw [e1, i3]; omega) (by rw [e1, i3]; omega), e1, i3]
  have e3 : (47 - x).toInt = 47 - x.toInt := by rw [zi_sub (by rw [c]; omega) (by rw [c]; omega), c]
  rw [zi_eq, e2, e3]
  omega
set_option maxHeartbeats 4000000 in
set_option maxRecDepth 100000 in
theorem mX10_worthOf {l : Launch} {G : zG} {b : Nat} {M : zM} {i : Nat} (hi : i < 8) (hb : iin (mp M i 3) (-20) 20) : zMet l G b yX10_worthOf cX10_worthOf 3 (some .int) 1 zshL zshL [.ref (b + 239), .int (nI i)] M (zI (fun r M' => r = s_worth (mp M i 0) (mp M i 2) (mp M i 3) ∧ M' = M)) := by
  refine zMet.of (L0 := [some (.ref (b + 239)), some (.int (nI i)), none]) (by decide +kernel) (Nat.le_refl _) (Nat.le_refl _) (Nat.le_of_ble_eq_true rfl) (List.forall_mem_cons.mpr ⟨rfl, List.forall_mem_cons.mpr ⟨rfl, fun _ h => absurd h List.not_mem_nil⟩⟩) rfl (fun X C Al K => ?_)
  refine z_aload_n (pc := 0) C 0 dX10_worthOf_0 rfl rfl ?_
  refine z_iload_n (pc := 1) C 1 dX10_worthOf_1 rfl rfl ?_
  refine z_iconst (pc := 2) (v := 2) C dX10_worthOf_2 rfl ?_
  refine z_callVi (pc := 3) C dX10_worthOf_3 kX10_96 (mX10_of (f := 2) hi (by decide)) (by decide) sh_239 rfl rfl rfl (Nat.le_of_ble_eq_true rfl) (fun r3 M3 h3 => ?_)
  obtain ⟨rfl, e3⟩ := h3
  subst M3
  refine z_istore_n (pc := 6) C 2 dX10_worthOf_6 rfl (by decide) rfl ?_
  refine z_aload_n (pc := 7) C 0 dX10_worthOf_7 rfl rfl ?_
  refine z_iload_n (pc := 8) C 1 dX10_worthOf_8 rfl rfl ?_
  refine z_iconst (pc := 9) (v := 0) C dX10_worthOf_9 rfl ?_
  refine z_callVi (pc := 10) C dX10_worthOf_10 kX10_96 (mX10_of (f := 0) hi (by decide)) (by decide) sh_239 rfl rfl rfl (Nat.le_of_ble_eq_true rfl) (fun r10 M10 h10 => ?_)
  obtain ⟨rfl, e10⟩ := h10
  subst M10
  by_cases s13_0 : mp M i 0 = 1
  · refine z_tswIn (pc := 13) C (1) 48 dX10_worthOf_13 (by rw [s13_0]; rfl) (by decide) (by decide) rfl (by decide) ?_
    refine z_iload_n (pc := 48) C 2 dX10_worthOf_48 rfl rfl ?_
    refine z_bipush (pc := 49) (v := 10) C dX10_worthOf_49 rfl ?_
    refine z_iadd (pc := 51) C dX10_worthOf_51 ?_
    refine z_ireturn (pc := 52) C K dX10_worthOf_52 ?_
    refine ⟨_, rfl, ?_, rfl⟩
    unfold s_worth
    rw [if_pos s13_0]
  by_cases s13_1 : mp M i 0 = 2
  · refine z_tswIn (pc := 13) C (2) 53 dX10_worthOf_13 (by rw [s13_1]; rfl) (by decide) (by decide) rfl (by decide) ?_
    refine z_bipush (pc := 53) (v := 50) C dX10_worthOf_53 rfl ?_
    refine z_aload_n (pc := 55) C 0 dX10_worthOf_55 rfl rfl ?_
    refine z_iload_n (pc := 56) C 1 dX10_worthOf_56 rfl rfl ?_
    refine z_iconst (pc := 57) (v := 3) C dX10_worthOf_57 rfl ?_
    refine z_callVi (pc := 58) C dX10_worthOf_58 kX10_96 (mX10_of (f := 3) hi (by decide)) (by decide) sh_239 rfl rfl rfl (Nat.le_of_ble_eq_true rfl) (fun r58 M58 h58 => ?_)
    obtain ⟨rfl, e58⟩ := h58
    subst M58
    refine z_isub (pc := 61) C dX10_worthOf_61 ?_
    refine z_ireturn (pc := 62) C K dX10_worthOf_62 ?_
    refine ⟨_, rfl, ?_, rfl⟩
    unfold s_worth
    rw [if_neg s13_0, if_pos s13_1]
  by_cases s13_2 : mp M i 0 = 3
  · refine z_tswIn (pc := 13) C (3) 63 dX10_worthOf_13 (by rw [s13_2]; rfl) (by decide) (by decide) rfl (by decide) ?_
    refine z_iconst (pc := 63) (v := 2) C dX10_worthOf_63 rfl ?_
    refine z_iload_n (pc := 64) C 2 dX10_worthOf_64 rfl rfl ?_
    refine z_bipush (pc := 65) (v := 10) C dX10_worthOf_65 rfl ?_
    refine z_iadd (pc := 67) C dX10_worthOf_67 ?_
    refine z_imul (pc := 68) C dX10_worthOf_68 ?_
    refine z_ireturn (pc := 69) C K dX10_worthOf_69 ?_
    refine ⟨_, rfl, ?_, rfl⟩
    unfold s_worth
    rw [if_neg s13_0, if_neg s13_1, if_pos s13_2]
  by_cases s13_3 : mp M i 0 = 4
  · refine z_tswIn (pc := 13) C (4) 70 dX10_worthOf_13 (by rw [s13_3]; rfl) (by decide) (by decide) rfl (by decide) ?_
    refine z_bipush (pc := 70) (v := 47) C dX10_worthOf_70 rfl ?_
    refine z_aload_n (pc := 72) C 0 dX10_worthOf_72 rfl rfl ?_
    refine z_iload_n (pc := 73) C 1 dX10_worthOf_73 rfl rfl ?_
    refine z_iconst (pc := 74) (v := 3) C dX10_worthOf_74 rfl ?_
    refine z_callVi (pc := 75) C dX10_worthOf_75 kX10_96 (mX10_of (f := 3) hi (by decide)) (by decide) sh_239 rfl rfl rfl (Nat.le_of_ble_eq_true rfl) (fun r75 M75 h75 => ?_)
    obtain ⟨rfl, e75⟩ := h75
    subst M75
    refine z_isub (pc := 78) C dX10_worthOf_78 ?_
    refine z_ireturn (pc := 79) C K dX10_worthOf_79 ?_
    refine ⟨_, rfl, ?_, rfl⟩
    unfold s_worth
    rw [if_neg s13_0, if_neg s13_1, if_neg s13_2, if_pos s13_3, s47 hb]
  by_cases s13_4 : mp M i 0 = 5
  · refine z_tswIn (pc := 13) C (5) 80 dX10_worthOf_13 (by rw [s13_4]; rfl) (by decide) (by decide) rfl (by decide) ?_
    refine z_iconst (pc := 80) (v := 1) C dX10_worthOf_80 rfl ?_
    refine z_ireturn (pc := 81) C K dX10_worthOf_81 ?_
    refine ⟨_, rfl, ?_, rfl⟩
    unfold s_worth
    rw [if_neg s13_0, if_neg s13_1, if_neg s13_2, if_neg s13_3, if_pos s13_4]
  refine z_tswOut (pc := 13) C 82 dX10_worthOf_13 (by have g0 := lv_neT (a := 1) s13_0 rfl; have g1 := lv_neT (a := 2) s13_1 rfl; have g2 := lv_neT (a := 3) s13_2 rfl; have g3 := lv_neT (a := 4) s13_3 rfl; have g4 := lv_neT (a := 5) s13_4 rfl; omega) (by decide) ?_
  refine z_iload_n (pc := 82) C 2 dX10_worthOf_82 rfl rfl ?_
  refine z_ireturn (pc := 83) C K dX10_worthOf_83 ?_
  refine ⟨_, rfl, ?_, rfl⟩
  unfold s_worth
  rw [if_neg s13_0, if_neg s13_1, if_neg s13_2, if_neg s13_3, if_neg s13_4]

def mNew (M : zM) (n : Nat) (k d g e : Int32) : zM := fun a x y f => if a = 31 ∧ x = 0 ∧ y = 0 ∧ 9 + 7 * n ≤ f ∧ f < 16 + 7 * n then pNew k d g e (f - (9 + 7 * n)) else if a = 31 ∧ x = 0 ∧ y = 0 ∧ f = 1 then nI (n + 1) else M a x y f
theorem mNew_eq {M : zM} {n : Nat} {k d g e : Int32} : zu (mput (mput (mput (mput (mput (mput (mput M n 0 k) n 1 d) n 2 g) n 3 e) n 4 0) n 5 99) n 6 1) 31 0 0 1 (nI (n + 1)) = mNew M n k d g e := by
  funext a x y f
  unfold mNew mput zu
  by_cases h : a = 31 ∧ x = 0 ∧ y = 0
  · obtain ⟨rfl, rfl, rfl⟩ := h
    simp only [true_and]
    by_cases h1 : f = 1
    · rw [if_pos h1, if_neg (by omega), if_pos h1]
    · rw [if_neg h1, if_neg h1]
      by_cases h2 : 9 + 7 * n ≤ f ∧ f < 16 + 7 * n
      · rw [if_pos h2]
        obtain ⟨j, rfl⟩ : ∃ j, f = 9 + 7 * n + j := ⟨f - (9 + 7 * n), by omega⟩
        rw [Nat.add_sub_cancel_left]
        unfold pNew
        rcases (show j = 0 ∨ j = 1 ∨ j = 2 ∨ j = 3 ∨ j = 4 ∨ j = 5 ∨ j = 6 by omega) with rfl | rfl | rfl | rfl | rfl | rfl | rfl <;> simp
      · rw [if_neg h2, if_neg (by omega), if_neg (by omega), if_neg (by omega), if_neg (by omega), if_neg (by omega), if_neg (by omega), if_neg (by omega)]
  · have h' : ∀ P : Prop, ¬ (a = 31 ∧ x = 0 ∧ y = 0 ∧ P) := fun P q => h ⟨q.1, q.2.1, q.2.2.1⟩
    simp only [if_neg (h' _)]
set_option maxHeartbeats 4000000 in
set_option maxRecDepth 100000 in
theorem mX10_comes {l : Launch} {G : zG} {b : Nat} {M : zM} {n : Nat} (hn : M 31 0 0 1 = nI n) (hn8 : n < 8) {k d g e : Int32} : zMet l G b yX10_comes cX10_comes 6 (some .int) 1 zshL zshL [.ref (b + 239), .int k, .int d, .int g, .int e] M (zI (fun r M' => r = nI n ∧ M' = mNew M n k d g e)) := by
  refine zMet.of (L0 := [some (.ref (b + 239)), some (.int k), some (.int d), some (.int g), some (.int e), none]) (by decide +kernel) (Nat.le_refl _) (Nat.le_refl _) (Nat.le_of_ble_eq_true rfl) (List.forall_mem_cons.mpr ⟨rfl, List.forall_mem_cons.mpr ⟨rfl, List.forall_mem_cons.mpr ⟨rfl, List.forall_mem_cons.mpr ⟨rfl, List.forall_mem_cons.mpr ⟨rfl, fun _ h => absurd h List.not_mem_nil⟩⟩⟩⟩⟩) rfl (fun X C Al K => ?_)
  refine z_aload_n (pc := 0) C 0 dX10_comes_0 rfl rfl ?_
  refine z_getR (pc := 1) (r := 240) C dX10_comes_1 fX10_9 sh_239 rfl ?_
  refine z_iconst (pc := 4) (v := 1) C dX10_comes_4 rfl ?_
  refine z_iald (pc := 5) (n := 1) C dX10_comes_5 sh_240 (zi_in.mpr (by decide)) rfl ?_
  rw [hn]
  refine z_istore (pc := 6) C 5 dX10_comes_6 (by decide) rfl ?_
  refine z_aload_n (pc := 8) C 0 dX10_comes_8 rfl rfl ?_
  refine z_iload (pc := 9) C 5 dX10_comes_9 rfl ?_
  refine z_iconst (pc := 11) (v := 0) C dX10_comes_11 rfl ?_
  refine z_iload_n (pc := 12) C 1 dX10_comes_12 rfl rfl ?_
  refine z_callVv (pc := 13) C dX10_comes_13 kX10_82 (mX10_put (f := 0) hn8 (by decide)) (by decide) sh_239 rfl rfl rfl (Nat.le_of_ble_eq_true rfl) (fun M13 h13 => ?_)
  subst h13
  refine z_aload_n (pc := 16) C 0 dX10_comes_16 rfl rfl ?_
  refine z_iload (pc := 17) C 5 dX10_comes_17 rfl ?_
  refine z_iconst (pc := 19) (v := 1) C dX10_comes_19 rfl ?_
  refine z_iload_n (pc := 20) C 2 dX10_comes_20 rfl rfl ?_
  refine z_callVv (pc := 21) C dX10_comes_21 kX10_82 (mX10_put (f := 1) hn8 (by decide)) (by decide) sh_239 rfl rfl rfl (Nat.le_of_ble_eq_true rfl) (fun M21 h21 => ?_)
  subst h21
  refine z_aload_n (pc := 24) C 0 dX10_comes_24 rfl rfl ?_
  refine z_iload (pc := 25) C 5 dX10_comes_25 rfl ?_
  refine z_iconst (pc := 27) (v := 2) C dX10_comes_27 rfl ?_
  refine z_iload_n (pc := 28) C 3 dX10_comes_28 rfl rfl ?_
  refine z_callVv (pc := 29) C dX10_comes_29 kX10_82 (mX10_put (f := 2) hn8 (by decide)) (by decide) sh_239 rfl rfl rfl (Nat.le_of_ble_eq_true rfl) (fun M29 h29 => ?_)
  subst h29
  refine z_aload_n (pc := 32) C 0 dX10_comes_32 rfl rfl ?_
  refine z_iload (pc := 33) C 5 dX10_comes_33 rfl ?_
  refine z_iconst (pc := 35) (v := 3) C dX10_comes_35 rfl ?_
  refine z_iload (pc := 36) C 4 dX10_comes_36 rfl ?_
  refine z_callVv (pc := 38) C dX10_comes_38 kX10_82 (mX10_put (f := 3) hn8 (by decide)) (by decide) sh_239 rfl rfl rfl (Nat.le_of_ble_eq_true rfl) (fun M38 h38 => ?_)
  subst h38
  refine z_aload_n (pc := 41) C 0 dX10_comes_41 rfl rfl ?_
  refine z_iload (pc := 42) C 5 dX10_comes_42 rfl ?_
  refine z_iconst (pc := 44) (v := 4) C dX10_comes_44 rfl ?_
  refine z_iconst (pc := 45) (v := 0) C dX10_comes_45 rfl ?_
  refine z_callVv (pc := 46) C dX10_comes_46 kX10_82 (mX10_put (f := 4) hn8 (by decide)) (by decide) sh_239 rfl rfl rfl (Nat.le_of_ble_eq_true rfl) (fun M46 h46 => ?_)
  subst h46
  refine z_aload_n (pc := 49) C 0 dX10_comes_49 rfl rfl ?_
  refine z_iload (pc := 50) C 5 dX10_comes_50 rfl ?_
  refine z_iconst (pc := 52) (v := 5) C dX10_comes_52 rfl ?_
  refine z_bipush (pc := 53) (v := 99) C dX10_comes_53 rfl ?_
  refine z_callVv (pc := 55) C dX10_comes_55 kX10_82 (mX10_put (f := 5) hn8 (by decide)) (by decide) sh_239 rfl rfl rfl (Nat.le_of_ble_eq_true rfl) (fun M55 h55 => ?_)
  subst h55
  refine z_aload_n (pc := 58) C 0 dX10_comes_58 rfl rfl ?_
  refine z_iload (pc := 59) C 5 dX10_comes_59 rfl ?_
  refine z_bipush (pc := 61) (v := 6) C dX10_comes_61 rfl ?_
  refine z_iconst (pc := 63) (v := 1) C dX10_comes_63 rfl ?_
  refine z_callVv (pc := 64) C dX10_comes_64 kX10_82 (mX10_put (f := 6) hn8 (by decide)) (by decide) sh_239 rfl rfl rfl (Nat.le_of_ble_eq_true rfl) (fun M64 h64 => ?_)
  subst h64
  refine z_aload_n (pc := 67) C 0 dX10_comes_67 rfl rfl ?_
  refine z_getR (pc := 68) (r := 240) C dX10_comes_68 fX10_9 sh_239 rfl ?_
  refine z_iconst (pc := 71) (v := 1) C dX10_comes_71 rfl ?_
  refine z_dup2 (pc := 72) C dX10_comes_72 rfl rfl ?_
  refine z_iald (pc := 73) (n := 1) C dX10_comes_73 sh_240 (zi_in.mpr (by decide)) rfl ?_
  rw [show mput (mput (mput (mput (mput (mput (mput M n 0 k) n 1 d) n 2 g) n 3 e) n 4 0) n 5 99) n 6 1 31 0 0 1 = nI n from by unfold mput; rw [zu_f (by omega), zu_f (by omega), zu_f (by omega), zu_f (by omega), zu_f (by omega), zu_f (by omega), zu_f (by omega), hn]]
  refine z_iconst (pc := 74) (v := 1) C dX10_comes_74 rfl ?_
  refine z_iadd (pc := 75) C dX10_comes_75 ?_
  rw [nI_1]
  refine z_iast (pc := 76) (n := 1) C dX10_comes_76 sh_240 (zi_in.mpr (by decide)) rfl ?_
  rw [mNew_eq]
  refine z_iload (pc := 77) C 5 dX10_comes_77 rfl ?_
  refine z_ireturn (pc := 79) C K dX10_comes_79 ?_
  exact ⟨_, rfl, rfl, rfl⟩

set_option maxHeartbeats 4000000 in
set_option maxRecDepth 100000 in
theorem mX10_thinks {l : Launch} {G : zG} {b : Nat} {M : zM} : zMet l G b yX10_thinks cX10_thinks 1 none 1 zshL zshL [.ref (b + 239)] M (zV (fun M' => M' = tk M 31 34 65)) := by
  refine zMet.of (L0 := [some (.ref (b + 239))]) (by decide +kernel) (Nat.le_refl _) (Nat.le_refl _) (Nat.le_of_ble_eq_true rfl) (List.forall_mem_cons.mpr ⟨rfl, fun _ h => absurd h List.not_mem_nil⟩) rfl (fun X C Al K => ?_)
  refine z_aload_n (pc := 0) C 0 dX10_thinks_0 rfl rfl ?_
  refine z_aload_n (pc := 1) C 0 dX10_thinks_1 rfl rfl ?_
  refine z_getR (pc := 2) (r := 240) C dX10_thinks_2 fX10_9 sh_239 rfl ?_
  refine z_aload_n (pc := 5) C 0 dX10_thinks_5 rfl rfl ?_
  refine z_getR (pc := 6) (r := 243) C dX10_thinks_6 fX10_19 sh_239 rfl ?_
  refine z_callVv (pc := 9) C dX10_thinks_9 kX10_175 (mX10_takes sh_240 sh_243 (by decide) (by decide) (by decide) (by decide) (by decide)) (by decide) sh_239 rfl rfl rfl (Nat.le_of_ble_eq_true rfl) (fun M9 h9 => ?_)
  subst h9
  refine z_return (pc := 12) C K dX10_thinks_12 ?_
  exact ⟨rfl, rfl⟩

set_option maxHeartbeats 4000000 in
set_option maxRecDepth 100000 in
theorem mX10_putsBack {l : Launch} {G : zG} {b : Nat} {M : zM} : zMet l G b yX10_putsBack cX10_putsBack 1 none 1 zshL zshL [.ref (b + 239)] M (zV (fun M' => M' = tk M 34 31 65)) := by
  refine zMet.of (L0 := [some (.ref (b + 239))]) (by decide +kernel) (Nat.le_refl _) (Nat.le_refl _) (Nat.le_of_ble_eq_true rfl) (List.forall_mem_cons.mpr ⟨rfl, fun _ h => absurd h List.not_mem_nil⟩) rfl (fun X C Al K => ?_)
  refine z_aload_n (pc := 0) C 0 dX10_putsBack_0 rfl rfl ?_
  refine z_aload_n (pc := 1) C 0 dX10_putsBack_1 rfl rfl ?_
  refine z_getR (pc := 2) (r := 243) C dX10_putsBack_2 fX10_19 sh_239 rfl ?_
  refine z_aload_n (pc := 5) C 0 dX10_putsBack_5 rfl rfl ?_
  refine z_getR (pc := 6) (r := 240) C dX10_putsBack_6 fX10_9 sh_239 rfl ?_
  refine z_callVv (pc := 9) C dX10_putsBack_9 kX10_175 (mX10_takes sh_243 sh_240 (by decide) (by decide) (by decide) (by decide) (by decide)) (by decide) sh_239 rfl rfl rfl (Nat.le_of_ble_eq_true rfl) (fun M9 h9 => ?_)
  subst h9
  refine z_return (pc := 12) C K dX10_putsBack_12 ?_
  exact ⟨rfl, rfl⟩
