/-! start, tells -/
def sB (g : Nat → Int32) : Nat → Nat
  | 0 => 0
  | j + 1 => if g j < g (sB g j) then j else sB g j
theorem sB_lt (g : Nat → Int32) : ∀ j, sB g (j + 1) ≤ j
  | 0 => by
    unfold sB sB
    simp
  | j + 1 => by
    have := sB_lt g j
    rw [sB]
    split
    · exact Nat.le_refl _
    · omega
def stH (g : Nat → Int32) (c : Nat) (b0 l0 : Int32) (j : Nat) (bs ls : Int32) : Prop := (j = 0 ∧ bs = b0 ∧ ls = l0) ∨ (1 ≤ j ∧ bs = nI (c * sB g j) ∧ ls = g (sB g j))
theorem stH_new {g : Nat → Int32} {c : Nat} {b0 l0 : Int32} {j : Nat} {bs ls : Int32} (h : stH g c b0 l0 j bs ls) (hn : j = 0 ∨ g j < ls) : stH g c b0 l0 (j + 1) (nI (c * j)) (g j) := by
  refine Or.inr ⟨by omega, ?_⟩
  rcases h with ⟨rfl, -, -⟩ | ⟨h1, -, rfl⟩
  · rw [Nat.le_zero.mp (sB_lt g 0)]
    exact ⟨rfl, rfl⟩
  · rcases hn with rfl | hn
    · omega
    · rw [sB, if_pos hn]
      exact ⟨rfl, rfl⟩
theorem stH_old {g : Nat → Int32} {c : Nat} {b0 l0 : Int32} {j : Nat} {bs ls : Int32} (h : stH g c b0 l0 j bs ls) (hj : 1 ≤ j) (hn : ¬ g j < ls) : stH g c b0 l0 (j + 1) bs ls := by
  rcases h with ⟨rfl, -, -⟩ | ⟨h1, rfl, rfl⟩
  · omega
  · exact Or.inr ⟨by omega, by rw [sB, if_neg hn], by rw [sB, if_neg hn]⟩
theorem nI_none {k : Nat} (h : k < 2000) : ¬ nI k = -1000000005 := by
  rw [zi_eq, nI_toInt (by omega)]
  have : (-1000000005 : Int32).toInt = -1000000005 := by decide
  omega
def stG (hv : Int32 → Int32 → Int32 → Int32) (n : Nat) (V : zVw) (i j : Nat) : Int32 := psum (vNd hv n (vP V i 1 (nI (10 * j)))) 0 100
theorem stG_in (hv : Int32 → Int32 → Int32 → Int32) (n : Nat) (V : zVw) (i j : Nat) : 0 ≤ (stG hv n V i j).toInt := (psum_in (vNd_in hv n _) 0 100 (by decide)).1
theorem vP1_ok {n : Nat} {V : zVw} (g : vOK n V) (i : Nat) {d : Int32} (hd : iin d 0 99) : vOK n (vP V i 1 d) := vP_ok g (fun hi => by
  obtain ⟨q0, q1, q⟩ := g.2.2.1 i hi
  refine ⟨?_, hd, ?_⟩
  · simpa using q0
  · simpa using q)
noncomputable def Fstart (hv : Int32 → Int32 → Int32 → Int32) (n : Nat) (V : zVw) (x t : Int32) : Int32 := zif (iin x 0 ((n : Int) - 1) ∧ iin t 0 1) (if t = 0 then nI (10 * sB (stG hv n V x.toNatClampNeg) 10) else stG hv n V x.toNatClampNeg (sB (stG hv n V x.toNatClampNeg) 10)) (-1000000001)
theorem nI_10 (j : Nat) : nI (10 * j) + 10 = nI (10 * (j + 1)) := nI_add (10 * j) 10
set_option maxHeartbeats 800000 in
set_option maxRecDepth 100000 in
theorem mX9_start {l : Launch} {G : zG} {b : Nat} {M : zM} {n T : Nat} {ky ln : Nat → Nat} (hR : RR M n T ky ln) {x t : Int32} : zMet l G b yX9_start cX9_start 8 (some .int) 18 zshL zshL [.ref (b + 0), .int x, .int t] M (zI (qP (Fstart (hvF M (lastK ky 0 T)) n (cV M 0) x t) M)) := by
  refine zMet.of (L0 := [some (.ref (b + 0)), some (.int x), some (.int t), none, none, none, none, none]) (by decide +kernel) (Nat.le_refl _) (Nat.le_refl _) (Nat.le_of_ble_eq_true rfl) (List.forall_mem_cons.mpr ⟨rfl, List.forall_mem_cons.mpr ⟨rfl, List.forall_mem_cons.mpr ⟨rfl, fun _ h => absurd h List.not_mem_nil⟩⟩⟩) rfl (fun X C Al K => ?_)
  have n8 := hR.n8
  have loop : ∀ (i : Nat), i < n → x = nI i → iin t 0 1 → ∀ (d j : Nat) (M1 : zM) (bs ls : Int32) (q6 q7 : Option Value), j + d = 10 → zSc M M1 → stH (stG (hvF M (lastK ky 0 T)) n (cV M 0) i) 10 (-1000000005) (-1000000005) j bs ls → zW X zshL M1 30 [some (.ref (b + 0)), some (.int x), some (.int t), some (.int bs), some (.int ls), some (.int (nI (10 * j))), q6, q7] [] := by
    intro i hi hx ht d
    subst hx
    have hin : i < 8 := by omega
    induction d with
    | zero =>
      intro j M1 bs ls q6 q7 hj hs hb
      obtain rfl : j = 10 := by omega
      obtain ⟨-, rfl, rfl⟩ : 1 ≤ 10 ∧ bs = nI (10 * sB (stG (hvF M (lastK ky 0 T)) n (cV M 0) i) 10) ∧ ls = (stG (hvF M (lastK ky 0 T)) n (cV M 0) i) (sB (stG (hvF M (lastK ky 0 T)) n (cV M 0) i) 10) := by
        rcases hb with ⟨h, -⟩ | h
        · exact absurd h (by decide)
        · exact h
      refine z_iload (pc := 30) C 5 dX9_start_30 rfl ?_
      refine z_bipush (pc := 32) (v := 100) C dX9_start_32 rfl ?_
      refine z_icmp_ge (pc := 34) C 100 dX9_start_34 (by decide) (fun c34 => ?_) (fun c34 => absurd (by decide) c34)
      refine z_iload_n (pc := 100) C 2 dX9_start_100 rfl rfl ?_
      refine z_if_ne (pc := 101) C 108 dX9_start_101 (by decide) (fun c101 => ?_) (fun c101 => ?_)
      · refine z_iload (pc := 108) C 4 dX9_start_108 rfl ?_
        refine z_ireturn (pc := 110) C K dX9_start_110 ?_
        exact ⟨_, rfl, by rw [Fstart, zif_pos ⟨nI_iin (by omega) hi, ht⟩, nI_clamp (by omega), if_neg c101], hs⟩
      · refine z_iload_n (pc := 104) C 3 dX9_start_104 rfl rfl ?_
        refine z_goto (pc := 105) C 110 dX9_start_105 (by decide) ?_
        refine z_ireturn (pc := 110) C K dX9_start_110 ?_
        exact ⟨_, rfl, by rw [Fstart, zif_pos ⟨nI_iin (by omega) hi, ht⟩, nI_clamp (by omega), if_pos c101], hs⟩
    | succ d ih =>
      intro j M1 bs ls q6 q7 hj hs hb
      have ej : (nI (10 * j)).toInt = (10 * j : Nat) := nI_toInt (by omega)
      refine z_iload (pc := 30) C 5 dX9_start_30 rfl ?_
      refine z_bipush (pc := 32) (v := 100) C dX9_start_32 rfl ?_
      refine z_icmp_ge (pc := 34) C 100 dX9_start_34 (by decide) (fun c34 => absurd c34 (by rw [zi_le, ej, i100]; omega)) (fun c34 => ?_)
      refine z_aload_n (pc := 37) C 0 dX9_start_37 rfl rfl ?_
      refine z_getR (pc := 38) (r := 54) C dX9_start_38 fX9_31 sh_0 rfl ?_
      refine z_aload_n (pc := 41) C 0 dX9_start_41 rfl rfl ?_
      refine z_getR (pc := 42) (r := adW 0) C dX9_start_42 fX9_21 sh_0 rfl ?_
      refine z_callVr (pc := 45) C dX9_start_45 kX9_171 (mX7_begin2 hR hs) (by decide) sh_54 rfl rfl rfl (Nat.le_of_ble_eq_true rfl) (fun r45 M45 h45 => ?_)
      obtain ⟨rfl, v45, i45, s45⟩ := h45
      refine z_astore (pc := 48) C 6 dX9_start_48 (by decide) rfl ?_
      refine z_aload (pc := 50) C 6 dX9_start_50 rfl ?_
      refine z_getR (pc := 52) (r := adW 2 + 1) C dX9_start_52 fX9_99 (shW lt2_14) rfl ?_
      refine z_iload_n (pc := 55) C 1 dX9_start_55 rfl rfl ?_
      refine z_aald (pc := 56) (r := adP 2 i) C dX9_start_56 (shPa lt2_14) rfl rfl (pin hin) (pget hin) ?_
      refine z_iload (pc := 57) C 5 dX9_start_57 rfl ?_
      refine z_putII (pc := 59) C dX9_start_59 fX9_133 (shP (okP_w lt2_14 hin)) rfl ?_
      have v59 : veq n (cV (zu M45 1 2 i 1 (nI (10 * j))) 2) (vP (cV M 0) i 1 (nI (10 * j))) := by
        rw [cV_zu1]
        exact vP_c v45 i 1 _
      have i59 : cI (zu M45 1 2 i 1 (nI (10 * j))) 2 n (hvF M (lastK ky 0 T)) := i45.on (cFr_1 _ _ _ _ _) (vOK_c v59.symm (vP1_ok hR.1.1 i (by unfold iin; omega)))
      have s59 : zSc M (zu M45 1 2 i 1 (nI (10 * j))) := s45.trans ((cFr_1 _ _ _ _ _).z (by decide) (by decide))
      refine z_aload_n (pc := 62) C 0 dX9_start_62 rfl rfl ?_
      refine z_getR (pc := 63) (r := 54) C dX9_start_63 fX9_31 sh_0 rfl ?_
      refine z_iconst (pc := 66) (v := 0) C dX9_start_66 rfl ?_
      refine z_bipush (pc := 67) (v := 99) C dX9_start_67 rfl ?_
      refine z_callVi (pc := 69) C dX9_start_69 kX9_175 (mX7_ponder2 i59 (a := 0) (m := 100) (by omega) (by omega) (by decide)) (by decide) sh_54 rfl rfl rfl (Nat.le_of_ble_eq_true rfl) (fun r69 M69 h69 => ?_)
      obtain ⟨r69e, -, s69⟩ := h69
      have r69f : r69 = (stG (hvF M (lastK ky 0 T)) n (cV M 0) i) j := by
        rw [r69e]
        exact psum_c (fun k => vNd_c v59 k) 0 100
      subst r69f
      refine z_istore (pc := 72) C 7 dX9_start_72 (by decide) rfl ?_
      refine z_iload_n (pc := 74) C 3 dX9_start_74 rfl rfl ?_
      refine z_ldc (pc := 75) C q3_64 dX9_start_75 ?_
      refine z_icmp_eq (pc := 77) C 87 dX9_start_77 (by decide) (fun c77 => ?_) (fun c77 => ?_)
      · refine z_iload (pc := 87) C 7 dX9_start_87 rfl ?_
        refine z_istore (pc := 89) C 4 dX9_start_89 (by decide) rfl ?_
        refine z_iload (pc := 91) C 5 dX9_start_91 rfl ?_
        refine z_istore_n (pc := 93) C 3 dX9_start_93 rfl (by decide) rfl ?_
        refine z_iinc (pc := 94) (v := 10) C 5 dX9_start_94 (by decide) rfl rfl rfl ?_
        refine z_goto (pc := 97) C 30 dX9_start_97 (by decide) ?_
        have hj0 : j = 0 ∨ (stG (hvF M (lastK ky 0 T)) n (cV M 0) i) j < ls := by
          rcases hb with ⟨h, -⟩ | ⟨h1, h, -⟩
          · exact Or.inl h
          · have q := sB_lt (stG (hvF M (lastK ky 0 T)) n (cV M 0) i) (j - 1)
            rw [Nat.sub_add_cancel h1] at q
            exact absurd (h.symm.trans c77) (nI_none (by omega))
        have e := ih (j + 1) M69 (nI (10 * j)) ((stG (hvF M (lastK ky 0 T)) n (cV M 0) i) j) (some (.ref (b + adW 2))) (some (.int ((stG (hvF M (lastK ky 0 T)) n (cV M 0) i) j))) (by omega) (s59.trans s69) (stH_new hb hj0)
        rw [← nI_10] at e
        exact e
      · refine z_iload (pc := 80) C 7 dX9_start_80 rfl ?_
        refine z_iload (pc := 82) C 4 dX9_start_82 rfl ?_
        refine z_icmp_ge (pc := 84) C 94 dX9_start_84 (by decide) (fun c84 => ?_) (fun c84 => ?_)
        · refine z_iinc (pc := 94) (v := 10) C 5 dX9_start_94 (by decide) rfl rfl rfl ?_
          refine z_goto (pc := 97) C 30 dX9_start_97 (by decide) ?_
          have hj1 : 1 ≤ j := by
            rcases hb with ⟨-, h, -⟩ | ⟨h, -⟩
            · exact absurd h c77
            · exact h
          have e := ih (j + 1) M69 (bs) (ls) (some (.ref (b + adW 2))) (some (.int ((stG (hvF M (lastK ky 0 T)) n (cV M 0) i) j))) (by omega) (s59.trans s69) (stH_old hb hj1 (Int32.not_lt.mpr c84))
          rw [← nI_10] at e
          exact e
        · refine z_iload (pc := 87) C 7 dX9_start_87 rfl ?_
          refine z_istore (pc := 89) C 4 dX9_start_89 (by decide) rfl ?_
          refine z_iload (pc := 91) C 5 dX9_start_91 rfl ?_
          refine z_istore_n (pc := 93) C 3 dX9_start_93 rfl (by decide) rfl ?_
          refine z_iinc (pc := 94) (v := 10) C 5 dX9_start_94 (by decide) rfl rfl rfl ?_
          refine z_goto (pc := 97) C 30 dX9_start_97 (by decide) ?_
          have e := ih (j + 1) M69 (nI (10 * j)) ((stG (hvF M (lastK ky 0 T)) n (cV M 0) i) j) (some (.ref (b + adW 2))) (some (.int ((stG (hvF M (lastK ky 0 T)) n (cV M 0) i) j))) (by omega) (s59.trans s69) (stH_new hb (Or.inr (Int32.not_le.mp c84)))
          rw [← nI_10] at e
          exact e
  refine z_aload_n (pc := 0) C 0 dX9_start_0 rfl rfl ?_
  refine z_iload_n (pc := 1) C 1 dX9_start_1 rfl rfl ?_
  refine z_callVi (pc := 2) C dX9_start_2 kX9_96 (mX9_isOne hR.hn hR.n8) (by decide) sh_0 rfl rfl rfl (Nat.le_of_ble_eq_true rfl) (fun r2 M2 h2 => ?_)
  obtain ⟨h2, e2⟩ := h2
  subst M2
  refine z_if_eq (pc := 5) C 17 dX9_start_5 (by decide) (fun c5 => ?_) (fun c5 => ?_)
  · refine z_ldc (pc := 17) C q2_96 dX9_start_17 ?_
    refine z_ireturn (pc := 19) C K dX9_start_19 ?_
    exact ⟨_, rfl, by rw [Fstart, zif_neg (fun q => h2.no c5 q.1)], zSc.rfl'⟩
  · refine z_iload_n (pc := 8) C 2 dX9_start_8 rfl rfl ?_
    refine z_if_lt (pc := 9) C 17 dX9_start_9 (by decide) (fun c9 => ?_) (fun c9 => ?_)
    · refine z_ldc (pc := 17) C q2_96 dX9_start_17 ?_
      refine z_ireturn (pc := 19) C K dX9_start_19 ?_
      exact ⟨_, rfl, by rw [Fstart, zif_neg (by simp only [zi_lt, zi_le, zi_eq, i0, i1, i2, i3, i4, i5, i6, i9, i20, i99, i100, im5, im20, im1] at c9; unfold iin; omega)], zSc.rfl'⟩
    · refine z_iload_n (pc := 12) C 2 dX9_start_12 rfl rfl ?_
      refine z_iconst (pc := 13) (v := 1) C dX9_start_13 rfl ?_
      refine z_icmp_le (pc := 14) C 20 dX9_start_14 (by decide) (fun c14 => ?_) (fun c14 => ?_)
      · have hx := h2.yes c5
        have ht : iin t 0 1 := by
          simp only [zi_lt, zi_le, zi_eq, i0, i1, i2, i3, i4, i5, i6, i9, i20, i99, i100, im5, im20, im1] at c9 c14
          unfold iin
          omega
        obtain ⟨i, hi, hxi⟩ := iin_nI (by omega) hx
        refine z_ldc (pc := 20) C q3_64 dX9_start_20 ?_
        refine z_istore_n (pc := 22) C 3 dX9_start_22 rfl (by decide) rfl ?_
        refine z_ldc (pc := 23) C q3_64 dX9_start_23 ?_
        refine z_istore (pc := 25) C 4 dX9_start_25 (by decide) rfl ?_
        refine z_iconst (pc := 27) (v := 0) C dX9_start_27 rfl ?_
        refine z_istore (pc := 28) C 5 dX9_start_28 (by decide) rfl ?_
        exact loop i hi hxi ht 10 0 M _ _ none none (by omega) zSc.rfl' (Or.inl ⟨rfl, rfl, rfl⟩)
      · refine z_ldc (pc := 17) C q2_96 dX9_start_17 ?_
        refine z_ireturn (pc := 19) C K dX9_start_19 ?_
        exact ⟨_, rfl, by rw [Fstart, zif_neg (by simp only [zi_lt, zi_le, zi_eq, i0, i1, i2, i3, i4, i5, i6, i9, i20, i99, i100, im5, im20, im1] at c9 c14; unfold iin; omega)], zSc.rfl'⟩

def mSx (p : Nat) (M M' : zM) : Prop := (∀ k, k ≠ p → M' 31 0 0 k = M 31 0 0 k) ∧ ∀ a, a ≠ 31 → a ≠ 35 → a ≠ 42 → a ≠ 43 → M' a = M a
set_option maxHeartbeats 800000 in
set_option maxRecDepth 100000 in
theorem mX10_start {l : Launch} {G : zG} {b : Nat} {M : zM} {n T : Nat} {ky ln : Nat → Nat} (hR : RR M n T ky ln) {x t : Int32} : zMet l G b yX10_start cX10_start 8 (some .int) 8 zshL zshL [.ref (b + 239), .int x, .int t] M (zI (qP (Fstart (hvF M (lastK ky 0 T)) n (cV M 0) x t) M)) := by
  refine zMet.of (L0 := [some (.ref (b + 239)), some (.int x), some (.int t), none, none, none, none, none]) (by decide +kernel) (Nat.le_refl _) (Nat.le_refl _) (Nat.le_of_ble_eq_true rfl) (List.forall_mem_cons.mpr ⟨rfl, List.forall_mem_cons.mpr ⟨rfl, List.forall_mem_cons.mpr ⟨rfl, fun _ h => absurd h List.not_mem_nil⟩⟩⟩) rfl (fun X C Al K => ?_)
  have n8 := hR.n8
  have loop : ∀ (i : Nat), i < n → x = nI i → iin t 0 1 → ∀ (d j : Nat) (M1 : zM) (bs ls : Int32) (q7 : Option Value), j + d = 10 → mSx (9 + 7 * i + 1) M M1 → stH (stG (hvF M (lastK ky 0 T)) n (cV M 0) i) 10 0 (-1) j bs ls → zW X zshL M1 36 [some (.ref (b + 239)), some (.int x), some (.int t), some (.int (mp M i 1)), some (.int bs), some (.int ls), some (.int (nI (10 * j))), q7] [] := by
    intro i hi hx ht d
    subst hx
    have hin : i < 8 := by omega
    induction d with
    | zero =>
      intro j M1 bs ls q7 hj hs hb
      obtain rfl : j = 10 := by omega
      obtain ⟨-, rfl, rfl⟩ : 1 ≤ 10 ∧ bs = nI (10 * sB (stG (hvF M (lastK ky 0 T)) n (cV M 0) i) 10) ∧ ls = (stG (hvF M (lastK ky 0 T)) n (cV M 0) i) (sB (stG (hvF M (lastK ky 0 T)) n (cV M 0) i) 10) := by
        rcases hb with ⟨h, -⟩ | h
        · exact absurd h (by decide)
        · exact h
      refine z_iload (pc := 36) C 6 dX10_start_36 rfl ?_
      refine z_bipush (pc := 38) (v := 100) C dX10_start_38 rfl ?_
      refine z_icmp_ge (pc := 40) C 105 dX10_start_40 (by decide) (fun c40 => ?_) (fun c40 => absurd (by decide) c40)
      refine z_aload_n (pc := 105) C 0 dX10_start_105 rfl rfl ?_
      refine z_iload_n (pc := 106) C 1 dX10_start_106 rfl rfl ?_
      refine z_iconst (pc := 107) (v := 1) C dX10_start_107 rfl ?_
      refine z_iload_n (pc := 108) C 3 dX10_start_108 rfl rfl ?_
      refine z_callVv (pc := 109) C dX10_start_109 kX10_82 (mX10_put (f := 1) hin (by decide)) (by decide) sh_239 rfl rfl rfl (Nat.le_of_ble_eq_true rfl) (fun M109 h109 => ?_)
      subst M109
      have hsc : mS5 M (mput M1 i 1 (mp M i 1)) := by
        refine ⟨fun j => ?_, fun a g1 g3 g4 g5 => ?_⟩
        · show zu M1 31 0 0 (9 + 7 * i + 1) (mp M i 1) 31 0 0 j = M 31 0 0 j
          by_cases z : j = 9 + 7 * i + 1
          · rw [z, zu_self]
            rfl
          · rw [zu_f z, hs.1 j z]
        · show zu M1 31 0 0 (9 + 7 * i + 1) _ a = M a
          rw [zu_a g1, hs.2 a g1 g3 g4 g5]
      refine z_iload_n (pc := 112) C 2 dX10_start_112 rfl rfl ?_
      refine z_if_ne (pc := 113) C 121 dX10_start_113 (by decide) (fun c113 => ?_) (fun c113 => ?_)
      · refine z_iload (pc := 121) C 5 dX10_start_121 rfl ?_
        refine z_ireturn (pc := 123) C K dX10_start_123 ?_
        exact ⟨_, rfl, by rw [Fstart, zif_pos ⟨nI_iin (by omega) hi, ht⟩, nI_clamp (by omega), if_neg c113], hsc.z⟩
      · refine z_iload (pc := 116) C 4 dX10_start_116 rfl ?_
        refine z_goto (pc := 118) C 123 dX10_start_118 (by decide) ?_
        refine z_ireturn (pc := 123) C K dX10_start_123 ?_
        exact ⟨_, rfl, by rw [Fstart, zif_pos ⟨nI_iin (by omega) hi, ht⟩, nI_clamp (by omega), if_pos c113], hsc.z⟩
    | succ d ih =>
      intro j M1 bs ls q7 hj hs hb
      have ej : (nI (10 * j)).toInt = (10 * j : Nat) := nI_toInt (by omega)
      have eN : ∀ k, mput M1 i 1 (nI (10 * j)) 31 0 0 k = mput M i 1 (nI (10 * j)) 31 0 0 k := fun k => by
        show zu M1 31 0 0 (9 + 7 * i + 1) (nI (10 * j)) 31 0 0 k = zu M 31 0 0 (9 + 7 * i + 1) (nI (10 * j)) 31 0 0 k
        by_cases z : k = 9 + 7 * i + 1
        · rw [z, zu_self, zu_self]
        · rw [zu_f z, zu_f z, hs.1 k z]
      have q8 : mput M1 i 1 (nI (10 * j)) 8 = M 8 := by
        show zu M1 31 0 0 (9 + 7 * i + 1) (nI (10 * j)) 8 = M 8
        rw [zu_a (by decide), hs.2 8 (by decide) (by decide) (by decide) (by decide)]
      have q9 : mput M1 i 1 (nI (10 * j)) 9 = M 9 := by
        show zu M1 31 0 0 (9 + 7 * i + 1) (nI (10 * j)) 9 = M 9
        rw [zu_a (by decide), hs.2 9 (by decide) (by decide) (by decide) (by decide)]
      have eV : veq n (mV (mput M1 i 1 (nI (10 * j))) 31) (vP (cV M 0) i 1 (nI (10 * j))) := by
        rw [mV_on (M := mput M i 1 (nI (10 * j))) eN]
        exact (mV_put M (i := i) (f := 1) (by decide) _).trans (vP_c hR.1.2.1.symm i 1 _)
      have rIN : rI (mput M1 i 1 (nI (10 * j))) n T ky ln := by
        have r0 : rI (mput M i 1 (nI (10 * j))) n T ky ln := hR.rI.on (mFr_zu M (by omega) _) (zu_f (by omega)) (vOK_c ((mV_put M (i := i) (f := 1) (by decide) _).trans (vP_c hR.1.2.1.symm i 1 _)).symm (vP1_ok hR.1.1 i (by unfold iin; omega)))
        exact r0.sc eN (by rw [q8]; exact (zu_a (by decide)).symm) (by rw [q9]; exact (zu_a (by decide)).symm)
      refine z_iload (pc := 36) C 6 dX10_start_36 rfl ?_
      refine z_bipush (pc := 38) (v := 100) C dX10_start_38 rfl ?_
      refine z_icmp_ge (pc := 40) C 105 dX10_start_40 (by decide) (fun c40 => absurd c40 (by rw [zi_le, ej, i100]; omega)) (fun c40 => ?_)
      refine z_aload_n (pc := 43) C 0 dX10_start_43 rfl rfl ?_
      refine z_iload_n (pc := 44) C 1 dX10_start_44 rfl rfl ?_
      refine z_iconst (pc := 45) (v := 1) C dX10_start_45 rfl ?_
      refine z_iload (pc := 46) C 6 dX10_start_46 rfl ?_
      refine z_callVv (pc := 48) C dX10_start_48 kX10_82 (mX10_put (f := 1) hin (by decide)) (by decide) sh_239 rfl rfl rfl (Nat.le_of_ble_eq_true rfl) (fun M48 h48 => ?_)
      subst M48
      refine z_aload_n (pc := 51) C 0 dX10_start_51 rfl rfl ?_
      refine z_callVi (pc := 52) C dX10_start_52 kX10_186 (mX10_needsAll5 rIN) (by decide) sh_239 rfl rfl rfl (Nat.le_of_ble_eq_true rfl) (fun r52 M52 h52 => ?_)
      obtain ⟨r52e, s52⟩ := h52
      have r52f : r52 = (stG (hvF M (lastK ky 0 T)) n (cV M 0) i) j := by
        rw [r52e, hvF_c q8 q9]
        exact psum_c (fun k => vNd_c eV k) 0 100
      subst r52f
      have hs2 : mSx (9 + 7 * i + 1) M M52 := by
        refine ⟨fun k hk => ?_, fun a g1 g3 g4 g5 => ?_⟩
        · rw [s52.1]
          show zu M1 31 0 0 (9 + 7 * i + 1) (nI (10 * j)) 31 0 0 k = _
          rw [zu_f hk, hs.1 k hk]
        · rw [s52.2 a g1 g3 g4 g5]
          show zu M1 31 0 0 (9 + 7 * i + 1) (nI (10 * j)) a = _
          rw [zu_a g1, hs.2 a g1 g3 g4 g5]
      refine z_istore (pc := 55) C 7 dX10_start_55 (by decide) rfl ?_
      refine z_iload (pc := 57) C 5 dX10_start_57 rfl ?_
      refine z_if_lt (pc := 59) C 69 dX10_start_59 (by decide) (fun c59 => ?_) (fun c59 => ?_)
      · refine z_iload (pc := 69) C 6 dX10_start_69 rfl ?_
        refine z_goto (pc := 71) C 76 dX10_start_71 (by decide) ?_
        refine z_istore (pc := 76) C 4 dX10_start_76 (by decide) rfl ?_
        refine z_iload (pc := 78) C 5 dX10_start_78 rfl ?_
        refine z_if_lt (pc := 80) C 90 dX10_start_80 (by decide) (fun c80 => ?_) (fun c80 => absurd c59 c80)
        refine z_iload (pc := 90) C 7 dX10_start_90 rfl ?_
        refine z_goto (pc := 92) C 97 dX10_start_92 (by decide) ?_
        refine z_istore (pc := 97) C 5 dX10_start_97 (by decide) rfl ?_
        refine z_iinc (pc := 99) (v := 10) C 6 dX10_start_99 (by decide) rfl rfl rfl ?_
        refine z_goto (pc := 102) C 36 dX10_start_102 (by decide) ?_
        have hj0 : j = 0 ∨ (stG (hvF M (lastK ky 0 T)) n (cV M 0) i) j < ls := by
          rcases hb with ⟨h, -⟩ | ⟨h1, -, h⟩
          · exact Or.inl h
          · have q := stG_in (hvF M (lastK ky 0 T)) n (cV M 0) i (sB (stG (hvF M (lastK ky 0 T)) n (cV M 0) i) j)
            rw [zi_lt, i0, h] at c59
            omega
        have e := ih (j + 1) M52 (nI (10 * j)) ((stG (hvF M (lastK ky 0 T)) n (cV M 0) i) j) (some (.int ((stG (hvF M (lastK ky 0 T)) n (cV M 0) i) j))) (by omega) hs2 (stH_new hb hj0)
        rw [← nI_10] at e
        exact e
      · refine z_iload (pc := 62) C 7 dX10_start_62 rfl ?_
        refine z_iload (pc := 64) C 5 dX10_start_64 rfl ?_
        refine z_icmp_ge (pc := 66) C 74 dX10_start_66 (by decide) (fun c66 => ?_) (fun c66 => ?_)
        · refine z_iload (pc := 74) C 4 dX10_start_74 rfl ?_
          refine z_istore (pc := 76) C 4 dX10_start_76 (by decide) rfl ?_
          refine z_iload (pc := 78) C 5 dX10_start_78 rfl ?_
          refine z_if_lt (pc := 80) C 90 dX10_start_80 (by decide) (fun c80 => absurd c80 c59) (fun c80 => ?_)
          refine z_iload (pc := 83) C 7 dX10_start_83 rfl ?_
          refine z_iload (pc := 85) C 5 dX10_start_85 rfl ?_
          refine z_icmp_ge (pc := 87) C 95 dX10_start_87 (by decide) (fun c87 => ?_) (fun c87 => absurd c66 c87)
          refine z_iload (pc := 95) C 5 dX10_start_95 rfl ?_
          refine z_istore (pc := 97) C 5 dX10_start_97 (by decide) rfl ?_
          refine z_iinc (pc := 99) (v := 10) C 6 dX10_start_99 (by decide) rfl rfl rfl ?_
          refine z_goto (pc := 102) C 36 dX10_start_102 (by decide) ?_
          have hj1 : 1 ≤ j := by
            rcases hb with ⟨-, -, h⟩ | ⟨h, -⟩
            · exact absurd (by rw [h]; decide) c59
            · exact h
          have e := ih (j + 1) M52 (bs) (ls) (some (.int ((stG (hvF M (lastK ky 0 T)) n (cV M 0) i) j))) (by omega) hs2 (stH_old hb hj1 (Int32.not_lt.mpr c66))
          rw [← nI_10] at e
          exact e
        · refine z_iload (pc := 69) C 6 dX10_start_69 rfl ?_
          refine z_goto (pc := 71) C 76 dX10_start_71 (by decide) ?_
          refine z_istore (pc := 76) C 4 dX10_start_76 (by decide) rfl ?_
          refine z_iload (pc := 78) C 5 dX10_start_78 rfl ?_
          refine z_if_lt (pc := 80) C 90 dX10_start_80 (by decide) (fun c80 => absurd c80 c59) (fun c80 => ?_)
          refine z_iload (pc := 83) C 7 dX10_start_83 rfl ?_
          refine z_iload (pc := 85) C 5 dX10_start_85 rfl ?_
          refine z_icmp_ge (pc := 87) C 95 dX10_start_87 (by decide) (fun c87 => absurd c87 c66) (fun c87 => ?_)
          refine z_iload (pc := 90) C 7 dX10_start_90 rfl ?_
          refine z_goto (pc := 92) C 97 dX10_start_92 (by decide) ?_
          refine z_istore (pc := 97) C 5 dX10_start_97 (by decide) rfl ?_
          refine z_iinc (pc := 99) (v := 10) C 6 dX10_start_99 (by decide) rfl rfl rfl ?_
          refine z_goto (pc := 102) C 36 dX10_start_102 (by decide) ?_
          have e := ih (j + 1) M52 (nI (10 * j)) ((stG (hvF M (lastK ky 0 T)) n (cV M 0) i) j) (some (.int ((stG (hvF M (lastK ky 0 T)) n (cV M 0) i) j))) (by omega) hs2 (stH_new hb (Or.inr (Int32.not_le.mp c66)))
          rw [← nI_10] at e
          exact e
  refine z_aload_n (pc := 0) C 0 dX10_start_0 rfl rfl ?_
  refine z_iload_n (pc := 1) C 1 dX10_start_1 rfl rfl ?_
  refine z_callVi (pc := 2) C dX10_start_2 kX10_107 (mX10_isOne hR.hm hR.n8) (by decide) sh_239 rfl rfl rfl (Nat.le_of_ble_eq_true rfl) (fun r2 M2 h2 => ?_)
  obtain ⟨h2, e2⟩ := h2
  subst M2
  refine z_if_eq (pc := 5) C 17 dX10_start_5 (by decide) (fun c5 => ?_) (fun c5 => ?_)
  · refine z_ldc (pc := 17) C q5_48 dX10_start_17 ?_
    refine z_ireturn (pc := 19) C K dX10_start_19 ?_
    exact ⟨_, rfl, by rw [Fstart, zif_neg (fun q => h2.no c5 q.1)], zSc.rfl'⟩
  · refine z_iload_n (pc := 8) C 2 dX10_start_8 rfl rfl ?_
    refine z_iconst (pc := 9) (v := 0) C dX10_start_9 rfl ?_
    refine z_iconst (pc := 10) (v := 1) C dX10_start_10 rfl ?_
    refine z_callSi (pc := 11) C dX10_start_11 kX10_78 mX10_in (by decide) rfl rfl (Nat.le_of_ble_eq_true rfl) (fun r11 M11 h11 => ?_)
    obtain ⟨h11, e11⟩ := h11
    subst M11
    replace h11 : zb r11 (iin t (0) (1)) := zin_b (by decide) (by decide) h11
    refine z_if_ne (pc := 14) C 20 dX10_start_14 (by decide) (fun c14 => ?_) (fun c14 => ?_)
    · have hx := h2.yes c5
      obtain ⟨i, hi, rfl⟩ := iin_nI (by omega) hx
      have hin : i < 8 := by omega
      refine z_aload_n (pc := 20) C 0 dX10_start_20 rfl rfl ?_
      refine z_iload_n (pc := 21) C 1 dX10_start_21 rfl rfl ?_
      refine z_iconst (pc := 22) (v := 1) C dX10_start_22 rfl ?_
      refine z_callVi (pc := 23) C dX10_start_23 kX10_96 (mX10_of (f := 1) hin (by decide)) (by decide) sh_239 rfl rfl rfl (Nat.le_of_ble_eq_true rfl) (fun r23 M23 h23 => ?_)
      obtain ⟨rfl, e23⟩ := h23
      subst M23
      refine z_istore_n (pc := 26) C 3 dX10_start_26 rfl (by decide) rfl ?_
      refine z_iconst (pc := 27) (v := 0) C dX10_start_27 rfl ?_
      refine z_istore (pc := 28) C 4 dX10_start_28 (by decide) rfl ?_
      refine z_iconst (pc := 30) (v := -1) C dX10_start_30 rfl ?_
      refine z_istore (pc := 31) C 5 dX10_start_31 (by decide) rfl ?_
      refine z_iconst (pc := 33) (v := 0) C dX10_start_33 rfl ?_
      refine z_istore (pc := 34) C 6 dX10_start_34 (by decide) rfl ?_
      exact loop i hi rfl (h11.yes c14) 10 0 M _ _ none (by omega) ⟨fun _ _ => rfl, fun _ _ _ _ _ => rfl⟩ (Or.inl ⟨rfl, rfl, rfl⟩)
    · refine z_ldc (pc := 17) C q5_48 dX10_start_17 ?_
      refine z_ireturn (pc := 19) C K dX10_start_19 ?_
      exact ⟨_, rfl, by rw [Fstart, zif_neg (fun q => h11.no c14 q.2)], zSc.rfl'⟩

theorem op_start {l : Launch} {G : zG} {b : Nat} {M : zM} (hM : Rel M) {x t : Int32} : opOK l G b yX9_start cX9_start 8 18 yX10_start cX10_start 8 8 [.int x, .int t] M := by
  obtain ⟨n, T, ky, ln, hR⟩ := hM
  refine ⟨_, mX9_start hR, fun r M1 h1 => ?_⟩
  obtain ⟨rfl, h1⟩ := h1
  have hR1 := hR.sc h1
  refine zI.post (mX10_start hR1) (fun s M2 h2 => ?_)
  obtain ⟨rfl, h2⟩ := h2
  refine ⟨?_, _, _, _, _, hR1.sc h2⟩
  rw [h1.cV, hvF_sc h1 hR.TX]
def vOn (V : zVw) (m p : Nat) : zVw := (V.1, fun a c => if a < m ∧ c = 6 then (if a = p then 1 else 0) else V.2 a c)
theorem vOn_0 (V : zVw) (n p : Nat) : veq n (vOn V 0 p) V := ⟨fun _ _ _ => rfl, fun i f _ _ => by
  show (if i < 0 ∧ f = 6 then (if i = p then (1 : Int32) else 0) else V.2 i f) = V.2 i f
  exact if_neg (fun q => absurd q.1 (Nat.not_lt_zero _))⟩
theorem vOn_s (V : zVw) (n k p : Nat) : veq n (vP (vOn V k p) k 6 (if k = p then 1 else 0)) (vOn V (k + 1) p) := ⟨fun _ _ _ => rfl, fun a c _ _ => by
  show (if a = k ∧ c = 6 then (if k = p then 1 else 0) else if a < k ∧ c = 6 then (if a = p then 1 else 0) else V.2 a c) = if a < k + 1 ∧ c = 6 then (if a = p then 1 else 0) else V.2 a c
  by_cases q : a = k ∧ c = 6
  · rw [if_pos q, if_pos (show a < k + 1 ∧ c = 6 from ⟨by omega, q.2⟩), q.1]
  · rw [if_neg q]
    by_cases q2 : a < k ∧ c = 6
    · rw [if_pos q2, if_pos (show a < k + 1 ∧ c = 6 from ⟨by omega, q2.2⟩)]
    · rw [if_neg q2, if_neg (show ¬ (a < k + 1 ∧ c = 6) from fun z => by omega)]⟩
theorem vOn_c {n : Nat} {V W : zVw} (h : veq n V W) (m p : Nat) : veq n (vOn V m p) (vOn W m p) := ⟨h.1, fun i f hi hf => by
  show (if i < m ∧ f = 6 then (if i = p then 1 else 0) else V.2 i f) = if i < m ∧ f = 6 then (if i = p then 1 else 0) else W.2 i f
  rw [h.2 i f hi hf]⟩
theorem vOn_ok {n : Nat} {V : zVw} (h : vOK n V) (m p : Nat) : vOK n (vOn V m p) := by
  refine ⟨h.1, h.2.1, fun i hi => ?_, h.2.2.2⟩
  obtain ⟨q0, q1, q2, q3, q4, q5, q6⟩ := h.2.2.1 i hi
  have e2 : ∀ f, f ≠ 6 → (vOn V m p).2 i f = V.2 i f := fun f hf => if_neg (fun z => hf z.2)
  have e6 : (vOn V m p).2 i 6 = 0 ∨ (vOn V m p).2 i 6 = 1 := by
    show (if i < m ∧ 6 = 6 then (if i = p then (1 : Int32) else 0) else V.2 i 6) = 0 ∨ (if i < m ∧ 6 = 6 then (if i = p then (1 : Int32) else 0) else V.2 i 6) = 1
    by_cases z : i < m ∧ 6 = 6
    · rw [if_pos z]
      by_cases w : i = p
      · rw [if_pos w]
        exact Or.inr rfl
      · rw [if_neg w]
        exact Or.inl rfl
    · rw [if_neg z]
      exact q6
  unfold pOK
  rw [e2 0 (by decide), e2 1 (by decide), e2 2 (by decide), e2 3 (by decide), e2 4 (by decide), e2 5 (by decide)]
  exact ⟨q0, q1, q2, q3, q4, q5, e6⟩
theorem oH_v {M : zM} {w n p : Nat} (h : n ≤ 8) (hp : p ≤ 8) : veq n (cV (oH M w n (nI p)) w) (vOn (cV M w) n p) := ⟨fun k _ _ => by
  show (if 5 = 1 ∧ w = w ∧ 0 < n ∧ k = 6 then (if nI 0 = nI p then (1 : Int32) else 0) else M 5 w 0 k) = M 5 w 0 k
  exact if_neg (fun q => absurd q.1 (by decide)), fun i f hi hf => by
  show (if 1 = 1 ∧ w = w ∧ i < n ∧ f = 6 then (if nI i = nI p then (1 : Int32) else 0) else M 1 w i f) = if i < n ∧ f = 6 then (if i = p then 1 else 0) else M 1 w i f
  by_cases q : f = 6
  · rw [if_pos (show 1 = 1 ∧ w = w ∧ i < n ∧ f = 6 from ⟨rfl, rfl, hi, q⟩), if_pos (show i < n ∧ f = 6 from ⟨hi, q⟩)]
    by_cases e : i = p
    · rw [if_pos e, if_pos (by rw [e])]
    · rw [if_neg e, if_neg (fun z => e (nI_inj' (by omega) (by omega) z))]
  · rw [if_neg (show ¬ (1 = 1 ∧ w = w ∧ i < n ∧ f = 6) from fun z => q z.2.2.2), if_neg (show ¬ (i < n ∧ f = 6) from fun z => q z.2)]⟩
theorem oH_f {M : zM} {w n : Nat} {x : Int32} : cFr M (oH M w n x) w := fun a y z f q => if_neg (fun e => q (Or.inr ⟨Or.inl e.1, e.2.1⟩))
def teG (hv : Int32 → Int32 → Int32 → Int32) (n : Nat) (V : zVw) (p : Nat) : Int32 := psum (vNd hv n (vOn V n p)) 0 100
noncomputable def Ftells (hv : Int32 → Int32 → Int32 → Int32) (n : Nat) (V : zVw) (t : Int32) : Int32 := zif (iin t 0 1) (if n = 0 then -1000000005 else if t = 0 then nI (1 * sB (teG hv n V) n) else teG hv n V (sB (teG hv n V) n)) (-1000000001)
set_option maxHeartbeats 800000 in
set_option maxRecDepth 100000 in
theorem mX9_tells {l : Launch} {G : zG} {b : Nat} {M : zM} {n T : Nat} {ky ln : Nat → Nat} (hR : RR M n T ky ln) {t : Int32} : zMet l G b yX9_tells cX9_tells 6 (some .int) 18 zshL zshL [.ref (b + 0), .int t] M (zI (qP (Ftells (hvF M (lastK ky 0 T)) n (cV M 0) t) M)) := by
  refine zMet.of (L0 := [some (.ref (b + 0)), some (.int t), none, none, none, none]) (by decide +kernel) (Nat.le_refl _) (Nat.le_refl _) (Nat.le_of_ble_eq_true rfl) (List.forall_mem_cons.mpr ⟨rfl, List.forall_mem_cons.mpr ⟨rfl, fun _ h => absurd h List.not_mem_nil⟩⟩) rfl (fun X C Al K => ?_)
  have n8 := hR.n8
  have loop : iin t 0 1 → ∀ (d p : Nat) (M1 : zM) (bs ls : Int32) (q5 : Option Value), p + d = n → zSc M M1 → stH (teG (hvF M (lastK ky 0 T)) n (cV M 0)) 1 (-1000000005) (-1000000005) p bs ls → zW X zshL M1 21 [some (.ref (b + 0)), some (.int t), some (.int bs), some (.int ls), some (.int (nI p)), q5] [] := by
    intro hx d
    induction d with
    | zero =>
      intro p M1 bs ls q5 hp hs hb
      obtain hpn : p = n := by omega
      have hn1 : M1 5 0 0 2 = nI n := by rw [hs.w]; exact hR.hn
      refine z_iload (pc := 21) C 4 dX9_tells_21 rfl ?_
      refine z_aload_n (pc := 23) C 0 dX9_tells_23 rfl rfl ?_
      refine z_getR (pc := 24) (r := adW 0) C dX9_tells_24 fX9_21 sh_0 rfl ?_
      refine z_getI (pc := 27) C dX9_tells_27 fX9_88 (shW lt0_14) rfl ?_
      rw [hn1]
      refine z_icmp_ge (pc := 30) C 85 dX9_tells_30 (by decide) (fun c30 => ?_) (fun c30 => absurd (nI_le (by omega) (by omega)) c30)
      refine z_iload_n (pc := 85) C 1 dX9_tells_85 rfl rfl ?_
      refine z_if_ne (pc := 86) C 93 dX9_tells_86 (by decide) (fun c86 => ?_) (fun c86 => ?_)
      · refine z_iload_n (pc := 93) C 3 dX9_tells_93 rfl rfl ?_
        refine z_ireturn (pc := 94) C K dX9_tells_94 ?_
        rw [hpn] at hb
        rcases hb with ⟨h0, rfl, rfl⟩ | ⟨h1, rfl, rfl⟩
        · exact ⟨_, rfl, by rw [Ftells, zif_pos hx, if_pos h0], hs⟩
        · exact ⟨_, rfl, by rw [Ftells, zif_pos hx, if_neg (by omega), if_neg c86], hs⟩
      · refine z_iload_n (pc := 89) C 2 dX9_tells_89 rfl rfl ?_
        refine z_goto (pc := 90) C 94 dX9_tells_90 (by decide) ?_
        refine z_ireturn (pc := 94) C K dX9_tells_94 ?_
        rw [hpn] at hb
        rcases hb with ⟨h0, rfl, rfl⟩ | ⟨h1, rfl, rfl⟩
        · exact ⟨_, rfl, by rw [Ftells, zif_pos hx, if_pos h0], hs⟩
        · exact ⟨_, rfl, by rw [Ftells, zif_pos hx, if_neg (by omega), if_pos c86], hs⟩
    | succ d ih =>
      intro p M1 bs ls q5 hp hs hb
      have hn1 : M1 5 0 0 2 = nI n := by rw [hs.w]; exact hR.hn
      refine z_iload (pc := 21) C 4 dX9_tells_21 rfl ?_
      refine z_aload_n (pc := 23) C 0 dX9_tells_23 rfl rfl ?_
      refine z_getR (pc := 24) (r := adW 0) C dX9_tells_24 fX9_21 sh_0 rfl ?_
      refine z_getI (pc := 27) C dX9_tells_27 fX9_88 (shW lt0_14) rfl ?_
      rw [hn1]
      refine z_icmp_ge (pc := 30) C 85 dX9_tells_30 (by decide) (fun c30 => absurd c30 (nI_ge (by omega) (by omega))) (fun c30 => ?_)
      refine z_aload_n (pc := 33) C 0 dX9_tells_33 rfl rfl ?_
      refine z_getR (pc := 34) (r := 54) C dX9_tells_34 fX9_31 sh_0 rfl ?_
      refine z_aload_n (pc := 37) C 0 dX9_tells_37 rfl rfl ?_
      refine z_getR (pc := 38) (r := adW 0) C dX9_tells_38 fX9_21 sh_0 rfl ?_
      refine z_callVr (pc := 41) C dX9_tells_41 kX9_171 (mX7_begin2 hR hs) (by decide) sh_54 rfl rfl rfl (Nat.le_of_ble_eq_true rfl) (fun r41 M41 h41 => ?_)
      obtain ⟨rfl, v41, i41, s41⟩ := h41
      refine z_iload (pc := 44) C 4 dX9_tells_44 rfl ?_
      refine z_callVv (pc := 46) C dX9_tells_46 kX9_182 (mX8_onlyHears (n := n) lt2_14 i41.1.1 n8) (by decide) (shW lt2_14) rfl rfl rfl (Nat.le_of_ble_eq_true rfl) (fun M46 h46 => ?_)
      subst M46
      have v46 : veq n (cV (oH M41 2 n (nI p)) 2) (vOn (cV M 0) n p) := (oH_v n8 (by omega)).trans (vOn_c v41 n p)
      have i46 : cI (oH M41 2 n (nI p)) 2 n (hvF M (lastK ky 0 T)) := i41.on oH_f (vOK_c v46.symm (vOn_ok hR.1.1 n p))
      have s46 : zSc M (oH M41 2 n (nI p)) := s41.trans (oH_f.z (by decide) (by decide))
      refine z_aload_n (pc := 49) C 0 dX9_tells_49 rfl rfl ?_
      refine z_getR (pc := 50) (r := 54) C dX9_tells_50 fX9_31 sh_0 rfl ?_
      refine z_iconst (pc := 53) (v := 0) C dX9_tells_53 rfl ?_
      refine z_bipush (pc := 54) (v := 99) C dX9_tells_54 rfl ?_
      refine z_callVi (pc := 56) C dX9_tells_56 kX9_175 (mX7_ponder2 i46 (a := 0) (m := 100) (by omega) (by omega) (by decide)) (by decide) sh_54 rfl rfl rfl (Nat.le_of_ble_eq_true rfl) (fun r56 M56 h56 => ?_)
      obtain ⟨r56e, -, s56⟩ := h56
      have r56f : r56 = (teG (hvF M (lastK ky 0 T)) n (cV M 0)) p := by
        rw [r56e]
        exact psum_c (fun k => vNd_c v46 k) 0 100
      subst r56f
      refine z_istore (pc := 59) C 5 dX9_tells_59 (by decide) rfl ?_
      refine z_iload_n (pc := 61) C 2 dX9_tells_61 rfl rfl ?_
      refine z_ldc (pc := 62) C q3_64 dX9_tells_62 ?_
      refine z_icmp_eq (pc := 64) C 73 dX9_tells_64 (by decide) (fun c64 => ?_) (fun c64 => ?_)
      · refine z_iload (pc := 73) C 5 dX9_tells_73 rfl ?_
        refine z_istore_n (pc := 75) C 3 dX9_tells_75 rfl (by decide) rfl ?_
        refine z_iload (pc := 76) C 4 dX9_tells_76 rfl ?_
        refine z_istore_n (pc := 78) C 2 dX9_tells_78 rfl (by decide) rfl ?_
        refine z_iinc (pc := 79) (v := 1) C 4 dX9_tells_79 (by decide) rfl rfl rfl ?_
        refine z_goto (pc := 82) C 21 dX9_tells_82 (by decide) ?_
        have hp0 : p = 0 ∨ (teG (hvF M (lastK ky 0 T)) n (cV M 0)) p < ls := by
          rcases hb with ⟨h, -⟩ | ⟨h1, h, -⟩
          · exact Or.inl h
          · have q := sB_lt (teG (hvF M (lastK ky 0 T)) n (cV M 0)) (p - 1)
            rw [Nat.sub_add_cancel h1] at q
            exact absurd (h.symm.trans c64) (nI_none (by omega))
        have e := ih (p + 1) M56 (nI (1 * p)) ((teG (hvF M (lastK ky 0 T)) n (cV M 0)) p) (some (.int ((teG (hvF M (lastK ky 0 T)) n (cV M 0)) p))) (by omega) (s46.trans s56) (stH_new hb hp0)
        rw [Nat.one_mul] at e
        rw [nI_succ p] at e
        exact e
      · refine z_iload (pc := 67) C 5 dX9_tells_67 rfl ?_
        refine z_iload_n (pc := 69) C 3 dX9_tells_69 rfl rfl ?_
        refine z_icmp_ge (pc := 70) C 79 dX9_tells_70 (by decide) (fun c70 => ?_) (fun c70 => ?_)
        · refine z_iinc (pc := 79) (v := 1) C 4 dX9_tells_79 (by decide) rfl rfl rfl ?_
          refine z_goto (pc := 82) C 21 dX9_tells_82 (by decide) ?_
          have hp1 : 1 ≤ p := by
            rcases hb with ⟨-, h, -⟩ | ⟨h, -⟩
            · exact absurd h c64
            · exact h
          have e := ih (p + 1) M56 (bs) (ls) (some (.int ((teG (hvF M (lastK ky 0 T)) n (cV M 0)) p))) (by omega) (s46.trans s56) (stH_old hb hp1 (Int32.not_lt.mpr c70))
          rw [nI_succ p] at e
          exact e
        · refine z_iload (pc := 73) C 5 dX9_tells_73 rfl ?_
          refine z_istore_n (pc := 75) C 3 dX9_tells_75 rfl (by decide) rfl ?_
          refine z_iload (pc := 76) C 4 dX9_tells_76 rfl ?_
          refine z_istore_n (pc := 78) C 2 dX9_tells_78 rfl (by decide) rfl ?_
          refine z_iinc (pc := 79) (v := 1) C 4 dX9_tells_79 (by decide) rfl rfl rfl ?_
          refine z_goto (pc := 82) C 21 dX9_tells_82 (by decide) ?_
          have e := ih (p + 1) M56 (nI (1 * p)) ((teG (hvF M (lastK ky 0 T)) n (cV M 0)) p) (some (.int ((teG (hvF M (lastK ky 0 T)) n (cV M 0)) p))) (by omega) (s46.trans s56) (stH_new hb (Or.inr (Int32.not_le.mp c70)))
          rw [Nat.one_mul] at e
          rw [nI_succ p] at e
          exact e
  refine z_iload_n (pc := 0) C 1 dX9_tells_0 rfl rfl ?_
  refine z_if_lt (pc := 1) C 9 dX9_tells_1 (by decide) (fun c1 => ?_) (fun c1 => ?_)
  · refine z_ldc (pc := 9) C q2_96 dX9_tells_9 ?_
    refine z_ireturn (pc := 11) C K dX9_tells_11 ?_
    refine ⟨_, rfl, by rw [Ftells, zif_neg (by simp only [zi_lt, zi_le, zi_eq, i0, i1, i2, i3, i4, i5, i6, i9, i20, i99, i100, im5, im20, im1] at c1; unfold iin; omega)], zSc.rfl'⟩
  · refine z_iload_n (pc := 4) C 1 dX9_tells_4 rfl rfl ?_
    refine z_iconst (pc := 5) (v := 1) C dX9_tells_5 rfl ?_
    refine z_icmp_le (pc := 6) C 12 dX9_tells_6 (by decide) (fun c6 => ?_) (fun c6 => ?_)
    · have hx : iin t 0 1 := by
        simp only [zi_lt, zi_le, zi_eq, i0, i1, i2, i3, i4, i5, i6, i9, i20, i99, i100, im5, im20, im1] at c1 c6
        unfold iin
        omega
      refine z_ldc (pc := 12) C q3_64 dX9_tells_12 ?_
      refine z_istore_n (pc := 14) C 2 dX9_tells_14 rfl (by decide) rfl ?_
      refine z_ldc (pc := 15) C q3_64 dX9_tells_15 ?_
      refine z_istore_n (pc := 17) C 3 dX9_tells_17 rfl (by decide) rfl ?_
      refine z_iconst (pc := 18) (v := 0) C dX9_tells_18 rfl ?_
      refine z_istore (pc := 19) C 4 dX9_tells_19 (by decide) rfl ?_
      exact loop hx n 0 M _ _ none (by omega) zSc.rfl' (Or.inl ⟨rfl, rfl, rfl⟩)
    · refine z_ldc (pc := 9) C q2_96 dX9_tells_9 ?_
      refine z_ireturn (pc := 11) C K dX9_tells_11 ?_
      refine ⟨_, rfl, by rw [Ftells, zif_neg (by simp only [zi_lt, zi_le, zi_eq, i0, i1, i2, i3, i4, i5, i6, i9, i20, i99, i100, im5, im20, im1] at c1 c6; unfold iin; omega)], zSc.rfl'⟩

set_option maxHeartbeats 800000 in
set_option maxRecDepth 100000 in
theorem mX10_tells {l : Launch} {G : zG} {b : Nat} {M : zM} {n T : Nat} {ky ln : Nat → Nat} (hR : RR M n T ky ln) {t : Int32} : zMet l G b yX10_tells cX10_tells 6 (some .int) 8 zshL zshL [.ref (b + 239), .int t] M (zI (qP (Ftells (hvF M (lastK ky 0 T)) n (cV M 0) t) M)) := by
  refine zMet.of (L0 := [some (.ref (b + 239)), some (.int t), none, none, none, none]) (by decide +kernel) (Nat.le_refl _) (Nat.le_refl _) (Nat.le_of_ble_eq_true rfl) (List.forall_mem_cons.mpr ⟨rfl, List.forall_mem_cons.mpr ⟨rfl, fun _ h => absurd h List.not_mem_nil⟩⟩) rfl (fun X C Al K => ?_)
  have n8 := hR.n8
  have inner : ∀ (M1 : zM) (p : Nat) (bs ls : Int32), p < n → rI M1 n T ky ln → (∀ (M2 : zM) (q5 : Option Value), mFr M1 M2 → rI M2 n T ky ln → veq n (mV M2 31) (vOn (mV M1 31) n p) → zW X zshL M2 76 [some (.ref (b + 239)), some (.int t), some (.int bs), some (.int ls), some (.int (nI p)), q5] []) → ∀ (d k : Nat) (M2 : zM), k + d = n → mFr M1 M2 → rI M2 n T ky ln → veq n (mV M2 31) (vOn (mV M1 31) k p) → zW X zshL M2 39 [some (.ref (b + 239)), some (.int t), some (.int bs), some (.int ls), some (.int (nI p)), some (.int (nI k))] [] := by
    intro M1 p bs ls hp rI1 done d
    induction d with
    | zero =>
      intro k M2 hk hf rI2 hv
      obtain hkn : k = n := by omega
      have hn1 : M2 31 0 0 1 = nI n := rI2.1.1
      refine z_iload (pc := 39) C 5 dX10_tells_39 rfl ?_
      refine z_aload_n (pc := 41) C 0 dX10_tells_41 rfl rfl ?_
      refine z_getR (pc := 42) (r := 240) C dX10_tells_42 fX10_9 sh_239 rfl ?_
      refine z_iconst (pc := 45) (v := 1) C dX10_tells_45 rfl ?_
      refine z_iald (pc := 46) (n := 1) C dX10_tells_46 sh_240 (zi_in.mpr (by decide)) rfl ?_
      rw [hn1]
      refine z_icmp_ge (pc := 47) C 76 dX10_tells_47 (by decide) (fun c47 => ?_) (fun c47 => absurd (nI_le (by omega) (by omega)) c47)
      rw [hkn] at hv
      exact done M2 _ hf rI2 hv
    | succ d ih =>
      intro k M2 hk hf rI2 hv
      have hn1 : M2 31 0 0 1 = nI n := rI2.1.1
      have hkn : k < n := by omega
      refine z_iload (pc := 39) C 5 dX10_tells_39 rfl ?_
      refine z_aload_n (pc := 41) C 0 dX10_tells_41 rfl rfl ?_
      refine z_getR (pc := 42) (r := 240) C dX10_tells_42 fX10_9 sh_239 rfl ?_
      refine z_iconst (pc := 45) (v := 1) C dX10_tells_45 rfl ?_
      refine z_iald (pc := 46) (n := 1) C dX10_tells_46 sh_240 (zi_in.mpr (by decide)) rfl ?_
      rw [hn1]
      refine z_icmp_ge (pc := 47) C 76 dX10_tells_47 (by decide) (fun c47 => absurd c47 (nI_ge (by omega) (by omega))) (fun c47 => ?_)
      refine z_aload_n (pc := 50) C 0 dX10_tells_50 rfl rfl ?_
      refine z_iload (pc := 51) C 5 dX10_tells_51 rfl ?_
      refine z_bipush (pc := 53) (v := 6) C dX10_tells_53 rfl ?_
      refine z_iload (pc := 55) C 5 dX10_tells_55 rfl ?_
      refine z_iload (pc := 57) C 4 dX10_tells_57 rfl ?_
      refine z_icmp_ne (pc := 59) C 66 dX10_tells_59 (by decide) (fun c59 => ?_) (fun c59 => ?_)
      · refine z_iconst (pc := 66) (v := 0) C dX10_tells_66 rfl ?_
        refine z_callVv (pc := 67) C dX10_tells_67 kX10_82 (mX10_put (f := 6) (i := k) (by omega) (by decide)) (by decide) sh_239 rfl rfl rfl (Nat.le_of_ble_eq_true rfl) (fun M67 h67 => ?_)
        subst M67
        refine z_iinc (pc := 70) (v := 1) C 5 dX10_tells_70 (by decide) rfl rfl rfl ?_
        refine z_goto (pc := 73) C 39 dX10_tells_73 (by decide) ?_
        have ev : veq n (mV (mput M2 k 6 0) 31) (vOn (mV M1 31) (k + 1) p) := by
          have z := vOn_s (mV M1 31) n k p
          rw [if_neg (fun z => c59 (by rw [z]))] at z
          exact ((mV_put M2 (i := k) (f := 6) (by decide) 0).trans (vP_c hv k 6 0)).trans z
        have hf2 : mFr M1 (mput M2 k 6 0) := hf.trans (mFr_zu M2 (by omega) 0)
        have e := ih (k + 1) (mput M2 k 6 0) (by omega) hf2 (rI2.on (mFr_zu M2 (by omega) 0) (zu_f (by omega)) (vOK_c ev.symm (vOn_ok rI1.1 _ _))) ev
        rw [nI_succ k] at e
        exact e
      · refine z_iconst (pc := 62) (v := 1) C dX10_tells_62 rfl ?_
        refine z_goto (pc := 63) C 67 dX10_tells_63 (by decide) ?_
        refine z_callVv (pc := 67) C dX10_tells_67 kX10_82 (mX10_put (f := 6) (i := k) (by omega) (by decide)) (by decide) sh_239 rfl rfl rfl (Nat.le_of_ble_eq_true rfl) (fun M67 h67 => ?_)
        subst M67
        refine z_iinc (pc := 70) (v := 1) C 5 dX10_tells_70 (by decide) rfl rfl rfl ?_
        refine z_goto (pc := 73) C 39 dX10_tells_73 (by decide) ?_
        have ev : veq n (mV (mput M2 k 6 1) 31) (vOn (mV M1 31) (k + 1) p) := by
          have z := vOn_s (mV M1 31) n k p
          rw [if_pos (nI_inj' (by omega) (by omega) c59)] at z
          exact ((mV_put M2 (i := k) (f := 6) (by decide) 1).trans (vP_c hv k 6 1)).trans z
        have hf2 : mFr M1 (mput M2 k 6 1) := hf.trans (mFr_zu M2 (by omega) 1)
        have e := ih (k + 1) (mput M2 k 6 1) (by omega) hf2 (rI2.on (mFr_zu M2 (by omega) 1) (zu_f (by omega)) (vOK_c ev.symm (vOn_ok rI1.1 _ _))) ev
        rw [nI_succ k] at e
        exact e
  have loop : iin t 0 1 → ∀ (d p : Nat) (M1 : zM) (bs ls : Int32) (q5 : Option Value), p + d = n → mSc M M1 → (∀ k, k < 65 → M1 34 0 0 k = M 31 0 0 k) → stH (teG (hvF M (lastK ky 0 T)) n (cV M 0)) 1 (-1000000005) (-1000000005) p bs ls → zW X zshL M1 25 [some (.ref (b + 239)), some (.int t), some (.int bs), some (.int ls), some (.int (nI p)), q5] [] := by
    intro hx d
    induction d with
    | zero =>
      intro p M1 bs ls q5 hp hs h34 hb
      obtain hpn : p = n := by omega
      have hn1 : M1 31 0 0 1 = nI n := by rw [hs.1]; exact hR.hm
      refine z_iload (pc := 25) C 4 dX10_tells_25 rfl ?_
      refine z_aload_n (pc := 27) C 0 dX10_tells_27 rfl rfl ?_
      refine z_getR (pc := 28) (r := 240) C dX10_tells_28 fX10_9 sh_239 rfl ?_
      refine z_iconst (pc := 31) (v := 1) C dX10_tells_31 rfl ?_
      refine z_iald (pc := 32) (n := 1) C dX10_tells_32 sh_240 (zi_in.mpr (by decide)) rfl ?_
      rw [hn1]
      refine z_icmp_ge (pc := 33) C 110 dX10_tells_33 (by decide) (fun c33 => ?_) (fun c33 => absurd (nI_le (by omega) (by omega)) c33)
      refine z_iload_n (pc := 110) C 1 dX10_tells_110 rfl rfl ?_
      refine z_if_ne (pc := 111) C 118 dX10_tells_111 (by decide) (fun c111 => ?_) (fun c111 => ?_)
      · refine z_iload_n (pc := 118) C 3 dX10_tells_118 rfl rfl ?_
        refine z_ireturn (pc := 119) C K dX10_tells_119 ?_
        rw [hpn] at hb
        rcases hb with ⟨h0, rfl, rfl⟩ | ⟨h1, rfl, rfl⟩
        · exact ⟨_, rfl, by rw [Ftells, zif_pos hx, if_pos h0], hs.z⟩
        · exact ⟨_, rfl, by rw [Ftells, zif_pos hx, if_neg (by omega), if_neg c111], hs.z⟩
      · refine z_iload_n (pc := 114) C 2 dX10_tells_114 rfl rfl ?_
        refine z_goto (pc := 115) C 119 dX10_tells_115 (by decide) ?_
        refine z_ireturn (pc := 119) C K dX10_tells_119 ?_
        rw [hpn] at hb
        rcases hb with ⟨h0, rfl, rfl⟩ | ⟨h1, rfl, rfl⟩
        · exact ⟨_, rfl, by rw [Ftells, zif_pos hx, if_pos h0], hs.z⟩
        · exact ⟨_, rfl, by rw [Ftells, zif_pos hx, if_neg (by omega), if_pos c111], hs.z⟩
    | succ d ih =>
      intro p M1 bs ls q5 hp hs h34 hb
      have hn1 : M1 31 0 0 1 = nI n := by rw [hs.1]; exact hR.hm
      have q8 : M1 8 = M 8 := hs.2 8 (by decide) (by decide) (by decide) (by decide) (by decide)
      have q9 : M1 9 = M 9 := hs.2 9 (by decide) (by decide) (by decide) (by decide) (by decide)
      have rI1 : rI M1 n T ky ln := hR.rI.sc hs.1 q8 q9
      refine z_iload (pc := 25) C 4 dX10_tells_25 rfl ?_
      refine z_aload_n (pc := 27) C 0 dX10_tells_27 rfl rfl ?_
      refine z_getR (pc := 28) (r := 240) C dX10_tells_28 fX10_9 sh_239 rfl ?_
      refine z_iconst (pc := 31) (v := 1) C dX10_tells_31 rfl ?_
      refine z_iald (pc := 32) (n := 1) C dX10_tells_32 sh_240 (zi_in.mpr (by decide)) rfl ?_
      rw [hn1]
      refine z_icmp_ge (pc := 33) C 110 dX10_tells_33 (by decide) (fun c33 => absurd c33 (nI_ge (by omega) (by omega))) (fun c33 => ?_)
      refine z_iconst (pc := 36) (v := 0) C dX10_tells_36 rfl ?_
      refine z_istore (pc := 37) C 5 dX10_tells_37 (by decide) rfl ?_
      refine inner M1 p bs ls (by omega) rI1 (fun M2 q5 hf rI2 hv => ?_) n 0 M1 (by omega) mFr.rfl' rI1 (vOn_0 _ _ _).symm
      refine z_aload_n (pc := 76) C 0 dX10_tells_76 rfl rfl ?_
      refine z_callVi (pc := 77) C dX10_tells_77 kX10_186 (mX10_needsAll5 rI2) (by decide) sh_239 rfl rfl rfl (Nat.le_of_ble_eq_true rfl) (fun r77 M77 h77 => ?_)
      obtain ⟨r77e, s77⟩ := h77
      have r77f : r77 = (teG (hvF M (lastK ky 0 T)) n (cV M 0)) p := by
        rw [r77e, hvF_c (hf.1 8 (by decide) (by decide) (by decide)) (hf.1 9 (by decide) (by decide) (by decide)), hvF_c q8 q9]
        rw [mV_on (M := M) hs.1] at hv
        exact psum_c (fun k => vNd_c (hv.trans (vOn_c hR.1.2.1.symm n p)) k) 0 100
      subst r77f
      refine z_istore (pc := 80) C 5 dX10_tells_80 (by decide) rfl ?_
      refine z_aload_n (pc := 82) C 0 dX10_tells_82 rfl rfl ?_
      refine z_callVv (pc := 83) C dX10_tells_83 kX10_192 mX10_putsBack (by decide) sh_239 rfl rfl rfl (Nat.le_of_ble_eq_true rfl) (fun M83 h83 => ?_)
      subst M83
      have hs2 : mSc M (tk M77 34 31 65) := by
        refine ⟨fun k => ?_, fun a g1 g2 g3 g4 g5 => ?_⟩
        · by_cases hk : k < 65
          · rw [tk_in hk, s77.2 34 (by decide) (by decide) (by decide) (by decide), hf.1 34 (by decide) (by decide) (by decide), h34 k hk]
          · rw [tk_f hk, s77.1, hf.2 k (by omega), hs.1]
        · rw [tk_a g1, s77.2 a g1 g3 g4 g5, hf.1 a g1 g4 g5, hs.2 a g1 g2 g3 g4 g5]
      have h342 : ∀ k, k < 65 → tk M77 34 31 65 34 0 0 k = M 31 0 0 k := fun k hk => by
        rw [tk_a (by decide), s77.2 34 (by decide) (by decide) (by decide) (by decide), hf.1 34 (by decide) (by decide) (by decide), h34 k hk]
      refine z_iload_n (pc := 86) C 2 dX10_tells_86 rfl rfl ?_
      refine z_ldc (pc := 87) C q5_211 dX10_tells_87 ?_
      refine z_icmp_eq (pc := 89) C 98 dX10_tells_89 (by decide) (fun c89 => ?_) (fun c89 => ?_)
      · refine z_iload (pc := 98) C 4 dX10_tells_98 rfl ?_
        refine z_istore_n (pc := 100) C 2 dX10_tells_100 rfl (by decide) rfl ?_
        refine z_iload (pc := 101) C 5 dX10_tells_101 rfl ?_
        refine z_istore_n (pc := 103) C 3 dX10_tells_103 rfl (by decide) rfl ?_
        refine z_iinc (pc := 104) (v := 1) C 4 dX10_tells_104 (by decide) rfl rfl rfl ?_
        refine z_goto (pc := 107) C 25 dX10_tells_107 (by decide) ?_
        have hp0 : p = 0 ∨ (teG (hvF M (lastK ky 0 T)) n (cV M 0)) p < ls := by
          rcases hb with ⟨h, -⟩ | ⟨h1, h, -⟩
          · exact Or.inl h
          · have q := sB_lt (teG (hvF M (lastK ky 0 T)) n (cV M 0)) (p - 1)
            rw [Nat.sub_add_cancel h1] at q
            exact absurd (h.symm.trans c89) (nI_none (by omega))
        have e := ih (p + 1) (tk M77 34 31 65) (nI (1 * p)) ((teG (hvF M (lastK ky 0 T)) n (cV M 0)) p) (some (.int ((teG (hvF M (lastK ky 0 T)) n (cV M 0)) p))) (by omega) (hs2) (h342) (stH_new hb hp0)
        rw [Nat.one_mul] at e
        rw [nI_succ p] at e
        exact e
      · refine z_iload (pc := 92) C 5 dX10_tells_92 rfl ?_
        refine z_iload_n (pc := 94) C 3 dX10_tells_94 rfl rfl ?_
        refine z_icmp_ge (pc := 95) C 104 dX10_tells_95 (by decide) (fun c95 => ?_) (fun c95 => ?_)
        · refine z_iinc (pc := 104) (v := 1) C 4 dX10_tells_104 (by decide) rfl rfl rfl ?_
          refine z_goto (pc := 107) C 25 dX10_tells_107 (by decide) ?_
          have hp1 : 1 ≤ p := by
            rcases hb with ⟨-, h, -⟩ | ⟨h, -⟩
            · exact absurd h c89
            · exact h
          have e := ih (p + 1) (tk M77 34 31 65) (bs) (ls) (some (.int ((teG (hvF M (lastK ky 0 T)) n (cV M 0)) p))) (by omega) (hs2) (h342) (stH_old hb hp1 (Int32.not_lt.mpr c95))
          rw [nI_succ p] at e
          exact e
        · refine z_iload (pc := 98) C 4 dX10_tells_98 rfl ?_
          refine z_istore_n (pc := 100) C 2 dX10_tells_100 rfl (by decide) rfl ?_
          refine z_iload (pc := 101) C 5 dX10_tells_101 rfl ?_
          refine z_istore_n (pc := 103) C 3 dX10_tells_103 rfl (by decide) rfl ?_
          refine z_iinc (pc := 104) (v := 1) C 4 dX10_tells_104 (by decide) rfl rfl rfl ?_
          refine z_goto (pc := 107) C 25 dX10_tells_107 (by decide) ?_
          have e := ih (p + 1) (tk M77 34 31 65) (nI (1 * p)) ((teG (hvF M (lastK ky 0 T)) n (cV M 0)) p) (some (.int ((teG (hvF M (lastK ky 0 T)) n (cV M 0)) p))) (by omega) (hs2) (h342) (stH_new hb (Or.inr (Int32.not_le.mp c95)))
          rw [Nat.one_mul] at e
          rw [nI_succ p] at e
          exact e
  refine z_iload_n (pc := 0) C 1 dX10_tells_0 rfl rfl ?_
  refine z_iconst (pc := 1) (v := 0) C dX10_tells_1 rfl ?_
  refine z_iconst (pc := 2) (v := 1) C dX10_tells_2 rfl ?_
  refine z_callSi (pc := 3) C dX10_tells_3 kX10_78 mX10_in (by decide) rfl rfl (Nat.le_of_ble_eq_true rfl) (fun r3 M3 h3 => ?_)
  obtain ⟨h3, e3⟩ := h3
  subst M3
  replace h3 : zb r3 (iin t (0) (1)) := zin_b (by decide) (by decide) h3
  refine z_if_ne (pc := 6) C 12 dX10_tells_6 (by decide) (fun c6 => ?_) (fun c6 => ?_)
  · refine z_aload_n (pc := 12) C 0 dX10_tells_12 rfl rfl ?_
    refine z_callVv (pc := 13) C dX10_tells_13 kX10_189 mX10_thinks (by decide) sh_239 rfl rfl rfl (Nat.le_of_ble_eq_true rfl) (fun M13 h13 => ?_)
    subst M13
    refine z_ldc (pc := 16) C q5_211 dX10_tells_16 ?_
    refine z_istore_n (pc := 18) C 2 dX10_tells_18 rfl (by decide) rfl ?_
    refine z_ldc (pc := 19) C q5_211 dX10_tells_19 ?_
    refine z_istore_n (pc := 21) C 3 dX10_tells_21 rfl (by decide) rfl ?_
    refine z_iconst (pc := 22) (v := 0) C dX10_tells_22 rfl ?_
    refine z_istore (pc := 23) C 4 dX10_tells_23 (by decide) rfl ?_
    have hs0 : mSc M (tk M 31 34 65) := ⟨fun k => by rw [tk_a (by decide)], fun a g1 g2 g3 g4 g5 => tk_a g2⟩
    exact loop (h3.yes c6) n 0 _ _ _ none (by omega) hs0 (fun k hk => tk_in hk) (Or.inl ⟨rfl, rfl, rfl⟩)
  · refine z_ldc (pc := 9) C q5_48 dX10_tells_9 ?_
    refine z_ireturn (pc := 11) C K dX10_tells_11 ?_
    exact ⟨_, rfl, by rw [Ftells, zif_neg (h3.no c6)], zSc.rfl'⟩

theorem op_tells {l : Launch} {G : zG} {b : Nat} {M : zM} (hM : Rel M) {t : Int32} : opOK l G b yX9_tells cX9_tells 6 18 yX10_tells cX10_tells 6 8 [.int t] M := by
  obtain ⟨n, T, ky, ln, hR⟩ := hM
  refine ⟨_, mX9_tells hR, fun r M1 h1 => ?_⟩
  obtain ⟨rfl, h1⟩ := h1
  have hR1 := hR.sc h1
  refine zI.post (mX10_tells hR1) (fun s M2 h2 => ?_)
  obtain ⟨rfl, h2⟩ := h2
  refine ⟨?_, _, _, _, _, hR1.sc h2⟩
  rw [h1.cV, hvF_sc h1 hR.TX]