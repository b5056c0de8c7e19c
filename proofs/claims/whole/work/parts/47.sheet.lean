/-! feed, sheet, mark -/
def wd (a c d : Int32) (k : Nat) : Int32 := if k < 4 then a else if k < 8 then c else d
def byt (v : Int32) (j : Nat) : Int32 := (v >>> ((24 - 8 * nI j) &&& 31)) &&& 255
theorem and255 (x : Int32) : iin (x &&& 255) 0 255 := by
  have h : (x.toBitVec &&& 255#32).toNat ≤ 255 := by
    rw [BitVec.toNat_and]
    exact Nat.and_le_right
  have e : (x &&& 255).toInt = ((x.toBitVec &&& 255#32).toNat : Int) := BitVec.toInt_eq_toNat_of_lt (x := x.toBitVec &&& 255#32) (by omega)
  unfold iin
  omega
theorem and_sh (x : BitVec 32) (s : Nat) (hs : s ≤ 24) : x.sshiftRight s &&& 255#32 = x >>> s &&& 255#32 := by
  apply BitVec.eq_of_getLsbD_eq
  intro i hi
  rw [BitVec.getLsbD_and, BitVec.getLsbD_and, BitVec.getLsbD_sshiftRight, BitVec.getLsbD_ushiftRight]
  by_cases h : i < 8
  · rw [if_pos (by omega)]
    have e : decide (32 ≤ i) = false := by simp; omega
    rw [e, Bool.not_false, Bool.true_and]
  · have e : (255#32).getLsbD i = false := by
      rw [show (255#32) = BitVec.ofNat 32 (2 ^ 8 - 1) from rfl, BitVec.getLsbD_ofNat, Nat.testBit_two_pow_sub_one]
      simp
      omega
    rw [e, Bool.and_false, Bool.and_false]
theorem byt_zby (v : Int32) {j : Nat} (h : j < 4) : zby v j = byt v j := by
  rcases (show j = 0 ∨ j = 1 ∨ j = 2 ∨ j = 3 by omega) with rfl | rfl | rfl | rfl
  · exact Int32.toBitVec_inj.mp (and_sh v.toBitVec 24 (by decide)).symm
  · exact Int32.toBitVec_inj.mp (and_sh v.toBitVec 16 (by decide)).symm
  · exact Int32.toBitVec_inj.mp (and_sh v.toBitVec 8 (by decide)).symm
  · exact Int32.toBitVec_inj.mp (and_sh v.toBitVec 0 (by decide)).symm
theorem nI_rem4 {i : Nat} (h : i < 12) : nI i - nI i / 4 * 4 = nI (i % 4) := by
  rcases (show i = 0 ∨ i = 1 ∨ i = 2 ∨ i = 3 ∨ i = 4 ∨ i = 5 ∨ i = 6 ∨ i = 7 ∨ i = 8 ∨ i = 9 ∨ i = 10 ∨ i = 11 by omega) with rfl | rfl | rfl | rfl | rfl | rfl | rfl | rfl | rfl | rfl | rfl | rfl <;> decide
def Afd (t : Nat) (N : zM) (M : zM) (r : Int32) (M' : zM) : Prop := (96 < t + 12 ∧ r = -1000000003 ∧ M' = M) ∨ (t + 12 ≤ 96 ∧ r = nI (t + 12) ∧ M' = N)
def fdC (M : zM) (t : Nat) (a c d : Int32) : zM := tkM (tkM (tkM M t a 4) (t + 4) c 4) (t + 4 + 4) d 4
def fdM (M : zM) (t : Nat) (a c d : Int32) : zM := zu (zpt M 36 t 12 (fun k => byt (wd a c d k) (k % 4))) 30 0 0 7 (nI (t + 12))
set_option maxHeartbeats 800000 in
set_option maxRecDepth 100000 in
theorem mX9_feed {l : Launch} {G : zG} {b : Nat} {M : zM} {t : Nat} (ht : M 19 0 0 1 = nI t) (ht96 : t ≤ 96) {v1 v2 v3 : Int32} : zMet l G b yX9_feed cX9_feed 4 (some .int) 1 zshL zshL [.ref (b + 0), .int v1, .int v2, .int v3] M (zI (Afd t (fdC M t v1 v2 v3) M)) := by
  refine zMet.of (L0 := [some (.ref (b + 0)), some (.int v1), some (.int v2), some (.int v3)]) (by decide +kernel) (Nat.le_refl _) (Nat.le_refl _) (Nat.le_of_ble_eq_true rfl) (List.forall_mem_cons.mpr ⟨rfl, List.forall_mem_cons.mpr ⟨rfl, List.forall_mem_cons.mpr ⟨rfl, List.forall_mem_cons.mpr ⟨rfl, fun _ h => absurd h List.not_mem_nil⟩⟩⟩⟩) rfl (fun X C Al K => ?_)
  refine z_aload_n (pc := 0) C 0 dX9_feed_0 rfl rfl ?_
  refine z_getR (pc := 1) (r := 203) C dX9_feed_1 fX9_38 sh_0 rfl ?_
  refine z_getI (pc := 4) C dX9_feed_4 fX9_212 sh_203 rfl ?_
  refine z_bipush (pc := 7) (v := 12) C dX9_feed_7 rfl ?_
  refine z_iadd (pc := 9) C dX9_feed_9 ?_
  refine z_bipush (pc := 10) (v := 96) C dX9_feed_10 rfl ?_
  rw [ht, show nI t + 12 = nI (t + 12) from nI_add t 12]
  have eT : (nI (t + 12)).toInt = (t + 12 : Nat) := nI_toInt (by omega)
  refine z_icmp_le (pc := 12) C 18 dX9_feed_12 (by decide) (fun c12 => ?_) (fun c12 => ?_)
  · have hlt : t + 12 ≤ 96 := by
      rw [zi_le, eT, i96] at c12
      omega
    refine z_aload_n (pc := 18) C 0 dX9_feed_18 rfl rfl ?_
    refine z_getR (pc := 19) (r := 203) C dX9_feed_19 fX9_38 sh_0 rfl ?_
    refine z_iload_n (pc := 22) C 1 dX9_feed_22 rfl rfl ?_
    refine z_callVv (pc := 23) C dX9_feed_23 kX9_215 (mX4_take ht (by omega)) (by decide) sh_203 rfl rfl rfl (Nat.le_of_ble_eq_true rfl) (fun M23 h23 => ?_)
    subst M23
    refine z_aload_n (pc := 26) C 0 dX9_feed_26 rfl rfl ?_
    refine z_getR (pc := 27) (r := 203) C dX9_feed_27 fX9_38 sh_0 rfl ?_
    refine z_iload_n (pc := 30) C 2 dX9_feed_30 rfl rfl ?_
    refine z_callVv (pc := 31) C dX9_feed_31 kX9_215 (mX4_take (t := t + 4) tkM_l (by omega)) (by decide) sh_203 rfl rfl rfl (Nat.le_of_ble_eq_true rfl) (fun M31 h31 => ?_)
    subst M31
    refine z_aload_n (pc := 34) C 0 dX9_feed_34 rfl rfl ?_
    refine z_getR (pc := 35) (r := 203) C dX9_feed_35 fX9_38 sh_0 rfl ?_
    refine z_iload_n (pc := 38) C 3 dX9_feed_38 rfl rfl ?_
    refine z_callVv (pc := 39) C dX9_feed_39 kX9_215 (mX4_take (t := t + 4 + 4) tkM_l (by omega)) (by decide) sh_203 rfl rfl rfl (Nat.le_of_ble_eq_true rfl) (fun M39 h39 => ?_)
    subst M39
    refine z_aload_n (pc := 42) C 0 dX9_feed_42 rfl rfl ?_
    refine z_getR (pc := 43) (r := 203) C dX9_feed_43 fX9_38 sh_0 rfl ?_
    refine z_getI (pc := 46) C dX9_feed_46 fX9_212 sh_203 rfl ?_
    refine z_ireturn (pc := 49) C K dX9_feed_49 ?_
    exact ⟨_, rfl, Or.inr ⟨hlt, by rw [tkM_l, show t + 4 + 4 + 4 = t + 12 by omega], rfl⟩⟩
  · refine z_ldc (pc := 15) C q2_97 dX9_feed_15 ?_
    refine z_ireturn (pc := 17) C K dX9_feed_17 ?_
    exact ⟨_, rfl, Or.inl ⟨by rw [zi_le, eT, i96] at c12; omega, rfl, rfl⟩⟩

set_option maxHeartbeats 800000 in
set_option maxRecDepth 100000 in
theorem mX10_feed {l : Launch} {G : zG} {b : Nat} {M : zM} {t : Nat} (ht : M 30 0 0 7 = nI t) (ht96 : t ≤ 96) {v1 v2 v3 : Int32} : zMet l G b yX10_feed cX10_feed 6 (some .int) 0 zshL zshL [.ref (b + 239), .int v1, .int v2, .int v3] M (zI (Afd t (fdM M t v1 v2 v3) M)) := by
  refine zMet.of (L0 := [some (.ref (b + 239)), some (.int v1), some (.int v2), some (.int v3), none, none]) (by decide +kernel) (Nat.le_refl _) (Nat.le_refl _) (Nat.le_of_ble_eq_true rfl) (List.forall_mem_cons.mpr ⟨rfl, List.forall_mem_cons.mpr ⟨rfl, List.forall_mem_cons.mpr ⟨rfl, List.forall_mem_cons.mpr ⟨rfl, fun _ h => absurd h List.not_mem_nil⟩⟩⟩⟩) rfl (fun X C Al K => ?_)
  have loop : t + 12 ≤ 96 → ∀ (k i : Nat) (q : Option Value), i + k = 12 → zW X zshL (zpt M 36 t i (fun k => byt (wd v1 v2 v3 k) (k % 4))) 18 [some (.ref (b + 239)), some (.int v1), some (.int v2), some (.int v3), some (.int (nI i)), q] [] := by
    intro hlt k
    induction k with
    | zero =>
      intro i q hi
      obtain rfl : i = 12 := by omega
      refine z_iload (pc := 18) C 4 dX10_feed_18 rfl ?_
      refine z_bipush (pc := 20) (v := 12) C dX10_feed_20 rfl ?_
      refine z_icmp_ge (pc := 22) C 84 dX10_feed_22 (by decide) (fun c22 => ?_) (fun c22 => absurd (by decide) c22)
      refine z_aload_n (pc := 84) C 0 dX10_feed_84 rfl rfl ?_
      refine z_dup (pc := 85) C dX10_feed_85 rfl ?_
      refine z_getI (pc := 86) C dX10_feed_86 fX10_205 sh_239 rfl ?_
      refine z_bipush (pc := 89) (v := 12) C dX10_feed_89 rfl ?_
      refine z_iadd (pc := 91) C dX10_feed_91 ?_
      rw [zpt_a (by decide), ht, show nI t + 12 = nI (t + 12) from nI_add t 12]
      refine z_putII (pc := 92) C dX10_feed_92 fX10_205 sh_239 rfl ?_
      refine z_aload_n (pc := 95) C 0 dX10_feed_95 rfl rfl ?_
      refine z_getI (pc := 96) C dX10_feed_96 fX10_205 sh_239 rfl ?_
      refine z_ireturn (pc := 99) C K dX10_feed_99 ?_
      exact ⟨_, rfl, Or.inr ⟨hlt, zu_self _ _ _ _ _ _, rfl⟩⟩
    | succ k ih =>
      intro i q hi
      have ei : (nI i).toInt = i := nI_toInt (by omega)
      have c4 : (4 : Int32).toInt = 4 := by decide
      have c12 : (12 : Int32).toInt = 12 := by decide
      refine z_iload (pc := 18) C 4 dX10_feed_18 rfl ?_
      refine z_bipush (pc := 20) (v := 12) C dX10_feed_20 rfl ?_
      refine z_icmp_ge (pc := 22) C 84 dX10_feed_22 (by decide) (fun c22 => absurd c22 (by rw [zi_le, ei, c12]; omega)) (fun c22 => ?_)
      refine z_iload (pc := 25) C 4 dX10_feed_25 rfl ?_
      refine z_iconst (pc := 27) (v := 4) C dX10_feed_27 rfl ?_
      refine z_icmp_ge (pc := 28) C 35 dX10_feed_28 (by decide) (fun c28 => ?_) (fun c28 => ?_)
      · refine z_iload (pc := 35) C 4 dX10_feed_35 rfl ?_
        refine z_bipush (pc := 37) (v := 8) C dX10_feed_37 rfl ?_
        refine z_icmp_ge (pc := 39) C 46 dX10_feed_39 (by decide) (fun c39 => ?_) (fun c39 => ?_)
        · refine z_iload_n (pc := 46) C 3 dX10_feed_46 rfl rfl ?_
          refine z_istore (pc := 47) C 5 dX10_feed_47 (by decide) rfl ?_
          refine z_aload_n (pc := 49) C 0 dX10_feed_49 rfl rfl ?_
          refine z_getR (pc := 50) (r := 245) C dX10_feed_50 fX10_25 sh_239 rfl ?_
          refine z_aload_n (pc := 53) C 0 dX10_feed_53 rfl rfl ?_
          refine z_getI (pc := 54) C dX10_feed_54 fX10_205 sh_239 rfl ?_
          refine z_iload (pc := 57) C 4 dX10_feed_57 rfl ?_
          refine z_iadd (pc := 59) C dX10_feed_59 ?_
          rw [zpt_a (by decide), ht, nI_add]
          refine z_iload (pc := 60) C 5 dX10_feed_60 rfl ?_
          refine z_bipush (pc := 62) (v := 24) C dX10_feed_62 rfl ?_
          refine z_bipush (pc := 64) (v := 8) C dX10_feed_64 rfl ?_
          refine z_iload (pc := 66) C 4 dX10_feed_66 rfl ?_
          refine z_iconst (pc := 68) (v := 4) C dX10_feed_68 rfl ?_
          refine z_irem (pc := 69) C dX10_feed_69 (by decide) ?_
          rw [nI_rem4 (by omega)]
          refine z_imul (pc := 70) C dX10_feed_70 ?_
          refine z_isub (pc := 71) C dX10_feed_71 ?_
          refine z_ishr (pc := 72) C dX10_feed_72 ?_
          refine z_sipush (pc := 73) (v := 255) C dX10_feed_73 rfl ?_
          refine z_iand (pc := 76) C dX10_feed_76 ?_
          refine z_iast (pc := 77) (n := t + i) C dX10_feed_77 sh_245 (vp_in_nI (by omega) (by decide)) (nI_clamp (by omega)) ?_
          refine z_iinc (pc := 78) (v := 1) C 4 dX10_feed_78 (by decide) rfl rfl rfl ?_
          refine z_goto (pc := 81) C 18 dX10_feed_81 (by decide) ?_
          simp only [zi_le, ei, c4, i8] at c28 c39
          have hw : (fun k => byt (wd v1 v2 v3 k) (k % 4)) i = byt v3 (i % 4) := by
            show byt (wd v1 v2 v3 i) (i % 4) = _
            unfold wd
            rw [if_neg (by omega), if_neg (by omega)]
          have e := ih (i + 1) (some (.int v3)) (by omega)
          rw [nI_succ, ← zpt_s (lo := t) (i := i) (g := (fun k => byt (wd v1 v2 v3 k) (k % 4))) (k := t + i) hw.symm rfl] at e
          exact e
        · refine z_iload_n (pc := 42) C 2 dX10_feed_42 rfl rfl ?_
          refine z_goto (pc := 43) C 47 dX10_feed_43 (by decide) ?_
          refine z_istore (pc := 47) C 5 dX10_feed_47 (by decide) rfl ?_
          refine z_aload_n (pc := 49) C 0 dX10_feed_49 rfl rfl ?_
          refine z_getR (pc := 50) (r := 245) C dX10_feed_50 fX10_25 sh_239 rfl ?_
          refine z_aload_n (pc := 53) C 0 dX10_feed_53 rfl rfl ?_
          refine z_getI (pc := 54) C dX10_feed_54 fX10_205 sh_239 rfl ?_
          refine z_iload (pc := 57) C 4 dX10_feed_57 rfl ?_
          refine z_iadd (pc := 59) C dX10_feed_59 ?_
          rw [zpt_a (by decide), ht, nI_add]
          refine z_iload (pc := 60) C 5 dX10_feed_60 rfl ?_
          refine z_bipush (pc := 62) (v := 24) C dX10_feed_62 rfl ?_
          refine z_bipush (pc := 64) (v := 8) C dX10_feed_64 rfl ?_
          refine z_iload (pc := 66) C 4 dX10_feed_66 rfl ?_
          refine z_iconst (pc := 68) (v := 4) C dX10_feed_68 rfl ?_
          refine z_irem (pc := 69) C dX10_feed_69 (by decide) ?_
          rw [nI_rem4 (by omega)]
          refine z_imul (pc := 70) C dX10_feed_70 ?_
          refine z_isub (pc := 71) C dX10_feed_71 ?_
          refine z_ishr (pc := 72) C dX10_feed_72 ?_
          refine z_sipush (pc := 73) (v := 255) C dX10_feed_73 rfl ?_
          refine z_iand (pc := 76) C dX10_feed_76 ?_
          refine z_iast (pc := 77) (n := t + i) C dX10_feed_77 sh_245 (vp_in_nI (by omega) (by decide)) (nI_clamp (by omega)) ?_
          refine z_iinc (pc := 78) (v := 1) C 4 dX10_feed_78 (by decide) rfl rfl rfl ?_
          refine z_goto (pc := 81) C 18 dX10_feed_81 (by decide) ?_
          simp only [zi_le, ei, c4, i8] at c28 c39
          have hw : (fun k => byt (wd v1 v2 v3 k) (k % 4)) i = byt v2 (i % 4) := by
            show byt (wd v1 v2 v3 i) (i % 4) = _
            unfold wd
            rw [if_neg (by omega), if_pos (by omega)]
          have e := ih (i + 1) (some (.int v2)) (by omega)
          rw [nI_succ, ← zpt_s (lo := t) (i := i) (g := (fun k => byt (wd v1 v2 v3 k) (k % 4))) (k := t + i) hw.symm rfl] at e
          exact e
      · refine z_iload_n (pc := 31) C 1 dX10_feed_31 rfl rfl ?_
        refine z_goto (pc := 32) C 47 dX10_feed_32 (by decide) ?_
        refine z_istore (pc := 47) C 5 dX10_feed_47 (by decide) rfl ?_
        refine z_aload_n (pc := 49) C 0 dX10_feed_49 rfl rfl ?_
        refine z_getR (pc := 50) (r := 245) C dX10_feed_50 fX10_25 sh_239 rfl ?_
        refine z_aload_n (pc := 53) C 0 dX10_feed_53 rfl rfl ?_
        refine z_getI (pc := 54) C dX10_feed_54 fX10_205 sh_239 rfl ?_
        refine z_iload (pc := 57) C 4 dX10_feed_57 rfl ?_
        refine z_iadd (pc := 59) C dX10_feed_59 ?_
        rw [zpt_a (by decide), ht, nI_add]
        refine z_iload (pc := 60) C 5 dX10_feed_60 rfl ?_
        refine z_bipush (pc := 62) (v := 24) C dX10_feed_62 rfl ?_
        refine z_bipush (pc := 64) (v := 8) C dX10_feed_64 rfl ?_
        refine z_iload (pc := 66) C 4 dX10_feed_66 rfl ?_
        refine z_iconst (pc := 68) (v := 4) C dX10_feed_68 rfl ?_
        refine z_irem (pc := 69) C dX10_feed_69 (by decide) ?_
        rw [nI_rem4 (by omega)]
        refine z_imul (pc := 70) C dX10_feed_70 ?_
        refine z_isub (pc := 71) C dX10_feed_71 ?_
        refine z_ishr (pc := 72) C dX10_feed_72 ?_
        refine z_sipush (pc := 73) (v := 255) C dX10_feed_73 rfl ?_
        refine z_iand (pc := 76) C dX10_feed_76 ?_
        refine z_iast (pc := 77) (n := t + i) C dX10_feed_77 sh_245 (vp_in_nI (by omega) (by decide)) (nI_clamp (by omega)) ?_
        refine z_iinc (pc := 78) (v := 1) C 4 dX10_feed_78 (by decide) rfl rfl rfl ?_
        refine z_goto (pc := 81) C 18 dX10_feed_81 (by decide) ?_
        simp only [zi_le, ei, c4, i8] at c28
        have hw : (fun k => byt (wd v1 v2 v3 k) (k % 4)) i = byt v1 (i % 4) := by
          show byt (wd v1 v2 v3 i) (i % 4) = _
          unfold wd
          rw [if_pos (by omega)]
        have e := ih (i + 1) (some (.int v1)) (by omega)
        rw [nI_succ, ← zpt_s (lo := t) (i := i) (g := (fun k => byt (wd v1 v2 v3 k) (k % 4))) (k := t + i) hw.symm rfl] at e
        exact e
  refine z_aload_n (pc := 0) C 0 dX10_feed_0 rfl rfl ?_
  refine z_getI (pc := 1) C dX10_feed_1 fX10_205 sh_239 rfl ?_
  refine z_bipush (pc := 4) (v := 12) C dX10_feed_4 rfl ?_
  refine z_iadd (pc := 6) C dX10_feed_6 ?_
  refine z_bipush (pc := 7) (v := 96) C dX10_feed_7 rfl ?_
  rw [ht, show nI t + 12 = nI (t + 12) from nI_add t 12]
  have eT : (nI (t + 12)).toInt = (t + 12 : Nat) := nI_toInt (by omega)
  refine z_icmp_le (pc := 9) C 15 dX10_feed_9 (by decide) (fun c9 => ?_) (fun c9 => ?_)
  · refine z_iconst (pc := 15) (v := 0) C dX10_feed_15 rfl ?_
    refine z_istore (pc := 16) C 4 dX10_feed_16 (by decide) rfl ?_
    have hlt : t + 12 ≤ 96 := by
      rw [zi_le, eT, i96] at c9
      omega
    have e := loop hlt 12 0 none (by omega)
    rw [zpt_0] at e
    exact e
  · refine z_ldc (pc := 12) C q5_49 dX10_feed_12 ?_
    refine z_ireturn (pc := 14) C K dX10_feed_14 ?_
    exact ⟨_, rfl, Or.inl ⟨by rw [zi_le, eT, i96] at c9; omega, rfl, rfl⟩⟩

theorem fdC_o {M : zM} {t : Nat} {v1 v2 v3 : Int32} {a x y f : Nat} (h : a ≠ 19 ∧ a ≠ 20) : fdC M t v1 v2 v3 a x y f = M a x y f := by
  unfold fdC tkM
  simp [h.1, h.2]
theorem op_feed {l : Launch} {G : zG} {b : Nat} {M : zM} (hM : Rel M) {v1 v2 v3 : Int32} : opOK l G b yX9_feed cX9_feed 4 1 yX10_feed cX10_feed 6 0 [.int v1, .int v2, .int v3] M := by
  obtain ⟨n, T, ky, ln, hR⟩ := hM
  obtain ⟨t, ht, g1, g2, g3⟩ := hR.2.2.1
  refine ⟨_, mX9_feed g1 ht, fun r M1 h1 => ?_⟩
  have g2' : M1 30 0 0 7 = nI t := by
    rcases h1 with ⟨-, -, e⟩ | ⟨-, -, e⟩ <;> rw [e]
    · exact g2
    · rw [fdC_o (by decide)]
      exact g2
  refine zI.post (mX10_feed g2' ht) (fun s M2 h2 => ?_)
  rcases h1 with ⟨a, rfl, e1⟩ | ⟨a, rfl, e1⟩ <;> rcases h2 with ⟨c, rfl, e2⟩ | ⟨c, rfl, e2⟩
  · subst M1 M2
    exact ⟨rfl, _, _, _, _, hR⟩
  · omega
  · omega
  · subst M1 M2
    refine ⟨rfl, _, _, _, _, (hR.ch (D := fun a x y f => a = 19 ∨ a = 20 ∨ a = 36 ∨ (a = 30 ∧ f = 7)) ?_ (Or.inl (fun a x y f z q => by have q1 : a = 19 ∨ a = 20 ∨ a = 36 ∨ (a = 30 ∧ f = 7) := q; unfold RAd at z; omega)) (Or.inl (fun a x y f z q => by have q1 : a = 19 ∨ a = 20 ∨ a = 36 ∨ (a = 30 ∧ f = 7) := q; unfold RCd at z; omega)) (Or.inr ⟨t + 12, by omega, ?_, ?_, fun k hk => ?_⟩) (Or.inl (fun a x y f z q => by have q1 : a = 19 ∨ a = 20 ∨ a = 36 ∨ (a = 30 ∧ f = 7) := q; unfold REd at z; omega)) (Or.inl (fun a x y f z q => by have q1 : a = 19 ∨ a = 20 ∨ a = 36 ∨ (a = 30 ∧ f = 7) := q; unfold RFd at z; omega)) (Or.inl (fun a x y f z q => by have q1 : a = 19 ∨ a = 20 ∨ a = 36 ∨ (a = 30 ∧ f = 7) := q; unfold RGd at z; omega)) (Or.inl (fun a x y f z q => by have q1 : a = 19 ∨ a = 20 ∨ a = 36 ∨ (a = 30 ∧ f = 7) := q; unfold RHd at z; omega)))⟩
    · intro a x y f z
      have z1 : ¬ (a = 19 ∨ a = 20 ∨ a = 36 ∨ (a = 30 ∧ f = 7)) := z
      unfold fdM
      rw [zu_ne _ _ (fun e => z1 (by omega)), zpt_o (fun e => z1 (by omega)), fdC_o (by omega)]
    · unfold fdM
      rw [zu_a (by decide), zpt_a (by decide)]
      show tkM _ _ _ 4 19 0 0 1 = _
      rw [tkM_l]
    · exact zu_self _ _ _ _ _ _
    · unfold fdM
      rw [zu_a (by decide), zu_a (by decide), zpt_a (a := 20) (by decide)]
      by_cases q : k < t
      · rw [zpt_o (by omega), fdC_o (a := 36) (by decide)]
        have e : fdC M t v1 v2 v3 20 0 0 k = M 20 0 0 k := by
          unfold fdC tkM
          rw [if_neg (by omega), if_neg (by omega), if_neg (by omega), if_neg (by omega), if_neg (by omega), if_neg (by omega)]
        rw [e]
        exact g3 k q
      · obtain ⟨j, rfl⟩ : ∃ j, k = t + j := ⟨k - t, by omega⟩
        rw [zpt_in (by omega)]
        refine ⟨?_, and255 _⟩
        show fdC M t v1 v2 v3 20 0 0 (t + j) = byt (wd v1 v2 v3 j) (j % 4)
        rw [← byt_zby _ (Nat.mod_lt _ (by decide))]
        unfold fdC tkM wd
        by_cases q1 : j < 4
        · rw [if_neg (by omega), if_neg (by omega), if_neg (by omega), if_neg (by omega), if_pos (by omega), if_pos q1, Nat.mod_eq_of_lt q1, Nat.add_sub_cancel_left]
        · by_cases q2 : j < 8
          · rw [if_neg (by omega), if_neg (by omega), if_pos (by omega), if_neg q1, if_pos q2, show t + j - (t + 4) = j % 4 by omega]
          · rw [if_pos (by omega), if_neg q1, if_neg q2, show t + j - (t + 4 + 4) = j % 4 by omega]
noncomputable def Fsh (x t v : Int32) : Int32 := zif (iin x 0 3 ∧ iin t (-1) 1 ∧ (t.toInt < 0 ∨ v.toInt ≤ 24)) (zif (0 ≤ t.toInt ∧ v.toInt < 0) (-1000000014) (if t < 0 then 0 else v)) (-1000000001)
def Ado (F : Int32) (u : Int32 → zM) (M : zM) (r : Int32) (M' : zM) : Prop := r = F ∧ M' = if r < 0 then M else u r
def shM (M : zM) (s : Nat) (t z : Int32) : zM := zpt (zu (zu M 44 0 0 s t) 45 0 0 s z) 46 (24 * s) 24 (fun _ => 0)
theorem i24 : (24 : Int32).toInt = 24 := by decide
set_option maxHeartbeats 800000 in
set_option maxRecDepth 100000 in
theorem mX9_sheet {l : Launch} {G : zG} {b : Nat} {M : zM} {x t v : Int32} : zMet l G b yX9_sheet cX9_sheet 4 (some .int) 1 zshL zshL [.ref (b + 0), .int x, .int t, .int v] M (zI (Ado (Fsh x t v) (fun r => shN M x.toNatClampNeg t r) M)) := by
  refine zMet.of (L0 := [some (.ref (b + 0)), some (.int x), some (.int t), some (.int v)]) (by decide +kernel) (Nat.le_refl _) (Nat.le_refl _) (Nat.le_of_ble_eq_true rfl) (List.forall_mem_cons.mpr ⟨rfl, List.forall_mem_cons.mpr ⟨rfl, List.forall_mem_cons.mpr ⟨rfl, List.forall_mem_cons.mpr ⟨rfl, fun _ h => absurd h List.not_mem_nil⟩⟩⟩⟩) rfl (fun X C Al K => ?_)
  refine z_iload_n (pc := 0) C 1 dX9_sheet_0 rfl rfl ?_
  refine z_callSi (pc := 1) C dX9_sheet_1 kX9_192 mX9_isSheet (by decide) rfl rfl (Nat.le_of_ble_eq_true rfl) (fun r1 M1 h1 => ?_)
  obtain ⟨h1, e1⟩ := h1
  subst M1
  refine z_if_eq (pc := 4) C 17 dX9_sheet_4 (by decide) (fun c4 => ?_) (fun c4 => ?_)
  · refine z_ldc (pc := 17) C q2_96 dX9_sheet_17 ?_
    refine z_ireturn (pc := 19) C K dX9_sheet_19 ?_
    refine ⟨_, rfl, ?_, rfl⟩
    rw [Fsh, zif_neg (by exact fun q => h1.no c4 q.1)]
  · refine z_iload_n (pc := 7) C 2 dX9_sheet_7 rfl rfl ?_
    refine z_iconst (pc := 8) (v := -1) C dX9_sheet_8 rfl ?_
    refine z_icmp_lt (pc := 9) C 17 dX9_sheet_9 (by decide) (fun c9 => ?_) (fun c9 => ?_)
    · refine z_ldc (pc := 17) C q2_96 dX9_sheet_17 ?_
      refine z_ireturn (pc := 19) C K dX9_sheet_19 ?_
      refine ⟨_, rfl, ?_, rfl⟩
      rw [Fsh, zif_neg (by simp only [zi_lt, zi_le, zi_eq, i0, i1, i2, i3, i4, i5, i6, i9, i20, i99, i100, im5, im20, im1, i24] at c9; unfold iin; omega)]
    · refine z_iload_n (pc := 12) C 2 dX9_sheet_12 rfl rfl ?_
      refine z_iconst (pc := 13) (v := 1) C dX9_sheet_13 rfl ?_
      refine z_icmp_le (pc := 14) C 20 dX9_sheet_14 (by decide) (fun c14 => ?_) (fun c14 => ?_)
      · have hx := h1.yes c4
        obtain ⟨s, hs, rfl⟩ := iin_nI (n := 4) (by decide) hx
        have hs9 : s < 9 := by omega
        refine z_iload_n (pc := 20) C 2 dX9_sheet_20 rfl rfl ?_
        refine z_iconst (pc := 21) (v := -1) C dX9_sheet_21 rfl ?_
        refine z_icmp_ne (pc := 22) C 38 dX9_sheet_22 (by decide) (fun c22 => ?_) (fun c22 => ?_)
        · refine z_iload_n (pc := 38) C 3 dX9_sheet_38 rfl rfl ?_
          refine z_bipush (pc := 39) (v := 24) C dX9_sheet_39 rfl ?_
          refine z_icmp_le (pc := 41) C 47 dX9_sheet_41 (by decide) (fun c41 => ?_) (fun c41 => ?_)
          · refine z_iload_n (pc := 47) C 3 dX9_sheet_47 rfl rfl ?_
            refine z_if_ge (pc := 48) C 54 dX9_sheet_48 (by decide) (fun c48 => ?_) (fun c48 => ?_)
            · refine z_aload_n (pc := 54) C 0 dX9_sheet_54 rfl rfl ?_
              refine z_getR (pc := 55) (r := 208) C dX9_sheet_55 fX9_53 sh_0 rfl ?_
              refine z_iload_n (pc := 58) C 1 dX9_sheet_58 rfl rfl ?_
              refine z_aald (pc := 59) (r := adS s) C dX9_sheet_59 sh_208 rfl rfl (vp_in_nI hs (by decide)) (shget hs) ?_
              refine z_iload_n (pc := 60) C 2 dX9_sheet_60 rfl rfl ?_
              refine z_iload_n (pc := 61) C 3 dX9_sheet_61 rfl rfl ?_
              refine z_callVv (pc := 62) C dX9_sheet_62 kX9_246 (mX2_become hs9) (by decide) (shS hs9) rfl rfl rfl (Nat.le_of_ble_eq_true rfl) (fun M62 h62 => ?_)
              subst M62
              refine z_iload_n (pc := 65) C 3 dX9_sheet_65 rfl rfl ?_
              refine z_ireturn (pc := 66) C K dX9_sheet_66 ?_
              have ht0 : ¬ t < 0 := by
                simp only [zi_lt, zi_le, zi_eq, i0, i1, i2, i3, i4, i5, i6, i9, i20, i99, i100, im5, im20, im1, i24] at c9 c14 c22 ⊢
                omega
              have hv0 : ¬ v < 0 := by
                simp only [zi_lt, zi_le, zi_eq, i0, i1, i2, i3, i4, i5, i6, i9, i20, i99, i100, im5, im20, im1, i24] at c48 ⊢
                omega
              simp only [zi_lt, zi_le, zi_eq, i0, i1, i2, i3, i4, i5, i6, i9, i20, i99, i100, im5, im20, im1, i24] at c9 c14 c22 c41 c48
              refine ⟨_, rfl, ?_, ?_⟩
              · rw [Fsh, zif_pos ⟨hx, ⟨by omega, by omega⟩, by omega⟩, zif_neg (by omega), if_neg ht0]
              · rw [if_neg hv0, nI_clamp (by omega)]
            · refine z_ldc (pc := 51) C q4_89 dX9_sheet_51 ?_
              refine z_ireturn (pc := 53) C K dX9_sheet_53 ?_
              simp only [zi_lt, zi_le, zi_eq, i0, i1, i2, i3, i4, i5, i6, i9, i20, i99, i100, im5, im20, im1, i24] at c9 c14 c22 c41 c48
              refine ⟨_, rfl, ?_, rfl⟩
              rw [Fsh, zif_pos ⟨hx, ⟨by omega, by omega⟩, by omega⟩, zif_pos (by omega)]
          · refine z_ldc (pc := 44) C q2_96 dX9_sheet_44 ?_
            refine z_ireturn (pc := 46) C K dX9_sheet_46 ?_
            refine ⟨_, rfl, ?_, rfl⟩
            rw [Fsh, zif_neg (by simp only [zi_lt, zi_le, zi_eq, i0, i1, i2, i3, i4, i5, i6, i9, i20, i99, i100, im5, im20, im1, i24] at c9 c14 c22 c41; unfold iin; omega)]
        · refine z_aload_n (pc := 25) C 0 dX9_sheet_25 rfl rfl ?_
          refine z_getR (pc := 26) (r := 208) C dX9_sheet_26 fX9_53 sh_0 rfl ?_
          refine z_iload_n (pc := 29) C 1 dX9_sheet_29 rfl rfl ?_
          refine z_aald (pc := 30) (r := adS s) C dX9_sheet_30 sh_208 rfl rfl (vp_in_nI hs (by decide)) (shget hs) ?_
          refine z_iconst (pc := 31) (v := -1) C dX9_sheet_31 rfl ?_
          refine z_iconst (pc := 32) (v := 0) C dX9_sheet_32 rfl ?_
          have et : t = -1 := c22
          subst t
          refine z_callVv (pc := 33) C dX9_sheet_33 kX9_246 (mX2_become hs9) (by decide) (shS hs9) rfl rfl rfl (Nat.le_of_ble_eq_true rfl) (fun M33 h33 => ?_)
          subst M33
          refine z_iconst (pc := 36) (v := 0) C dX9_sheet_36 rfl ?_
          refine z_ireturn (pc := 37) C K dX9_sheet_37 ?_
          refine ⟨_, rfl, ?_, ?_⟩
          · rw [Fsh, zif_pos ⟨hx, by unfold iin; decide, Or.inl (by decide)⟩, zif_neg (fun q => absurd q.1 (by decide)), if_pos (by decide)]
          · rw [if_neg (by decide), nI_clamp (by omega)]
      · refine z_ldc (pc := 17) C q2_96 dX9_sheet_17 ?_
        refine z_ireturn (pc := 19) C K dX9_sheet_19 ?_
        refine ⟨_, rfl, ?_, rfl⟩
        rw [Fsh, zif_neg (by simp only [zi_lt, zi_le, zi_eq, i0, i1, i2, i3, i4, i5, i6, i9, i20, i99, i100, im5, im20, im1, i24] at c9 c14; unfold iin; omega)]

set_option maxHeartbeats 800000 in
set_option maxRecDepth 100000 in
theorem mX10_sheet {l : Launch} {G : zG} {b : Nat} {M : zM} {x t v : Int32} : zMet l G b yX10_sheet cX10_sheet 5 (some .int) 2 zshL zshL [.ref (b + 239), .int x, .int t, .int v] M (zI (Ado (Fsh x t v) (fun r => shM M x.toNatClampNeg t r) M)) := by
  refine zMet.of (L0 := [some (.ref (b + 239)), some (.int x), some (.int t), some (.int v), none]) (by decide +kernel) (Nat.le_refl _) (Nat.le_refl _) (Nat.le_of_ble_eq_true rfl) (List.forall_mem_cons.mpr ⟨rfl, List.forall_mem_cons.mpr ⟨rfl, List.forall_mem_cons.mpr ⟨rfl, List.forall_mem_cons.mpr ⟨rfl, fun _ h => absurd h List.not_mem_nil⟩⟩⟩⟩) rfl (fun X C Al K => ?_)
  have loop : ∀ (s : Nat) (z : Int32), s < 4 → x = nI s → ¬ z < 0 → z = Fsh x t v → ∀ (k i : Nat), i + k = 24 → zW X zshL (zpt (zu (zu M 44 0 0 s t) 45 0 0 s z) 46 (24 * s) i (fun _ => 0)) 66 [some (.ref (b + 239)), some (.int x), some (.int t), some (.int v), some (.int (nI i))] [] := by
    intro s z hs hxs hz hF k
    subst hxs
    induction k with
    | zero =>
      intro i hi
      obtain rfl : i = 24 := by omega
      refine z_iload (pc := 66) C 4 dX10_sheet_66 rfl ?_
      refine z_bipush (pc := 68) (v := 24) C dX10_sheet_68 rfl ?_
      refine z_icmp_ge (pc := 70) C 92 dX10_sheet_70 (by decide) (fun c70 => ?_) (fun c70 => absurd (by decide) c70)
      refine z_aload_n (pc := 92) C 0 dX10_sheet_92 rfl rfl ?_
      refine z_getR (pc := 93) (r := 254) C dX10_sheet_93 fX10_54 sh_239 rfl ?_
      refine z_iload_n (pc := 96) C 1 dX10_sheet_96 rfl rfl ?_
      refine z_iald (pc := 97) (n := s) C dX10_sheet_97 sh_254 (vp_in_nI (by omega) (by decide)) (nI_clamp (by omega)) ?_
      refine z_ireturn (pc := 98) C K dX10_sheet_98 ?_
      have e : zpt (zu (zu M 44 0 0 s t) 45 0 0 s z) 46 (24 * s) 24 (fun _ => 0) 45 0 0 s = z := by
        rw [zpt_a (by decide), zu_self]
      refine ⟨_, rfl, e.trans hF, ?_⟩
      rw [e, if_neg hz, nI_clamp (by omega)]
      rfl
    | succ k ih =>
      intro i hi
      have ei : (nI i).toInt = i := nI_toInt (by omega)
      refine z_iload (pc := 66) C 4 dX10_sheet_66 rfl ?_
      refine z_bipush (pc := 68) (v := 24) C dX10_sheet_68 rfl ?_
      refine z_icmp_ge (pc := 70) C 92 dX10_sheet_70 (by decide) (fun c70 => absurd c70 (by rw [zi_le, ei, i24]; omega)) (fun c70 => ?_)
      refine z_aload_n (pc := 73) C 0 dX10_sheet_73 rfl rfl ?_
      refine z_getR (pc := 74) (r := 255) C dX10_sheet_74 fX10_57 sh_239 rfl ?_
      refine z_bipush (pc := 77) (v := 24) C dX10_sheet_77 rfl ?_
      refine z_iload_n (pc := 79) C 1 dX10_sheet_79 rfl rfl ?_
      refine z_imul (pc := 80) C dX10_sheet_80 ?_
      refine z_iload (pc := 81) C 4 dX10_sheet_81 rfl ?_
      refine z_iadd (pc := 83) C dX10_sheet_83 ?_
      rw [idx24]
      refine z_iconst (pc := 84) (v := 0) C dX10_sheet_84 rfl ?_
      refine z_iast (pc := 85) (n := 24 * s + i) C dX10_sheet_85 sh_255 (vp_in_nI (by omega) (by decide)) (nI_clamp (by omega)) ?_
      refine z_iinc (pc := 86) (v := 1) C 4 dX10_sheet_86 (by decide) rfl rfl rfl ?_
      refine z_goto (pc := 89) C 66 dX10_sheet_89 (by decide) ?_
      have e := ih (i + 1) (by omega)
      rw [nI_succ, ← zpt_s (k := 24 * s + i) rfl rfl] at e
      exact e
  refine z_iload_n (pc := 0) C 1 dX10_sheet_0 rfl rfl ?_
  refine z_callSi (pc := 1) C dX10_sheet_1 kX10_198 mX10_isSheet (by decide) rfl rfl (Nat.le_of_ble_eq_true rfl) (fun r1 M1 h1 => ?_)
  obtain ⟨h1, e1⟩ := h1
  subst M1
  refine z_if_eq (pc := 4) C 26 dX10_sheet_4 (by decide) (fun c4 => ?_) (fun c4 => ?_)
  · refine z_ldc (pc := 26) C q5_48 dX10_sheet_26 ?_
    refine z_ireturn (pc := 28) C K dX10_sheet_28 ?_
    refine ⟨_, rfl, ?_, rfl⟩
    rw [Fsh, zif_neg (by exact fun q => h1.no c4 q.1)]
  · refine z_iload_n (pc := 7) C 2 dX10_sheet_7 rfl rfl ?_
    refine z_iconst (pc := 8) (v := -1) C dX10_sheet_8 rfl ?_
    refine z_iconst (pc := 9) (v := 1) C dX10_sheet_9 rfl ?_
    refine z_callSi (pc := 10) C dX10_sheet_10 kX10_78 mX10_in (by decide) rfl rfl (Nat.le_of_ble_eq_true rfl) (fun r10 M10 h10 => ?_)
    obtain ⟨h10, e10⟩ := h10
    subst M10
    replace h10 : zb r10 (iin t (-1) (1)) := zin_b (by decide) (by decide) h10
    refine z_if_eq (pc := 13) C 26 dX10_sheet_13 (by decide) (fun c13 => ?_) (fun c13 => ?_)
    · refine z_ldc (pc := 26) C q5_48 dX10_sheet_26 ?_
      refine z_ireturn (pc := 28) C K dX10_sheet_28 ?_
      refine ⟨_, rfl, ?_, rfl⟩
      rw [Fsh, zif_neg (by exact fun q => h10.no c13 q.2.1)]
    · refine z_iload_n (pc := 16) C 2 dX10_sheet_16 rfl rfl ?_
      refine z_if_lt (pc := 17) C 29 dX10_sheet_17 (by decide) (fun c17 => ?_) (fun c17 => ?_)
      · have hx := h1.yes c4
        obtain ⟨s, hs, rfl⟩ := iin_nI (n := 4) (by decide) hx
        have hs9 : s < 9 := by omega
        refine z_iload_n (pc := 29) C 2 dX10_sheet_29 rfl rfl ?_
        refine z_if_lt (pc := 30) C 41 dX10_sheet_30 (by decide) (fun c30 => ?_) (fun c30 => ?_)
        · refine z_aload_n (pc := 41) C 0 dX10_sheet_41 rfl rfl ?_
          refine z_getR (pc := 42) (r := 253) C dX10_sheet_42 fX10_51 sh_239 rfl ?_
          refine z_iload_n (pc := 45) C 1 dX10_sheet_45 rfl rfl ?_
          refine z_iload_n (pc := 46) C 2 dX10_sheet_46 rfl rfl ?_
          refine z_iast (pc := 47) (n := s) C dX10_sheet_47 sh_253 (vp_in_nI (by omega) (by decide)) (nI_clamp (by omega)) ?_
          refine z_aload_n (pc := 48) C 0 dX10_sheet_48 rfl rfl ?_
          refine z_getR (pc := 49) (r := 254) C dX10_sheet_49 fX10_54 sh_239 rfl ?_
          refine z_iload_n (pc := 52) C 1 dX10_sheet_52 rfl rfl ?_
          refine z_iload_n (pc := 53) C 2 dX10_sheet_53 rfl rfl ?_
          refine z_if_ge (pc := 54) C 61 dX10_sheet_54 (by decide) (fun c54 => ?_) (fun c54 => ?_)
          · refine z_iload_n (pc := 61) C 3 dX10_sheet_61 rfl rfl ?_
            refine z_iast (pc := 62) (n := s) C dX10_sheet_62 sh_254 (vp_in_nI (by omega) (by decide)) (nI_clamp (by omega)) ?_
            refine z_iconst (pc := 63) (v := 0) C dX10_sheet_63 rfl ?_
            refine z_istore (pc := 64) C 4 dX10_sheet_64 (by decide) rfl ?_
            have ht0 : ¬ t < 0 := by
              simp only [zi_lt, zi_le, zi_eq, i0, i1, i2, i3, i4, i5, i6, i9, i20, i99, i100, im5, im20, im1, i24] at c54 ⊢
              omega
            have hv : 0 ≤ v.toInt ∧ v.toInt ≤ 24 := by
              simp only [zi_lt, zi_le, zi_eq, i0, i1, i2, i3, i4, i5, i6, i9, i20, i99, i100, im5, im20, im1, i24] at c17 c30 c54
              omega
            have e := loop s v hs rfl (by rw [zi_lt, i0]; omega) (by rw [Fsh, zif_pos ⟨hx, h10.yes c13, by omega⟩, zif_neg (by omega), if_neg ht0]) 24 0 (by omega)
            rw [zpt_0] at e
            exact e
          · refine z_iconst (pc := 57) (v := 0) C dX10_sheet_57 rfl ?_
            refine z_goto (pc := 58) C 62 dX10_sheet_58 (by decide) ?_
            refine z_iast (pc := 62) (n := s) C dX10_sheet_62 sh_254 (vp_in_nI (by omega) (by decide)) (nI_clamp (by omega)) ?_
            refine z_iconst (pc := 63) (v := 0) C dX10_sheet_63 rfl ?_
            refine z_istore (pc := 64) C 4 dX10_sheet_64 (by decide) rfl ?_
            have ht0 : t < 0 := by
              simp only [zi_lt, zi_le, zi_eq, i0, i1, i2, i3, i4, i5, i6, i9, i20, i99, i100, im5, im20, im1, i24] at c54 ⊢
              omega
            have ht1 : t.toInt < 0 := by rw [zi_lt, i0] at ht0; exact ht0
            have e := loop s 0 hs rfl (by decide) (by rw [Fsh, zif_pos ⟨hx, h10.yes c13, Or.inl ht1⟩, zif_neg (by omega), if_pos ht0]) 24 0 (by omega)
            rw [zpt_0] at e
            exact e
        · refine z_iload_n (pc := 33) C 3 dX10_sheet_33 rfl rfl ?_
          refine z_if_ge (pc := 34) C 41 dX10_sheet_34 (by decide) (fun c34 => ?_) (fun c34 => ?_)
          · refine z_aload_n (pc := 41) C 0 dX10_sheet_41 rfl rfl ?_
            refine z_getR (pc := 42) (r := 253) C dX10_sheet_42 fX10_51 sh_239 rfl ?_
            refine z_iload_n (pc := 45) C 1 dX10_sheet_45 rfl rfl ?_
            refine z_iload_n (pc := 46) C 2 dX10_sheet_46 rfl rfl ?_
            refine z_iast (pc := 47) (n := s) C dX10_sheet_47 sh_253 (vp_in_nI (by omega) (by decide)) (nI_clamp (by omega)) ?_
            refine z_aload_n (pc := 48) C 0 dX10_sheet_48 rfl rfl ?_
            refine z_getR (pc := 49) (r := 254) C dX10_sheet_49 fX10_54 sh_239 rfl ?_
            refine z_iload_n (pc := 52) C 1 dX10_sheet_52 rfl rfl ?_
            refine z_iload_n (pc := 53) C 2 dX10_sheet_53 rfl rfl ?_
            refine z_if_ge (pc := 54) C 61 dX10_sheet_54 (by decide) (fun c54 => ?_) (fun c54 => ?_)
            · refine z_iload_n (pc := 61) C 3 dX10_sheet_61 rfl rfl ?_
              refine z_iast (pc := 62) (n := s) C dX10_sheet_62 sh_254 (vp_in_nI (by omega) (by decide)) (nI_clamp (by omega)) ?_
              refine z_iconst (pc := 63) (v := 0) C dX10_sheet_63 rfl ?_
              refine z_istore (pc := 64) C 4 dX10_sheet_64 (by decide) rfl ?_
              have ht0 : ¬ t < 0 := by
                simp only [zi_lt, zi_le, zi_eq, i0, i1, i2, i3, i4, i5, i6, i9, i20, i99, i100, im5, im20, im1, i24] at c54 ⊢
                omega
              have hv : 0 ≤ v.toInt ∧ v.toInt ≤ 24 := by
                simp only [zi_lt, zi_le, zi_eq, i0, i1, i2, i3, i4, i5, i6, i9, i20, i99, i100, im5, im20, im1, i24] at c17 c30 c34 c54
                omega
              have e := loop s v hs rfl (by rw [zi_lt, i0]; omega) (by rw [Fsh, zif_pos ⟨hx, h10.yes c13, by omega⟩, zif_neg (by omega), if_neg ht0]) 24 0 (by omega)
              rw [zpt_0] at e
              exact e
            · refine z_iconst (pc := 57) (v := 0) C dX10_sheet_57 rfl ?_
              refine z_goto (pc := 58) C 62 dX10_sheet_58 (by decide) ?_
              refine z_iast (pc := 62) (n := s) C dX10_sheet_62 sh_254 (vp_in_nI (by omega) (by decide)) (nI_clamp (by omega)) ?_
              refine z_iconst (pc := 63) (v := 0) C dX10_sheet_63 rfl ?_
              refine z_istore (pc := 64) C 4 dX10_sheet_64 (by decide) rfl ?_
              have ht0 : t < 0 := by
                simp only [zi_lt, zi_le, zi_eq, i0, i1, i2, i3, i4, i5, i6, i9, i20, i99, i100, im5, im20, im1, i24] at c54 ⊢
                omega
              have ht1 : t.toInt < 0 := by rw [zi_lt, i0] at ht0; exact ht0
              have e := loop s 0 hs rfl (by decide) (by rw [Fsh, zif_pos ⟨hx, h10.yes c13, Or.inl ht1⟩, zif_neg (by omega), if_pos ht0]) 24 0 (by omega)
              rw [zpt_0] at e
              exact e
          · refine z_ldcw (pc := 37) C q6_99 dX10_sheet_37 ?_
            refine z_ireturn (pc := 40) C K dX10_sheet_40 ?_
            simp only [zi_lt, zi_le, zi_eq, i0, i1, i2, i3, i4, i5, i6, i9, i20, i99, i100, im5, im20, im1, i24] at c17 c30 c34
            refine ⟨_, rfl, ?_, rfl⟩
            rw [Fsh, zif_pos ⟨hx, h10.yes c13, by omega⟩, zif_pos (by omega)]
      · refine z_iload_n (pc := 20) C 3 dX10_sheet_20 rfl rfl ?_
        refine z_bipush (pc := 21) (v := 24) C dX10_sheet_21 rfl ?_
        refine z_icmp_le (pc := 23) C 29 dX10_sheet_23 (by decide) (fun c23 => ?_) (fun c23 => ?_)
        · have hx := h1.yes c4
          obtain ⟨s, hs, rfl⟩ := iin_nI (n := 4) (by decide) hx
          have hs9 : s < 9 := by omega
          refine z_iload_n (pc := 29) C 2 dX10_sheet_29 rfl rfl ?_
          refine z_if_lt (pc := 30) C 41 dX10_sheet_30 (by decide) (fun c30 => ?_) (fun c30 => ?_)
          · refine z_aload_n (pc := 41) C 0 dX10_sheet_41 rfl rfl ?_
            refine z_getR (pc := 42) (r := 253) C dX10_sheet_42 fX10_51 sh_239 rfl ?_
            refine z_iload_n (pc := 45) C 1 dX10_sheet_45 rfl rfl ?_
            refine z_iload_n (pc := 46) C 2 dX10_sheet_46 rfl rfl ?_
            refine z_iast (pc := 47) (n := s) C dX10_sheet_47 sh_253 (vp_in_nI (by omega) (by decide)) (nI_clamp (by omega)) ?_
            refine z_aload_n (pc := 48) C 0 dX10_sheet_48 rfl rfl ?_
            refine z_getR (pc := 49) (r := 254) C dX10_sheet_49 fX10_54 sh_239 rfl ?_
            refine z_iload_n (pc := 52) C 1 dX10_sheet_52 rfl rfl ?_
            refine z_iload_n (pc := 53) C 2 dX10_sheet_53 rfl rfl ?_
            refine z_if_ge (pc := 54) C 61 dX10_sheet_54 (by decide) (fun c54 => ?_) (fun c54 => ?_)
            · refine z_iload_n (pc := 61) C 3 dX10_sheet_61 rfl rfl ?_
              refine z_iast (pc := 62) (n := s) C dX10_sheet_62 sh_254 (vp_in_nI (by omega) (by decide)) (nI_clamp (by omega)) ?_
              refine z_iconst (pc := 63) (v := 0) C dX10_sheet_63 rfl ?_
              refine z_istore (pc := 64) C 4 dX10_sheet_64 (by decide) rfl ?_
              have ht0 : ¬ t < 0 := by
                simp only [zi_lt, zi_le, zi_eq, i0, i1, i2, i3, i4, i5, i6, i9, i20, i99, i100, im5, im20, im1, i24] at c54 ⊢
                omega
              have hv : 0 ≤ v.toInt ∧ v.toInt ≤ 24 := by
                simp only [zi_lt, zi_le, zi_eq, i0, i1, i2, i3, i4, i5, i6, i9, i20, i99, i100, im5, im20, im1, i24] at c17 c23 c30 c54
                omega
              have e := loop s v hs rfl (by rw [zi_lt, i0]; omega) (by rw [Fsh, zif_pos ⟨hx, h10.yes c13, by omega⟩, zif_neg (by omega), if_neg ht0]) 24 0 (by omega)
              rw [zpt_0] at e
              exact e
            · refine z_iconst (pc := 57) (v := 0) C dX10_sheet_57 rfl ?_
              refine z_goto (pc := 58) C 62 dX10_sheet_58 (by decide) ?_
              refine z_iast (pc := 62) (n := s) C dX10_sheet_62 sh_254 (vp_in_nI (by omega) (by decide)) (nI_clamp (by omega)) ?_
              refine z_iconst (pc := 63) (v := 0) C dX10_sheet_63 rfl ?_
              refine z_istore (pc := 64) C 4 dX10_sheet_64 (by decide) rfl ?_
              have ht0 : t < 0 := by
                simp only [zi_lt, zi_le, zi_eq, i0, i1, i2, i3, i4, i5, i6, i9, i20, i99, i100, im5, im20, im1, i24] at c54 ⊢
                omega
              have ht1 : t.toInt < 0 := by rw [zi_lt, i0] at ht0; exact ht0
              have e := loop s 0 hs rfl (by decide) (by rw [Fsh, zif_pos ⟨hx, h10.yes c13, Or.inl ht1⟩, zif_neg (by omega), if_pos ht0]) 24 0 (by omega)
              rw [zpt_0] at e
              exact e
          · refine z_iload_n (pc := 33) C 3 dX10_sheet_33 rfl rfl ?_
            refine z_if_ge (pc := 34) C 41 dX10_sheet_34 (by decide) (fun c34 => ?_) (fun c34 => ?_)
            · refine z_aload_n (pc := 41) C 0 dX10_sheet_41 rfl rfl ?_
              refine z_getR (pc := 42) (r := 253) C dX10_sheet_42 fX10_51 sh_239 rfl ?_
              refine z_iload_n (pc := 45) C 1 dX10_sheet_45 rfl rfl ?_
              refine z_iload_n (pc := 46) C 2 dX10_sheet_46 rfl rfl ?_
              refine z_iast (pc := 47) (n := s) C dX10_sheet_47 sh_253 (vp_in_nI (by omega) (by decide)) (nI_clamp (by omega)) ?_
              refine z_aload_n (pc := 48) C 0 dX10_sheet_48 rfl rfl ?_
              refine z_getR (pc := 49) (r := 254) C dX10_sheet_49 fX10_54 sh_239 rfl ?_
              refine z_iload_n (pc := 52) C 1 dX10_sheet_52 rfl rfl ?_
              refine z_iload_n (pc := 53) C 2 dX10_sheet_53 rfl rfl ?_
              refine z_if_ge (pc := 54) C 61 dX10_sheet_54 (by decide) (fun c54 => ?_) (fun c54 => ?_)
              · refine z_iload_n (pc := 61) C 3 dX10_sheet_61 rfl rfl ?_
                refine z_iast (pc := 62) (n := s) C dX10_sheet_62 sh_254 (vp_in_nI (by omega) (by decide)) (nI_clamp (by omega)) ?_
                refine z_iconst (pc := 63) (v := 0) C dX10_sheet_63 rfl ?_
                refine z_istore (pc := 64) C 4 dX10_sheet_64 (by decide) rfl ?_
                have ht0 : ¬ t < 0 := by
                  simp only [zi_lt, zi_le, zi_eq, i0, i1, i2, i3, i4, i5, i6, i9, i20, i99, i100, im5, im20, im1, i24] at c54 ⊢
                  omega
                have hv : 0 ≤ v.toInt ∧ v.toInt ≤ 24 := by
                  simp only [zi_lt, zi_le, zi_eq, i0, i1, i2, i3, i4, i5, i6, i9, i20, i99, i100, im5, im20, im1, i24] at c17 c23 c30 c34 c54
                  omega
                have e := loop s v hs rfl (by rw [zi_lt, i0]; omega) (by rw [Fsh, zif_pos ⟨hx, h10.yes c13, by omega⟩, zif_neg (by omega), if_neg ht0]) 24 0 (by omega)
                rw [zpt_0] at e
                exact e
              · refine z_iconst (pc := 57) (v := 0) C dX10_sheet_57 rfl ?_
                refine z_goto (pc := 58) C 62 dX10_sheet_58 (by decide) ?_
                refine z_iast (pc := 62) (n := s) C dX10_sheet_62 sh_254 (vp_in_nI (by omega) (by decide)) (nI_clamp (by omega)) ?_
                refine z_iconst (pc := 63) (v := 0) C dX10_sheet_63 rfl ?_
                refine z_istore (pc := 64) C 4 dX10_sheet_64 (by decide) rfl ?_
                have ht0 : t < 0 := by
                  simp only [zi_lt, zi_le, zi_eq, i0, i1, i2, i3, i4, i5, i6, i9, i20, i99, i100, im5, im20, im1, i24] at c54 ⊢
                  omega
                have ht1 : t.toInt < 0 := by rw [zi_lt, i0] at ht0; exact ht0
                have e := loop s 0 hs rfl (by decide) (by rw [Fsh, zif_pos ⟨hx, h10.yes c13, Or.inl ht1⟩, zif_neg (by omega), if_pos ht0]) 24 0 (by omega)
                rw [zpt_0] at e
                exact e
            · refine z_ldcw (pc := 37) C q6_99 dX10_sheet_37 ?_
              refine z_ireturn (pc := 40) C K dX10_sheet_40 ?_
              simp only [zi_lt, zi_le, zi_eq, i0, i1, i2, i3, i4, i5, i6, i9, i20, i99, i100, im5, im20, im1, i24] at c17 c23 c30 c34
              refine ⟨_, rfl, ?_, rfl⟩
              rw [Fsh, zif_pos ⟨hx, h10.yes c13, by omega⟩, zif_pos (by omega)]
        · refine z_ldc (pc := 26) C q5_48 dX10_sheet_26 ?_
          refine z_ireturn (pc := 28) C K dX10_sheet_28 ?_
          refine ⟨_, rfl, ?_, rfl⟩
          rw [Fsh, zif_neg (by simp only [zi_lt, zi_le, zi_eq, i0, i1, i2, i3, i4, i5, i6, i9, i20, i99, i100, im5, im20, im1, i24] at c17 c23; omega)]

theorem Fsh_ok {x t v : Int32} (h : ¬ Fsh x t v < 0) : iin x 0 3 ∧ iin t (-1) 1 ∧ iin (Fsh x t v) 0 24 := by
  unfold Fsh at h ⊢
  by_cases q : iin x 0 3 ∧ iin t (-1) 1 ∧ (t.toInt < 0 ∨ v.toInt ≤ 24)
  · rw [zif_pos q] at h ⊢
    by_cases q2 : 0 ≤ t.toInt ∧ v.toInt < 0
    · rw [zif_pos q2] at h
      exact absurd (by decide) h
    · rw [zif_neg q2] at h ⊢
      refine ⟨q.1, q.2.1, ?_⟩
      by_cases q3 : t < 0
      · rw [if_pos q3]
        unfold iin
        decide
      · rw [if_neg q3]
        rw [zi_lt, i0] at q3
        unfold iin
        omega
  · rw [zif_neg q] at h
    exact absurd (by decide) h
theorem op_sheet {l : Launch} {G : zG} {b : Nat} {M : zM} (hM : Rel M) {x t v : Int32} : opOK l G b yX9_sheet cX9_sheet 4 1 yX10_sheet cX10_sheet 5 2 [.int x, .int t, .int v] M := by
  obtain ⟨n, T, ky, ln, hR⟩ := hM
  refine ⟨_, mX9_sheet, fun r M1 h1 => ?_⟩
  refine zI.post mX10_sheet (fun r2 M2 h2 => ?_)
  obtain ⟨rfl, e1⟩ := h1
  obtain ⟨rfl, e2⟩ := h2
  refine ⟨rfl, ?_⟩
  by_cases hF : Fsh x t v < 0
  · rw [if_pos hF] at e1 e2
    subst M1 M2
    exact ⟨_, _, _, _, hR⟩
  · rw [if_neg hF] at e1 e2
    obtain ⟨hx, htt, hz⟩ := Fsh_ok hF
    obtain ⟨s, hs, rfl⟩ := iin_nI (n := 4) (by decide) hx
    rw [nI_clamp (by omega)] at e1 e2
    generalize Fsh (nI s) t v = z at hz e1 e2
    replace e1 : M1 = shN M s t z := e1
    replace e2 : M2 = shM M1 s t z := e2
    subst M1 M2
    refine ⟨_, _, _, _, (hR.ch (D := fun a x y f => ((a = 3 ∨ a = 4) ∧ x = s) ∨ a = 44 ∨ a = 45 ∨ a = 46) ?_ (Or.inl (fun a x y f z q => by have q1 : ((a = 3 ∨ a = 4) ∧ x = s) ∨ a = 44 ∨ a = 45 ∨ a = 46 := q; unfold RAd at z; omega)) (Or.inl (fun a x y f z q => by have q1 : ((a = 3 ∨ a = 4) ∧ x = s) ∨ a = 44 ∨ a = 45 ∨ a = 46 := q; unfold RCd at z; omega)) (Or.inl (fun a x y f z q => by have q1 : ((a = 3 ∨ a = 4) ∧ x = s) ∨ a = 44 ∨ a = 45 ∨ a = 46 := q; unfold RDd at z; omega)) (Or.inr (fun s2 hs2 => ?_)) (Or.inl (fun a x y f z q => by have q1 : ((a = 3 ∨ a = 4) ∧ x = s) ∨ a = 44 ∨ a = 45 ∨ a = 46 := q; unfold RFd at z; omega)) (Or.inl (fun a x y f z q => by have q1 : ((a = 3 ∨ a = 4) ∧ x = s) ∨ a = 44 ∨ a = 45 ∨ a = 46 := q; unfold RGd at z; omega)) (Or.inl (fun a x y f z q => by have q1 : ((a = 3 ∨ a = 4) ∧ x = s) ∨ a = 44 ∨ a = 45 ∨ a = 46 := q; unfold RHd at z; omega)))⟩
    · intro a x y f q
      have q1 : ¬ (((a = 3 ∨ a = 4) ∧ x = s) ∨ a = 44 ∨ a = 45 ∨ a = 46) := q
      show zpt _ 46 (24 * s) 24 (fun _ => 0) a x y f = _
      rw [zpt_o (fun e => q1 (by omega)), zu_ne _ _ (fun e => q1 (by omega)), zu_ne _ _ (fun e => q1 (by omega))]
      unfold shN shZ
      rw [if_neg (fun e => q1 (by omega)), zu_ne _ _ (fun e => q1 (by omega)), zu_ne _ _ (fun e => q1 (by omega))]
    · obtain ⟨g1, g2, g3, g4, g5⟩ := hR.RE s2 hs2
      unfold shM
      by_cases e : s2 = s
      · subst e
        have w0 : ∀ k, k < 24 → zpt (zu (zu (shN M s2 t z) 44 0 0 s2 t) 45 0 0 s2 z) 46 (24 * s2) 24 (fun _ => 0) 46 0 0 (24 * s2 + k) = 0 := fun k hk => zpt_in hk
        have w1 : zpt (zu (zu (shN M s2 t z) 44 0 0 s2 t) 45 0 0 s2 z) 46 (24 * s2) 24 (fun _ => 0) 44 0 0 s2 = t := by
          rw [zpt_a (by decide), zu_a (by decide), zu_self]
        have w2 : zpt (zu (zu (shN M s2 t z) 44 0 0 s2 t) 45 0 0 s2 z) 46 (24 * s2) 24 (fun _ => 0) 45 0 0 s2 = z := by
          rw [zpt_a (by decide), zu_self]
        rw [w1, w2]
        refine ⟨?_, htt, ?_, hz, fun k hk => ?_⟩
        · rw [zpt_a (by decide), zu_a (by decide), zu_a (by decide)]
          simp [shN, shZ, zu]
        · rw [zpt_a (by decide), zu_a (by decide), zu_a (by decide)]
          simp [shN, shZ, zu]
        · rw [w0 k hk, zpt_a (by decide), zu_a (by decide), zu_a (by decide)]
          simp [shN, shZ, hk]
      · rw [zpt_a (a := 3) (by decide), zpt_a (a := 44) (by decide), zpt_a (a := 45) (by decide), zpt_a (a := 4) (by decide)]
        have f3 : ∀ k, shN M s t z 3 s2 0 k = M 3 s2 0 k := fun k => by simp [shN, shZ, zu, e]
        have f4 : ∀ k, shN M s t z 4 s2 0 k = M 4 s2 0 k := fun k => by simp [shN, shZ, zu, e]
        have f44 : shN M s t z 44 0 0 s2 = M 44 0 0 s2 := by simp [shN, shZ, zu]
        have f45 : shN M s t z 45 0 0 s2 = M 45 0 0 s2 := by simp [shN, shZ, zu]
        have f46 : ∀ k, shN M s t z 46 0 0 k = M 46 0 0 k := fun k => by simp [shN, shZ, zu]
        simp only [zu_a (M := zu (shN M s t z) 44 0 0 s t) (a := 45) (a' := 3) (by decide), zu_a (M := zu (shN M s t z) 44 0 0 s t) (a := 45) (a' := 44) (by decide), zu_a (M := zu (shN M s t z) 44 0 0 s t) (a := 45) (a' := 4) (by decide), zu_f (M := zu (shN M s t z) 44 0 0 s t) (a := 45) (f' := s2) e, zu_a (M := shN M s t z) (a := 44) (a' := 3) (by decide), zu_a (M := shN M s t z) (a := 44) (a' := 45) (by decide), zu_a (M := shN M s t z) (a := 44) (a' := 4) (by decide), zu_f (M := shN M s t z) (a := 44) (f' := s2) e, f3, f4, f44, f45]
        refine ⟨g1, g2, g3, g4, fun k hk => ?_⟩
        rw [zpt_o (by omega), zu_a (by decide), zu_a (by decide), f46]
        exact g5 k hk