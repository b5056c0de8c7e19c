/-! PUBLIC METHODS that only ask -/
noncomputable def zif {α : Type} (P : Prop) (a c : α) : α := @ite _ P (Classical.propDecidable P) a c
theorem zif_pos {α : Type} {P : Prop} {a c : α} (h : P) : zif P a c = a := if_pos h
theorem zif_neg {α : Type} {P : Prop} {a c : α} (h : ¬ P) : zif P a c = c := if_neg h
theorem e12.z {M M' : zM} (h : e12 M M') : zSc M M' := fun a x y f z => by rw [h a (fun e => z (by unfold scr; omega))]
theorem e4243.z {M M' : zM} (h : ∀ a, a ≠ 42 → a ≠ 43 → M' a = M a) : zSc M M' := fun a x y f z => by rw [h a (fun e => z (by unfold scr; omega)) (fun e => z (by unfold scr; omega))]
theorem hvF_sc {M M' : zM} (h : zSc M M') {T : Nat} {ky ln : Nat → Nat} (hX : TX M T ky ln) : hvF M' (lastK ky 0 T) = hvF M (lastK ky 0 T) := by
  funext x y z
  have h14 := hX.1
  unfold hvF tval
  rcases lastK_cases ky 0 T with e | ⟨t, h1, h2, h3⟩
  · rw [e, if_pos (by decide), if_pos (by decide)]
  · rw [h2, nI_clamp (by omega), h 8 t 0 2 (by unfold scr; omega), show M' 9 t 0 = M 9 t 0 from funext fun i => h 9 t 0 i (by unfold scr; omega)]
/-- one call of both -/
def opOK (l : Launch) (G : zG) (b : Nat) (yc : MethodName) (cc : ByteArray) (nc hc : Nat) (yr : MethodName) (cr : ByteArray) (nr hr : Nat) (av : List Value) (M : zM) : Prop := ∃ A : Int32 → zM → Prop, zMet l G b yc cc nc (some .int) hc zshL zshL (.ref (b + 0) :: av) M (zI A) ∧ ∀ r M1, A r M1 → zMet l G b yr cr nr (some .int) hr zshL zshL (.ref (b + 239) :: av) M1 (zI (fun s M2 => s = r ∧ Rel M2))
theorem zI.post {l : Launch} {G : zG} {b : Nat} {y : MethodName} {cc : ByteArray} {nL : Nat} {ret : Option FieldType} {h : Nat} {sh sh' : List zS} {av : List Value} {M : zM} {p q : Int32 → zM → Prop} (hM : zMet l G b y cc nL ret h sh sh' av M (zI p)) (hp : ∀ r M', p r M' → q r M') : zMet l G b y cc nL ret h sh sh' av M (zI q) := hM.post (fun _ M' ⟨v, e, g⟩ => ⟨v, e, hp v M' g⟩)
/-- both answer F, and only scratch changes -/
def qP (F : Int32) (M : zM) (r : Int32) (M' : zM) : Prop := r = F ∧ zSc M M'
theorem hM_hv {M : zM} {n T : Nat} {ky ln : Nat → Nat} (hR : RR M n T ky ln) : M 6 0 0 0 = lastK ky 0 T := hR.1.2.2.2.2.2.1 0 (by decide)
theorem RR.law {M : zM} {n T : Nat} {ky ln : Nat → Nat} (hR : RR M n T ky ln) {k : Nat} (hk : k < 3) : M 6 0 0 k = lastK ky k T := hR.1.2.2.2.2.2.1 k hk
theorem RR.TX {M : zM} {n T : Nat} {ky ln : Nat → Nat} (hR : RR M n T ky ln) : TX M T ky ln := hR.1.2.2.1
theorem RR.mTX {M : zM} {n T : Nat} {ky ln : Nat → Nat} (hR : RR M n T ky ln) : mTX M 31 T ky ln := hR.1.2.2.2.1
theorem RR.counts {M : zM} {n T : Nat} {ky ln : Nat → Nat} (hR : RR M n T ky ln) : ∀ t, t < T → ky t < 3 ∧ ln t ≤ 96 ∧ M 31 0 0 (65 + 2 * t) = nI (1000 * ky t + ln t) := fun t ht => ⟨(hR.TX.2 t ht).1, (hR.TX.2 t ht).2.1, (hR.mTX t ht).1⟩
theorem RR.T {M : zM} {n T : Nat} {ky ln : Nat → Nat} (hR : RR M n T ky ln) : M 5 0 0 10 = nI T := hR.1.2.2.2.2.1
theorem RR.mT {M : zM} {n T : Nat} {ky ln : Nat → Nat} (hR : RR M n T ky ln) : M 31 0 0 8 = nI T := hR.rI.2.1
theorem rr_mpe {M : zM} {n T : Nat} {ky ln : Nat → Nat} (hR : RR M n T ky ln) {i : Nat} (hi : i < n) : feq (M 1 0 i) (mp M i) := fun f hf => (hR.mp hi hf).symm
theorem zSc.p {M M' : zM} (h : zSc M M') (i : Nat) : M' 1 0 i = M 1 0 i := funext fun f => h 1 0 i f (by unfold scr; omega)
theorem zSc.w {M M' : zM} (h : zSc M M') : M' 5 0 0 = M 5 0 0 := funext fun f => h 5 0 0 f (by unfold scr; omega)
theorem zSc.l {M M' : zM} (h : zSc M M') : M' 6 0 0 = M 6 0 0 := funext fun f => h 6 0 0 f (by unfold scr; omega)
theorem feq_pSet {hv : Int32 → Int32 → Int32 → Int32} {p q : Nat → Int32} (h : feq p q) : pSet hv p = pSet hv q := by
  unfold pSet
  rw [h 0 (by decide), h 1 (by decide), h 3 (by decide), h 4 (by decide), h 5 (by decide)]
def tdF (hv : Int32 → Int32 → Int32 → Int32) (q : Nat → Int32) (t : Int32) : Int32 := if t = 0 then q 0 else if t = 1 then q 1 else if t = 2 then q 2 else if t = 3 then q 3 else if t = 4 then q 4 else if t = 5 then q 5 else if t = 6 then q 6 else if t = 7 then pSet hv q else if t = 8 then s_worth (q 0) (q 2) (q 3) else -1000000001
noncomputable def Ftold (M : zM) (n : Nat) (hv : Int32 → Int32 → Int32 → Int32) (x t : Int32) : Int32 := zif (iin x 0 ((n : Int) - 1)) (tdF hv (M 1 0 x.toNatClampNeg) t) (-1000000001)
theorem tdF_f {hv : Int32 → Int32 → Int32 → Int32} {q : Nat → Int32} {f : Nat} (hf : f < 7) : tdF hv q (nI f) = q f := by
  rcases (show f = 0 ∨ f = 1 ∨ f = 2 ∨ f = 3 ∨ f = 4 ∨ f = 5 ∨ f = 6 by omega) with rfl | rfl | rfl | rfl | rfl | rfl | rfl <;> rfl
set_option maxHeartbeats 800000 in
set_option maxRecDepth 100000 in
theorem mX9_told {l : Launch} {G : zG} {b : Nat} {M : zM} {n T : Nat} {ky ln : Nat → Nat} (hR : RR M n T ky ln) {x t : Int32} : zMet l G b yX9_told cX9_told 4 (some .int) 3 zshL zshL [.ref (b + 0), .int x, .int t] M (zI (qP (Ftold M n (hvF M (lastK ky 0 T)) x t) M)) := by
  refine zMet.of (L0 := [some (.ref (b + 0)), some (.int x), some (.int t), none]) (by decide +kernel) (Nat.le_refl _) (Nat.le_refl _) (Nat.le_of_ble_eq_true rfl) (List.forall_mem_cons.mpr ⟨rfl, List.forall_mem_cons.mpr ⟨rfl, List.forall_mem_cons.mpr ⟨rfl, fun _ h => absurd h List.not_mem_nil⟩⟩⟩) rfl (fun X C Al K => ?_)
  refine z_aload_n (pc := 0) C 0 dX9_told_0 rfl rfl ?_
  refine z_iload_n (pc := 1) C 1 dX9_told_1 rfl rfl ?_
  refine z_callVi (pc := 2) C dX9_told_2 kX9_96 (mX9_isOne hR.hn hR.n8) (by decide) sh_0 rfl rfl rfl (Nat.le_of_ble_eq_true rfl) (fun r2 M2 h2 => ?_)
  obtain ⟨h2, e2⟩ := h2
  subst M2
  refine z_if_ne (pc := 5) C 11 dX9_told_5 (by decide) (fun c5 => ?_) (fun c5 => ?_)
  · have hx := h2.yes c5
    obtain ⟨i, hi, rfl⟩ := iin_nI (by have := hR.n8; omega) hx
    have hin : i < 8 := by have := hR.n8; omega
    refine z_aload_n (pc := 11) C 0 dX9_told_11 rfl rfl ?_
    refine z_getR (pc := 12) (r := adW 0) C dX9_told_12 fX9_21 sh_0 rfl ?_
    refine z_getR (pc := 15) (r := adW 0 + 1) C dX9_told_15 fX9_99 (shW lt0_14) rfl ?_
    refine z_iload_n (pc := 18) C 1 dX9_told_18 rfl rfl ?_
    refine z_aald (pc := 19) (r := adP 0 i) C dX9_told_19 (shPa lt0_14) rfl rfl (pin hin) (pget hin) ?_
    refine z_astore_n (pc := 20) C 3 dX9_told_20 rfl (by decide) rfl ?_
    refine z_iload_n (pc := 21) C 2 dX9_told_21 rfl rfl ?_
    by_cases s22_0 : t = 0
    · refine z_tswIn (pc := 22) C (0) 72 dX9_told_22 (by rw [s22_0]; rfl) (by decide) (by decide) rfl (by decide) ?_
      refine z_aload_n (pc := 72) C 3 dX9_told_72 rfl rfl ?_
      refine z_getI (pc := 73) C dX9_told_73 fX9_103 (shP (okP_w lt0_14 hin)) rfl ?_
      refine z_ireturn (pc := 76) C K dX9_told_76 ?_
      refine ⟨_, rfl, ?_, zSc.rfl'⟩
      rw [Ftold, zif_pos hx, nI_clamp (by omega)]
      rw [s22_0]
      rfl
    by_cases s22_1 : t = 1
    · refine z_tswIn (pc := 22) C (1) 109 dX9_told_22 (by rw [s22_1]; rfl) (by decide) (by decide) rfl (by decide) ?_
      refine z_iload_n (pc := 109) C 2 dX9_told_109 rfl rfl ?_
      refine z_callSi (pc := 110) C dX9_told_110 kX9_124 mX0_isTrait (by decide) rfl rfl (Nat.le_of_ble_eq_true rfl) (fun r110 M110 h110 => ?_)
      obtain ⟨h110a, h110b, e110⟩ := h110
      have h110 := And.intro h110a h110b
      subst M110
      refine z_if_eq (pc := 113) C 124 dX9_told_113 (by decide) (fun c113 => ?_) (fun c113 => ?_)
      · refine z_ldc (pc := 124) C q2_96 dX9_told_124 ?_
        refine z_ireturn (pc := 126) C K dX9_told_126 ?_
        exact absurd (h110.1.mpr (by unfold s_trait; simp [s22_1])) (by rw [c113]; decide)
      · refine z_aload_n (pc := 116) C 3 dX9_told_116 rfl rfl ?_
        refine z_iload_n (pc := 117) C 2 dX9_told_117 rfl rfl ?_
        refine z_callVi (pc := 118) C dX9_told_118 kX9_127 (mX0_trait (okP_w lt0_14 hin)) (by decide) (shP (okP_w lt0_14 hin)) rfl rfl rfl (Nat.le_of_ble_eq_true rfl) (fun r118 M118 h118 => ?_)
        obtain ⟨rfl, e118⟩ := h118
        subst M118
        refine z_goto (pc := 121) C 126 dX9_told_121 (by decide) ?_
        refine z_ireturn (pc := 126) C K dX9_told_126 ?_
        refine ⟨_, rfl, ?_, zSc.rfl'⟩
        rw [Ftold, zif_pos hx, nI_clamp (by omega)]
        rw [s22_1]
        rfl
    by_cases s22_2 : t = 2
    · refine z_tswIn (pc := 22) C (2) 109 dX9_told_22 (by rw [s22_2]; rfl) (by decide) (by decide) rfl (by decide) ?_
      refine z_iload_n (pc := 109) C 2 dX9_told_109 rfl rfl ?_
      refine z_callSi (pc := 110) C dX9_told_110 kX9_124 mX0_isTrait (by decide) rfl rfl (Nat.le_of_ble_eq_true rfl) (fun r110 M110 h110 => ?_)
      obtain ⟨h110a, h110b, e110⟩ := h110
      have h110 := And.intro h110a h110b
      subst M110
      refine z_if_eq (pc := 113) C 124 dX9_told_113 (by decide) (fun c113 => ?_) (fun c113 => ?_)
      · refine z_ldc (pc := 124) C q2_96 dX9_told_124 ?_
        refine z_ireturn (pc := 126) C K dX9_told_126 ?_
        exact absurd (h110.1.mpr (by unfold s_trait; simp [s22_2])) (by rw [c113]; decide)
      · refine z_aload_n (pc := 116) C 3 dX9_told_116 rfl rfl ?_
        refine z_iload_n (pc := 117) C 2 dX9_told_117 rfl rfl ?_
        refine z_callVi (pc := 118) C dX9_told_118 kX9_127 (mX0_trait (okP_w lt0_14 hin)) (by decide) (shP (okP_w lt0_14 hin)) rfl rfl rfl (Nat.le_of_ble_eq_true rfl) (fun r118 M118 h118 => ?_)
        obtain ⟨rfl, e118⟩ := h118
        subst M118
        refine z_goto (pc := 121) C 126 dX9_told_121 (by decide) ?_
        refine z_ireturn (pc := 126) C K dX9_told_126 ?_
        refine ⟨_, rfl, ?_, zSc.rfl'⟩
        rw [Ftold, zif_pos hx, nI_clamp (by omega)]
        rw [s22_2]
        rfl
    by_cases s22_3 : t = 3
    · refine z_tswIn (pc := 22) C (3) 109 dX9_told_22 (by rw [s22_3]; rfl) (by decide) (by decide) rfl (by decide) ?_
      refine z_iload_n (pc := 109) C 2 dX9_told_109 rfl rfl ?_
      refine z_callSi (pc := 110) C dX9_told_110 kX9_124 mX0_isTrait (by decide) rfl rfl (Nat.le_of_ble_eq_true rfl) (fun r110 M110 h110 => ?_)
      obtain ⟨h110a, h110b, e110⟩ := h110
      have h110 := And.intro h110a h110b
      subst M110
      refine z_if_eq (pc := 113) C 124 dX9_told_113 (by decide) (fun c113 => ?_) (fun c113 => ?_)
      · refine z_ldc (pc := 124) C q2_96 dX9_told_124 ?_
        refine z_ireturn (pc := 126) C K dX9_told_126 ?_
        exact absurd (h110.1.mpr (by unfold s_trait; simp [s22_3])) (by rw [c113]; decide)
      · refine z_aload_n (pc := 116) C 3 dX9_told_116 rfl rfl ?_
        refine z_iload_n (pc := 117) C 2 dX9_told_117 rfl rfl ?_
        refine z_callVi (pc := 118) C dX9_told_118 kX9_127 (mX0_trait (okP_w lt0_14 hin)) (by decide) (shP (okP_w lt0_14 hin)) rfl rfl rfl (Nat.le_of_ble_eq_true rfl) (fun r118 M118 h118 => ?_)
        obtain ⟨rfl, e118⟩ := h118
        subst M118
        refine z_goto (pc := 121) C 126 dX9_told_121 (by decide) ?_
        refine z_ireturn (pc := 126) C K dX9_told_126 ?_
        refine ⟨_, rfl, ?_, zSc.rfl'⟩
        rw [Ftold, zif_pos hx, nI_clamp (by omega)]
        rw [s22_3]
        rfl
    by_cases s22_4 : t = 4
    · refine z_tswIn (pc := 22) C (4) 77 dX9_told_22 (by rw [s22_4]; rfl) (by decide) (by decide) rfl (by decide) ?_
      refine z_aload_n (pc := 77) C 3 dX9_told_77 rfl rfl ?_
      refine z_getI (pc := 78) C dX9_told_78 fX9_106 (shP (okP_w lt0_14 hin)) rfl ?_
      refine z_ireturn (pc := 81) C K dX9_told_81 ?_
      refine ⟨_, rfl, ?_, zSc.rfl'⟩
      rw [Ftold, zif_pos hx, nI_clamp (by omega)]
      rw [s22_4]
      rfl
    by_cases s22_5 : t = 5
    · refine z_tswIn (pc := 22) C (5) 82 dX9_told_22 (by rw [s22_5]; rfl) (by decide) (by decide) rfl (by decide) ?_
      refine z_aload_n (pc := 82) C 3 dX9_told_82 rfl rfl ?_
      refine z_getI (pc := 83) C dX9_told_83 fX9_109 (shP (okP_w lt0_14 hin)) rfl ?_
      refine z_ireturn (pc := 86) C K dX9_told_86 ?_
      refine ⟨_, rfl, ?_, zSc.rfl'⟩
      rw [Ftold, zif_pos hx, nI_clamp (by omega)]
      rw [s22_5]
      rfl
    by_cases s22_6 : t = 6
    · refine z_tswIn (pc := 22) C (6) 109 dX9_told_22 (by rw [s22_6]; rfl) (by decide) (by decide) rfl (by decide) ?_
      refine z_iload_n (pc := 109) C 2 dX9_told_109 rfl rfl ?_
      refine z_callSi (pc := 110) C dX9_told_110 kX9_124 mX0_isTrait (by decide) rfl rfl (Nat.le_of_ble_eq_true rfl) (fun r110 M110 h110 => ?_)
      obtain ⟨h110a, h110b, e110⟩ := h110
      have h110 := And.intro h110a h110b
      subst M110
      refine z_if_eq (pc := 113) C 124 dX9_told_113 (by decide) (fun c113 => ?_) (fun c113 => ?_)
      · refine z_ldc (pc := 124) C q2_96 dX9_told_124 ?_
        refine z_ireturn (pc := 126) C K dX9_told_126 ?_
        exact absurd (h110.1.mpr (by unfold s_trait; simp [s22_6])) (by rw [c113]; decide)
      · refine z_aload_n (pc := 116) C 3 dX9_told_116 rfl rfl ?_
        refine z_iload_n (pc := 117) C 2 dX9_told_117 rfl rfl ?_
        refine z_callVi (pc := 118) C dX9_told_118 kX9_127 (mX0_trait (okP_w lt0_14 hin)) (by decide) (shP (okP_w lt0_14 hin)) rfl rfl rfl (Nat.le_of_ble_eq_true rfl) (fun r118 M118 h118 => ?_)
        obtain ⟨rfl, e118⟩ := h118
        subst M118
        refine z_goto (pc := 121) C 126 dX9_told_121 (by decide) ?_
        refine z_ireturn (pc := 126) C K dX9_told_126 ?_
        refine ⟨_, rfl, ?_, zSc.rfl'⟩
        rw [Ftold, zif_pos hx, nI_clamp (by omega)]
        rw [s22_6]
        exact b01_id (hR.ok hi).2.2.2.2.2.2
    by_cases s22_7 : t = 7
    · refine z_tswIn (pc := 22) C (7) 87 dX9_told_22 (by rw [s22_7]; rfl) (by decide) (by decide) rfl (by decide) ?_
      refine z_aload_n (pc := 87) C 3 dX9_told_87 rfl rfl ?_
      refine z_aload_n (pc := 88) C 0 dX9_told_88 rfl rfl ?_
      refine z_getR (pc := 89) (r := 1) C dX9_told_89 fX9_12 sh_0 rfl ?_
      refine z_aload_n (pc := 92) C 0 dX9_told_92 rfl rfl ?_
      refine z_getR (pc := 93) (r := adW 0) C dX9_told_93 fX9_21 sh_0 rfl ?_
      refine z_iconst (pc := 96) (v := 0) C dX9_told_96 rfl ?_
      refine z_callVi (pc := 97) C dX9_told_97 kX9_112 (mX8_lawOf (k := 0) lt0_14 (by decide)) (by decide) (shW lt0_14) rfl rfl rfl (Nat.le_of_ble_eq_true rfl) (fun r97 M97 h97 => ?_)
      obtain ⟨rfl, e97⟩ := h97
      subst M97
      refine z_callVi (pc := 100) C dX9_told_100 kX9_116 (mX0_setting (okP_w lt0_14 hin) hR.cI.2) (by decide) (shP (okP_w lt0_14 hin)) rfl rfl rfl (Nat.le_of_ble_eq_true rfl) (fun r100 M100 h100 => ?_)
      refine z_ireturn (pc := 103) C K dX9_told_103 ?_
      refine ⟨_, rfl, ?_, h100.2.z⟩
      rw [Ftold, zif_pos hx, nI_clamp (by omega)]
      rw [s22_7]
      exact h100.1
    by_cases s22_8 : t = 8
    · refine z_tswIn (pc := 22) C (8) 104 dX9_told_22 (by rw [s22_8]; rfl) (by decide) (by decide) rfl (by decide) ?_
      refine z_aload_n (pc := 104) C 3 dX9_told_104 rfl rfl ?_
      refine z_callVi (pc := 105) C dX9_told_105 kX9_120 (mX0_worth (okP_w lt0_14 hin)) (by decide) (shP (okP_w lt0_14 hin)) rfl rfl rfl (Nat.le_of_ble_eq_true rfl) (fun r105 M105 h105 => ?_)
      obtain ⟨rfl, e105⟩ := h105
      subst M105
      refine z_ireturn (pc := 108) C K dX9_told_108 ?_
      refine ⟨_, rfl, ?_, zSc.rfl'⟩
      rw [Ftold, zif_pos hx, nI_clamp (by omega)]
      rw [s22_8]
      rfl
    refine z_tswOut (pc := 22) C 109 dX9_told_22 (by have g0 := lv_neT (a := 0) s22_0 rfl; have g1 := lv_neT (a := 1) s22_1 rfl; have g2 := lv_neT (a := 2) s22_2 rfl; have g3 := lv_neT (a := 3) s22_3 rfl; have g4 := lv_neT (a := 4) s22_4 rfl; have g5 := lv_neT (a := 5) s22_5 rfl; have g6 := lv_neT (a := 6) s22_6 rfl; have g7 := lv_neT (a := 7) s22_7 rfl; have g8 := lv_neT (a := 8) s22_8 rfl; omega) (by decide) ?_
    refine z_iload_n (pc := 109) C 2 dX9_told_109 rfl rfl ?_
    refine z_callSi (pc := 110) C dX9_told_110 kX9_124 mX0_isTrait (by decide) rfl rfl (Nat.le_of_ble_eq_true rfl) (fun r110 M110 h110 => ?_)
    obtain ⟨h110a, h110b, e110⟩ := h110
    have h110 := And.intro h110a h110b
    subst M110
    refine z_if_eq (pc := 113) C 124 dX9_told_113 (by decide) (fun c113 => ?_) (fun c113 => ?_)
    · refine z_ldc (pc := 124) C q2_96 dX9_told_124 ?_
      refine z_ireturn (pc := 126) C K dX9_told_126 ?_
      refine ⟨_, rfl, ?_, zSc.rfl'⟩
      rw [Ftold, zif_pos hx, nI_clamp (by omega)]
      have q : ¬ s_trait t := fun z => absurd (h110.1.mpr z) (by rw [c113]; decide)
      unfold s_trait at q
      simp_all [tdF]
    · refine z_aload_n (pc := 116) C 3 dX9_told_116 rfl rfl ?_
      refine z_iload_n (pc := 117) C 2 dX9_told_117 rfl rfl ?_
      refine z_callVi (pc := 118) C dX9_told_118 kX9_127 (mX0_trait (okP_w lt0_14 hin)) (by decide) (shP (okP_w lt0_14 hin)) rfl rfl rfl (Nat.le_of_ble_eq_true rfl) (fun r118 M118 h118 => ?_)
      obtain ⟨rfl, e118⟩ := h118
      subst M118
      refine z_goto (pc := 121) C 126 dX9_told_121 (by decide) ?_
      refine z_ireturn (pc := 126) C K dX9_told_126 ?_
      exfalso
      have q : s_trait t := h110.1.mp (h110.2.resolve_left c113)
      unfold s_trait at q
      simp_all
  · refine z_ldc (pc := 8) C q2_96 dX9_told_8 ?_
    refine z_ireturn (pc := 10) C K dX9_told_10 ?_
    exact ⟨_, rfl, by rw [Ftold, zif_neg (h2.no c5)], zSc.rfl'⟩

theorem i7 : (7 : Int32).toInt = 7 := by decide
set_option maxHeartbeats 800000 in
set_option maxRecDepth 100000 in
theorem mX10_told {l : Launch} {G : zG} {b : Nat} {M : zM} {n T : Nat} {ky ln : Nat → Nat} (hR : RR M n T ky ln) {x t : Int32} : zMet l G b yX10_told cX10_told 3 (some .int) 3 zshL zshL [.ref (b + 239), .int x, .int t] M (zI (qP (Ftold M n (hvF M (lastK ky 0 T)) x t) M)) := by
  refine zMet.of (L0 := [some (.ref (b + 239)), some (.int x), some (.int t)]) (by decide +kernel) (Nat.le_refl _) (Nat.le_refl _) (Nat.le_of_ble_eq_true rfl) (List.forall_mem_cons.mpr ⟨rfl, List.forall_mem_cons.mpr ⟨rfl, List.forall_mem_cons.mpr ⟨rfl, fun _ h => absurd h List.not_mem_nil⟩⟩⟩) rfl (fun X C Al K => ?_)
  refine z_aload_n (pc := 0) C 0 dX10_told_0 rfl rfl ?_
  refine z_iload_n (pc := 1) C 1 dX10_told_1 rfl rfl ?_
  refine z_callVi (pc := 2) C dX10_told_2 kX10_107 (mX10_isOne hR.hm hR.n8) (by decide) sh_239 rfl rfl rfl (Nat.le_of_ble_eq_true rfl) (fun r2 M2 h2 => ?_)
  obtain ⟨h2, e2⟩ := h2
  subst M2
  refine z_if_eq (pc := 5) C 18 dX10_told_5 (by decide) (fun c5 => ?_) (fun c5 => ?_)
  · refine z_ldc (pc := 18) C q5_48 dX10_told_18 ?_
    refine z_ireturn (pc := 20) C K dX10_told_20 ?_
    exact ⟨_, rfl, by rw [Ftold, zif_neg (h2.no c5)], zSc.rfl'⟩
  · refine z_iload_n (pc := 8) C 2 dX10_told_8 rfl rfl ?_
    refine z_iconst (pc := 9) (v := 0) C dX10_told_9 rfl ?_
    refine z_bipush (pc := 10) (v := 8) C dX10_told_10 rfl ?_
    refine z_callSi (pc := 12) C dX10_told_12 kX10_78 mX10_in (by decide) rfl rfl (Nat.le_of_ble_eq_true rfl) (fun r12 M12 h12 => ?_)
    obtain ⟨h12, e12⟩ := h12
    subst M12
    replace h12 : zb r12 (iin t (0) (8)) := zin_b (by decide) (by decide) h12
    refine z_if_ne (pc := 15) C 21 dX10_told_15 (by decide) (fun c15 => ?_) (fun c15 => ?_)
    · have hx := h2.yes c5
      obtain ⟨i, hi, rfl⟩ := iin_nI (by have := hR.n8; omega) hx
      have hin : i < 8 := by have := hR.n8; omega
      refine z_iload_n (pc := 21) C 2 dX10_told_21 rfl rfl ?_
      refine z_bipush (pc := 22) (v := 7) C dX10_told_22 rfl ?_
      refine z_icmp_ge (pc := 24) C 36 dX10_told_24 (by decide) (fun c24 => ?_) (fun c24 => ?_)
      · refine z_iload_n (pc := 36) C 2 dX10_told_36 rfl rfl ?_
        refine z_bipush (pc := 37) (v := 7) C dX10_told_37 rfl ?_
        refine z_icmp_ne (pc := 39) C 50 dX10_told_39 (by decide) (fun c39 => ?_) (fun c39 => ?_)
        · refine z_aload_n (pc := 50) C 0 dX10_told_50 rfl rfl ?_
          refine z_iload_n (pc := 51) C 1 dX10_told_51 rfl rfl ?_
          refine z_callVi (pc := 52) C dX10_told_52 kX10_114 (mX10_worthOf hin (by rw [hR.mp hi (by decide)]; exact (hR.ok hi).2.2.2.1)) (by decide) sh_239 rfl rfl rfl (Nat.le_of_ble_eq_true rfl) (fun r52 M52 h52 => ?_)
          obtain ⟨rfl, e52⟩ := h52
          subst M52
          refine z_ireturn (pc := 55) C K dX10_told_55 ?_
          refine ⟨_, rfl, ?_, zSc.rfl'⟩
          rw [Ftold, zif_pos hx, nI_clamp (by omega)]
          have e8 : t = 8 := by
            have q := h12.yes c15
            simp only [zi_lt, zi_le, zi_eq, i0, i1, i2, i3, i4, i5, i6, i9, i20, i99, i100, im5, im20, im1, i7] at c24 c39
            rw [zi_eq, i8]
            unfold iin at q
            omega
          rw [e8, hR.mp hi (by decide), hR.mp hi (by decide), hR.mp hi (by decide)]
          rfl
        · refine z_aload_n (pc := 42) C 0 dX10_told_42 rfl rfl ?_
          refine z_iload_n (pc := 43) C 1 dX10_told_43 rfl rfl ?_
          refine z_callVi (pc := 44) C dX10_told_44 kX10_111 (mX10_setsTo hR.mT hR.TX hR.mTX hin (by rw [hR.mp hi (by decide)]; exact (hR.ok hi).2.2.2.2.1) (by rw [hR.mp hi (by decide)]; exact (hR.ok hi).2.2.2.2.2.1)) (by decide) sh_239 rfl rfl rfl (Nat.le_of_ble_eq_true rfl) (fun r44 M44 h44 => ?_)
          refine z_goto (pc := 47) C 55 dX10_told_47 (by decide) ?_
          refine z_ireturn (pc := 55) C K dX10_told_55 ?_
          refine ⟨_, rfl, h44.1.trans ?_, e4243.z h44.2⟩
          rw [Ftold, zif_pos hx, nI_clamp (by omega)]
          rw [c39]
          exact (feq_pSet (rr_mpe hR hi)).symm
      · obtain ⟨f, hf, rfl⟩ : ∃ f, f < 7 ∧ t = nI f := iin_nI (n := 7) (by decide) (by
          have q := h12.yes c15
          simp only [zi_lt, zi_le, zi_eq, i0, i1, i2, i3, i4, i5, i6, i9, i20, i99, i100, im5, im20, im1, i7] at c24
          unfold iin at q ⊢
          omega)
        refine z_aload_n (pc := 27) C 0 dX10_told_27 rfl rfl ?_
        refine z_iload_n (pc := 28) C 1 dX10_told_28 rfl rfl ?_
        refine z_iload_n (pc := 29) C 2 dX10_told_29 rfl rfl ?_
        refine z_callVi (pc := 30) C dX10_told_30 kX10_96 (mX10_of hin hf) (by decide) sh_239 rfl rfl rfl (Nat.le_of_ble_eq_true rfl) (fun r30 M30 h30 => ?_)
        obtain ⟨rfl, e30⟩ := h30
        subst M30
        refine z_goto (pc := 33) C 55 dX10_told_33 (by decide) ?_
        refine z_ireturn (pc := 55) C K dX10_told_55 ?_
        refine ⟨_, rfl, ?_, zSc.rfl'⟩
        rw [Ftold, zif_pos hx, nI_clamp (by omega)]
        rw [tdF_f hf]
        exact hR.mp hi hf
    · refine z_ldc (pc := 18) C q5_48 dX10_told_18 ?_
      refine z_ireturn (pc := 20) C K dX10_told_20 ?_
      refine ⟨_, rfl, ?_, zSc.rfl'⟩
      by_cases hx : iin x 0 ((n : Int) - 1)
      · rw [Ftold, zif_pos hx]
        have q := h12.no c15
        unfold iin at q
        simp only [tdF, zi_eq, i0, i1, i2, i3, i4, i5, i6, i7, i8]
        simp [show ¬ t.toInt = 0 by omega, show ¬ t.toInt = 1 by omega, show ¬ t.toInt = 2 by omega, show ¬ t.toInt = 3 by omega, show ¬ t.toInt = 4 by omega, show ¬ t.toInt = 5 by omega, show ¬ t.toInt = 6 by omega, show ¬ t.toInt = 7 by omega, show ¬ t.toInt = 8 by omega]
      · rw [Ftold, zif_neg hx]

theorem op_told {l : Launch} {G : zG} {b : Nat} {M : zM} (hM : Rel M) {x t : Int32} : opOK l G b yX9_told cX9_told 4 3 yX10_told cX10_told 3 3 [.int x, .int t] M := by
  obtain ⟨n, T, ky, ln, hR⟩ := hM
  refine ⟨_, mX9_told hR, fun r M1 h1 => ?_⟩
  obtain ⟨rfl, h1⟩ := h1
  have hR1 := hR.sc h1
  refine zI.post (mX10_told hR1) (fun s M2 h2 => ?_)
  obtain ⟨rfl, h2⟩ := h2
  refine ⟨?_, _, _, _, _, hR1.sc h2⟩
  unfold Ftold
  rw [h1.p, hvF_sc h1 hR.TX]
noncomputable def Fas (M : zM) (n : Nat) (x t : Int32) : Int32 := zif (iin x 0 ((n : Int) - 1) ∧ iin t 0 5) (zif (sUn (M 1 0 x.toNatClampNeg 0) t) (M 1 0 x.toNatClampNeg 1) (-1000000012)) (-1000000001)
set_option maxHeartbeats 800000 in
set_option maxRecDepth 100000 in
theorem mX9_as {l : Launch} {G : zG} {b : Nat} {M : zM} {n T : Nat} {ky ln : Nat → Nat} (hR : RR M n T ky ln) {x t : Int32} : zMet l G b yX9_as cX9_as 4 (some .int) 1 zshL zshL [.ref (b + 0), .int x, .int t] M (zI (qP (Fas M n x t) M)) := by
  refine zMet.of (L0 := [some (.ref (b + 0)), some (.int x), some (.int t), none]) (by decide +kernel) (Nat.le_refl _) (Nat.le_refl _) (Nat.le_of_ble_eq_true rfl) (List.forall_mem_cons.mpr ⟨rfl, List.forall_mem_cons.mpr ⟨rfl, List.forall_mem_cons.mpr ⟨rfl, fun _ h => absurd h List.not_mem_nil⟩⟩⟩) rfl (fun X C Al K => ?_)
  refine z_aload_n (pc := 0) C 0 dX9_as_0 rfl rfl ?_
  refine z_iload_n (pc := 1) C 1 dX9_as_1 rfl rfl ?_
  refine z_callVi (pc := 2) C dX9_as_2 kX9_96 (mX9_isOne hR.hn hR.n8) (by decide) sh_0 rfl rfl rfl (Nat.le_of_ble_eq_true rfl) (fun r2 M2 h2 => ?_)
  obtain ⟨h2, e2⟩ := h2
  subst M2
  refine z_if_eq (pc := 5) C 15 dX9_as_5 (by decide) (fun c5 => ?_) (fun c5 => ?_)
  · refine z_ldc (pc := 15) C q2_96 dX9_as_15 ?_
    refine z_ireturn (pc := 17) C K dX9_as_17 ?_
    exact ⟨_, rfl, by rw [Fas, zif_neg (fun q => h2.no c5 q.1)], zSc.rfl'⟩
  · refine z_iload_n (pc := 8) C 2 dX9_as_8 rfl rfl ?_
    refine z_callSi (pc := 9) C dX9_as_9 kX9_77 mX9_isKind (by decide) rfl rfl (Nat.le_of_ble_eq_true rfl) (fun r9 M9 h9 => ?_)
    obtain ⟨h9, e9⟩ := h9
    subst M9
    refine z_if_ne (pc := 12) C 18 dX9_as_12 (by decide) (fun c12 => ?_) (fun c12 => ?_)
    · have hx := h2.yes c5
      have hk := h9.yes c12
      obtain ⟨i, hi, rfl⟩ := iin_nI (by have := hR.n8; omega) hx
      have hin : i < 8 := by have := hR.n8; omega
      refine z_aload_n (pc := 18) C 0 dX9_as_18 rfl rfl ?_
      refine z_getR (pc := 19) (r := adW 0) C dX9_as_19 fX9_21 sh_0 rfl ?_
      refine z_getR (pc := 22) (r := adW 0 + 1) C dX9_as_22 fX9_99 (shW lt0_14) rfl ?_
      refine z_iload_n (pc := 25) C 1 dX9_as_25 rfl rfl ?_
      refine z_aald (pc := 26) (r := adP 0 i) C dX9_as_26 (shPa lt0_14) rfl rfl (pin hin) (pget hin) ?_
      refine z_astore_n (pc := 27) C 3 dX9_as_27 rfl (by decide) rfl ?_
      refine z_aload_n (pc := 28) C 3 dX9_as_28 rfl rfl ?_
      refine z_iload_n (pc := 29) C 2 dX9_as_29 rfl rfl ?_
      refine z_callVi (pc := 30) C dX9_as_30 kX9_130 (mX0_isOf (okP_w lt0_14 hin) (hR.ok hi).1) (by decide) (shP (okP_w lt0_14 hin)) rfl rfl rfl (Nat.le_of_ble_eq_true rfl) (fun r30 M30 h30 => ?_)
      obtain ⟨h30, e30⟩ := h30
      subst M30
      refine z_if_eq (pc := 33) C 43 dX9_as_33 (by decide) (fun c33 => ?_) (fun c33 => ?_)
      · refine z_ldc (pc := 43) C q2_162 dX9_as_43 ?_
        refine z_ireturn (pc := 45) C K dX9_as_45 ?_
        refine ⟨_, rfl, ?_, zSc.rfl'⟩
        rw [Fas, zif_pos ⟨hx, hk⟩, nI_clamp (by omega), zif_neg (h30.no c33)]
      · refine z_aload_n (pc := 36) C 3 dX9_as_36 rfl rfl ?_
        refine z_getI (pc := 37) C dX9_as_37 fX9_133 (shP (okP_w lt0_14 hin)) rfl ?_
        refine z_goto (pc := 40) C 45 dX9_as_40 (by decide) ?_
        refine z_ireturn (pc := 45) C K dX9_as_45 ?_
        refine ⟨_, rfl, ?_, zSc.rfl'⟩
        rw [Fas, zif_pos ⟨hx, hk⟩, nI_clamp (by omega), zif_pos (h30.yes c33)]
    · refine z_ldc (pc := 15) C q2_96 dX9_as_15 ?_
      refine z_ireturn (pc := 17) C K dX9_as_17 ?_
      exact ⟨_, rfl, by rw [Fas, zif_neg (fun q => h9.no c12 q.2)], zSc.rfl'⟩

set_option maxHeartbeats 800000 in
set_option maxRecDepth 100000 in
theorem mX10_as {l : Launch} {G : zG} {b : Nat} {M : zM} {n T : Nat} {ky ln : Nat → Nat} (hR : RR M n T ky ln) {x t : Int32} : zMet l G b yX10_as cX10_as 3 (some .int) 2 zshL zshL [.ref (b + 239), .int x, .int t] M (zI (qP (Fas M n x t) M)) := by
  refine zMet.of (L0 := [some (.ref (b + 239)), some (.int x), some (.int t)]) (by decide +kernel) (Nat.le_refl _) (Nat.le_refl _) (Nat.le_of_ble_eq_true rfl) (List.forall_mem_cons.mpr ⟨rfl, List.forall_mem_cons.mpr ⟨rfl, List.forall_mem_cons.mpr ⟨rfl, fun _ h => absurd h List.not_mem_nil⟩⟩⟩) rfl (fun X C Al K => ?_)
  refine z_aload_n (pc := 0) C 0 dX10_as_0 rfl rfl ?_
  refine z_iload_n (pc := 1) C 1 dX10_as_1 rfl rfl ?_
  refine z_callVi (pc := 2) C dX10_as_2 kX10_107 (mX10_isOne hR.hm hR.n8) (by decide) sh_239 rfl rfl rfl (Nat.le_of_ble_eq_true rfl) (fun r2 M2 h2 => ?_)
  obtain ⟨h2, e2⟩ := h2
  subst M2
  refine z_if_eq (pc := 5) C 17 dX10_as_5 (by decide) (fun c5 => ?_) (fun c5 => ?_)
  · refine z_ldc (pc := 17) C q5_48 dX10_as_17 ?_
    refine z_ireturn (pc := 19) C K dX10_as_19 ?_
    exact ⟨_, rfl, by rw [Fas, zif_neg (fun q => h2.no c5 q.1)], zSc.rfl'⟩
  · refine z_iload_n (pc := 8) C 2 dX10_as_8 rfl rfl ?_
    refine z_iconst (pc := 9) (v := 0) C dX10_as_9 rfl ?_
    refine z_iconst (pc := 10) (v := 5) C dX10_as_10 rfl ?_
    refine z_callSi (pc := 11) C dX10_as_11 kX10_78 mX10_in (by decide) rfl rfl (Nat.le_of_ble_eq_true rfl) (fun r11 M11 h11 => ?_)
    obtain ⟨h11, e11⟩ := h11
    subst M11
    replace h11 : zb r11 (iin t (0) (5)) := zin_b (by decide) (by decide) h11
    refine z_if_ne (pc := 14) C 20 dX10_as_14 (by decide) (fun c14 => ?_) (fun c14 => ?_)
    · have hx := h2.yes c5
      have hk := h11.yes c14
      obtain ⟨i, hi, rfl⟩ := iin_nI (by have := hR.n8; omega) hx
      have hin : i < 8 := by have := hR.n8; omega
      refine z_aload_n (pc := 20) C 0 dX10_as_20 rfl rfl ?_
      refine z_iload_n (pc := 21) C 1 dX10_as_21 rfl rfl ?_
      refine z_iconst (pc := 22) (v := 0) C dX10_as_22 rfl ?_
      refine z_callVi (pc := 23) C dX10_as_23 kX10_96 (mX10_of (f := 0) hin (by decide)) (by decide) sh_239 rfl rfl rfl (Nat.le_of_ble_eq_true rfl) (fun r23 M23 h23 => ?_)
      obtain ⟨rfl, e23⟩ := h23
      subst M23
      rw [hR.mp hi (by decide)]
      refine z_iload_n (pc := 26) C 2 dX10_as_26 rfl rfl ?_
      refine z_callSi (pc := 27) C dX10_as_27 kX10_117 mX10_isUnder (by decide) rfl rfl (Nat.le_of_ble_eq_true rfl) (fun r27 M27 h27 => ?_)
      obtain ⟨h27, e27⟩ := h27
      subst M27
      refine z_if_eq (pc := 30) C 42 dX10_as_30 (by decide) (fun c30 => ?_) (fun c30 => ?_)
      · refine z_ldc (pc := 42) C q5_99 dX10_as_42 ?_
        refine z_ireturn (pc := 44) C K dX10_as_44 ?_
        refine ⟨_, rfl, ?_, zSc.rfl'⟩
        rw [Fas, zif_pos ⟨hx, hk⟩, nI_clamp (by omega), zif_neg (h27.no c30)]
      · refine z_aload_n (pc := 33) C 0 dX10_as_33 rfl rfl ?_
        refine z_iload_n (pc := 34) C 1 dX10_as_34 rfl rfl ?_
        refine z_iconst (pc := 35) (v := 1) C dX10_as_35 rfl ?_
        refine z_callVi (pc := 36) C dX10_as_36 kX10_96 (mX10_of (f := 1) hin (by decide)) (by decide) sh_239 rfl rfl rfl (Nat.le_of_ble_eq_true rfl) (fun r36 M36 h36 => ?_)
        obtain ⟨rfl, e36⟩ := h36
        subst M36
        rw [hR.mp hi (by decide)]
        refine z_goto (pc := 39) C 44 dX10_as_39 (by decide) ?_
        refine z_ireturn (pc := 44) C K dX10_as_44 ?_
        refine ⟨_, rfl, ?_, zSc.rfl'⟩
        rw [Fas, zif_pos ⟨hx, hk⟩, nI_clamp (by omega), zif_pos (h27.yes c30)]
    · refine z_ldc (pc := 17) C q5_48 dX10_as_17 ?_
      refine z_ireturn (pc := 19) C K dX10_as_19 ?_
      exact ⟨_, rfl, by rw [Fas, zif_neg (fun q => h11.no c14 q.2)], zSc.rfl'⟩

theorem op_as {l : Launch} {G : zG} {b : Nat} {M : zM} (hM : Rel M) {x t : Int32} : opOK l G b yX9_as cX9_as 4 1 yX10_as cX10_as 3 2 [.int x, .int t] M := by
  obtain ⟨n, T, ky, ln, hR⟩ := hM
  refine ⟨_, mX9_as hR, fun r M1 h1 => ?_⟩
  obtain ⟨rfl, h1⟩ := h1
  have hR1 := hR.sc h1
  refine zI.post (mX10_as hR1) (fun s M2 h2 => ?_)
  obtain ⟨rfl, h2⟩ := h2
  refine ⟨?_, _, _, _, _, hR1.sc h2⟩
  unfold Fas
  rw [h1.p]
def Flaw (M : zM) (lw a c d : Int32) : Int32 := if lw < 0 then d else tval M lw.toNatClampNeg a c 0
theorem Flaw_sc {M M' : zM} (h : zSc M M') {T : Nat} {ky ln : Nat → Nat} (hX : TX M T ky ln) {k : Nat} (hk : k < 3) (a c d : Int32) : Flaw M' (lastK ky k T) a c d = Flaw M (lastK ky k T) a c d := by
  have h14 := hX.1
  unfold Flaw tval
  rcases lastK_cases ky k T with e | ⟨t, h1, h2, h3⟩
  · rw [e, if_pos (by decide), if_pos (by decide)]
  · rw [h2, nI_clamp (by omega), h 8 t 0 2 (by unfold scr; omega), show M' 9 t 0 = M 9 t 0 from funext fun i => h 9 t 0 i (by unfold scr; omega)]
theorem lastK_t {M : zM} {n T : Nat} {ky ln : Nat → Nat} (hR : RR M n T ky ln) {k : Nat} (h : ¬ lastK ky k T < 0) : ∃ t, t < T ∧ t < 14 ∧ lastK ky k T = nI t ∧ ky t = k := by
  have h14 := hR.TX.1
  rcases lastK_cases ky k T with e | ⟨t, h1, h2, h3⟩
  · exact absurd (by rw [e]; decide) h
  · exact ⟨t, h1, by omega, h2, h3⟩
theorem eRun_z {x y z z' : Int32} {f : Nat → Int32} : ∀ (n : Nat), (∀ i, i < n → f i ≠ 10002) → eRun x y z f n = eRun x y z' f n
  | 0, _ => rfl
  | n + 1, h => by
    unfold eRun
    rw [eRun_z n (fun i hi => h i (by omega))]
    have e : ∀ s, eStep x y z (f n) s = eStep x y z' (f n) s := by
      intro s
      unfold eStep eLeaf
      simp [h n (by omega)]
    congr 1
    funext s
    exact e s
theorem tval_z {M : zM} {n T : Nat} {ky ln : Nat → Nat} (hR : RR M n T ky ln) {t : Nat} (ht : t < T) (hk : ky t ≠ 0) (x y z z' : Int32) : eRun x y z (M 9 t 0) (ln t) = some [tval M t x y z'] := by
  rw [eRun_z (z' := z') (ln t) (fun i hi => ((hR.TX.2 t ht).2.2.2.2.1 i hi).2 hk)]
  exact (hR.TX.val ht x y z').1
set_option maxHeartbeats 800000 in
set_option maxRecDepth 100000 in
theorem mX9_fee {l : Launch} {G : zG} {b : Nat} {M : zM} {n T : Nat} {ky ln : Nat → Nat} (hR : RR M n T ky ln) : zMet l G b yX9_fee cX9_fee 2 (some .int) 2 zshL zshL [.ref (b + 0)] M (zI (qP (Flaw M (lastK ky 1 T) (M 5 0 0 8) (M 5 0 0 6) (M 5 0 0 8)) M)) := by
  refine zMet.of (L0 := [some (.ref (b + 0)), none]) (by decide +kernel) (Nat.le_refl _) (Nat.le_refl _) (Nat.le_of_ble_eq_true rfl) (List.forall_mem_cons.mpr ⟨rfl, fun _ h => absurd h List.not_mem_nil⟩) rfl (fun X C Al K => ?_)
  refine z_aload_n (pc := 0) C 0 dX9_fee_0 rfl rfl ?_
  refine z_getR (pc := 1) (r := adW 0) C dX9_fee_1 fX9_21 sh_0 rfl ?_
  refine z_iconst (pc := 4) (v := 1) C dX9_fee_4 rfl ?_
  refine z_callVi (pc := 5) C dX9_fee_5 kX9_112 (mX8_lawOf (k := 1) lt0_14 (by decide)) (by decide) (shW lt0_14) rfl rfl rfl (Nat.le_of_ble_eq_true rfl) (fun r5 M5 h5 => ?_)
  obtain ⟨rfl, e5⟩ := h5
  subst M5
  rw [hR.law (by decide)]
  refine z_istore_n (pc := 8) C 1 dX9_fee_8 rfl (by decide) rfl ?_
  refine z_iload_n (pc := 9) C 1 dX9_fee_9 rfl rfl ?_
  refine z_if_ge (pc := 10) C 23 dX9_fee_10 (by decide) (fun c10 => ?_) (fun c10 => ?_)
  · have hlt : ¬ lastK ky 1 T < 0 := (znn _).mp c10
    obtain ⟨t, ht, ht14, et, hkt⟩ := lastK_t hR hlt
    rw [et]
    refine z_aload_n (pc := 23) C 0 dX9_fee_23 rfl rfl ?_
    refine z_getR (pc := 24) (r := 1) C dX9_fee_24 fX9_12 sh_0 rfl ?_
    refine z_iload_n (pc := 27) C 1 dX9_fee_27 rfl rfl ?_
    refine z_aload_n (pc := 28) C 0 dX9_fee_28 rfl rfl ?_
    refine z_getR (pc := 29) (r := adW 0) C dX9_fee_29 fX9_21 sh_0 rfl ?_
    refine z_getI (pc := 32) C dX9_fee_32 fX9_164 (shW lt0_14) rfl ?_
    refine z_aload_n (pc := 35) C 0 dX9_fee_35 rfl rfl ?_
    refine z_getR (pc := 36) (r := adW 0) C dX9_fee_36 fX9_21 sh_0 rfl ?_
    refine z_getI (pc := 39) C dX9_fee_39 fX9_203 (shW lt0_14) rfl ?_
    refine z_iconst (pc := 42) (v := 0) C dX9_fee_42 rfl ?_
    refine z_callVi (pc := 43) C dX9_fee_43 kX9_206 (mX6_give ht14 (hR.TX.val ht _ _ _).2) (by decide) sh_1 rfl rfl rfl (Nat.le_of_ble_eq_true rfl) (fun r43 M43 h43 => ?_)
    refine z_ireturn (pc := 46) C K dX9_fee_46 ?_
    exact ⟨_, rfl, by rw [h43.1, Flaw, if_neg hlt, et, nI_clamp (by omega)], h43.2.z⟩
  · refine z_aload_n (pc := 13) C 0 dX9_fee_13 rfl rfl ?_
    refine z_getR (pc := 14) (r := adW 0) C dX9_fee_14 fX9_21 sh_0 rfl ?_
    refine z_getI (pc := 17) C dX9_fee_17 fX9_164 (shW lt0_14) rfl ?_
    refine z_goto (pc := 20) C 46 dX9_fee_20 (by decide) ?_
    refine z_ireturn (pc := 46) C K dX9_fee_46 ?_
    exact ⟨_, rfl, by rw [Flaw, if_pos (Int32.not_le.mp c10)], zSc.rfl'⟩

theorem e42.z {M M1 M' : zM} (h1 : zSc M M1) (h : ∀ a, a ≠ 42 → M' a = M1 a) : zSc M M' := h1.trans (fun a x y f z => by rw [h a (fun e => z (by unfold scr; omega))])
theorem sc43 (M : zM) (k : Nat) (v : Int32) : zSc M (zu M 43 0 0 k v) := fun a x y f z => zu_ne _ _ (fun q => z (by unfold scr; omega))
set_option maxHeartbeats 800000 in
set_option maxRecDepth 100000 in
theorem mX10_fee {l : Launch} {G : zG} {b : Nat} {M : zM} {n T : Nat} {ky ln : Nat → Nat} (hR : RR M n T ky ln) : zMet l G b yX10_fee cX10_fee 2 (some .int) 2 zshL zshL [.ref (b + 239)] M (zI (qP (Flaw M (lastK ky 1 T) (M 5 0 0 8) (M 5 0 0 6) (M 5 0 0 8)) M)) := by
  refine zMet.of (L0 := [some (.ref (b + 239)), none]) (by decide +kernel) (Nat.le_refl _) (Nat.le_refl _) (Nat.le_of_ble_eq_true rfl) (List.forall_mem_cons.mpr ⟨rfl, fun _ h => absurd h List.not_mem_nil⟩) rfl (fun X C Al K => ?_)
  refine z_aload_n (pc := 0) C 0 dX10_fee_0 rfl rfl ?_
  refine z_iconst (pc := 1) (v := 1) C dX10_fee_1 rfl ?_
  refine z_callVi (pc := 2) C dX10_fee_2 kX10_92 (mX10_counts hR.mT hR.TX.1 hR.counts (key := 1) (by decide)) (by decide) sh_239 rfl rfl rfl (Nat.le_of_ble_eq_true rfl) (fun r2 M2 h2 => ?_)
  obtain ⟨rfl, e2⟩ := h2
  subst M2
  refine z_istore_n (pc := 5) C 1 dX10_fee_5 rfl (by decide) rfl ?_
  refine z_aload_n (pc := 6) C 0 dX10_fee_6 rfl rfl ?_
  refine z_getR (pc := 7) (r := 252) C dX10_fee_7 fX10_48 sh_239 rfl ?_
  refine z_iconst (pc := 10) (v := 0) C dX10_fee_10 rfl ?_
  refine z_aload_n (pc := 11) C 0 dX10_fee_11 rfl rfl ?_
  refine z_getR (pc := 12) (r := 240) C dX10_fee_12 fX10_9 sh_239 rfl ?_
  refine z_iconst (pc := 15) (v := 2) C dX10_fee_15 rfl ?_
  refine z_iald (pc := 16) (n := 2) C dX10_fee_16 sh_240 (zi_in.mpr (by decide)) rfl ?_
  refine z_iast (pc := 17) (n := 0) C dX10_fee_17 sh_252 (zi_in.mpr (by decide)) rfl ?_
  have e8 : M 31 0 0 2 = M 5 0 0 8 := hR.f (k := 8) (by decide) (by decide)
  have e6 : M 31 0 0 6 = M 5 0 0 6 := hR.f (k := 6) (by decide) (by decide)
  refine z_aload_n (pc := 18) C 0 dX10_fee_18 rfl rfl ?_
  refine z_getR (pc := 19) (r := 252) C dX10_fee_19 fX10_48 sh_239 rfl ?_
  refine z_iconst (pc := 22) (v := 1) C dX10_fee_22 rfl ?_
  refine z_aload_n (pc := 23) C 0 dX10_fee_23 rfl rfl ?_
  refine z_getR (pc := 24) (r := 240) C dX10_fee_24 fX10_9 sh_239 rfl ?_
  refine z_bipush (pc := 27) (v := 6) C dX10_fee_27 rfl ?_
  refine z_iald (pc := 29) (n := 6) C dX10_fee_29 sh_240 (zi_in.mpr (by decide)) rfl ?_
  refine z_iast (pc := 30) (n := 1) C dX10_fee_30 sh_252 (zi_in.mpr (by decide)) rfl ?_
  refine z_iload_n (pc := 31) C 1 dX10_fee_31 rfl rfl ?_
  refine z_if_ge (pc := 32) C 44 dX10_fee_32 (by decide) (fun c32 => ?_) (fun c32 => ?_)
  · have hlt : ¬ lastK ky 1 T < 0 := (znn _).mp c32
    obtain ⟨t, ht, ht14, et, hkt⟩ := lastK_t hR hlt
    rw [et]
    refine z_aload_n (pc := 44) C 0 dX10_fee_44 rfl rfl ?_
    refine z_iload_n (pc := 45) C 1 dX10_fee_45 rfl rfl ?_
    refine z_callVi (pc := 46) C dX10_fee_46 kX10_100 (mX10_worksOut (t := t) ht14 (kt := ky t) (n := ln t) (f := M 9 t 0) (hR.TX.2 t ht).1 (hR.TX.2 t ht).2.1 (by rw [zu_a (by decide), zu_a (by decide)]; exact (hR.mTX t ht).1) (fun i hi => by rw [zu_a (by decide), zu_a (by decide)]; exact (hR.mTX t ht).2.2 i hi) (fun i hi => ((hR.TX.2 t ht).2.2.2.2.1 i hi).1) (tval_z hR ht (by rw [hkt]; decide) _ _ _ 0)) (by decide) sh_239 rfl rfl rfl (Nat.le_of_ble_eq_true rfl) (fun r46 M46 h46 => ?_)
    refine z_ireturn (pc := 49) C K dX10_fee_49 ?_
    exact ⟨_, rfl, by rw [h46.1, Flaw, if_neg hlt, et, nI_clamp (by omega), ← e8, ← e6]; rfl, e42.z ((sc43 _ _ _).trans (sc43 _ _ _)) h46.2⟩
  · refine z_aload_n (pc := 35) C 0 dX10_fee_35 rfl rfl ?_
    refine z_getR (pc := 36) (r := 240) C dX10_fee_36 fX10_9 sh_239 rfl ?_
    refine z_iconst (pc := 39) (v := 2) C dX10_fee_39 rfl ?_
    refine z_iald (pc := 40) (n := 2) C dX10_fee_40 sh_240 (zi_in.mpr (by decide)) rfl ?_
    refine z_goto (pc := 41) C 49 dX10_fee_41 (by decide) ?_
    refine z_ireturn (pc := 49) C K dX10_fee_49 ?_
    exact ⟨_, rfl, by rw [zu_a (by decide), zu_a (by decide), e8, Flaw, if_pos (Int32.not_le.mp c32)], (sc43 _ _ _).trans (sc43 _ _ _)⟩

theorem op_fee {l : Launch} {G : zG} {b : Nat} {M : zM} (hM : Rel M)  : opOK l G b yX9_fee cX9_fee 2 2 yX10_fee cX10_fee 2 2 [] M := by
  obtain ⟨n, T, ky, ln, hR⟩ := hM
  refine ⟨_, mX9_fee hR, fun r M1 h1 => ?_⟩
  obtain ⟨rfl, h1⟩ := h1
  have hR1 := hR.sc h1
  refine zI.post (mX10_fee hR1) (fun s M2 h2 => ?_)
  obtain ⟨rfl, h2⟩ := h2
  refine ⟨?_, _, _, _, _, hR1.sc h2⟩
  rw [Flaw_sc h1 hR.TX (by decide), h1.w]
noncomputable def Ffine (M : zM) (n : Nat) (lw x : Int32) : Int32 := zif (iin x 0 ((n : Int) - 1)) (Flaw M lw (M 1 0 x.toNatClampNeg 2) (M 1 0 x.toNatClampNeg 1) (M 1 0 x.toNatClampNeg 2)) (-1000000001)
set_option maxHeartbeats 800000 in
set_option maxRecDepth 100000 in
theorem mX9_fine {l : Launch} {G : zG} {b : Nat} {M : zM} {n T : Nat} {ky ln : Nat → Nat} (hR : RR M n T ky ln) {x : Int32} : zMet l G b yX9_fine cX9_fine 4 (some .int) 2 zshL zshL [.ref (b + 0), .int x] M (zI (qP (Ffine M n (lastK ky 2 T) x) M)) := by
  refine zMet.of (L0 := [some (.ref (b + 0)), some (.int x), none, none]) (by decide +kernel) (Nat.le_refl _) (Nat.le_refl _) (Nat.le_of_ble_eq_true rfl) (List.forall_mem_cons.mpr ⟨rfl, List.forall_mem_cons.mpr ⟨rfl, fun _ h => absurd h List.not_mem_nil⟩⟩) rfl (fun X C Al K => ?_)
  refine z_aload_n (pc := 0) C 0 dX9_fine_0 rfl rfl ?_
  refine z_iload_n (pc := 1) C 1 dX9_fine_1 rfl rfl ?_
  refine z_callVi (pc := 2) C dX9_fine_2 kX9_96 (mX9_isOne hR.hn hR.n8) (by decide) sh_0 rfl rfl rfl (Nat.le_of_ble_eq_true rfl) (fun r2 M2 h2 => ?_)
  obtain ⟨h2, e2⟩ := h2
  subst M2
  refine z_if_ne (pc := 5) C 11 dX9_fine_5 (by decide) (fun c5 => ?_) (fun c5 => ?_)
  · have hx := h2.yes c5
    obtain ⟨i, hi, rfl⟩ := iin_nI (by have := hR.n8; omega) hx
    have hin : i < 8 := by have := hR.n8; omega
    refine z_aload_n (pc := 11) C 0 dX9_fine_11 rfl rfl ?_
    refine z_getR (pc := 12) (r := adW 0) C dX9_fine_12 fX9_21 sh_0 rfl ?_
    refine z_getR (pc := 15) (r := adW 0 + 1) C dX9_fine_15 fX9_99 (shW lt0_14) rfl ?_
    refine z_iload_n (pc := 18) C 1 dX9_fine_18 rfl rfl ?_
    refine z_aald (pc := 19) (r := adP 0 i) C dX9_fine_19 (shPa lt0_14) rfl rfl (pin hin) (pget hin) ?_
    refine z_astore_n (pc := 20) C 2 dX9_fine_20 rfl (by decide) rfl ?_
    refine z_aload_n (pc := 21) C 0 dX9_fine_21 rfl rfl ?_
    refine z_getR (pc := 22) (r := adW 0) C dX9_fine_22 fX9_21 sh_0 rfl ?_
    refine z_iconst (pc := 25) (v := 2) C dX9_fine_25 rfl ?_
    refine z_callVi (pc := 26) C dX9_fine_26 kX9_112 (mX8_lawOf (k := 2) lt0_14 (by decide)) (by decide) (shW lt0_14) rfl rfl rfl (Nat.le_of_ble_eq_true rfl) (fun r26 M26 h26 => ?_)
    obtain ⟨rfl, e26⟩ := h26
    subst M26
    rw [hR.law (by decide)]
    refine z_istore_n (pc := 29) C 3 dX9_fine_29 rfl (by decide) rfl ?_
    refine z_iload_n (pc := 30) C 3 dX9_fine_30 rfl rfl ?_
    refine z_if_ge (pc := 31) C 41 dX9_fine_31 (by decide) (fun c31 => ?_) (fun c31 => ?_)
    · have hlt : ¬ lastK ky 2 T < 0 := (znn _).mp c31
      obtain ⟨t, ht, ht14, et, hkt⟩ := lastK_t hR hlt
      rw [et]
      refine z_aload_n (pc := 41) C 0 dX9_fine_41 rfl rfl ?_
      refine z_getR (pc := 42) (r := 1) C dX9_fine_42 fX9_12 sh_0 rfl ?_
      refine z_iload_n (pc := 45) C 3 dX9_fine_45 rfl rfl ?_
      refine z_aload_n (pc := 46) C 2 dX9_fine_46 rfl rfl ?_
      refine z_getI (pc := 47) C dX9_fine_47 fX9_209 (shP (okP_w lt0_14 hin)) rfl ?_
      refine z_aload_n (pc := 50) C 2 dX9_fine_50 rfl rfl ?_
      refine z_getI (pc := 51) C dX9_fine_51 fX9_133 (shP (okP_w lt0_14 hin)) rfl ?_
      refine z_iconst (pc := 54) (v := 0) C dX9_fine_54 rfl ?_
      refine z_callVi (pc := 55) C dX9_fine_55 kX9_206 (mX6_give ht14 (hR.TX.val ht _ _ _).2) (by decide) sh_1 rfl rfl rfl (Nat.le_of_ble_eq_true rfl) (fun r55 M55 h55 => ?_)
      refine z_ireturn (pc := 58) C K dX9_fine_58 ?_
      refine ⟨_, rfl, ?_, h55.2.z⟩
      rw [Ffine, zif_pos hx, nI_clamp (by omega)]
      rw [h55.1, Flaw, if_neg hlt, et, nI_clamp (by omega)]
    · refine z_aload_n (pc := 34) C 2 dX9_fine_34 rfl rfl ?_
      refine z_getI (pc := 35) C dX9_fine_35 fX9_209 (shP (okP_w lt0_14 hin)) rfl ?_
      refine z_goto (pc := 38) C 58 dX9_fine_38 (by decide) ?_
      refine z_ireturn (pc := 58) C K dX9_fine_58 ?_
      refine ⟨_, rfl, ?_, zSc.rfl'⟩
      rw [Ffine, zif_pos hx, nI_clamp (by omega)]
      rw [Flaw, if_pos (Int32.not_le.mp c31)]
  · refine z_ldc (pc := 8) C q2_96 dX9_fine_8 ?_
    refine z_ireturn (pc := 10) C K dX9_fine_10 ?_
    exact ⟨_, rfl, by rw [Ffine, zif_neg (h2.no c5)], zSc.rfl'⟩

set_option maxHeartbeats 800000 in
set_option maxRecDepth 100000 in
theorem mX10_fine {l : Launch} {G : zG} {b : Nat} {M : zM} {n T : Nat} {ky ln : Nat → Nat} (hR : RR M n T ky ln) {x : Int32} : zMet l G b yX10_fine cX10_fine 3 (some .int) 2 zshL zshL [.ref (b + 239), .int x] M (zI (qP (Ffine M n (lastK ky 2 T) x) M)) := by
  refine zMet.of (L0 := [some (.ref (b + 239)), some (.int x), none]) (by decide +kernel) (Nat.le_refl _) (Nat.le_refl _) (Nat.le_of_ble_eq_true rfl) (List.forall_mem_cons.mpr ⟨rfl, List.forall_mem_cons.mpr ⟨rfl, fun _ h => absurd h List.not_mem_nil⟩⟩) rfl (fun X C Al K => ?_)
  refine z_aload_n (pc := 0) C 0 dX10_fine_0 rfl rfl ?_
  refine z_iload_n (pc := 1) C 1 dX10_fine_1 rfl rfl ?_
  refine z_callVi (pc := 2) C dX10_fine_2 kX10_107 (mX10_isOne hR.hm hR.n8) (by decide) sh_239 rfl rfl rfl (Nat.le_of_ble_eq_true rfl) (fun r2 M2 h2 => ?_)
  obtain ⟨h2, e2⟩ := h2
  subst M2
  refine z_if_ne (pc := 5) C 11 dX10_fine_5 (by decide) (fun c5 => ?_) (fun c5 => ?_)
  · have hx := h2.yes c5
    obtain ⟨i, hi, rfl⟩ := iin_nI (by have := hR.n8; omega) hx
    have hin : i < 8 := by have := hR.n8; omega
    refine z_aload_n (pc := 11) C 0 dX10_fine_11 rfl rfl ?_
    refine z_iconst (pc := 12) (v := 2) C dX10_fine_12 rfl ?_
    refine z_callVi (pc := 13) C dX10_fine_13 kX10_92 (mX10_counts hR.mT hR.TX.1 hR.counts (key := 2) (by decide)) (by decide) sh_239 rfl rfl rfl (Nat.le_of_ble_eq_true rfl) (fun r13 M13 h13 => ?_)
    obtain ⟨rfl, e13⟩ := h13
    subst M13
    refine z_istore_n (pc := 16) C 2 dX10_fine_16 rfl (by decide) rfl ?_
    refine z_aload_n (pc := 17) C 0 dX10_fine_17 rfl rfl ?_
    refine z_getR (pc := 18) (r := 252) C dX10_fine_18 fX10_48 sh_239 rfl ?_
    refine z_iconst (pc := 21) (v := 0) C dX10_fine_21 rfl ?_
    refine z_aload_n (pc := 22) C 0 dX10_fine_22 rfl rfl ?_
    refine z_iload_n (pc := 23) C 1 dX10_fine_23 rfl rfl ?_
    refine z_iconst (pc := 24) (v := 2) C dX10_fine_24 rfl ?_
    refine z_callVi (pc := 25) C dX10_fine_25 kX10_96 (mX10_of (f := 2) hin (by decide)) (by decide) sh_239 rfl rfl rfl (Nat.le_of_ble_eq_true rfl) (fun r25 M25 h25 => ?_)
    obtain ⟨rfl, e25⟩ := h25
    subst M25
    rw [hR.mp hi (by decide)]
    refine z_iast (pc := 28) (n := 0) C dX10_fine_28 sh_252 (zi_in.mpr (by decide)) rfl ?_
    refine z_aload_n (pc := 29) C 0 dX10_fine_29 rfl rfl ?_
    refine z_getR (pc := 30) (r := 252) C dX10_fine_30 fX10_48 sh_239 rfl ?_
    refine z_iconst (pc := 33) (v := 1) C dX10_fine_33 rfl ?_
    refine z_aload_n (pc := 34) C 0 dX10_fine_34 rfl rfl ?_
    refine z_iload_n (pc := 35) C 1 dX10_fine_35 rfl rfl ?_
    refine z_iconst (pc := 36) (v := 1) C dX10_fine_36 rfl ?_
    refine z_callVi (pc := 37) C dX10_fine_37 kX10_96 (mX10_of (f := 1) hin (by decide)) (by decide) sh_239 rfl rfl rfl (Nat.le_of_ble_eq_true rfl) (fun r37 M37 h37 => ?_)
    obtain ⟨rfl, e37⟩ := h37
    subst M37
    rw [mp_43, hR.mp hi (by decide)]
    refine z_iast (pc := 40) (n := 1) C dX10_fine_40 sh_252 (zi_in.mpr (by decide)) rfl ?_
    refine z_iload_n (pc := 41) C 2 dX10_fine_41 rfl rfl ?_
    refine z_if_ge (pc := 42) C 54 dX10_fine_42 (by decide) (fun c42 => ?_) (fun c42 => ?_)
    · have hlt : ¬ lastK ky 2 T < 0 := (znn _).mp c42
      obtain ⟨t, ht, ht14, et, hkt⟩ := lastK_t hR hlt
      rw [et]
      refine z_aload_n (pc := 54) C 0 dX10_fine_54 rfl rfl ?_
      refine z_iload_n (pc := 55) C 2 dX10_fine_55 rfl rfl ?_
      refine z_callVi (pc := 56) C dX10_fine_56 kX10_100 (mX10_worksOut (t := t) ht14 (kt := ky t) (n := ln t) (f := M 9 t 0) (hR.TX.2 t ht).1 (hR.TX.2 t ht).2.1 (by rw [zu_a (by decide), zu_a (by decide)]; exact (hR.mTX t ht).1) (fun i hi => by rw [zu_a (by decide), zu_a (by decide)]; exact (hR.mTX t ht).2.2 i hi) (fun i hi => ((hR.TX.2 t ht).2.2.2.2.1 i hi).1) (tval_z hR ht (by rw [hkt]; decide) _ _ _ 0)) (by decide) sh_239 rfl rfl rfl (Nat.le_of_ble_eq_true rfl) (fun r56 M56 h56 => ?_)
      refine z_ireturn (pc := 59) C K dX10_fine_59 ?_
      refine ⟨_, rfl, ?_, e42.z ((sc43 _ _ _).trans (sc43 _ _ _)) h56.2⟩
      rw [Ffine, zif_pos hx, nI_clamp (by omega)]
      rw [h56.1, Flaw, if_neg hlt, et, nI_clamp (by omega)]
      rfl
    · refine z_aload_n (pc := 45) C 0 dX10_fine_45 rfl rfl ?_
      refine z_iload_n (pc := 46) C 1 dX10_fine_46 rfl rfl ?_
      refine z_iconst (pc := 47) (v := 2) C dX10_fine_47 rfl ?_
      refine z_callVi (pc := 48) C dX10_fine_48 kX10_96 (mX10_of (f := 2) hin (by decide)) (by decide) sh_239 rfl rfl rfl (Nat.le_of_ble_eq_true rfl) (fun r48 M48 h48 => ?_)
      obtain ⟨rfl, e48⟩ := h48
      subst M48
      rw [mp_43, mp_43, hR.mp hi (by decide)]
      refine z_goto (pc := 51) C 59 dX10_fine_51 (by decide) ?_
      refine z_ireturn (pc := 59) C K dX10_fine_59 ?_
      refine ⟨_, rfl, ?_, (sc43 _ _ _).trans (sc43 _ _ _)⟩
      rw [Ffine, zif_pos hx, nI_clamp (by omega)]
      rw [Flaw, if_pos (Int32.not_le.mp c42)]
  · refine z_ldc (pc := 8) C q5_48 dX10_fine_8 ?_
    refine z_ireturn (pc := 10) C K dX10_fine_10 ?_
    exact ⟨_, rfl, by rw [Ffine, zif_neg (h2.no c5)], zSc.rfl'⟩

theorem op_fine {l : Launch} {G : zG} {b : Nat} {M : zM} (hM : Rel M) {x : Int32} : opOK l G b yX9_fine cX9_fine 4 2 yX10_fine cX10_fine 3 2 [.int x] M := by
  obtain ⟨n, T, ky, ln, hR⟩ := hM
  refine ⟨_, mX9_fine hR, fun r M1 h1 => ?_⟩
  obtain ⟨rfl, h1⟩ := h1
  have hR1 := hR.sc h1
  refine zI.post (mX10_fine hR1) (fun s M2 h2 => ?_)
  obtain ⟨rfl, h2⟩ := h2
  refine ⟨?_, _, _, _, _, hR1.sc h2⟩
  unfold Ffine
  rw [h1.p, Flaw_sc h1 hR.TX (by decide)]
noncomputable def Fwhy (ky : Nat → Nat) (T : Nat) (x : Int32) : Int32 := zif (iin x 0 2) (if lastK ky x.toNatClampNeg T < 0 then -1000000005 else lastK ky x.toNatClampNeg T) (-1000000001)
set_option maxHeartbeats 800000 in
set_option maxRecDepth 100000 in
theorem mX9_why {l : Launch} {G : zG} {b : Nat} {M : zM} {n T : Nat} {ky ln : Nat → Nat} (hR : RR M n T ky ln) {x : Int32} : zMet l G b yX9_why cX9_why 3 (some .int) 1 zshL zshL [.ref (b + 0), .int x] M (zI (qP (Fwhy ky T x) M)) := by
  refine zMet.of (L0 := [some (.ref (b + 0)), some (.int x), none]) (by decide +kernel) (Nat.le_refl _) (Nat.le_refl _) (Nat.le_of_ble_eq_true rfl) (List.forall_mem_cons.mpr ⟨rfl, List.forall_mem_cons.mpr ⟨rfl, fun _ h => absurd h List.not_mem_nil⟩⟩) rfl (fun X C Al K => ?_)
  refine z_iload_n (pc := 0) C 1 dX9_why_0 rfl rfl ?_
  refine z_if_lt (pc := 1) C 9 dX9_why_1 (by decide) (fun c1 => ?_) (fun c1 => ?_)
  · refine z_ldc (pc := 9) C q2_96 dX9_why_9 ?_
    refine z_ireturn (pc := 11) C K dX9_why_11 ?_
    refine ⟨_, rfl, by rw [Fwhy, zif_neg (by simp only [zi_lt, zi_le, zi_eq, i0, i1, i2, i3, i4, i5, i6, i9, i20, i99, i100, im5, im20, im1] at c1; unfold iin; omega)], zSc.rfl'⟩
  · refine z_iload_n (pc := 4) C 1 dX9_why_4 rfl rfl ?_
    refine z_iconst (pc := 5) (v := 3) C dX9_why_5 rfl ?_
    refine z_icmp_lt (pc := 6) C 12 dX9_why_6 (by decide) (fun c6 => ?_) (fun c6 => ?_)
    · have hx : iin x 0 2 := by
        simp only [zi_lt, zi_le, zi_eq, i0, i1, i2, i3, i4, i5, i6, i9, i20, i99, i100, im5, im20, im1] at c1 c6
        unfold iin
        omega
      obtain ⟨k, hk, rfl⟩ := iin_nI (n := 3) (by decide) hx
      refine z_aload_n (pc := 12) C 0 dX9_why_12 rfl rfl ?_
      refine z_getR (pc := 13) (r := adW 0) C dX9_why_13 fX9_21 sh_0 rfl ?_
      refine z_iload_n (pc := 16) C 1 dX9_why_16 rfl rfl ?_
      refine z_callVi (pc := 17) C dX9_why_17 kX9_112 (mX8_lawOf (k := k) lt0_14 hk) (by decide) (shW lt0_14) rfl rfl rfl (Nat.le_of_ble_eq_true rfl) (fun r17 M17 h17 => ?_)
      obtain ⟨rfl, e17⟩ := h17
      subst M17
      rw [hR.law hk]
      refine z_istore_n (pc := 20) C 2 dX9_why_20 rfl (by decide) rfl ?_
      refine z_iload_n (pc := 21) C 2 dX9_why_21 rfl rfl ?_
      refine z_if_ge (pc := 22) C 30 dX9_why_22 (by decide) (fun c22 => ?_) (fun c22 => ?_)
      · refine z_iload_n (pc := 30) C 2 dX9_why_30 rfl rfl ?_
        refine z_ireturn (pc := 31) C K dX9_why_31 ?_
        exact ⟨_, rfl, by rw [Fwhy, zif_pos hx, nI_clamp (by omega), if_neg ((znn _).mp c22)], zSc.rfl'⟩
      · refine z_ldc (pc := 25) C q3_64 dX9_why_25 ?_
        refine z_goto (pc := 27) C 31 dX9_why_27 (by decide) ?_
        refine z_ireturn (pc := 31) C K dX9_why_31 ?_
        exact ⟨_, rfl, by rw [Fwhy, zif_pos hx, nI_clamp (by omega), if_pos (Int32.not_le.mp c22)], zSc.rfl'⟩
    · refine z_ldc (pc := 9) C q2_96 dX9_why_9 ?_
      refine z_ireturn (pc := 11) C K dX9_why_11 ?_
      refine ⟨_, rfl, by rw [Fwhy, zif_neg (by simp only [zi_lt, zi_le, zi_eq, i0, i1, i2, i3, i4, i5, i6, i9, i20, i99, i100, im5, im20, im1] at c1 c6; unfold iin; omega)], zSc.rfl'⟩

set_option maxHeartbeats 800000 in
set_option maxRecDepth 100000 in
theorem mX10_why {l : Launch} {G : zG} {b : Nat} {M : zM} {n T : Nat} {ky ln : Nat → Nat} (hR : RR M n T ky ln) {x : Int32} : zMet l G b yX10_why cX10_why 3 (some .int) 1 zshL zshL [.ref (b + 239), .int x] M (zI (qP (Fwhy ky T x) M)) := by
  refine zMet.of (L0 := [some (.ref (b + 239)), some (.int x), none]) (by decide +kernel) (Nat.le_refl _) (Nat.le_refl _) (Nat.le_of_ble_eq_true rfl) (List.forall_mem_cons.mpr ⟨rfl, List.forall_mem_cons.mpr ⟨rfl, fun _ h => absurd h List.not_mem_nil⟩⟩) rfl (fun X C Al K => ?_)
  refine z_iload_n (pc := 0) C 1 dX10_why_0 rfl rfl ?_
  refine z_iconst (pc := 1) (v := 0) C dX10_why_1 rfl ?_
  refine z_iconst (pc := 2) (v := 2) C dX10_why_2 rfl ?_
  refine z_callSi (pc := 3) C dX10_why_3 kX10_78 mX10_in (by decide) rfl rfl (Nat.le_of_ble_eq_true rfl) (fun r3 M3 h3 => ?_)
  obtain ⟨h3, e3⟩ := h3
  subst M3
  replace h3 : zb r3 (iin x (0) (2)) := zin_b (by decide) (by decide) h3
  refine z_if_ne (pc := 6) C 12 dX10_why_6 (by decide) (fun c6 => ?_) (fun c6 => ?_)
  · have hx := h3.yes c6
    obtain ⟨k, hk, rfl⟩ := iin_nI (n := 3) (by decide) hx
    refine z_aload_n (pc := 12) C 0 dX10_why_12 rfl rfl ?_
    refine z_iload_n (pc := 13) C 1 dX10_why_13 rfl rfl ?_
    refine z_callVi (pc := 14) C dX10_why_14 kX10_92 (mX10_counts hR.mT hR.TX.1 hR.counts (key := k) hk) (by decide) sh_239 rfl rfl rfl (Nat.le_of_ble_eq_true rfl) (fun r14 M14 h14 => ?_)
    obtain ⟨rfl, e14⟩ := h14
    subst M14
    refine z_istore_n (pc := 17) C 2 dX10_why_17 rfl (by decide) rfl ?_
    refine z_iload_n (pc := 18) C 2 dX10_why_18 rfl rfl ?_
    refine z_if_ge (pc := 19) C 27 dX10_why_19 (by decide) (fun c19 => ?_) (fun c19 => ?_)
    · refine z_iload_n (pc := 27) C 2 dX10_why_27 rfl rfl ?_
      refine z_ireturn (pc := 28) C K dX10_why_28 ?_
      exact ⟨_, rfl, by rw [Fwhy, zif_pos hx, nI_clamp (by omega), if_neg ((znn _).mp c19)], zSc.rfl'⟩
    · refine z_ldc (pc := 22) C q5_211 dX10_why_22 ?_
      refine z_goto (pc := 24) C 28 dX10_why_24 (by decide) ?_
      refine z_ireturn (pc := 28) C K dX10_why_28 ?_
      exact ⟨_, rfl, by rw [Fwhy, zif_pos hx, nI_clamp (by omega), if_pos (Int32.not_le.mp c19)], zSc.rfl'⟩
  · refine z_ldc (pc := 9) C q5_48 dX10_why_9 ?_
    refine z_ireturn (pc := 11) C K dX10_why_11 ?_
    exact ⟨_, rfl, by rw [Fwhy, zif_neg (h3.no c6)], zSc.rfl'⟩

theorem op_why {l : Launch} {G : zG} {b : Nat} {M : zM} (hM : Rel M) {x : Int32} : opOK l G b yX9_why cX9_why 3 1 yX10_why cX10_why 3 1 [.int x] M := by
  obtain ⟨n, T, ky, ln, hR⟩ := hM
  refine ⟨_, mX9_why hR, fun r M1 h1 => ?_⟩
  obtain ⟨rfl, h1⟩ := h1
  have hR1 := hR.sc h1
  refine zI.post (mX10_why hR1) (fun s M2 h2 => ?_)
  obtain ⟨rfl, h2⟩ := h2
  refine ⟨?_, _, _, _, _, hR1.sc h2⟩
  rfl
noncomputable def Ftt (M : zM) (T : Nat) (x t : Int32) : Int32 := zif (iin x 0 ((T : Int) - 1) ∧ iin t 0 1) (if t = 0 then M 8 x.toNatClampNeg 0 0 else M 8 x.toNatClampNeg 0 1) (-1000000001)
theorem nI_div1000 {k m : Nat} (hk : k < 3) (hm : m ≤ 96) : nI (1000 * k + m) / 1000 = nI k := by
  have c : (1000 : Int32).toInt = 1000 := by decide
  rw [zi_eq, zi_div (by rw [c]; decide), nI_toInt (by omega), nI_toInt (by omega), c, Int.tdiv_eq_ediv_of_nonneg (by omega)]
  omega
theorem idx65 {t : Nat} (h : t < 14) : (65 : Int32) + 2 * nI t = nI (65 + 2 * t) := by
  rcases (show t = 0 ∨ t = 1 ∨ t = 2 ∨ t = 3 ∨ t = 4 ∨ t = 5 ∨ t = 6 ∨ t = 7 ∨ t = 8 ∨ t = 9 ∨ t = 10 ∨ t = 11 ∨ t = 12 ∨ t = 13 by omega) with rfl | rfl | rfl | rfl | rfl | rfl | rfl | rfl | rfl | rfl | rfl | rfl | rfl | rfl <;> decide
set_option maxHeartbeats 800000 in
set_option maxRecDepth 100000 in
theorem mX9_textTold {l : Launch} {G : zG} {b : Nat} {M : zM} {n T : Nat} {ky ln : Nat → Nat} (hR : RR M n T ky ln) {x t : Int32} : zMet l G b yX9_textTold cX9_textTold 3 (some .int) 0 zshL zshL [.ref (b + 0), .int x, .int t] M (zI (qP (Ftt M T x t) M)) := by
  refine zMet.of (L0 := [some (.ref (b + 0)), some (.int x), some (.int t)]) (by decide +kernel) (Nat.le_refl _) (Nat.le_refl _) (Nat.le_of_ble_eq_true rfl) (List.forall_mem_cons.mpr ⟨rfl, List.forall_mem_cons.mpr ⟨rfl, List.forall_mem_cons.mpr ⟨rfl, fun _ h => absurd h List.not_mem_nil⟩⟩⟩) rfl (fun X C Al K => ?_)
  refine z_iload_n (pc := 0) C 1 dX9_textTold_0 rfl rfl ?_
  refine z_if_lt (pc := 1) C 24 dX9_textTold_1 (by decide) (fun c1 => ?_) (fun c1 => ?_)
  · refine z_ldc (pc := 24) C q2_96 dX9_textTold_24 ?_
    refine z_ireturn (pc := 26) C K dX9_textTold_26 ?_
    have hT14 := hR.TX.1
    have eT : (nI T).toInt = T := nI_toInt (by omega)
    refine ⟨_, rfl, by rw [Ftt, zif_neg (by simp only [zi_lt, zi_le, zi_eq, i0, i1, i2, i3, i4, i5, i6, i9, i20, i99, i100, im5, im20, im1] at c1; unfold iin; omega)], zSc.rfl'⟩
  · refine z_iload_n (pc := 4) C 1 dX9_textTold_4 rfl rfl ?_
    refine z_aload_n (pc := 5) C 0 dX9_textTold_5 rfl rfl ?_
    refine z_getR (pc := 6) (r := adW 0) C dX9_textTold_6 fX9_21 sh_0 rfl ?_
    refine z_getI (pc := 9) C dX9_textTold_9 fX9_224 (shW lt0_14) rfl ?_
    refine z_icmp_ge (pc := 12) C 24 dX9_textTold_12 (by decide) (fun c12 => ?_) (fun c12 => ?_)
    · refine z_ldc (pc := 24) C q2_96 dX9_textTold_24 ?_
      refine z_ireturn (pc := 26) C K dX9_textTold_26 ?_
      have hT14 := hR.TX.1
      have eT : (nI T).toInt = T := nI_toInt (by omega)
      refine ⟨_, rfl, by rw [Ftt, zif_neg (by rw [hR.T] at c12; simp only [zi_lt, zi_le, zi_eq, i0, i1, i2, i3, i4, i5, i6, i9, i20, i99, i100, im5, im20, im1, eT] at c1 c12; unfold iin; omega)], zSc.rfl'⟩
    · refine z_iload_n (pc := 15) C 2 dX9_textTold_15 rfl rfl ?_
      refine z_if_lt (pc := 16) C 24 dX9_textTold_16 (by decide) (fun c16 => ?_) (fun c16 => ?_)
      · refine z_ldc (pc := 24) C q2_96 dX9_textTold_24 ?_
        refine z_ireturn (pc := 26) C K dX9_textTold_26 ?_
        have hT14 := hR.TX.1
        have eT : (nI T).toInt = T := nI_toInt (by omega)
        refine ⟨_, rfl, by rw [Ftt, zif_neg (by rw [hR.T] at c12; simp only [zi_lt, zi_le, zi_eq, i0, i1, i2, i3, i4, i5, i6, i9, i20, i99, i100, im5, im20, im1, eT] at c1 c12 c16; unfold iin; omega)], zSc.rfl'⟩
      · refine z_iload_n (pc := 19) C 2 dX9_textTold_19 rfl rfl ?_
        refine z_iconst (pc := 20) (v := 1) C dX9_textTold_20 rfl ?_
        refine z_icmp_le (pc := 21) C 27 dX9_textTold_21 (by decide) (fun c21 => ?_) (fun c21 => ?_)
        · have hx : iin x 0 ((T : Int) - 1) := by
            have hT14 := hR.TX.1
            have eT : (nI T).toInt = T := nI_toInt (by omega)
            rw [hR.T] at c12
            simp only [zi_lt, zi_le, zi_eq, i0, i1, i2, i3, i4, i5, i6, i9, i20, i99, i100, im5, im20, im1, eT] at c1 c12
            unfold iin
            omega
          have hk : iin t 0 1 := by
            simp only [zi_lt, zi_le, zi_eq, i0, i1, i2, i3, i4, i5, i6, i9, i20, i99, i100, im5, im20, im1] at c16 c21
            unfold iin
            omega
          have hT14 := hR.TX.1
          obtain ⟨i, hi, rfl⟩ := iin_nI (by omega) hx
          have hi14 : i < 14 := by omega
          refine z_iload_n (pc := 27) C 2 dX9_textTold_27 rfl rfl ?_
          refine z_if_ne (pc := 28) C 46 dX9_textTold_28 (by decide) (fun c28 => ?_) (fun c28 => ?_)
          · refine z_aload_n (pc := 46) C 0 dX9_textTold_46 rfl rfl ?_
            refine z_getR (pc := 47) (r := 1) C dX9_textTold_47 fX9_12 sh_0 rfl ?_
            refine z_getR (pc := 50) (r := 2) C dX9_textTold_50 fX9_227 sh_1 rfl ?_
            refine z_iload_n (pc := 53) C 1 dX9_textTold_53 rfl rfl ?_
            refine z_aald (pc := 54) (r := adT i) C dX9_textTold_54 sh_2 rfl rfl (vp_in_nI hi14 (by decide)) (tget hi14) ?_
            refine z_getI (pc := 55) C dX9_textTold_55 fX9_243 (shT (by omega)) rfl ?_
            refine z_ireturn (pc := 58) C K dX9_textTold_58 ?_
            refine ⟨_, rfl, ?_, zSc.rfl'⟩
            rw [Ftt, zif_pos ⟨hx, hk⟩, nI_clamp (by omega), if_neg c28]
          · refine z_aload_n (pc := 31) C 0 dX9_textTold_31 rfl rfl ?_
            refine z_getR (pc := 32) (r := 1) C dX9_textTold_32 fX9_12 sh_0 rfl ?_
            refine z_getR (pc := 35) (r := 2) C dX9_textTold_35 fX9_227 sh_1 rfl ?_
            refine z_iload_n (pc := 38) C 1 dX9_textTold_38 rfl rfl ?_
            refine z_aald (pc := 39) (r := adT i) C dX9_textTold_39 sh_2 rfl rfl (vp_in_nI hi14 (by decide)) (tget hi14) ?_
            refine z_getI (pc := 40) C dX9_textTold_40 fX9_240 (shT (by omega)) rfl ?_
            refine z_goto (pc := 43) C 58 dX9_textTold_43 (by decide) ?_
            refine z_ireturn (pc := 58) C K dX9_textTold_58 ?_
            refine ⟨_, rfl, ?_, zSc.rfl'⟩
            rw [Ftt, zif_pos ⟨hx, hk⟩, nI_clamp (by omega), if_pos c28]
        · refine z_ldc (pc := 24) C q2_96 dX9_textTold_24 ?_
          refine z_ireturn (pc := 26) C K dX9_textTold_26 ?_
          have hT14 := hR.TX.1
          have eT : (nI T).toInt = T := nI_toInt (by omega)
          refine ⟨_, rfl, by rw [Ftt, zif_neg (by rw [hR.T] at c12; simp only [zi_lt, zi_le, zi_eq, i0, i1, i2, i3, i4, i5, i6, i9, i20, i99, i100, im5, im20, im1, eT] at c1 c12 c16 c21; unfold iin; omega)], zSc.rfl'⟩

set_option maxHeartbeats 800000 in
set_option maxRecDepth 100000 in
theorem mX10_textTold {l : Launch} {G : zG} {b : Nat} {M : zM} {n T : Nat} {ky ln : Nat → Nat} (hR : RR M n T ky ln) {x t : Int32} : zMet l G b yX10_textTold cX10_textTold 3 (some .int) 1 zshL zshL [.ref (b + 239), .int x, .int t] M (zI (qP (Ftt M T x t) M)) := by
  refine zMet.of (L0 := [some (.ref (b + 239)), some (.int x), some (.int t)]) (by decide +kernel) (Nat.le_refl _) (Nat.le_refl _) (Nat.le_of_ble_eq_true rfl) (List.forall_mem_cons.mpr ⟨rfl, List.forall_mem_cons.mpr ⟨rfl, List.forall_mem_cons.mpr ⟨rfl, fun _ h => absurd h List.not_mem_nil⟩⟩⟩) rfl (fun X C Al K => ?_)
  refine z_iload_n (pc := 0) C 1 dX10_textTold_0 rfl rfl ?_
  refine z_iconst (pc := 1) (v := 0) C dX10_textTold_1 rfl ?_
  refine z_aload_n (pc := 2) C 0 dX10_textTold_2 rfl rfl ?_
  refine z_getR (pc := 3) (r := 240) C dX10_textTold_3 fX10_9 sh_239 rfl ?_
  refine z_bipush (pc := 6) (v := 8) C dX10_textTold_6 rfl ?_
  refine z_iald (pc := 8) (n := 8) C dX10_textTold_8 sh_240 (zi_in.mpr (by decide)) rfl ?_
  refine z_iconst (pc := 9) (v := 1) C dX10_textTold_9 rfl ?_
  refine z_isub (pc := 10) C dX10_textTold_10 ?_
  have hT14 := hR.TX.1
  have eT : (nI T - 1).toInt = (T : Int) - 1 := by rw [zi_sub (by rw [nI_toInt (by omega), i1]; omega) (by rw [nI_toInt (by omega), i1]; omega), nI_toInt (by omega), i1]
  rw [hR.mT]
  refine z_callSi (pc := 11) C dX10_textTold_11 kX10_78 mX10_in (by decide) rfl rfl (Nat.le_of_ble_eq_true rfl) (fun r11 M11 h11 => ?_)
  obtain ⟨h11, e11⟩ := h11
  subst M11
  replace h11 := zin_b i0 eT h11
  refine z_if_eq (pc := 14) C 26 dX10_textTold_14 (by decide) (fun c14 => ?_) (fun c14 => ?_)
  · refine z_ldc (pc := 26) C q5_48 dX10_textTold_26 ?_
    refine z_ireturn (pc := 28) C K dX10_textTold_28 ?_
    exact ⟨_, rfl, by rw [Ftt, zif_neg (fun q => h11.no c14 q.1)], zSc.rfl'⟩
  · refine z_iload_n (pc := 17) C 2 dX10_textTold_17 rfl rfl ?_
    refine z_iconst (pc := 18) (v := 0) C dX10_textTold_18 rfl ?_
    refine z_iconst (pc := 19) (v := 1) C dX10_textTold_19 rfl ?_
    refine z_callSi (pc := 20) C dX10_textTold_20 kX10_78 mX10_in (by decide) rfl rfl (Nat.le_of_ble_eq_true rfl) (fun r20 M20 h20 => ?_)
    obtain ⟨h20, e20⟩ := h20
    subst M20
    replace h20 : zb r20 (iin t (0) (1)) := zin_b (by decide) (by decide) h20
    refine z_if_ne (pc := 23) C 29 dX10_textTold_23 (by decide) (fun c23 => ?_) (fun c23 => ?_)
    · have hx : iin x 0 ((T : Int) - 1) := h11.yes c14
      have hk : iin t 0 1 := h20.yes c23
      have hT14 := hR.TX.1
      obtain ⟨i, hi, rfl⟩ := iin_nI (by omega) hx
      have hi14 : i < 14 := by omega
      refine z_iload_n (pc := 29) C 2 dX10_textTold_29 rfl rfl ?_
      refine z_if_ne (pc := 30) C 51 dX10_textTold_30 (by decide) (fun c30 => ?_) (fun c30 => ?_)
      · refine z_aload_n (pc := 51) C 0 dX10_textTold_51 rfl rfl ?_
        refine z_getR (pc := 52) (r := 240) C dX10_textTold_52 fX10_9 sh_239 rfl ?_
        refine z_bipush (pc := 55) (v := 65) C dX10_textTold_55 rfl ?_
        refine z_iconst (pc := 57) (v := 2) C dX10_textTold_57 rfl ?_
        refine z_iload_n (pc := 58) C 1 dX10_textTold_58 rfl rfl ?_
        refine z_imul (pc := 59) C dX10_textTold_59 ?_
        refine z_iadd (pc := 60) C dX10_textTold_60 ?_
        refine z_iconst (pc := 61) (v := 1) C dX10_textTold_61 rfl ?_
        refine z_iadd (pc := 62) C dX10_textTold_62 ?_
        rw [idx65 hi14, ← nI_succ]
        refine z_iald (pc := 63) (n := 66 + 2 * i) C dX10_textTold_63 sh_240 (vp_in_nI (by omega) (by decide)) (by rw [nI_clamp (by omega)]; omega) ?_
        refine z_ireturn (pc := 64) C K dX10_textTold_64 ?_
        refine ⟨_, rfl, ?_, zSc.rfl'⟩
        rw [Ftt, zif_pos ⟨hx, hk⟩, nI_clamp (by omega), if_neg c30]
        exact (hR.mTX i hi).2.1
      · refine z_aload_n (pc := 33) C 0 dX10_textTold_33 rfl rfl ?_
        refine z_getR (pc := 34) (r := 240) C dX10_textTold_34 fX10_9 sh_239 rfl ?_
        refine z_bipush (pc := 37) (v := 65) C dX10_textTold_37 rfl ?_
        refine z_iconst (pc := 39) (v := 2) C dX10_textTold_39 rfl ?_
        refine z_iload_n (pc := 40) C 1 dX10_textTold_40 rfl rfl ?_
        refine z_imul (pc := 41) C dX10_textTold_41 ?_
        refine z_iadd (pc := 42) C dX10_textTold_42 ?_
        rw [idx65 hi14]
        refine z_iald (pc := 43) (n := 65 + 2 * i) C dX10_textTold_43 sh_240 (vp_in_nI (by omega) (by decide)) (nI_clamp (by omega)) ?_
        refine z_sipush (pc := 44) (v := 1000) C dX10_textTold_44 rfl ?_
        refine z_idiv (pc := 47) C dX10_textTold_47 (by decide) ?_
        refine z_goto (pc := 48) C 64 dX10_textTold_48 (by decide) ?_
        refine z_ireturn (pc := 64) C K dX10_textTold_64 ?_
        refine ⟨_, rfl, ?_, zSc.rfl'⟩
        rw [Ftt, zif_pos ⟨hx, hk⟩, nI_clamp (by omega), if_pos c30]
        rw [(hR.mTX i hi).1, nI_div1000 (hR.TX.2 i hi).1 (hR.TX.2 i hi).2.1]
        exact (hR.TX.2 i hi).2.2.1.symm
    · refine z_ldc (pc := 26) C q5_48 dX10_textTold_26 ?_
      refine z_ireturn (pc := 28) C K dX10_textTold_28 ?_
      exact ⟨_, rfl, by rw [Ftt, zif_neg (fun q => h20.no c23 q.2)], zSc.rfl'⟩

theorem op_textTold {l : Launch} {G : zG} {b : Nat} {M : zM} (hM : Rel M) {x t : Int32} : opOK l G b yX9_textTold cX9_textTold 3 0 yX10_textTold cX10_textTold 3 1 [.int x, .int t] M := by
  obtain ⟨n, T, ky, ln, hR⟩ := hM
  refine ⟨_, mX9_textTold hR, fun r M1 h1 => ?_⟩
  obtain ⟨rfl, h1⟩ := h1
  have hR1 := hR.sc h1
  refine zI.post (mX10_textTold hR1) (fun s M2 h2 => ?_)
  obtain ⟨rfl, h2⟩ := h2
  refine ⟨?_, _, _, _, _, hR1.sc h2⟩
  have h14 := hR.TX.1
  unfold Ftt
  by_cases q : iin x 0 ((T : Int) - 1) ∧ iin t 0 1
  · rw [zif_pos q, zif_pos q]
    obtain ⟨i, hi, rfl⟩ := iin_nI (by omega) q.1
    rw [nI_clamp (by omega), h1 8 i 0 0 (by unfold scr; omega), h1 8 i 0 1 (by unfold scr; omega)]
  · rw [zif_neg q, zif_neg q]
def Fcount (M : zM) (n : Nat) (t : Int32) : Int32 := if t = 0 then nI n else if t = 1 then M 5 0 0 8 else if t = 2 then M 5 0 0 3 else if t = 3 then M 5 0 0 4 else if t = 4 then M 5 0 0 5 else if t = 5 then M 5 0 0 6 else if t = 6 then M 5 0 0 7 else if t = 7 then pWho (M 1 0) n else if t = 8 then M 5 0 0 10 else if t = 9 then M 0 0 0 9 else if t = 10 then M 19 0 0 1 else if t = 11 then M 5 0 0 9 else -1000000001
set_option maxHeartbeats 800000 in
set_option maxRecDepth 100000 in
theorem mX9_count {l : Launch} {G : zG} {b : Nat} {M : zM} {n T : Nat} {ky ln : Nat → Nat} (hR : RR M n T ky ln) {t : Int32} : zMet l G b yX9_count cX9_count 2 (some .int) 1 zshL zshL [.ref (b + 0), .int t] M (zI (qP (Fcount M n t) M)) := by
  refine zMet.of (L0 := [some (.ref (b + 0)), some (.int t)]) (by decide +kernel) (Nat.le_refl _) (Nat.le_refl _) (Nat.le_of_ble_eq_true rfl) (List.forall_mem_cons.mpr ⟨rfl, List.forall_mem_cons.mpr ⟨rfl, fun _ h => absurd h List.not_mem_nil⟩⟩) rfl (fun X C Al K => ?_)
  refine z_iload_n (pc := 0) C 1 dX9_count_0 rfl rfl ?_
  by_cases s1_0 : t = 0
  · refine z_tswIn (pc := 1) C (0) 64 dX9_count_1 (by rw [s1_0]; rfl) (by decide) (by decide) rfl (by decide) ?_
    refine z_aload_n (pc := 64) C 0 dX9_count_64 rfl rfl ?_
    refine z_getR (pc := 65) (r := adW 0) C dX9_count_65 fX9_21 sh_0 rfl ?_
    refine z_getI (pc := 68) C dX9_count_68 fX9_88 (shW lt0_14) rfl ?_
    refine z_ireturn (pc := 71) C K dX9_count_71 ?_
    refine ⟨_, rfl, ?_, zSc.rfl'⟩
    rw [s1_0]
    exact hR.hn
  by_cases s1_1 : t = 1
  · refine z_tswIn (pc := 1) C (1) 72 dX9_count_1 (by rw [s1_1]; rfl) (by decide) (by decide) rfl (by decide) ?_
    refine z_aload_n (pc := 72) C 0 dX9_count_72 rfl rfl ?_
    refine z_getR (pc := 73) (r := adW 0) C dX9_count_73 fX9_21 sh_0 rfl ?_
    refine z_getI (pc := 76) C dX9_count_76 fX9_164 (shW lt0_14) rfl ?_
    refine z_ireturn (pc := 79) C K dX9_count_79 ?_
    refine ⟨_, rfl, ?_, zSc.rfl'⟩
    rw [s1_1]
    rfl
  by_cases s1_2 : t = 2
  · refine z_tswIn (pc := 1) C (2) 80 dX9_count_1 (by rw [s1_2]; rfl) (by decide) (by decide) rfl (by decide) ?_
    refine z_aload_n (pc := 80) C 0 dX9_count_80 rfl rfl ?_
    refine z_getR (pc := 81) (r := adW 0) C dX9_count_81 fX9_21 sh_0 rfl ?_
    refine z_iconst (pc := 84) (v := 0) C dX9_count_84 rfl ?_
    refine z_callVi (pc := 85) C dX9_count_85 kX9_157 (mX8_part lt0_14) (by decide) (shW lt0_14) rfl rfl rfl (Nat.le_of_ble_eq_true rfl) (fun r85 M85 h85 => ?_)
    obtain ⟨rfl, e85⟩ := h85
    subst M85
    refine z_ireturn (pc := 88) C K dX9_count_88 ?_
    refine ⟨_, rfl, ?_, zSc.rfl'⟩
    rw [s1_2]
    rfl
  by_cases s1_3 : t = 3
  · refine z_tswIn (pc := 1) C (3) 89 dX9_count_1 (by rw [s1_3]; rfl) (by decide) (by decide) rfl (by decide) ?_
    refine z_aload_n (pc := 89) C 0 dX9_count_89 rfl rfl ?_
    refine z_getR (pc := 90) (r := adW 0) C dX9_count_90 fX9_21 sh_0 rfl ?_
    refine z_iconst (pc := 93) (v := 1) C dX9_count_93 rfl ?_
    refine z_callVi (pc := 94) C dX9_count_94 kX9_157 (mX8_part lt0_14) (by decide) (shW lt0_14) rfl rfl rfl (Nat.le_of_ble_eq_true rfl) (fun r94 M94 h94 => ?_)
    obtain ⟨rfl, e94⟩ := h94
    subst M94
    refine z_ireturn (pc := 97) C K dX9_count_97 ?_
    refine ⟨_, rfl, ?_, zSc.rfl'⟩
    rw [s1_3]
    rfl
  by_cases s1_4 : t = 4
  · refine z_tswIn (pc := 1) C (4) 98 dX9_count_1 (by rw [s1_4]; rfl) (by decide) (by decide) rfl (by decide) ?_
    refine z_aload_n (pc := 98) C 0 dX9_count_98 rfl rfl ?_
    refine z_getR (pc := 99) (r := adW 0) C dX9_count_99 fX9_21 sh_0 rfl ?_
    refine z_iconst (pc := 102) (v := 2) C dX9_count_102 rfl ?_
    refine z_callVi (pc := 103) C dX9_count_103 kX9_157 (mX8_part lt0_14) (by decide) (shW lt0_14) rfl rfl rfl (Nat.le_of_ble_eq_true rfl) (fun r103 M103 h103 => ?_)
    obtain ⟨rfl, e103⟩ := h103
    subst M103
    refine z_ireturn (pc := 106) C K dX9_count_106 ?_
    refine ⟨_, rfl, ?_, zSc.rfl'⟩
    rw [s1_4]
    rfl
  by_cases s1_5 : t = 5
  · refine z_tswIn (pc := 1) C (5) 107 dX9_count_1 (by rw [s1_5]; rfl) (by decide) (by decide) rfl (by decide) ?_
    refine z_aload_n (pc := 107) C 0 dX9_count_107 rfl rfl ?_
    refine z_getR (pc := 108) (r := adW 0) C dX9_count_108 fX9_21 sh_0 rfl ?_
    refine z_iconst (pc := 111) (v := 3) C dX9_count_111 rfl ?_
    refine z_callVi (pc := 112) C dX9_count_112 kX9_157 (mX8_part lt0_14) (by decide) (shW lt0_14) rfl rfl rfl (Nat.le_of_ble_eq_true rfl) (fun r112 M112 h112 => ?_)
    obtain ⟨rfl, e112⟩ := h112
    subst M112
    refine z_ireturn (pc := 115) C K dX9_count_115 ?_
    refine ⟨_, rfl, ?_, zSc.rfl'⟩
    rw [s1_5]
    rfl
  by_cases s1_6 : t = 6
  · refine z_tswIn (pc := 1) C (6) 116 dX9_count_1 (by rw [s1_6]; rfl) (by decide) (by decide) rfl (by decide) ?_
    refine z_aload_n (pc := 116) C 0 dX9_count_116 rfl rfl ?_
    refine z_getR (pc := 117) (r := adW 0) C dX9_count_117 fX9_21 sh_0 rfl ?_
    refine z_iconst (pc := 120) (v := 4) C dX9_count_120 rfl ?_
    refine z_callVi (pc := 121) C dX9_count_121 kX9_157 (mX8_part lt0_14) (by decide) (shW lt0_14) rfl rfl rfl (Nat.le_of_ble_eq_true rfl) (fun r121 M121 h121 => ?_)
    obtain ⟨rfl, e121⟩ := h121
    subst M121
    refine z_ireturn (pc := 124) C K dX9_count_124 ?_
    refine ⟨_, rfl, ?_, zSc.rfl'⟩
    rw [s1_6]
    exact b01_id hR.1.1.2.2.2.2.2.2.2
  by_cases s1_7 : t = 7
  · refine z_tswIn (pc := 1) C (7) 125 dX9_count_1 (by rw [s1_7]; rfl) (by decide) (by decide) rfl (by decide) ?_
    refine z_aload_n (pc := 125) C 0 dX9_count_125 rfl rfl ?_
    refine z_getR (pc := 126) (r := adW 0) C dX9_count_126 fX9_21 sh_0 rfl ?_
    refine z_callVi (pc := 129) C dX9_count_129 kX9_297 (mX8_whoHear lt0_14 hR.hn hR.n8) (by decide) (shW lt0_14) rfl rfl rfl (Nat.le_of_ble_eq_true rfl) (fun r129 M129 h129 => ?_)
    obtain ⟨rfl, e129⟩ := h129
    subst M129
    refine z_ireturn (pc := 132) C K dX9_count_132 ?_
    refine ⟨_, rfl, ?_, zSc.rfl'⟩
    rw [s1_7]
    rfl
  by_cases s1_8 : t = 8
  · refine z_tswIn (pc := 1) C (8) 133 dX9_count_1 (by rw [s1_8]; rfl) (by decide) (by decide) rfl (by decide) ?_
    refine z_aload_n (pc := 133) C 0 dX9_count_133 rfl rfl ?_
    refine z_getR (pc := 134) (r := adW 0) C dX9_count_134 fX9_21 sh_0 rfl ?_
    refine z_getI (pc := 137) C dX9_count_137 fX9_224 (shW lt0_14) rfl ?_
    refine z_ireturn (pc := 140) C K dX9_count_140 ?_
    refine ⟨_, rfl, ?_, zSc.rfl'⟩
    rw [s1_8]
    rfl
  by_cases s1_9 : t = 9
  · refine z_tswIn (pc := 1) C (9) 141 dX9_count_1 (by rw [s1_9]; rfl) (by decide) (by decide) rfl (by decide) ?_
    refine z_aload_n (pc := 141) C 0 dX9_count_141 rfl rfl ?_
    refine z_getI (pc := 142) C dX9_count_142 fX9_67 sh_0 rfl ?_
    refine z_ireturn (pc := 145) C K dX9_count_145 ?_
    refine ⟨_, rfl, ?_, zSc.rfl'⟩
    rw [s1_9]
    rfl
  by_cases s1_10 : t = 10
  · refine z_tswIn (pc := 1) C (10) 146 dX9_count_1 (by rw [s1_10]; rfl) (by decide) (by decide) rfl (by decide) ?_
    refine z_aload_n (pc := 146) C 0 dX9_count_146 rfl rfl ?_
    refine z_getR (pc := 147) (r := 203) C dX9_count_147 fX9_38 sh_0 rfl ?_
    refine z_getI (pc := 150) C dX9_count_150 fX9_212 sh_203 rfl ?_
    refine z_ireturn (pc := 153) C K dX9_count_153 ?_
    refine ⟨_, rfl, ?_, zSc.rfl'⟩
    rw [s1_10]
    rfl
  by_cases s1_11 : t = 11
  · refine z_tswIn (pc := 1) C (11) 154 dX9_count_1 (by rw [s1_11]; rfl) (by decide) (by decide) rfl (by decide) ?_
    refine z_aload_n (pc := 154) C 0 dX9_count_154 rfl rfl ?_
    refine z_getR (pc := 155) (r := adW 0) C dX9_count_155 fX9_21 sh_0 rfl ?_
    refine z_getI (pc := 158) C dX9_count_158 fX9_153 (shW lt0_14) rfl ?_
    refine z_ireturn (pc := 161) C K dX9_count_161 ?_
    refine ⟨_, rfl, ?_, zSc.rfl'⟩
    rw [s1_11]
    rfl
  refine z_tswOut (pc := 1) C 162 dX9_count_1 (by have g0 := lv_neT (a := 0) s1_0 rfl; have g1 := lv_neT (a := 1) s1_1 rfl; have g2 := lv_neT (a := 2) s1_2 rfl; have g3 := lv_neT (a := 3) s1_3 rfl; have g4 := lv_neT (a := 4) s1_4 rfl; have g5 := lv_neT (a := 5) s1_5 rfl; have g6 := lv_neT (a := 6) s1_6 rfl; have g7 := lv_neT (a := 7) s1_7 rfl; have g8 := lv_neT (a := 8) s1_8 rfl; have g9 := lv_neT (a := 9) s1_9 rfl; have g10 := lv_neT (a := 10) s1_10 rfl; have g11 := lv_neT (a := 11) s1_11 rfl; omega) (by decide) ?_
  refine z_ldc (pc := 162) C q2_96 dX9_count_162 ?_
  refine z_ireturn (pc := 164) C K dX9_count_164 ?_
  refine ⟨_, rfl, ?_, zSc.rfl'⟩
  simp [Fcount, s1_0, s1_1, s1_2, s1_3, s1_4, s1_5, s1_6, s1_7, s1_8, s1_9, s1_10, s1_11]

theorem pWho_mp {M : zM} {n T : Nat} {ky ln : Nat → Nat} (hR : RR M n T ky ln) : pWho (M 1 0) n = pWh2 (mp M) n := by
  rw [pWh_eq n (fun i hi => by rw [hR.mp hi (by decide)]; exact (hR.ok hi).2.2.2.2.2.2)]
  exact pWho_c n (fun i f hi hf => (hR.mp hi hf).symm)
set_option maxHeartbeats 800000 in
set_option maxRecDepth 100000 in
theorem mX10_count {l : Launch} {G : zG} {b : Nat} {M : zM} {n T : Nat} {ky ln : Nat → Nat} (hR : RR M n T ky ln) {t : Int32} : zMet l G b yX10_count cX10_count 2 (some .int) 2 zshL zshL [.ref (b + 239), .int t] M (zI (qP (Fcount M n t) M)) := by
  refine zMet.of (L0 := [some (.ref (b + 239)), some (.int t)]) (by decide +kernel) (Nat.le_refl _) (Nat.le_refl _) (Nat.le_of_ble_eq_true rfl) (List.forall_mem_cons.mpr ⟨rfl, List.forall_mem_cons.mpr ⟨rfl, fun _ h => absurd h List.not_mem_nil⟩⟩) rfl (fun X C Al K => ?_)
  refine z_iload_n (pc := 0) C 1 dX10_count_0 rfl rfl ?_
  by_cases s1_0 : t = 0
  · refine z_tswIn (pc := 1) C (0) 64 dX10_count_1 (by rw [s1_0]; rfl) (by decide) (by decide) rfl (by decide) ?_
    refine z_aload_n (pc := 64) C 0 dX10_count_64 rfl rfl ?_
    refine z_getR (pc := 65) (r := 240) C dX10_count_65 fX10_9 sh_239 rfl ?_
    refine z_iconst (pc := 68) (v := 1) C dX10_count_68 rfl ?_
    refine z_iald (pc := 69) (n := 1) C dX10_count_69 sh_240 (zi_in.mpr (by decide)) rfl ?_
    refine z_ireturn (pc := 70) C K dX10_count_70 ?_
    refine ⟨_, rfl, ?_, zSc.rfl'⟩
    rw [s1_0]
    exact hR.hm
  by_cases s1_1 : t = 1
  · refine z_tswIn (pc := 1) C (1) 71 dX10_count_1 (by rw [s1_1]; rfl) (by decide) (by decide) rfl (by decide) ?_
    refine z_aload_n (pc := 71) C 0 dX10_count_71 rfl rfl ?_
    refine z_getR (pc := 72) (r := 240) C dX10_count_72 fX10_9 sh_239 rfl ?_
    refine z_iconst (pc := 75) (v := 2) C dX10_count_75 rfl ?_
    refine z_iald (pc := 76) (n := 2) C dX10_count_76 sh_240 (zi_in.mpr (by decide)) rfl ?_
    refine z_ireturn (pc := 77) C K dX10_count_77 ?_
    refine ⟨_, rfl, ?_, zSc.rfl'⟩
    rw [s1_1]
    exact hR.f (k := 8) (by decide) (by decide)
  by_cases s1_2 : t = 2
  · refine z_tswIn (pc := 1) C (2) 78 dX10_count_1 (by rw [s1_2]; rfl) (by decide) (by decide) rfl (by decide) ?_
    refine z_aload_n (pc := 78) C 0 dX10_count_78 rfl rfl ?_
    refine z_getR (pc := 79) (r := 240) C dX10_count_79 fX10_9 sh_239 rfl ?_
    refine z_iconst (pc := 82) (v := 1) C dX10_count_82 rfl ?_
    refine z_iload_n (pc := 83) C 1 dX10_count_83 rfl rfl ?_
    refine z_iadd (pc := 84) C dX10_count_84 ?_
    rw [s1_2]
    refine z_iald (pc := 85) (n := 3) C dX10_count_85 sh_240 (zi_in.mpr (by decide)) (by decide) ?_
    refine z_ireturn (pc := 86) C K dX10_count_86 ?_
    refine ⟨_, rfl, ?_, zSc.rfl'⟩
    show _ = Fcount M n t
    rw [s1_2]
    exact hR.f (k := 3) (by decide) (by decide)
  by_cases s1_3 : t = 3
  · refine z_tswIn (pc := 1) C (3) 78 dX10_count_1 (by rw [s1_3]; rfl) (by decide) (by decide) rfl (by decide) ?_
    refine z_aload_n (pc := 78) C 0 dX10_count_78 rfl rfl ?_
    refine z_getR (pc := 79) (r := 240) C dX10_count_79 fX10_9 sh_239 rfl ?_
    refine z_iconst (pc := 82) (v := 1) C dX10_count_82 rfl ?_
    refine z_iload_n (pc := 83) C 1 dX10_count_83 rfl rfl ?_
    refine z_iadd (pc := 84) C dX10_count_84 ?_
    rw [s1_3]
    refine z_iald (pc := 85) (n := 4) C dX10_count_85 sh_240 (zi_in.mpr (by decide)) (by decide) ?_
    refine z_ireturn (pc := 86) C K dX10_count_86 ?_
    refine ⟨_, rfl, ?_, zSc.rfl'⟩
    show _ = Fcount M n t
    rw [s1_3]
    exact hR.f (k := 4) (by decide) (by decide)
  by_cases s1_4 : t = 4
  · refine z_tswIn (pc := 1) C (4) 78 dX10_count_1 (by rw [s1_4]; rfl) (by decide) (by decide) rfl (by decide) ?_
    refine z_aload_n (pc := 78) C 0 dX10_count_78 rfl rfl ?_
    refine z_getR (pc := 79) (r := 240) C dX10_count_79 fX10_9 sh_239 rfl ?_
    refine z_iconst (pc := 82) (v := 1) C dX10_count_82 rfl ?_
    refine z_iload_n (pc := 83) C 1 dX10_count_83 rfl rfl ?_
    refine z_iadd (pc := 84) C dX10_count_84 ?_
    rw [s1_4]
    refine z_iald (pc := 85) (n := 5) C dX10_count_85 sh_240 (zi_in.mpr (by decide)) (by decide) ?_
    refine z_ireturn (pc := 86) C K dX10_count_86 ?_
    refine ⟨_, rfl, ?_, zSc.rfl'⟩
    show _ = Fcount M n t
    rw [s1_4]
    exact hR.f (k := 5) (by decide) (by decide)
  by_cases s1_5 : t = 5
  · refine z_tswIn (pc := 1) C (5) 78 dX10_count_1 (by rw [s1_5]; rfl) (by decide) (by decide) rfl (by decide) ?_
    refine z_aload_n (pc := 78) C 0 dX10_count_78 rfl rfl ?_
    refine z_getR (pc := 79) (r := 240) C dX10_count_79 fX10_9 sh_239 rfl ?_
    refine z_iconst (pc := 82) (v := 1) C dX10_count_82 rfl ?_
    refine z_iload_n (pc := 83) C 1 dX10_count_83 rfl rfl ?_
    refine z_iadd (pc := 84) C dX10_count_84 ?_
    rw [s1_5]
    refine z_iald (pc := 85) (n := 6) C dX10_count_85 sh_240 (zi_in.mpr (by decide)) (by decide) ?_
    refine z_ireturn (pc := 86) C K dX10_count_86 ?_
    refine ⟨_, rfl, ?_, zSc.rfl'⟩
    show _ = Fcount M n t
    rw [s1_5]
    exact hR.f (k := 6) (by decide) (by decide)
  by_cases s1_6 : t = 6
  · refine z_tswIn (pc := 1) C (6) 78 dX10_count_1 (by rw [s1_6]; rfl) (by decide) (by decide) rfl (by decide) ?_
    refine z_aload_n (pc := 78) C 0 dX10_count_78 rfl rfl ?_
    refine z_getR (pc := 79) (r := 240) C dX10_count_79 fX10_9 sh_239 rfl ?_
    refine z_iconst (pc := 82) (v := 1) C dX10_count_82 rfl ?_
    refine z_iload_n (pc := 83) C 1 dX10_count_83 rfl rfl ?_
    refine z_iadd (pc := 84) C dX10_count_84 ?_
    rw [s1_6]
    refine z_iald (pc := 85) (n := 7) C dX10_count_85 sh_240 (zi_in.mpr (by decide)) (by decide) ?_
    refine z_ireturn (pc := 86) C K dX10_count_86 ?_
    refine ⟨_, rfl, ?_, zSc.rfl'⟩
    show _ = Fcount M n t
    rw [s1_6]
    exact hR.f (k := 7) (by decide) (by decide)
  by_cases s1_7 : t = 7
  · refine z_tswIn (pc := 1) C (7) 87 dX10_count_1 (by rw [s1_7]; rfl) (by decide) (by decide) rfl (by decide) ?_
    refine z_aload_n (pc := 87) C 0 dX10_count_87 rfl rfl ?_
    refine z_callVi (pc := 88) C dX10_count_88 kX10_290 (mX10_hearing hR.hm hR.n8) (by decide) sh_239 rfl rfl rfl (Nat.le_of_ble_eq_true rfl) (fun r88 M88 h88 => ?_)
    obtain ⟨rfl, e88⟩ := h88
    subst M88
    refine z_ireturn (pc := 91) C K dX10_count_91 ?_
    refine ⟨_, rfl, ?_, zSc.rfl'⟩
    rw [s1_7]
    exact (pWho_mp hR).symm
  by_cases s1_8 : t = 8
  · refine z_tswIn (pc := 1) C (8) 92 dX10_count_1 (by rw [s1_8]; rfl) (by decide) (by decide) rfl (by decide) ?_
    refine z_aload_n (pc := 92) C 0 dX10_count_92 rfl rfl ?_
    refine z_getR (pc := 93) (r := 240) C dX10_count_93 fX10_9 sh_239 rfl ?_
    refine z_bipush (pc := 96) (v := 8) C dX10_count_96 rfl ?_
    refine z_iald (pc := 98) (n := 8) C dX10_count_98 sh_240 (zi_in.mpr (by decide)) rfl ?_
    refine z_ireturn (pc := 99) C K dX10_count_99 ?_
    refine ⟨_, rfl, ?_, zSc.rfl'⟩
    rw [s1_8]
    exact hR.f (k := 10) (by decide) (by decide)
  by_cases s1_9 : t = 9
  · refine z_tswIn (pc := 1) C (9) 100 dX10_count_1 (by rw [s1_9]; rfl) (by decide) (by decide) rfl (by decide) ?_
    refine z_aload_n (pc := 100) C 0 dX10_count_100 rfl rfl ?_
    refine z_getI (pc := 101) C dX10_count_101 fX10_280 sh_239 rfl ?_
    refine z_ireturn (pc := 104) C K dX10_count_104 ?_
    refine ⟨_, rfl, ?_, zSc.rfl'⟩
    rw [s1_9]
    obtain ⟨q, -, g1, g2, -⟩ := hR.2.2.2.2.2.1
    exact g2.trans g1.symm
  by_cases s1_10 : t = 10
  · refine z_tswIn (pc := 1) C (10) 105 dX10_count_1 (by rw [s1_10]; rfl) (by decide) (by decide) rfl (by decide) ?_
    refine z_aload_n (pc := 105) C 0 dX10_count_105 rfl rfl ?_
    refine z_getI (pc := 106) C dX10_count_106 fX10_205 sh_239 rfl ?_
    refine z_ireturn (pc := 109) C K dX10_count_109 ?_
    refine ⟨_, rfl, ?_, zSc.rfl'⟩
    rw [s1_10]
    obtain ⟨q, -, g1, g2, -⟩ := hR.2.2.1
    exact g2.trans g1.symm
  by_cases s1_11 : t = 11
  · refine z_tswIn (pc := 1) C (11) 110 dX10_count_1 (by rw [s1_11]; rfl) (by decide) (by decide) rfl (by decide) ?_
    refine z_aload_n (pc := 110) C 0 dX10_count_110 rfl rfl ?_
    refine z_getR (pc := 111) (r := 240) C dX10_count_111 fX10_9 sh_239 rfl ?_
    refine z_iconst (pc := 114) (v := 0) C dX10_count_114 rfl ?_
    refine z_iald (pc := 115) (n := 0) C dX10_count_115 sh_240 (zi_in.mpr (by decide)) rfl ?_
    refine z_ireturn (pc := 116) C K dX10_count_116 ?_
    refine ⟨_, rfl, ?_, zSc.rfl'⟩
    rw [s1_11]
    exact hR.f (k := 9) (by decide) (by decide)
  refine z_tswOut (pc := 1) C 117 dX10_count_1 (by have g0 := lv_neT (a := 0) s1_0 rfl; have g1 := lv_neT (a := 1) s1_1 rfl; have g2 := lv_neT (a := 2) s1_2 rfl; have g3 := lv_neT (a := 3) s1_3 rfl; have g4 := lv_neT (a := 4) s1_4 rfl; have g5 := lv_neT (a := 5) s1_5 rfl; have g6 := lv_neT (a := 6) s1_6 rfl; have g7 := lv_neT (a := 7) s1_7 rfl; have g8 := lv_neT (a := 8) s1_8 rfl; have g9 := lv_neT (a := 9) s1_9 rfl; have g10 := lv_neT (a := 10) s1_10 rfl; have g11 := lv_neT (a := 11) s1_11 rfl; omega) (by decide) ?_
  refine z_ldc (pc := 117) C q5_48 dX10_count_117 ?_
  refine z_ireturn (pc := 119) C K dX10_count_119 ?_
  refine ⟨_, rfl, ?_, zSc.rfl'⟩
  simp [Fcount, s1_0, s1_1, s1_2, s1_3, s1_4, s1_5, s1_6, s1_7, s1_8, s1_9, s1_10, s1_11]

theorem op_count {l : Launch} {G : zG} {b : Nat} {M : zM} (hM : Rel M) {t : Int32} : opOK l G b yX9_count cX9_count 2 1 yX10_count cX10_count 2 2 [.int t] M := by
  obtain ⟨n, T, ky, ln, hR⟩ := hM
  refine ⟨_, mX9_count hR, fun r M1 h1 => ?_⟩
  obtain ⟨rfl, h1⟩ := h1
  have hR1 := hR.sc h1
  refine zI.post (mX10_count hR1) (fun s M2 h2 => ?_)
  obtain ⟨rfl, h2⟩ := h2
  refine ⟨?_, _, _, _, _, hR1.sc h2⟩
  unfold Fcount
  rw [h1.w, show M1 1 0 = M 1 0 from funext fun i => h1.p i, h1 0 0 0 9 (by unfold scr; omega), h1 19 0 0 1 (by unfold scr; omega)]