/-! mark, copy, lay -/
noncomputable def Fmk (so sz p v : Int32) : Int32 := if so < 0 then -1000000011 else zif (iin p 0 (sz.toInt - 1)) (if so = 0 then (if v = -1000000005 then -1000000012 else 1) else zif (¬ v = -1000000005 ∧ ¬ iin v (-99999) 99999) (-1000000001) 1) (-1000000013)
noncomputable def Fmark (so sz : Nat → Int32) (x p v : Int32) : Int32 := zif (iin x 0 3) (Fmk (so x.toNatClampNeg) (sz x.toNatClampNeg) p v) (-1000000001)
def mkV (so v : Int32) : Int32 := if so = 0 then v.toInt16.toInt32 else v
def Amk (F : Int32) (u : zM) (M : zM) (r : Int32) (M' : zM) : Prop := r = F ∧ M' = if r = 1 then u else M
theorem i99999 : (99999 : Int32).toInt = 99999 := by decide
theorem im99999 : (-99999 : Int32).toInt = -99999 := by decide
def shR (so sz : Nat → Int32) : Prop := ∀ s, s < 4 → iin (so s) (-1) 1 ∧ iin (sz s) 0 24
theorem RR.shR {M : zM} {n T : Nat} {ky ln : Nat → Nat} (hR : RR M n T ky ln) : shR (fun s => M 3 s 0 0) (fun s => M 3 s 0 1) := fun s hs => by
  obtain ⟨g1, g2, g3, g4, g5⟩ := hR.RE s hs
  exact ⟨by show iin (M 3 s 0 0) _ _; rw [g1]; exact g2, by show iin (M 3 s 0 1) _ _; rw [g3]; exact g4⟩
set_option maxHeartbeats 800000 in
set_option maxRecDepth 100000 in
theorem mX9_mark {l : Launch} {G : zG} {b : Nat} {M : zM} (hr : shR (fun s => M 3 s 0 0) (fun s => M 3 s 0 1)) {x p v : Int32} : zMet l G b yX9_mark cX9_mark 5 (some .int) 1 zshL zshL [.ref (b + 0), .int x, .int p, .int v] M (zI (Amk (Fmark (fun s => M 3 s 0 0) (fun s => M 3 s 0 1) x p v) (zu M 4 x.toNatClampNeg 0 p.toNatClampNeg (mkV (M 3 x.toNatClampNeg 0 0) v)) M)) := by
  refine zMet.of (L0 := [some (.ref (b + 0)), some (.int x), some (.int p), some (.int v), none]) (by decide +kernel) (Nat.le_refl _) (Nat.le_refl _) (Nat.le_of_ble_eq_true rfl) (List.forall_mem_cons.mpr ⟨rfl, List.forall_mem_cons.mpr ⟨rfl, List.forall_mem_cons.mpr ⟨rfl, List.forall_mem_cons.mpr ⟨rfl, fun _ h => absurd h List.not_mem_nil⟩⟩⟩⟩) rfl (fun X C Al K => ?_)
  refine z_iload_n (pc := 0) C 1 dX9_mark_0 rfl rfl ?_
  refine z_callSi (pc := 1) C dX9_mark_1 kX9_192 mX9_isSheet (by decide) rfl rfl (Nat.le_of_ble_eq_true rfl) (fun r1 M1 h1 => ?_)
  obtain ⟨h1, e1⟩ := h1
  subst M1
  refine z_if_ne (pc := 4) C 10 dX9_mark_4 (by decide) (fun c4 => ?_) (fun c4 => ?_)
  · have hx := h1.yes c4
    obtain ⟨s, hs, rfl⟩ := iin_nI (n := 4) (by decide) hx
    have hs9 : s < 9 := by omega
    obtain ⟨w1, w2⟩ := hr s hs
    replace w1 : iin (M 3 s 0 0) (-1) 1 := w1
    replace w2 : iin (M 3 s 0 1) 0 24 := w2
    unfold iin at w1 w2
    refine z_aload_n (pc := 10) C 0 dX9_mark_10 rfl rfl ?_
    refine z_getR (pc := 11) (r := 208) C dX9_mark_11 fX9_53 sh_0 rfl ?_
    refine z_iload_n (pc := 14) C 1 dX9_mark_14 rfl rfl ?_
    refine z_aald (pc := 15) (r := adS s) C dX9_mark_15 sh_208 rfl rfl (vp_in_nI hs (by decide)) (shget hs) ?_
    refine z_astore (pc := 16) C 4 dX9_mark_16 (by decide) rfl ?_
    refine z_aload (pc := 18) C 4 dX9_mark_18 rfl ?_
    refine z_getI (pc := 20) C dX9_mark_20 fX9_195 (shS hs9) rfl ?_
    refine z_iconst (pc := 23) (v := -1) C dX9_mark_23 rfl ?_
    refine z_icmp_ne (pc := 24) C 30 dX9_mark_24 (by decide) (fun c24 => ?_) (fun c24 => ?_)
    · have so0 : ¬ M 3 s 0 0 < 0 := by
        rw [zi_eq, im1] at c24
        rw [zi_lt, i0]
        omega
      refine z_aload (pc := 30) C 4 dX9_mark_30 rfl ?_
      refine z_iload_n (pc := 32) C 2 dX9_mark_32 rfl rfl ?_
      refine z_callVi (pc := 33) C dX9_mark_33 kX9_250 (mX2_hasPlace hs9) (by decide) (shS hs9) rfl rfl rfl (Nat.le_of_ble_eq_true rfl) (fun r33 M33 h33 => ?_)
      obtain ⟨h33, e33⟩ := h33
      subst M33
      refine z_if_ne (pc := 36) C 42 dX9_mark_36 (by decide) (fun c36 => ?_) (fun c36 => ?_)
      · have hp := h33.yes c36
        obtain ⟨p, hp1, rfl⟩ := iin_n hp (by omega)
        refine z_aload (pc := 42) C 4 dX9_mark_42 rfl ?_
        refine z_getI (pc := 44) C dX9_mark_44 fX9_195 (shS hs9) rfl ?_
        refine z_if_ne (pc := 47) C 70 dX9_mark_47 (by decide) (fun c47 => ?_) (fun c47 => ?_)
        · refine z_iload_n (pc := 70) C 3 dX9_mark_70 rfl rfl ?_
          refine z_ldc (pc := 71) C q3_64 dX9_mark_71 ?_
          refine z_icmp_eq (pc := 73) C 93 dX9_mark_73 (by decide) (fun c73 => ?_) (fun c73 => ?_)
          · refine z_aload (pc := 93) C 4 dX9_mark_93 rfl ?_
            refine z_getR (pc := 95) (r := adS s + 1) C dX9_mark_95 fX9_254 (shS hs9) rfl ?_
            refine z_iload_n (pc := 98) C 2 dX9_mark_98 rfl rfl ?_
            refine z_iload_n (pc := 99) C 3 dX9_mark_99 rfl rfl ?_
            refine z_iast (pc := 100) (n := p) C dX9_mark_100 (shSp hs9) (vp_in_nI (by omega) (by decide)) (nI_clamp (by omega)) ?_
            refine z_iconst (pc := 101) (v := 1) C dX9_mark_101 rfl ?_
            refine z_ireturn (pc := 102) C K dX9_mark_102 ?_
            refine ⟨_, rfl, ?_, ?_⟩
            · rw [Fmark, zif_pos hx, nI_clamp (by omega), Fmk, if_neg so0, zif_pos hp, if_neg c47, zif_neg (fun q => q.1 c73)]
            · rw [if_pos rfl, nI_clamp (by omega), nI_clamp (by omega), mkV, if_neg c47]
          · refine z_iload_n (pc := 76) C 3 dX9_mark_76 rfl rfl ?_
            refine z_ldcw (pc := 77) C q4_99 dX9_mark_77 ?_
            refine z_icmp_lt (pc := 80) C 90 dX9_mark_80 (by decide) (fun c80 => ?_) (fun c80 => ?_)
            · refine z_ldc (pc := 90) C q2_96 dX9_mark_90 ?_
              refine z_ireturn (pc := 92) C K dX9_mark_92 ?_
              refine ⟨_, rfl, ?_, by rw [if_neg (by decide)]⟩
              rw [Fmark, zif_pos hx, nI_clamp (by omega), Fmk, if_neg so0, zif_pos hp, if_neg c47, zif_pos ⟨c73, by simp only [zi_lt, zi_le, zi_eq, i0, i1, i2, i3, i4, i5, i6, i9, i20, i99, i100, im5, im20, im1, i24, i99999, im99999] at c80; unfold iin; omega⟩]
            · refine z_iload_n (pc := 83) C 3 dX9_mark_83 rfl rfl ?_
              refine z_ldcw (pc := 84) C q4_100 dX9_mark_84 ?_
              refine z_icmp_le (pc := 87) C 93 dX9_mark_87 (by decide) (fun c87 => ?_) (fun c87 => ?_)
              · refine z_aload (pc := 93) C 4 dX9_mark_93 rfl ?_
                refine z_getR (pc := 95) (r := adS s + 1) C dX9_mark_95 fX9_254 (shS hs9) rfl ?_
                refine z_iload_n (pc := 98) C 2 dX9_mark_98 rfl rfl ?_
                refine z_iload_n (pc := 99) C 3 dX9_mark_99 rfl rfl ?_
                refine z_iast (pc := 100) (n := p) C dX9_mark_100 (shSp hs9) (vp_in_nI (by omega) (by decide)) (nI_clamp (by omega)) ?_
                refine z_iconst (pc := 101) (v := 1) C dX9_mark_101 rfl ?_
                refine z_ireturn (pc := 102) C K dX9_mark_102 ?_
                refine ⟨_, rfl, ?_, ?_⟩
                · rw [Fmark, zif_pos hx, nI_clamp (by omega), Fmk, if_neg so0, zif_pos hp, if_neg c47, zif_neg (fun q => q.2 (by simp only [zi_lt, zi_le, zi_eq, i0, i1, i2, i3, i4, i5, i6, i9, i20, i99, i100, im5, im20, im1, i24, i99999, im99999] at c80 c87; unfold iin; omega))]
                · rw [if_pos rfl, nI_clamp (by omega), nI_clamp (by omega), mkV, if_neg c47]
              · refine z_ldc (pc := 90) C q2_96 dX9_mark_90 ?_
                refine z_ireturn (pc := 92) C K dX9_mark_92 ?_
                refine ⟨_, rfl, ?_, by rw [if_neg (by decide)]⟩
                rw [Fmark, zif_pos hx, nI_clamp (by omega), Fmk, if_neg so0, zif_pos hp, if_neg c47, zif_pos ⟨c73, by simp only [zi_lt, zi_le, zi_eq, i0, i1, i2, i3, i4, i5, i6, i9, i20, i99, i100, im5, im20, im1, i24, i99999, im99999] at c80 c87; unfold iin; omega⟩]
        · refine z_iload_n (pc := 50) C 3 dX9_mark_50 rfl rfl ?_
          refine z_ldc (pc := 51) C q3_64 dX9_mark_51 ?_
          refine z_icmp_ne (pc := 53) C 59 dX9_mark_53 (by decide) (fun c53 => ?_) (fun c53 => ?_)
          · refine z_aload (pc := 59) C 4 dX9_mark_59 rfl ?_
            refine z_getR (pc := 61) (r := adS s + 1) C dX9_mark_61 fX9_254 (shS hs9) rfl ?_
            refine z_iload_n (pc := 64) C 2 dX9_mark_64 rfl rfl ?_
            refine z_iload_n (pc := 65) C 3 dX9_mark_65 rfl rfl ?_
            refine z_i2s (pc := 66) C dX9_mark_66 ?_
            refine z_iast (pc := 67) (n := p) C dX9_mark_67 (shSp hs9) (vp_in_nI (by omega) (by decide)) (nI_clamp (by omega)) ?_
            refine z_iconst (pc := 68) (v := 1) C dX9_mark_68 rfl ?_
            refine z_ireturn (pc := 69) C K dX9_mark_69 ?_
            refine ⟨_, rfl, ?_, ?_⟩
            · rw [Fmark, zif_pos hx, nI_clamp (by omega), Fmk, if_neg so0, zif_pos hp, if_pos c47, if_neg c53]
            · rw [if_pos rfl, nI_clamp (by omega), nI_clamp (by omega), mkV, if_pos c47]
          · refine z_ldc (pc := 56) C q2_162 dX9_mark_56 ?_
            refine z_ireturn (pc := 58) C K dX9_mark_58 ?_
            refine ⟨_, rfl, ?_, by rw [if_neg (by decide)]⟩
            rw [Fmark, zif_pos hx, nI_clamp (by omega), Fmk, if_neg so0, zif_pos hp, if_pos c47, if_pos c53]
      · refine z_ldc (pc := 39) C q4_98 dX9_mark_39 ?_
        refine z_ireturn (pc := 41) C K dX9_mark_41 ?_
        refine ⟨_, rfl, ?_, by rw [if_neg (by decide)]⟩
        rw [Fmark, zif_pos hx, nI_clamp (by omega), Fmk, if_neg so0, zif_neg (h33.no c36)]
    · refine z_ldc (pc := 27) C q3_100 dX9_mark_27 ?_
      refine z_ireturn (pc := 29) C K dX9_mark_29 ?_
      refine ⟨_, rfl, ?_, by rw [if_neg (by decide)]⟩
      rw [Fmark, zif_pos hx, nI_clamp (by omega), Fmk, if_pos (by rw [c24]; decide)]
  · refine z_ldc (pc := 7) C q2_96 dX9_mark_7 ?_
    refine z_ireturn (pc := 9) C K dX9_mark_9 ?_
    exact ⟨_, rfl, by rw [Fmark, zif_neg (h1.no c4)], by rw [if_neg (by decide)]⟩

set_option maxHeartbeats 800000 in
set_option maxRecDepth 100000 in
theorem mX10_mark {l : Launch} {G : zG} {b : Nat} {M : zM} (hr : shR (fun s => M 44 0 0 s) (fun s => M 45 0 0 s)) {x p v : Int32} : zMet l G b yX10_mark cX10_mark 4 (some .int) 2 zshL zshL [.ref (b + 239), .int x, .int p, .int v] M (zI (Amk (Fmark (fun s => M 44 0 0 s) (fun s => M 45 0 0 s) x p v) (zu M 46 0 0 (24 * x.toNatClampNeg + p.toNatClampNeg) (mkV (M 44 0 0 x.toNatClampNeg) v)) M)) := by
  refine zMet.of (L0 := [some (.ref (b + 239)), some (.int x), some (.int p), some (.int v)]) (by decide +kernel) (Nat.le_refl _) (Nat.le_refl _) (Nat.le_of_ble_eq_true rfl) (List.forall_mem_cons.mpr ⟨rfl, List.forall_mem_cons.mpr ⟨rfl, List.forall_mem_cons.mpr ⟨rfl, List.forall_mem_cons.mpr ⟨rfl, fun _ h => absurd h List.not_mem_nil⟩⟩⟩⟩) rfl (fun X C Al K => ?_)
  refine z_iload_n (pc := 0) C 1 dX10_mark_0 rfl rfl ?_
  refine z_callSi (pc := 1) C dX10_mark_1 kX10_198 mX10_isSheet (by decide) rfl rfl (Nat.le_of_ble_eq_true rfl) (fun r1 M1 h1 => ?_)
  obtain ⟨h1, e1⟩ := h1
  subst M1
  refine z_if_ne (pc := 4) C 10 dX10_mark_4 (by decide) (fun c4 => ?_) (fun c4 => ?_)
  · have hx := h1.yes c4
    obtain ⟨s, hs, rfl⟩ := iin_nI (n := 4) (by decide) hx
    have hs9 : s < 9 := by omega
    obtain ⟨w1, w2⟩ := hr s hs
    replace w1 : iin (M 44 0 0 s) (-1) 1 := w1
    replace w2 : iin (M 45 0 0 s) 0 24 := w2
    unfold iin at w1 w2
    refine z_aload_n (pc := 10) C 0 dX10_mark_10 rfl rfl ?_
    refine z_getR (pc := 11) (r := 253) C dX10_mark_11 fX10_51 sh_239 rfl ?_
    refine z_iload_n (pc := 14) C 1 dX10_mark_14 rfl rfl ?_
    refine z_iald (pc := 15) (n := s) C dX10_mark_15 sh_253 (vp_in_nI (by omega) (by decide)) (nI_clamp (by omega)) ?_
    refine z_if_ge (pc := 16) C 22 dX10_mark_16 (by decide) (fun c16 => ?_) (fun c16 => ?_)
    · have so0 : ¬ M 44 0 0 s < 0 := (znn _).mp c16
      have eZ : (M 45 0 0 s - 1).toInt = (M 45 0 0 s).toInt - 1 := by rw [zi_sub (by rw [i1]; omega) (by rw [i1]; omega), i1]
      refine z_iload_n (pc := 22) C 2 dX10_mark_22 rfl rfl ?_
      refine z_iconst (pc := 23) (v := 0) C dX10_mark_23 rfl ?_
      refine z_aload_n (pc := 24) C 0 dX10_mark_24 rfl rfl ?_
      refine z_getR (pc := 25) (r := 254) C dX10_mark_25 fX10_54 sh_239 rfl ?_
      refine z_iload_n (pc := 28) C 1 dX10_mark_28 rfl rfl ?_
      refine z_iald (pc := 29) (n := s) C dX10_mark_29 sh_254 (vp_in_nI (by omega) (by decide)) (nI_clamp (by omega)) ?_
      refine z_iconst (pc := 30) (v := 1) C dX10_mark_30 rfl ?_
      refine z_isub (pc := 31) C dX10_mark_31 ?_
      refine z_callSi (pc := 32) C dX10_mark_32 kX10_78 mX10_in (by decide) rfl rfl (Nat.le_of_ble_eq_true rfl) (fun r32 M32 h32 => ?_)
      obtain ⟨h32, e32⟩ := h32
      subst M32
      replace h32 := zin_b i0 eZ h32
      refine z_if_ne (pc := 35) C 42 dX10_mark_35 (by decide) (fun c35 => ?_) (fun c35 => ?_)
      · have hp := h32.yes c35
        obtain ⟨p, hp1, rfl⟩ := iin_n hp (by omega)
        refine z_aload_n (pc := 42) C 0 dX10_mark_42 rfl rfl ?_
        refine z_getR (pc := 43) (r := 253) C dX10_mark_43 fX10_51 sh_239 rfl ?_
        refine z_iload_n (pc := 46) C 1 dX10_mark_46 rfl rfl ?_
        refine z_iald (pc := 47) (n := s) C dX10_mark_47 sh_253 (vp_in_nI (by omega) (by decide)) (nI_clamp (by omega)) ?_
        refine z_if_ne (pc := 48) C 60 dX10_mark_48 (by decide) (fun c48 => ?_) (fun c48 => ?_)
        · have so1 : M 44 0 0 s = 1 := by
            rw [zi_eq, i1]
            rw [zi_eq, i0] at c48
            rw [zi_lt, i0] at so0
            omega
          refine z_aload_n (pc := 60) C 0 dX10_mark_60 rfl rfl ?_
          refine z_getR (pc := 61) (r := 253) C dX10_mark_61 fX10_51 sh_239 rfl ?_
          refine z_iload_n (pc := 64) C 1 dX10_mark_64 rfl rfl ?_
          refine z_iald (pc := 65) (n := s) C dX10_mark_65 sh_253 (vp_in_nI (by omega) (by decide)) (nI_clamp (by omega)) ?_
          refine z_iconst (pc := 66) (v := 1) C dX10_mark_66 rfl ?_
          refine z_icmp_ne (pc := 67) C 92 dX10_mark_67 (by decide) (fun c67 => absurd so1 c67) (fun c67 => ?_)
          refine z_iload_n (pc := 70) C 3 dX10_mark_70 rfl rfl ?_
          refine z_ldc (pc := 71) C q5_211 dX10_mark_71 ?_
          refine z_icmp_eq (pc := 73) C 92 dX10_mark_73 (by decide) (fun c73 => ?_) (fun c73 => ?_)
          · refine z_aload_n (pc := 92) C 0 dX10_mark_92 rfl rfl ?_
            refine z_getR (pc := 93) (r := 255) C dX10_mark_93 fX10_57 sh_239 rfl ?_
            refine z_bipush (pc := 96) (v := 24) C dX10_mark_96 rfl ?_
            refine z_iload_n (pc := 98) C 1 dX10_mark_98 rfl rfl ?_
            refine z_imul (pc := 99) C dX10_mark_99 ?_
            refine z_iload_n (pc := 100) C 2 dX10_mark_100 rfl rfl ?_
            refine z_iadd (pc := 101) C dX10_mark_101 ?_
            rw [idx24]
            refine z_aload_n (pc := 102) C 0 dX10_mark_102 rfl rfl ?_
            refine z_getR (pc := 103) (r := 253) C dX10_mark_103 fX10_51 sh_239 rfl ?_
            refine z_iload_n (pc := 106) C 1 dX10_mark_106 rfl rfl ?_
            refine z_iald (pc := 107) (n := s) C dX10_mark_107 sh_253 (vp_in_nI (by omega) (by decide)) (nI_clamp (by omega)) ?_
            refine z_if_ne (pc := 108) C 116 dX10_mark_108 (by decide) (fun c108 => ?_) (fun c108 => absurd c108 c48)
            refine z_iload_n (pc := 116) C 3 dX10_mark_116 rfl rfl ?_
            refine z_iast (pc := 117) (n := 24 * s + p) C dX10_mark_117 sh_255 (vp_in_nI (by omega) (by decide)) (nI_clamp (by omega)) ?_
            refine z_iconst (pc := 118) (v := 1) C dX10_mark_118 rfl ?_
            refine z_ireturn (pc := 119) C K dX10_mark_119 ?_
            refine ⟨_, rfl, ?_, ?_⟩
            · rw [Fmark, zif_pos hx, nI_clamp (by omega), Fmk, if_neg so0, zif_pos hp, if_neg c48, zif_neg (fun q => q.1 c73)]
            · rw [if_pos rfl, nI_clamp (by omega), nI_clamp (by omega), mkV, if_neg c48]
          · refine z_iload_n (pc := 76) C 3 dX10_mark_76 rfl rfl ?_
            refine z_ldcw (pc := 77) C q6_105 dX10_mark_77 ?_
            refine z_ldcw (pc := 80) C q6_106 dX10_mark_80 ?_
            refine z_callSi (pc := 83) C dX10_mark_83 kX10_78 mX10_in (by decide) rfl rfl (Nat.le_of_ble_eq_true rfl) (fun r83 M83 h83 => ?_)
            obtain ⟨h83, e83⟩ := h83
            subst M83
            replace h83 := zin_b im99999 i99999 h83
            refine z_if_ne (pc := 86) C 92 dX10_mark_86 (by decide) (fun c86 => ?_) (fun c86 => ?_)
            · refine z_aload_n (pc := 92) C 0 dX10_mark_92 rfl rfl ?_
              refine z_getR (pc := 93) (r := 255) C dX10_mark_93 fX10_57 sh_239 rfl ?_
              refine z_bipush (pc := 96) (v := 24) C dX10_mark_96 rfl ?_
              refine z_iload_n (pc := 98) C 1 dX10_mark_98 rfl rfl ?_
              refine z_imul (pc := 99) C dX10_mark_99 ?_
              refine z_iload_n (pc := 100) C 2 dX10_mark_100 rfl rfl ?_
              refine z_iadd (pc := 101) C dX10_mark_101 ?_
              rw [idx24]
              refine z_aload_n (pc := 102) C 0 dX10_mark_102 rfl rfl ?_
              refine z_getR (pc := 103) (r := 253) C dX10_mark_103 fX10_51 sh_239 rfl ?_
              refine z_iload_n (pc := 106) C 1 dX10_mark_106 rfl rfl ?_
              refine z_iald (pc := 107) (n := s) C dX10_mark_107 sh_253 (vp_in_nI (by omega) (by decide)) (nI_clamp (by omega)) ?_
              refine z_if_ne (pc := 108) C 116 dX10_mark_108 (by decide) (fun c108 => ?_) (fun c108 => absurd c108 c48)
              refine z_iload_n (pc := 116) C 3 dX10_mark_116 rfl rfl ?_
              refine z_iast (pc := 117) (n := 24 * s + p) C dX10_mark_117 sh_255 (vp_in_nI (by omega) (by decide)) (nI_clamp (by omega)) ?_
              refine z_iconst (pc := 118) (v := 1) C dX10_mark_118 rfl ?_
              refine z_ireturn (pc := 119) C K dX10_mark_119 ?_
              refine ⟨_, rfl, ?_, ?_⟩
              · rw [Fmark, zif_pos hx, nI_clamp (by omega), Fmk, if_neg so0, zif_pos hp, if_neg c48, zif_neg (fun q => q.2 (h83.yes c86))]
              · rw [if_pos rfl, nI_clamp (by omega), nI_clamp (by omega), mkV, if_neg c48]
            · refine z_ldc (pc := 89) C q5_48 dX10_mark_89 ?_
              refine z_ireturn (pc := 91) C K dX10_mark_91 ?_
              refine ⟨_, rfl, ?_, by rw [if_neg (by decide)]⟩
              rw [Fmark, zif_pos hx, nI_clamp (by omega), Fmk, if_neg so0, zif_pos hp, if_neg c48, zif_pos ⟨c73, h83.no c86⟩]
        · refine z_iload_n (pc := 51) C 3 dX10_mark_51 rfl rfl ?_
          refine z_ldc (pc := 52) C q5_211 dX10_mark_52 ?_
          refine z_icmp_ne (pc := 54) C 60 dX10_mark_54 (by decide) (fun c54 => ?_) (fun c54 => ?_)
          · refine z_aload_n (pc := 60) C 0 dX10_mark_60 rfl rfl ?_
            refine z_getR (pc := 61) (r := 253) C dX10_mark_61 fX10_51 sh_239 rfl ?_
            refine z_iload_n (pc := 64) C 1 dX10_mark_64 rfl rfl ?_
            refine z_iald (pc := 65) (n := s) C dX10_mark_65 sh_253 (vp_in_nI (by omega) (by decide)) (nI_clamp (by omega)) ?_
            refine z_iconst (pc := 66) (v := 1) C dX10_mark_66 rfl ?_
            refine z_icmp_ne (pc := 67) C 92 dX10_mark_67 (by decide) (fun c67 => ?_) (fun c67 => absurd (c48.symm.trans c67) (by decide))
            refine z_aload_n (pc := 92) C 0 dX10_mark_92 rfl rfl ?_
            refine z_getR (pc := 93) (r := 255) C dX10_mark_93 fX10_57 sh_239 rfl ?_
            refine z_bipush (pc := 96) (v := 24) C dX10_mark_96 rfl ?_
            refine z_iload_n (pc := 98) C 1 dX10_mark_98 rfl rfl ?_
            refine z_imul (pc := 99) C dX10_mark_99 ?_
            refine z_iload_n (pc := 100) C 2 dX10_mark_100 rfl rfl ?_
            refine z_iadd (pc := 101) C dX10_mark_101 ?_
            rw [idx24]
            refine z_aload_n (pc := 102) C 0 dX10_mark_102 rfl rfl ?_
            refine z_getR (pc := 103) (r := 253) C dX10_mark_103 fX10_51 sh_239 rfl ?_
            refine z_iload_n (pc := 106) C 1 dX10_mark_106 rfl rfl ?_
            refine z_iald (pc := 107) (n := s) C dX10_mark_107 sh_253 (vp_in_nI (by omega) (by decide)) (nI_clamp (by omega)) ?_
            refine z_if_ne (pc := 108) C 116 dX10_mark_108 (by decide) (fun c108 => absurd c48 c108) (fun c108 => ?_)
            refine z_iload_n (pc := 111) C 3 dX10_mark_111 rfl rfl ?_
            refine z_i2s (pc := 112) C dX10_mark_112 ?_
            refine z_goto (pc := 113) C 117 dX10_mark_113 (by decide) ?_
            refine z_iast (pc := 117) (n := 24 * s + p) C dX10_mark_117 sh_255 (vp_in_nI (by omega) (by decide)) (nI_clamp (by omega)) ?_
            refine z_iconst (pc := 118) (v := 1) C dX10_mark_118 rfl ?_
            refine z_ireturn (pc := 119) C K dX10_mark_119 ?_
            refine ⟨_, rfl, ?_, ?_⟩
            · rw [Fmark, zif_pos hx, nI_clamp (by omega), Fmk, if_neg so0, zif_pos hp, if_pos c48, if_neg c54]
            · rw [if_pos rfl, nI_clamp (by omega), nI_clamp (by omega), mkV, if_pos c48]
          · refine z_ldc (pc := 57) C q5_99 dX10_mark_57 ?_
            refine z_ireturn (pc := 59) C K dX10_mark_59 ?_
            refine ⟨_, rfl, ?_, by rw [if_neg (by decide)]⟩
            rw [Fmark, zif_pos hx, nI_clamp (by omega), Fmk, if_neg so0, zif_pos hp, if_pos c48, if_pos c54]
      · refine z_ldcw (pc := 38) C q6_104 dX10_mark_38 ?_
        refine z_ireturn (pc := 41) C K dX10_mark_41 ?_
        refine ⟨_, rfl, ?_, by rw [if_neg (by decide)]⟩
        rw [Fmark, zif_pos hx, nI_clamp (by omega), Fmk, if_neg so0, zif_neg (h32.no c35)]
    · refine z_ldc (pc := 19) C q6_15 dX10_mark_19 ?_
      refine z_ireturn (pc := 21) C K dX10_mark_21 ?_
      refine ⟨_, rfl, ?_, by rw [if_neg (by decide)]⟩
      rw [Fmark, zif_pos hx, nI_clamp (by omega), Fmk, if_pos (Int32.not_le.mp c16)]
  · refine z_ldc (pc := 7) C q5_48 dX10_mark_7 ?_
    refine z_ireturn (pc := 9) C K dX10_mark_9 ?_
    exact ⟨_, rfl, by rw [Fmark, zif_neg (h1.no c4)], by rw [if_neg (by decide)]⟩

theorem Fmark_ok {so sz : Nat → Int32} {x p v : Int32} (hr : shR so sz) (h : Fmark so sz x p v = 1) : iin x 0 3 ∧ iin p 0 23 := by
  unfold Fmark at h
  by_cases q : iin x 0 3
  · rw [zif_pos q] at h
    refine ⟨q, ?_⟩
    unfold Fmk at h
    obtain ⟨s, hs, rfl⟩ := iin_nI (n := 4) (by decide) q
    obtain ⟨w1, w2⟩ := hr s hs
    rw [nI_clamp (by omega)] at h
    by_cases q1 : so s < 0
    · rw [if_pos q1] at h
      exact absurd h (by decide)
    · rw [if_neg q1] at h
      by_cases q2 : iin p 0 ((sz s).toInt - 1)
      · unfold iin at q2 w2 ⊢
        omega
      · rw [zif_neg q2] at h
        exact absurd h (by decide)
  · rw [zif_neg q] at h
    exact absurd h (by decide)
theorem Fmark_c {so sz so' sz' : Nat → Int32} (h : ∀ s, s < 4 → so' s = so s ∧ sz' s = sz s) (x p v : Int32) : Fmark so' sz' x p v = Fmark so sz x p v := by
  unfold Fmark
  by_cases q : iin x 0 3
  · rw [zif_pos q, zif_pos q]
    obtain ⟨s, hs, rfl⟩ := iin_nI (n := 4) (by decide) q
    rw [nI_clamp (by omega), (h s hs).1, (h s hs).2]
  · rw [zif_neg q, zif_neg q]
theorem shR_c {so sz so' sz' : Nat → Int32} (h : ∀ s, s < 4 → so' s = so s ∧ sz' s = sz s) (g : shR so sz) : shR so' sz' := fun s hs => by
  rw [(h s hs).1, (h s hs).2]
  exact g s hs
theorem op_mark {l : Launch} {G : zG} {b : Nat} {M : zM} (hM : Rel M) {x p v : Int32} : opOK l G b yX9_mark cX9_mark 5 1 yX10_mark cX10_mark 4 2 [.int x, .int p, .int v] M := by
  obtain ⟨n, T, ky, ln, hR⟩ := hM
  refine ⟨_, mX9_mark hR.shR, fun r M1 h1 => ?_⟩
  obtain ⟨rfl, e1⟩ := h1
  have hc : ∀ s, s < 4 → (fun s => M1 44 0 0 s) s = (fun s => M 3 s 0 0) s ∧ (fun s => M1 45 0 0 s) s = (fun s => M 3 s 0 1) s := fun s hs => by
    obtain ⟨g1, g2, g3, g4, g5⟩ := hR.RE s hs
    show M1 44 0 0 s = M 3 s 0 0 ∧ M1 45 0 0 s = M 3 s 0 1
    rw [g1, g3, e1]
    split
    · rw [zu_a (by decide), zu_a (by decide)]
      exact ⟨rfl, rfl⟩
    · exact ⟨rfl, rfl⟩
  refine zI.post (mX10_mark (shR_c hc hR.shR)) (fun r2 M2 h2 => ?_)
  obtain ⟨rfl, e2⟩ := h2
  have hF := Fmark_c hc x p v
  rw [hF] at e2 ⊢
  refine ⟨rfl, ?_⟩
  by_cases h1 : Fmark (fun s => M 3 s 0 0) (fun s => M 3 s 0 1) x p v = 1
  · rw [if_pos h1] at e1 e2
    obtain ⟨hx, hp⟩ := Fmark_ok hR.shR h1
    obtain ⟨s, hs, rfl⟩ := iin_nI (n := 4) (by decide) hx
    obtain ⟨k, hk, rfl⟩ := iin_n hp (by omega)
    have eso := (hc s hs).1
    replace eso : M1 44 0 0 s = M 3 s 0 0 := eso
    rw [nI_clamp (by omega), nI_clamp (by omega)] at e1 e2
    rw [eso] at e2
    generalize mkV (M 3 s 0 0) v = w at e1 e2
    subst M1 M2
    refine ⟨_, _, _, _, (hR.ch (D := fun a x y f => (a = 4 ∧ x = s) ∨ a = 46) ?_ (Or.inl (fun a x y f z q => by have q1 : (a = 4 ∧ x = s) ∨ a = 46 := q; unfold RAd at z; omega)) (Or.inl (fun a x y f z q => by have q1 : (a = 4 ∧ x = s) ∨ a = 46 := q; unfold RCd at z; omega)) (Or.inl (fun a x y f z q => by have q1 : (a = 4 ∧ x = s) ∨ a = 46 := q; unfold RDd at z; omega)) (Or.inr (fun s2 hs2 => ?_)) (Or.inl (fun a x y f z q => by have q1 : (a = 4 ∧ x = s) ∨ a = 46 := q; unfold RFd at z; omega)) (Or.inl (fun a x y f z q => by have q1 : (a = 4 ∧ x = s) ∨ a = 46 := q; unfold RGd at z; omega)) (Or.inl (fun a x y f z q => by have q1 : (a = 4 ∧ x = s) ∨ a = 46 := q; unfold RHd at z; omega)))⟩
    · intro a x y f q
      have q1 : ¬ ((a = 4 ∧ x = s) ∨ a = 46) := q
      rw [zu_ne _ _ (fun e => q1 (by omega)), zu_ne _ _ (fun e => q1 (by omega))]
    · obtain ⟨g1, g2, g3, g4, g5⟩ := hR.RE s2 hs2
      rw [zu_a (a' := 3) (by decide), zu_a (a' := 3) (by decide), zu_a (a' := 44) (by decide), zu_a (a' := 44) (by decide), zu_a (a' := 45) (by decide), zu_a (a' := 45) (by decide), zu_a (a' := 4) (by decide)]
      refine ⟨g1, g2, g3, g4, fun k2 hk2 => ?_⟩
      by_cases e : s2 = s ∧ k2 = k
      · rw [e.1, e.2, zu_self, zu_self]
      · rw [zu_ne _ _ (fun z => e ⟨z.2.1, z.2.2.2⟩), zu_f (by omega), zu_a (by decide)]
        exact g5 k2 hk2
  · rw [if_neg h1] at e1 e2
    subst M1 M2
    exact ⟨_, _, _, _, hR⟩
noncomputable def Fcp (so sz : Nat → Int32) (x p y q m : Int32) : Int32 := zif (iin x 0 3 ∧ iin y 0 3) (zif (so x.toNatClampNeg < 0 ∨ so y.toNatClampNeg < 0) (-1000000011) (if so x.toNatClampNeg = so y.toNatClampNeg then zif (hRun (sz x.toNatClampNeg).toInt p.toInt m.toInt ∧ hRun (sz y.toNatClampNeg).toInt q.toInt m.toInt) m (-1000000013) else -1000000012)) (-1000000001)
def Acp (F : Int32) (u : zM) (M : zM) (r : Int32) (M' : zM) : Prop := r = F ∧ M' = if r < 0 then M else u
def cpM (M : zM) (s p t q m : Nat) : zM := zpt (zpt M 51 0 m (fun k => M 46 0 0 (24 * s + p + k))) 46 (24 * t + q) m (fun k => M 46 0 0 (24 * s + p + k))
theorem hRun_n {z p m : Int32} (hz : iin z 0 24) (h : hRun z.toInt p.toInt m.toInt) : ∃ i j : Nat, p = nI i ∧ m = nI j ∧ (i : Int) + j ≤ z.toInt := by
  unfold hRun at h
  unfold iin at hz
  refine ⟨p.toInt.toNat, m.toInt.toNat, ?_, ?_, by omega⟩
  · rw [zi_eq, nI_toInt (by omega)]
    omega
  · rw [zi_eq, nI_toInt (by omega)]
    omega
set_option maxHeartbeats 800000 in
set_option maxRecDepth 100000 in
theorem mX9_copy {l : Launch} {G : zG} {b : Nat} {M : zM} (hr : shR (fun s => M 3 s 0 0) (fun s => M 3 s 0 1)) {x p y q m : Int32} : zMet l G b yX9_copy cX9_copy 8 (some .int) 1 zshL zshL [.ref (b + 0), .int x, .int p, .int y, .int q, .int m] M (zI (Acp (Fcp (fun s => M 3 s 0 0) (fun s => M 3 s 0 1) x p y q m) (zcp M 4 x.toNatClampNeg 0 4 y.toNatClampNeg 0 p.toNatClampNeg q.toNatClampNeg m.toNatClampNeg) M)) := by
  refine zMet.of (L0 := [some (.ref (b + 0)), some (.int x), some (.int p), some (.int y), some (.int q), some (.int m), none, none]) (by decide +kernel) (Nat.le_refl _) (Nat.le_refl _) (Nat.le_of_ble_eq_true rfl) (List.forall_mem_cons.mpr ⟨rfl, List.forall_mem_cons.mpr ⟨rfl, List.forall_mem_cons.mpr ⟨rfl, List.forall_mem_cons.mpr ⟨rfl, List.forall_mem_cons.mpr ⟨rfl, List.forall_mem_cons.mpr ⟨rfl, fun _ h => absurd h List.not_mem_nil⟩⟩⟩⟩⟩⟩) rfl (fun X C Al K => ?_)
  refine z_iload_n (pc := 0) C 1 dX9_copy_0 rfl rfl ?_
  refine z_callSi (pc := 1) C dX9_copy_1 kX9_192 mX9_isSheet (by decide) rfl rfl (Nat.le_of_ble_eq_true rfl) (fun r1 M1 h1 => ?_)
  obtain ⟨h1, e1⟩ := h1
  subst M1
  refine z_if_eq (pc := 4) C 14 dX9_copy_4 (by decide) (fun c4 => ?_) (fun c4 => ?_)
  · refine z_ldc (pc := 14) C q2_96 dX9_copy_14 ?_
    refine z_ireturn (pc := 16) C K dX9_copy_16 ?_
    exact ⟨_, rfl, by rw [Fcp, zif_neg (fun q => h1.no c4 q.1)], by rw [if_pos (by decide)]⟩
  · refine z_iload_n (pc := 7) C 3 dX9_copy_7 rfl rfl ?_
    refine z_callSi (pc := 8) C dX9_copy_8 kX9_192 mX9_isSheet (by decide) rfl rfl (Nat.le_of_ble_eq_true rfl) (fun r8 M8 h8 => ?_)
    obtain ⟨h8, e8⟩ := h8
    subst M8
    refine z_if_ne (pc := 11) C 17 dX9_copy_11 (by decide) (fun c11 => ?_) (fun c11 => ?_)
    · have hx := h1.yes c4
      have hy := h8.yes c11
      obtain ⟨s, hs, rfl⟩ := iin_nI (n := 4) (by decide) hx
      obtain ⟨t, ht, rfl⟩ := iin_nI (n := 4) (by decide) hy
      have hs9 : s < 9 := by omega
      have ht9 : t < 9 := by omega
      obtain ⟨w1, w2⟩ := hr s hs
      obtain ⟨w3, w4⟩ := hr t ht
      refine z_aload_n (pc := 17) C 0 dX9_copy_17 rfl rfl ?_
      refine z_getR (pc := 18) (r := 208) C dX9_copy_18 fX9_53 sh_0 rfl ?_
      refine z_iload_n (pc := 21) C 1 dX9_copy_21 rfl rfl ?_
      refine z_aald (pc := 22) (r := adS s) C dX9_copy_22 sh_208 rfl rfl (vp_in_nI hs (by decide)) (shget hs) ?_
      refine z_astore (pc := 23) C 6 dX9_copy_23 (by decide) rfl ?_
      refine z_aload_n (pc := 25) C 0 dX9_copy_25 rfl rfl ?_
      refine z_getR (pc := 26) (r := 208) C dX9_copy_26 fX9_53 sh_0 rfl ?_
      refine z_iload_n (pc := 29) C 3 dX9_copy_29 rfl rfl ?_
      refine z_aald (pc := 30) (r := adS t) C dX9_copy_30 sh_208 rfl rfl (vp_in_nI ht (by decide)) (shget ht) ?_
      refine z_astore (pc := 31) C 7 dX9_copy_31 (by decide) rfl ?_
      refine z_aload (pc := 33) C 6 dX9_copy_33 rfl ?_
      refine z_getI (pc := 35) C dX9_copy_35 fX9_195 (shS hs9) rfl ?_
      refine z_iconst (pc := 38) (v := -1) C dX9_copy_38 rfl ?_
      refine z_icmp_eq (pc := 39) C 51 dX9_copy_39 (by decide) (fun c39 => ?_) (fun c39 => ?_)
      · refine z_ldc (pc := 51) C q3_100 dX9_copy_51 ?_
        refine z_ireturn (pc := 53) C K dX9_copy_53 ?_
        refine ⟨_, rfl, ?_, by rw [if_pos (by decide)]⟩
        rw [Fcp, zif_pos ⟨hx, hy⟩, nI_clamp (by omega), nI_clamp (by omega), zif_pos (Or.inl (by rw [c39]; decide))]
      · refine z_aload (pc := 42) C 7 dX9_copy_42 rfl ?_
        refine z_getI (pc := 44) C dX9_copy_44 fX9_195 (shS ht9) rfl ?_
        refine z_iconst (pc := 47) (v := -1) C dX9_copy_47 rfl ?_
        refine z_icmp_ne (pc := 48) C 54 dX9_copy_48 (by decide) (fun c48 => ?_) (fun c48 => ?_)
        · have so0 : ¬ (M 3 s 0 0 < 0 ∨ M 3 t 0 0 < 0) := by
            replace w1 : iin (M 3 s 0 0) (-1) 1 := w1
            replace w3 : iin (M 3 t 0 0) (-1) 1 := w3
            unfold iin at w1 w3
            rw [zi_eq, im1] at c39 c48
            rw [zi_lt, zi_lt, i0]
            omega
          refine z_aload (pc := 54) C 6 dX9_copy_54 rfl ?_
          refine z_getI (pc := 56) C dX9_copy_56 fX9_195 (shS hs9) rfl ?_
          refine z_aload (pc := 59) C 7 dX9_copy_59 rfl ?_
          refine z_getI (pc := 61) C dX9_copy_61 fX9_195 (shS ht9) rfl ?_
          refine z_icmp_eq (pc := 64) C 70 dX9_copy_64 (by decide) (fun c64 => ?_) (fun c64 => ?_)
          · refine z_aload (pc := 70) C 6 dX9_copy_70 rfl ?_
            refine z_iload_n (pc := 72) C 2 dX9_copy_72 rfl rfl ?_
            refine z_iload (pc := 73) C 5 dX9_copy_73 rfl ?_
            refine z_callVi (pc := 75) C dX9_copy_75 kX9_263 (mX2_hasRun hs9 w2) (by decide) (shS hs9) rfl rfl rfl (Nat.le_of_ble_eq_true rfl) (fun r75 M75 h75 => ?_)
            obtain ⟨h75, e75⟩ := h75
            subst M75
            refine z_if_eq (pc := 78) C 93 dX9_copy_78 (by decide) (fun c78 => ?_) (fun c78 => ?_)
            · refine z_ldc (pc := 93) C q4_98 dX9_copy_93 ?_
              refine z_ireturn (pc := 95) C K dX9_copy_95 ?_
              refine ⟨_, rfl, ?_, by rw [if_pos (by decide)]⟩
              rw [Fcp, zif_pos ⟨hx, hy⟩, nI_clamp (by omega), nI_clamp (by omega), zif_neg so0, if_pos c64, zif_neg (fun z => h75.no c78 z.1)]
            · refine z_aload (pc := 81) C 7 dX9_copy_81 rfl ?_
              refine z_iload (pc := 83) C 4 dX9_copy_83 rfl ?_
              refine z_iload (pc := 85) C 5 dX9_copy_85 rfl ?_
              refine z_callVi (pc := 87) C dX9_copy_87 kX9_263 (mX2_hasRun ht9 w4) (by decide) (shS ht9) rfl rfl rfl (Nat.le_of_ble_eq_true rfl) (fun r87 M87 h87 => ?_)
              obtain ⟨h87, e87⟩ := h87
              subst M87
              refine z_if_ne (pc := 90) C 96 dX9_copy_90 (by decide) (fun c90 => ?_) (fun c90 => ?_)
              · have r1 := h75.yes c78
                have r2 := h87.yes c90
                obtain ⟨i, j, rfl, rfl, hij⟩ := hRun_n w2 r1
                obtain ⟨i2, j2, rfl, ej, hij2⟩ := hRun_n w4 r2
                have wz := w2
                have wz2 := w4
                replace wz : iin (M 3 s 0 1) 0 24 := wz
                replace wz2 : iin (M 3 t 0 1) 0 24 := wz2
                replace hij : (i : Int) + j ≤ (M 3 s 0 1).toInt := hij
                replace hij2 : (i2 : Int) + j2 ≤ (M 3 t 0 1).toInt := hij2
                unfold iin at wz wz2
                obtain rfl : j = j2 := nI_inj' (by omega) (by omega) ej
                refine z_aload (pc := 96) C 6 dX9_copy_96 rfl ?_
                refine z_getR (pc := 98) (r := adS s + 1) C dX9_copy_98 fX9_254 (shS hs9) rfl ?_
                refine z_iload_n (pc := 101) C 2 dX9_copy_101 rfl rfl ?_
                refine z_aload (pc := 102) C 7 dX9_copy_102 rfl ?_
                refine z_getR (pc := 104) (r := adS t + 1) C dX9_copy_104 fX9_254 (shS ht9) rfl ?_
                refine z_iload (pc := 107) C 4 dX9_copy_107 rfl ?_
                refine z_iload (pc := 109) C 5 dX9_copy_109 rfl ?_
                refine z_copy (pc := 111) C (by decide) (Nat.le_of_eq zshL_len.symm) q4_118 q4_67 q4_66 q1_19 dX9_copy_111 (shSp hs9) (shSp ht9) (nI_pos (by omega)) (nI_pos (by omega)) (nI_pos (by omega)) (by rw [nI_clamp (by omega), nI_clamp (by omega)]; omega) (by rw [nI_clamp (by omega), nI_clamp (by omega)]; omega) (Nat.le_of_ble_eq_true rfl) ?_
                refine z_iload (pc := 114) C 5 dX9_copy_114 rfl ?_
                refine z_ireturn (pc := 116) C K dX9_copy_116 ?_
                refine ⟨_, rfl, ?_, ?_⟩
                · rw [Fcp, zif_pos ⟨hx, hy⟩, nI_clamp (n := s) (by omega), nI_clamp (n := t) (by omega), zif_neg so0, if_pos c64, zif_pos ⟨r1, r2⟩]
                · rw [if_neg (nI_pos (by omega)), nI_clamp (n := s) (by omega), nI_clamp (n := t) (by omega)]
              · refine z_ldc (pc := 93) C q4_98 dX9_copy_93 ?_
                refine z_ireturn (pc := 95) C K dX9_copy_95 ?_
                refine ⟨_, rfl, ?_, by rw [if_pos (by decide)]⟩
                rw [Fcp, zif_pos ⟨hx, hy⟩, nI_clamp (by omega), nI_clamp (by omega), zif_neg so0, if_pos c64, zif_neg (fun z => h87.no c90 z.2)]
          · refine z_ldc (pc := 67) C q2_162 dX9_copy_67 ?_
            refine z_ireturn (pc := 69) C K dX9_copy_69 ?_
            refine ⟨_, rfl, ?_, by rw [if_pos (by decide)]⟩
            rw [Fcp, zif_pos ⟨hx, hy⟩, nI_clamp (by omega), nI_clamp (by omega), zif_neg so0, if_neg c64]
        · refine z_ldc (pc := 51) C q3_100 dX9_copy_51 ?_
          refine z_ireturn (pc := 53) C K dX9_copy_53 ?_
          refine ⟨_, rfl, ?_, by rw [if_pos (by decide)]⟩
          rw [Fcp, zif_pos ⟨hx, hy⟩, nI_clamp (by omega), nI_clamp (by omega), zif_pos (Or.inr (by rw [c48]; decide))]
    · refine z_ldc (pc := 14) C q2_96 dX9_copy_14 ?_
      refine z_ireturn (pc := 16) C K dX9_copy_16 ?_
      exact ⟨_, rfl, by rw [Fcp, zif_neg (fun q => h8.no c11 q.2)], by rw [if_pos (by decide)]⟩

set_option maxHeartbeats 800000 in
set_option maxRecDepth 100000 in
theorem mX10_copy {l : Launch} {G : zG} {b : Nat} {M : zM} (hr : shR (fun s => M 44 0 0 s) (fun s => M 45 0 0 s)) {x p y q m : Int32} : zMet l G b yX10_copy cX10_copy 7 (some .int) 2 zshL zshL [.ref (b + 239), .int x, .int p, .int y, .int q, .int m] M (zI (Acp (Fcp (fun s => M 44 0 0 s) (fun s => M 45 0 0 s) x p y q m) (cpM M x.toNatClampNeg p.toNatClampNeg y.toNatClampNeg q.toNatClampNeg m.toNatClampNeg) M)) := by
  refine zMet.of (L0 := [some (.ref (b + 239)), some (.int x), some (.int p), some (.int y), some (.int q), some (.int m), none]) (by decide +kernel) (Nat.le_refl _) (Nat.le_refl _) (Nat.le_of_ble_eq_true rfl) (List.forall_mem_cons.mpr ⟨rfl, List.forall_mem_cons.mpr ⟨rfl, List.forall_mem_cons.mpr ⟨rfl, List.forall_mem_cons.mpr ⟨rfl, List.forall_mem_cons.mpr ⟨rfl, List.forall_mem_cons.mpr ⟨rfl, fun _ h => absurd h List.not_mem_nil⟩⟩⟩⟩⟩⟩) rfl (fun X C Al K => ?_)
  have loop2 : ∀ (s t i1 i2 j : Nat), s < 4 → t < 4 → i1 + j ≤ 24 → i2 + j ≤ 24 → x = nI s → y = nI t → p = nI i1 → q = nI i2 → m = nI j → nI j = Fcp (fun s => M 44 0 0 s) (fun s => M 45 0 0 s) x p y q m → ∀ (k i : Nat), i + k = j → zW X zshL (zpt (zpt M 51 0 j (fun k => M 46 0 0 (24 * s + i1 + k))) 46 (24 * t + i2) i (fun k => M 46 0 0 (24 * s + i1 + k))) 141 [some (.ref (b + 239)), some (.int (nI s)), some (.int (nI i1)), some (.int (nI t)), some (.int (nI i2)), some (.int (nI j)), some (.int (nI i))] [] := by
    intro s t i1 i2 j hs ht h1 h2 e1 e2 e3 e4 e5 hF k
    induction k with
    | zero =>
      intro i hi
      obtain rfl : i = j := by omega
      refine z_iload (pc := 141) C 6 dX10_copy_141 rfl ?_
      refine z_iload (pc := 143) C 5 dX10_copy_143 rfl ?_
      refine z_icmp_ge (pc := 145) C 176 dX10_copy_145 (by decide) (fun c145 => ?_) (fun c145 => absurd (Int32.le_refl _) c145)
      refine z_iload (pc := 176) C 5 dX10_copy_176 rfl ?_
      refine z_ireturn (pc := 178) C K dX10_copy_178 ?_
      refine ⟨_, rfl, hF, ?_⟩
      subst e1 e2 e3 e4 e5
      rw [if_neg (nI_pos (by omega)), nI_clamp (n := s) (by omega), nI_clamp (n := t) (by omega), nI_clamp (n := i1) (by omega), nI_clamp (n := i2) (by omega), nI_clamp (n := i) (by omega)]
      rfl
    | succ k ih =>
      intro i hi
      refine z_iload (pc := 141) C 6 dX10_copy_141 rfl ?_
      refine z_iload (pc := 143) C 5 dX10_copy_143 rfl ?_
      refine z_icmp_ge (pc := 145) C 176 dX10_copy_145 (by decide) (fun c145 => absurd c145 (nI_ge (by omega) (by omega))) (fun c145 => ?_)
      refine z_aload_n (pc := 148) C 0 dX10_copy_148 rfl rfl ?_
      refine z_getR (pc := 149) (r := 255) C dX10_copy_149 fX10_57 sh_239 rfl ?_
      refine z_bipush (pc := 152) (v := 24) C dX10_copy_152 rfl ?_
      refine z_iload_n (pc := 154) C 3 dX10_copy_154 rfl rfl ?_
      refine z_imul (pc := 155) C dX10_copy_155 ?_
      refine z_iload (pc := 156) C 4 dX10_copy_156 rfl ?_
      refine z_iadd (pc := 158) C dX10_copy_158 ?_
      refine z_iload (pc := 159) C 6 dX10_copy_159 rfl ?_
      refine z_iadd (pc := 161) C dX10_copy_161 ?_
      rw [idx24, nI_add]
      refine z_aload_n (pc := 162) C 0 dX10_copy_162 rfl rfl ?_
      refine z_getR (pc := 163) (r := 260) C dX10_copy_163 fX10_72 sh_239 rfl ?_
      refine z_iload (pc := 166) C 6 dX10_copy_166 rfl ?_
      refine z_iald (pc := 168) (n := i) C dX10_copy_168 sh_260 (vp_in_nI (by omega) (by decide)) (nI_clamp (by omega)) ?_
      rw [zpt_a (a := 51) (by decide), show zpt M 51 0 j (fun k => M 46 0 0 (24 * s + i1 + k)) 51 0 0 i = M 46 0 0 (24 * s + i1 + i) from (by have q := zpt_in (M := M) (c := 51) (lo := 0) (i := j) (g := (fun k => M 46 0 0 (24 * s + i1 + k))) (k := i) (by omega); rw [Nat.zero_add] at q; exact q)]
      refine z_iast (pc := 169) (n := 24 * t + i2 + i) C dX10_copy_169 sh_255 (vp_in_nI (by omega) (by decide)) (nI_clamp (by omega)) ?_
      refine z_iinc (pc := 170) (v := 1) C 6 dX10_copy_170 (by decide) rfl rfl rfl ?_
      refine z_goto (pc := 173) C 141 dX10_copy_173 (by decide) ?_
      have e := ih (i + 1) (by omega)
      rw [nI_succ, ← zpt_s (lo := 24 * t + i2) (i := i) (g := (fun k => M 46 0 0 (24 * s + i1 + k))) (k := 24 * t + i2 + i) rfl rfl] at e
      exact e
  have loop1 : ∀ (s t i1 i2 j : Nat), s < 4 → t < 4 → i1 + j ≤ 24 → i2 + j ≤ 24 → x = nI s → y = nI t → p = nI i1 → q = nI i2 → m = nI j → nI j = Fcp (fun s => M 44 0 0 s) (fun s => M 45 0 0 s) x p y q m → ∀ (k i : Nat), i + k = j → zW X zshL (zpt M 51 0 i (fun k => M 46 0 0 (24 * s + i1 + k))) 104 [some (.ref (b + 239)), some (.int (nI s)), some (.int (nI i1)), some (.int (nI t)), some (.int (nI i2)), some (.int (nI j)), some (.int (nI i))] [] := by
    intro s t i1 i2 j hs ht h1 h2 e1 e2 e3 e4 e5 hF k
    induction k with
    | zero =>
      intro i hi
      obtain rfl : i = j := by omega
      refine z_iload (pc := 104) C 6 dX10_copy_104 rfl ?_
      refine z_iload (pc := 106) C 5 dX10_copy_106 rfl ?_
      refine z_icmp_ge (pc := 108) C 138 dX10_copy_108 (by decide) (fun c108 => ?_) (fun c108 => absurd (Int32.le_refl _) c108)
      refine z_iconst (pc := 138) (v := 0) C dX10_copy_138 rfl ?_
      refine z_istore (pc := 139) C 6 dX10_copy_139 (by decide) rfl ?_
      have e := loop2 s t i1 i2 i hs ht h1 h2 e1 e2 e3 e4 e5 hF i 0 (by omega)
      rw [zpt_0] at e
      exact e
    | succ k ih =>
      intro i hi
      refine z_iload (pc := 104) C 6 dX10_copy_104 rfl ?_
      refine z_iload (pc := 106) C 5 dX10_copy_106 rfl ?_
      refine z_icmp_ge (pc := 108) C 138 dX10_copy_108 (by decide) (fun c108 => absurd c108 (nI_ge (by omega) (by omega))) (fun c108 => ?_)
      refine z_aload_n (pc := 111) C 0 dX10_copy_111 rfl rfl ?_
      refine z_getR (pc := 112) (r := 260) C dX10_copy_112 fX10_72 sh_239 rfl ?_
      refine z_iload (pc := 115) C 6 dX10_copy_115 rfl ?_
      refine z_aload_n (pc := 117) C 0 dX10_copy_117 rfl rfl ?_
      refine z_getR (pc := 118) (r := 255) C dX10_copy_118 fX10_57 sh_239 rfl ?_
      refine z_bipush (pc := 121) (v := 24) C dX10_copy_121 rfl ?_
      refine z_iload_n (pc := 123) C 1 dX10_copy_123 rfl rfl ?_
      refine z_imul (pc := 124) C dX10_copy_124 ?_
      refine z_iload_n (pc := 125) C 2 dX10_copy_125 rfl rfl ?_
      refine z_iadd (pc := 126) C dX10_copy_126 ?_
      refine z_iload (pc := 127) C 6 dX10_copy_127 rfl ?_
      refine z_iadd (pc := 129) C dX10_copy_129 ?_
      rw [idx24, nI_add]
      refine z_iald (pc := 130) (n := 24 * s + i1 + i) C dX10_copy_130 sh_255 (vp_in_nI (by omega) (by decide)) (nI_clamp (by omega)) ?_
      rw [zpt_a (a := 46) (by decide)]
      refine z_iast (pc := 131) (n := i) C dX10_copy_131 sh_260 (vp_in_nI (by omega) (by decide)) (nI_clamp (by omega)) ?_
      refine z_iinc (pc := 132) (v := 1) C 6 dX10_copy_132 (by decide) rfl rfl rfl ?_
      refine z_goto (pc := 135) C 104 dX10_copy_135 (by decide) ?_
      have e := ih (i + 1) (by omega)
      rw [nI_succ, ← zpt_s (lo := 0) (i := i) (g := (fun k => M 46 0 0 (24 * s + i1 + k))) (k := i) rfl (Nat.zero_add _).symm] at e
      exact e
  refine z_iload_n (pc := 0) C 1 dX10_copy_0 rfl rfl ?_
  refine z_callSi (pc := 1) C dX10_copy_1 kX10_198 mX10_isSheet (by decide) rfl rfl (Nat.le_of_ble_eq_true rfl) (fun r1 M1 h1 => ?_)
  obtain ⟨h1, e1⟩ := h1
  subst M1
  refine z_if_eq (pc := 4) C 14 dX10_copy_4 (by decide) (fun c4 => ?_) (fun c4 => ?_)
  · refine z_ldc (pc := 14) C q5_48 dX10_copy_14 ?_
    refine z_ireturn (pc := 16) C K dX10_copy_16 ?_
    exact ⟨_, rfl, by rw [Fcp, zif_neg (fun q => h1.no c4 q.1)], by rw [if_pos (by decide)]⟩
  · refine z_iload_n (pc := 7) C 3 dX10_copy_7 rfl rfl ?_
    refine z_callSi (pc := 8) C dX10_copy_8 kX10_198 mX10_isSheet (by decide) rfl rfl (Nat.le_of_ble_eq_true rfl) (fun r8 M8 h8 => ?_)
    obtain ⟨h8, e8⟩ := h8
    subst M8
    refine z_if_ne (pc := 11) C 17 dX10_copy_11 (by decide) (fun c11 => ?_) (fun c11 => ?_)
    · have hx := h1.yes c4
      have hy := h8.yes c11
      obtain ⟨s, hs, rfl⟩ := iin_nI (n := 4) (by decide) hx
      obtain ⟨t, ht, rfl⟩ := iin_nI (n := 4) (by decide) hy
      have hs9 : s < 9 := by omega
      have ht9 : t < 9 := by omega
      obtain ⟨w1, w2⟩ := hr s hs
      obtain ⟨w3, w4⟩ := hr t ht
      replace w1 : iin (M 44 0 0 s) (-1) 1 := w1
      replace w2 : iin (M 45 0 0 s) 0 24 := w2
      replace w3 : iin (M 44 0 0 t) (-1) 1 := w3
      replace w4 : iin (M 45 0 0 t) 0 24 := w4
      unfold iin at w1 w2 w3 w4
      refine z_aload_n (pc := 17) C 0 dX10_copy_17 rfl rfl ?_
      refine z_getR (pc := 18) (r := 253) C dX10_copy_18 fX10_51 sh_239 rfl ?_
      refine z_iload_n (pc := 21) C 1 dX10_copy_21 rfl rfl ?_
      refine z_iald (pc := 22) (n := s) C dX10_copy_22 sh_253 (vp_in_nI (by omega) (by decide)) (nI_clamp (by omega)) ?_
      refine z_if_lt (pc := 23) C 35 dX10_copy_23 (by decide) (fun c23 => ?_) (fun c23 => ?_)
      · refine z_ldc (pc := 35) C q6_15 dX10_copy_35 ?_
        refine z_ireturn (pc := 37) C K dX10_copy_37 ?_
        refine ⟨_, rfl, ?_, by rw [if_pos (by decide)]⟩
        rw [Fcp, zif_pos ⟨hx, hy⟩, nI_clamp (by omega), nI_clamp (by omega), zif_pos (Or.inl c23)]
      · refine z_aload_n (pc := 26) C 0 dX10_copy_26 rfl rfl ?_
        refine z_getR (pc := 27) (r := 253) C dX10_copy_27 fX10_51 sh_239 rfl ?_
        refine z_iload_n (pc := 30) C 3 dX10_copy_30 rfl rfl ?_
        refine z_iald (pc := 31) (n := t) C dX10_copy_31 sh_253 (vp_in_nI (by omega) (by decide)) (nI_clamp (by omega)) ?_
        refine z_if_ge (pc := 32) C 38 dX10_copy_32 (by decide) (fun c32 => ?_) (fun c32 => ?_)
        · have so0 : ¬ (M 44 0 0 s < 0 ∨ M 44 0 0 t < 0) := fun z => z.elim c23 (fun g => Int32.not_le.mpr g c32)
          refine z_aload_n (pc := 38) C 0 dX10_copy_38 rfl rfl ?_
          refine z_getR (pc := 39) (r := 253) C dX10_copy_39 fX10_51 sh_239 rfl ?_
          refine z_iload_n (pc := 42) C 1 dX10_copy_42 rfl rfl ?_
          refine z_iald (pc := 43) (n := s) C dX10_copy_43 sh_253 (vp_in_nI (by omega) (by decide)) (nI_clamp (by omega)) ?_
          refine z_aload_n (pc := 44) C 0 dX10_copy_44 rfl rfl ?_
          refine z_getR (pc := 45) (r := 253) C dX10_copy_45 fX10_51 sh_239 rfl ?_
          refine z_iload_n (pc := 48) C 3 dX10_copy_48 rfl rfl ?_
          refine z_iald (pc := 49) (n := t) C dX10_copy_49 sh_253 (vp_in_nI (by omega) (by decide)) (nI_clamp (by omega)) ?_
          refine z_icmp_eq (pc := 50) C 56 dX10_copy_50 (by decide) (fun c50 => ?_) (fun c50 => ?_)
          · refine z_iload_n (pc := 56) C 2 dX10_copy_56 rfl rfl ?_
            refine z_if_lt (pc := 57) C 97 dX10_copy_57 (by decide) (fun c57 => ?_) (fun c57 => ?_)
            · refine z_ldcw (pc := 97) C q6_104 dX10_copy_97 ?_
              refine z_ireturn (pc := 100) C K dX10_copy_100 ?_
              have hno : ¬ (hRun (M 45 0 0 s).toInt p.toInt m.toInt ∧ hRun (M 45 0 0 t).toInt q.toInt m.toInt) := by
                intro z
                unfold hRun at z
                have a1 : (M 45 0 0 s - m).toInt = (M 45 0 0 s).toInt - m.toInt := zi_sub (by omega) (by omega)
                have a2 : (M 45 0 0 t - m).toInt = (M 45 0 0 t).toInt - m.toInt := zi_sub (by omega) (by omega)
                simp only [zi_lt, zi_le, zi_eq, i0, i1, i2, i3, i4, i5, i6, i9, i20, i99, i100, im5, im20, im1, i24] at c57
                omega
              refine ⟨_, rfl, ?_, by rw [if_pos (by decide)]⟩
              rw [Fcp, zif_pos ⟨hx, hy⟩, nI_clamp (by omega), nI_clamp (by omega), zif_neg so0, if_pos c50, zif_neg hno]
            · refine z_iload (pc := 60) C 4 dX10_copy_60 rfl ?_
              refine z_if_lt (pc := 62) C 97 dX10_copy_62 (by decide) (fun c62 => ?_) (fun c62 => ?_)
              · refine z_ldcw (pc := 97) C q6_104 dX10_copy_97 ?_
                refine z_ireturn (pc := 100) C K dX10_copy_100 ?_
                have hno : ¬ (hRun (M 45 0 0 s).toInt p.toInt m.toInt ∧ hRun (M 45 0 0 t).toInt q.toInt m.toInt) := by
                  intro z
                  unfold hRun at z
                  have a1 : (M 45 0 0 s - m).toInt = (M 45 0 0 s).toInt - m.toInt := zi_sub (by omega) (by omega)
                  have a2 : (M 45 0 0 t - m).toInt = (M 45 0 0 t).toInt - m.toInt := zi_sub (by omega) (by omega)
                  simp only [zi_lt, zi_le, zi_eq, i0, i1, i2, i3, i4, i5, i6, i9, i20, i99, i100, im5, im20, im1, i24] at c57 c62
                  omega
                refine ⟨_, rfl, ?_, by rw [if_pos (by decide)]⟩
                rw [Fcp, zif_pos ⟨hx, hy⟩, nI_clamp (by omega), nI_clamp (by omega), zif_neg so0, if_pos c50, zif_neg hno]
              · refine z_iload (pc := 65) C 5 dX10_copy_65 rfl ?_
                refine z_if_lt (pc := 67) C 97 dX10_copy_67 (by decide) (fun c67 => ?_) (fun c67 => ?_)
                · refine z_ldcw (pc := 97) C q6_104 dX10_copy_97 ?_
                  refine z_ireturn (pc := 100) C K dX10_copy_100 ?_
                  have hno : ¬ (hRun (M 45 0 0 s).toInt p.toInt m.toInt ∧ hRun (M 45 0 0 t).toInt q.toInt m.toInt) := by
                    intro z
                    unfold hRun at z
                    have a1 : (M 45 0 0 s - m).toInt = (M 45 0 0 s).toInt - m.toInt := zi_sub (by omega) (by omega)
                    have a2 : (M 45 0 0 t - m).toInt = (M 45 0 0 t).toInt - m.toInt := zi_sub (by omega) (by omega)
                    simp only [zi_lt, zi_le, zi_eq, i0, i1, i2, i3, i4, i5, i6, i9, i20, i99, i100, im5, im20, im1, i24] at c57 c62 c67
                    omega
                  refine ⟨_, rfl, ?_, by rw [if_pos (by decide)]⟩
                  rw [Fcp, zif_pos ⟨hx, hy⟩, nI_clamp (by omega), nI_clamp (by omega), zif_neg so0, if_pos c50, zif_neg hno]
                · refine z_iload_n (pc := 70) C 2 dX10_copy_70 rfl rfl ?_
                  refine z_aload_n (pc := 71) C 0 dX10_copy_71 rfl rfl ?_
                  refine z_getR (pc := 72) (r := 254) C dX10_copy_72 fX10_54 sh_239 rfl ?_
                  refine z_iload_n (pc := 75) C 1 dX10_copy_75 rfl rfl ?_
                  refine z_iald (pc := 76) (n := s) C dX10_copy_76 sh_254 (vp_in_nI (by omega) (by decide)) (nI_clamp (by omega)) ?_
                  refine z_iload (pc := 77) C 5 dX10_copy_77 rfl ?_
                  refine z_isub (pc := 79) C dX10_copy_79 ?_
                  refine z_icmp_gt (pc := 80) C 97 dX10_copy_80 (by decide) (fun c80 => ?_) (fun c80 => ?_)
                  · refine z_ldcw (pc := 97) C q6_104 dX10_copy_97 ?_
                    refine z_ireturn (pc := 100) C K dX10_copy_100 ?_
                    have hno : ¬ (hRun (M 45 0 0 s).toInt p.toInt m.toInt ∧ hRun (M 45 0 0 t).toInt q.toInt m.toInt) := by
                      intro z
                      unfold hRun at z
                      have a1 : (M 45 0 0 s - m).toInt = (M 45 0 0 s).toInt - m.toInt := zi_sub (by omega) (by omega)
                      have a2 : (M 45 0 0 t - m).toInt = (M 45 0 0 t).toInt - m.toInt := zi_sub (by omega) (by omega)
                      simp only [zi_lt, zi_le, zi_eq, i0, i1, i2, i3, i4, i5, i6, i9, i20, i99, i100, im5, im20, im1, i24, a1] at c57 c62 c67 c80
                      omega
                    refine ⟨_, rfl, ?_, by rw [if_pos (by decide)]⟩
                    rw [Fcp, zif_pos ⟨hx, hy⟩, nI_clamp (by omega), nI_clamp (by omega), zif_neg so0, if_pos c50, zif_neg hno]
                  · refine z_iload (pc := 83) C 4 dX10_copy_83 rfl ?_
                    refine z_aload_n (pc := 85) C 0 dX10_copy_85 rfl rfl ?_
                    refine z_getR (pc := 86) (r := 254) C dX10_copy_86 fX10_54 sh_239 rfl ?_
                    refine z_iload_n (pc := 89) C 3 dX10_copy_89 rfl rfl ?_
                    refine z_iald (pc := 90) (n := t) C dX10_copy_90 sh_254 (vp_in_nI (by omega) (by decide)) (nI_clamp (by omega)) ?_
                    refine z_iload (pc := 91) C 5 dX10_copy_91 rfl ?_
                    refine z_isub (pc := 93) C dX10_copy_93 ?_
                    refine z_icmp_le (pc := 94) C 101 dX10_copy_94 (by decide) (fun c94 => ?_) (fun c94 => ?_)
                    · refine z_iconst (pc := 101) (v := 0) C dX10_copy_101 rfl ?_
                      refine z_istore (pc := 102) C 6 dX10_copy_102 (by decide) rfl ?_
                      have m0 : 0 ≤ m.toInt := by
                        simp only [zi_lt, zi_le, zi_eq, i0, i1, i2, i3, i4, i5, i6, i9, i20, i99, i100, im5, im20, im1, i24] at c67
                        omega
                      have hb := Int32.toInt_lt m
                      have a1 : (M 45 0 0 s - m).toInt = (M 45 0 0 s).toInt - m.toInt := zi_sub (by omega) (by omega)
                      have a2 : (M 45 0 0 t - m).toInt = (M 45 0 0 t).toInt - m.toInt := zi_sub (by omega) (by omega)
                      simp only [zi_lt, zi_le, zi_eq, i0, i1, i2, i3, i4, i5, i6, i9, i20, i99, i100, im5, im20, im1, i24, a1, a2] at c57 c62 c67 c80 c94
                      have r1 : hRun (M 45 0 0 s).toInt p.toInt m.toInt := ⟨by omega, by omega, by omega, by omega⟩
                      have r2 : hRun (M 45 0 0 t).toInt q.toInt m.toInt := ⟨by omega, by omega, by omega, by omega⟩
                      obtain ⟨i, j, rfl, rfl, hij⟩ := hRun_n w2 r1
                      obtain ⟨i2, j2, rfl, ej, hij2⟩ := hRun_n w4 r2
                      obtain rfl : j = j2 := nI_inj' (by omega) (by omega) ej
                      have e := loop1 s t i i2 j hs ht (by omega) (by omega) rfl rfl rfl rfl rfl (by rw [Fcp, zif_pos ⟨hx, hy⟩, nI_clamp (n := s) (by omega), nI_clamp (n := t) (by omega), zif_neg so0, if_pos c50, zif_pos ⟨r1, r2⟩]) j 0 (by omega)
                      rw [zpt_0] at e
                      exact e
                    · refine z_ldcw (pc := 97) C q6_104 dX10_copy_97 ?_
                      refine z_ireturn (pc := 100) C K dX10_copy_100 ?_
                      have hno : ¬ (hRun (M 45 0 0 s).toInt p.toInt m.toInt ∧ hRun (M 45 0 0 t).toInt q.toInt m.toInt) := by
                        intro z
                        unfold hRun at z
                        have a1 : (M 45 0 0 s - m).toInt = (M 45 0 0 s).toInt - m.toInt := zi_sub (by omega) (by omega)
                        have a2 : (M 45 0 0 t - m).toInt = (M 45 0 0 t).toInt - m.toInt := zi_sub (by omega) (by omega)
                        simp only [zi_lt, zi_le, zi_eq, i0, i1, i2, i3, i4, i5, i6, i9, i20, i99, i100, im5, im20, im1, i24, a1, a2] at c57 c62 c67 c80 c94
                        omega
                      refine ⟨_, rfl, ?_, by rw [if_pos (by decide)]⟩
                      rw [Fcp, zif_pos ⟨hx, hy⟩, nI_clamp (by omega), nI_clamp (by omega), zif_neg so0, if_pos c50, zif_neg hno]
          · refine z_ldc (pc := 53) C q5_99 dX10_copy_53 ?_
            refine z_ireturn (pc := 55) C K dX10_copy_55 ?_
            refine ⟨_, rfl, ?_, by rw [if_pos (by decide)]⟩
            rw [Fcp, zif_pos ⟨hx, hy⟩, nI_clamp (by omega), nI_clamp (by omega), zif_neg so0, if_neg c50]
        · refine z_ldc (pc := 35) C q6_15 dX10_copy_35 ?_
          refine z_ireturn (pc := 37) C K dX10_copy_37 ?_
          refine ⟨_, rfl, ?_, by rw [if_pos (by decide)]⟩
          rw [Fcp, zif_pos ⟨hx, hy⟩, nI_clamp (by omega), nI_clamp (by omega), zif_pos (Or.inr (Int32.not_le.mp c32))]
    · refine z_ldc (pc := 14) C q5_48 dX10_copy_14 ?_
      refine z_ireturn (pc := 16) C K dX10_copy_16 ?_
      exact ⟨_, rfl, by rw [Fcp, zif_neg (fun q => h8.no c11 q.2)], by rw [if_pos (by decide)]⟩

theorem Fcp_ok {so sz : Nat → Int32} {x p y q m : Int32} (hr : shR so sz) (h : ¬ Fcp so sz x p y q m < 0) : ∃ s t i1 i2 j : Nat, s < 4 ∧ t < 4 ∧ i1 + j ≤ 24 ∧ i2 + j ≤ 24 ∧ x = nI s ∧ y = nI t ∧ p = nI i1 ∧ q = nI i2 ∧ m = nI j := by
  unfold Fcp at h
  by_cases q1 : iin x 0 3 ∧ iin y 0 3
  · rw [zif_pos q1] at h
    obtain ⟨s, hs, rfl⟩ := iin_nI (n := 4) (by decide) q1.1
    obtain ⟨t, ht, rfl⟩ := iin_nI (n := 4) (by decide) q1.2
    rw [nI_clamp (by omega), nI_clamp (by omega)] at h
    obtain ⟨w1, w2⟩ := hr s hs
    obtain ⟨w3, w4⟩ := hr t ht
    by_cases q2 : so s < 0 ∨ so t < 0
    · rw [zif_pos q2] at h
      exact absurd (by decide) h
    · rw [zif_neg q2] at h
      by_cases q3 : so s = so t
      · rw [if_pos q3] at h
        by_cases q4 : hRun (sz s).toInt p.toInt m.toInt ∧ hRun (sz t).toInt q.toInt m.toInt
        · obtain ⟨i, j, rfl, rfl, hij⟩ := hRun_n w2 q4.1
          obtain ⟨i2, j2, rfl, ej, hij2⟩ := hRun_n w4 q4.2
          unfold iin at w2 w4
          obtain rfl : j = j2 := nI_inj' (by omega) (by omega) ej
          exact ⟨s, t, i, i2, j, hs, ht, by omega, by omega, rfl, rfl, rfl, rfl, rfl⟩
        · rw [zif_neg q4] at h
          exact absurd (by decide) h
      · rw [if_neg q3] at h
        exact absurd (by decide) h
  · rw [zif_neg q1] at h
    exact absurd (by decide) h
theorem Fcp_c {so sz so' sz' : Nat → Int32} (h : ∀ s, s < 4 → so' s = so s ∧ sz' s = sz s) (x p y q m : Int32) : Fcp so' sz' x p y q m = Fcp so sz x p y q m := by
  unfold Fcp
  by_cases q1 : iin x 0 3 ∧ iin y 0 3
  · rw [zif_pos q1, zif_pos q1]
    obtain ⟨s, hs, rfl⟩ := iin_nI (n := 4) (by decide) q1.1
    obtain ⟨t, ht, rfl⟩ := iin_nI (n := 4) (by decide) q1.2
    rw [nI_clamp (n := s) (by omega), nI_clamp (n := t) (by omega), (h s hs).1, (h s hs).2, (h t ht).1, (h t ht).2]
  · rw [zif_neg q1, zif_neg q1]
theorem op_copy {l : Launch} {G : zG} {b : Nat} {M : zM} (hM : Rel M) {x p y q m : Int32} : opOK l G b yX9_copy cX9_copy 8 1 yX10_copy cX10_copy 7 2 [.int x, .int p, .int y, .int q, .int m] M := by
  obtain ⟨n, T, ky, ln, hR⟩ := hM
  refine ⟨_, mX9_copy hR.shR, fun r M1 h1 => ?_⟩
  obtain ⟨rfl, e1⟩ := h1
  have hc : ∀ s, s < 4 → (fun s => M1 44 0 0 s) s = (fun s => M 3 s 0 0) s ∧ (fun s => M1 45 0 0 s) s = (fun s => M 3 s 0 1) s := fun s hs => by
    obtain ⟨g1, g2, g3, g4, g5⟩ := hR.RE s hs
    show M1 44 0 0 s = M 3 s 0 0 ∧ M1 45 0 0 s = M 3 s 0 1
    rw [g1, g3, e1]
    split
    · exact ⟨rfl, rfl⟩
    · exact ⟨if_neg (fun z => absurd z.1 (by decide)), if_neg (fun z => absurd z.1 (by decide))⟩
  refine zI.post (mX10_copy (shR_c hc hR.shR)) (fun r2 M2 h2 => ?_)
  obtain ⟨rfl, e2⟩ := h2
  have hF := Fcp_c hc x p y q m
  rw [hF] at e2 ⊢
  refine ⟨rfl, ?_⟩
  by_cases h1 : Fcp (fun s => M 3 s 0 0) (fun s => M 3 s 0 1) x p y q m < 0
  · rw [if_pos h1] at e1 e2
    subst M1 M2
    exact ⟨_, _, _, _, hR⟩
  · rw [if_neg h1] at e1 e2
    obtain ⟨s, t, i1, i2, j, hs, ht, k1, k2, rfl, rfl, rfl, rfl, rfl⟩ := Fcp_ok hR.shR h1
    rw [nI_clamp (n := s) (by omega), nI_clamp (n := t) (by omega), nI_clamp (n := i1) (by omega), nI_clamp (n := i2) (by omega), nI_clamp (n := j) (by omega)] at e1 e2
    subst M1 M2
    refine ⟨_, _, _, _, (hR.ch (D := fun a x y f => (a = 4 ∧ x < 4) ∨ a = 46 ∨ a = 51) ?_ (Or.inl (fun a x y f z q => by have q1 : (a = 4 ∧ x < 4) ∨ a = 46 ∨ a = 51 := q; unfold RAd at z; omega)) (Or.inl (fun a x y f z q => by have q1 : (a = 4 ∧ x < 4) ∨ a = 46 ∨ a = 51 := q; unfold RCd at z; omega)) (Or.inl (fun a x y f z q => by have q1 : (a = 4 ∧ x < 4) ∨ a = 46 ∨ a = 51 := q; unfold RDd at z; omega)) (Or.inr (fun s2 hs2 => ?_)) (Or.inl (fun a x y f z q => by have q1 : (a = 4 ∧ x < 4) ∨ a = 46 ∨ a = 51 := q; unfold RFd at z; omega)) (Or.inl (fun a x y f z q => by have q1 : (a = 4 ∧ x < 4) ∨ a = 46 ∨ a = 51 := q; unfold RGd at z; omega)) (Or.inl (fun a x y f z q => by have q1 : (a = 4 ∧ x < 4) ∨ a = 46 ∨ a = 51 := q; unfold RHd at z; omega)))⟩
    · intro a x y f q
      have q1 : ¬ ((a = 4 ∧ x < 4) ∨ a = 46 ∨ a = 51) := q
      unfold cpM
      rw [zpt_o (fun e => q1 (by omega)), zpt_o (fun e => q1 (by omega))]
      exact if_neg (fun e => q1 (by omega))
    · obtain ⟨g1, g2, g3, g4, g5⟩ := hR.RE s2 hs2
      have f46 : ∀ k, zcp M 4 s 0 4 t 0 i1 i2 j 46 0 0 k = M 46 0 0 k := fun k => if_neg (fun z => absurd z.1 (by decide))
      have f3 : ∀ k, zcp M 4 s 0 4 t 0 i1 i2 j 3 s2 0 k = M 3 s2 0 k := fun k => if_neg (fun z => absurd z.1 (by decide))
      have f44 : zcp M 4 s 0 4 t 0 i1 i2 j 44 0 0 s2 = M 44 0 0 s2 := if_neg (fun z => absurd z.1 (by decide))
      have f45 : zcp M 4 s 0 4 t 0 i1 i2 j 45 0 0 s2 = M 45 0 0 s2 := if_neg (fun z => absurd z.1 (by decide))
      unfold cpM
      rw [zpt_a (a := 3) (by decide), zpt_a (a := 3) (by decide), zpt_a (a := 44) (by decide), zpt_a (a := 44) (by decide), zpt_a (a := 45) (by decide), zpt_a (a := 45) (by decide), zpt_a (a := 4) (by decide), zpt_a (a := 4) (by decide), f3, f3, f44, f45]
      refine ⟨g1, g2, g3, g4, fun k hk => ?_⟩
      by_cases e : s2 = t ∧ i2 ≤ k ∧ k < i2 + j
      · obtain ⟨rfl, e1, e2⟩ := e
        obtain ⟨d, rfl⟩ : ∃ d, k = i2 + d := ⟨k - i2, by omega⟩
        rw [show 24 * s2 + (i2 + d) = 24 * s2 + i2 + d by omega, zpt_in (by omega), f46]
        have w : zcp M 4 s 0 4 s2 0 i1 i2 j 4 s2 0 (i2 + d) = M 4 s 0 (i1 + (i2 + d - i2)) := if_pos ⟨rfl, rfl, rfl, by omega, by omega⟩
        rw [w, show i2 + d - i2 = d by omega, show 24 * s + i1 + d = 24 * s + (i1 + d) by omega]
        exact (hR.RE s hs).2.2.2.2 (i1 + d) (by omega)
      · have w : zcp M 4 s 0 4 t 0 i1 i2 j 4 s2 0 k = M 4 s2 0 k := if_neg (fun z => e ⟨z.2.1, z.2.2.2.1, z.2.2.2.2⟩)
        rw [w, zpt_o (by omega), zpt_a (by decide), f46]
        exact g5 k hk