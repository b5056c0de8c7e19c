/-! lay -/
noncomputable def Flay (th so : Nat → Int32) (n : Nat) (x t k : Int32) : Int32 := zif (iin x 0 4 ∧ iin t 0 3 ∧ (t = 1 → iin k 0 ((n : Int) - 1)) ∧ (t = 2 → iin k 0 3)) (zif (t = 2 ∧ so k.toNatClampNeg < 0) (-1000000011) (th x.toNatClampNeg)) (-1000000001)
def layC (M : zM) (s : Nat) (t k : Int32) : zM := if t = 1 then pCopy (zu M 25 s 0 0 t) (14 + s) 0 0 k.toNatClampNeg else if t = 2 then shC2 (zu M 25 s 0 0 t) (4 + s) k.toNatClampNeg else zu (zu M 25 s 0 0 t) 25 s 0 3 k
def layA (M : zM) (t k : Int32) : Int32 := if t = 1 then mp M k.toNatClampNeg 0 else if t = 2 then M 45 0 0 k.toNatClampNeg else k
def layB (M : zM) (t k : Int32) : Int32 := if t = 1 then s_worth (mp M k.toNatClampNeg 0) (mp M k.toNatClampNeg 2) (mp M k.toNatClampNeg 3) else 0
def layM0 (M : zM) (s : Nat) (t k : Int32) : zM := zu (zu (zu M 47 0 0 s t) 48 0 0 s (layA M t k)) 49 0 0 s (layB M t k)
def layM (M : zM) (s : Nat) (t k : Int32) : zM := if t = 2 then zpt (layM0 M s t k) 50 (24 * s) 24 (fun i => M 46 0 0 (24 * k.toNatClampNeg + i)) else layM0 M s t k
set_option maxHeartbeats 800000 in
set_option maxRecDepth 100000 in
theorem mX9_lay {l : Launch} {G : zG} {b : Nat} {M : zM} {n T : Nat} {ky ln : Nat → Nat} (hR : RR M n T ky ln) {x t k : Int32} : zMet l G b yX9_lay cX9_lay 6 (some .int) 2 zshL zshL [.ref (b + 0), .int x, .int t, .int k] M (zI (Acp (Flay (fun s => M 25 s 0 0) (fun s => M 3 s 0 0) n x t k) (layC M x.toNatClampNeg t k) M)) := by
  refine zMet.of (L0 := [some (.ref (b + 0)), some (.int x), some (.int t), some (.int k), none, none]) (by decide +kernel) (Nat.le_refl _) (Nat.le_refl _) (Nat.le_of_ble_eq_true rfl) (List.forall_mem_cons.mpr ⟨rfl, List.forall_mem_cons.mpr ⟨rfl, List.forall_mem_cons.mpr ⟨rfl, List.forall_mem_cons.mpr ⟨rfl, fun _ h => absurd h List.not_mem_nil⟩⟩⟩⟩) rfl (fun X C Al K => ?_)
  refine z_iload_n (pc := 0) C 1 dX9_lay_0 rfl rfl ?_
  refine z_callSi (pc := 1) C dX9_lay_1 kX9_272 mX9_isSlot (by decide) rfl rfl (Nat.le_of_ble_eq_true rfl) (fun r1 M1 h1 => ?_)
  obtain ⟨h1, e1⟩ := h1
  subst M1
  refine z_if_eq (pc := 4) C 41 dX9_lay_4 (by decide) (fun c4 => ?_) (fun c4 => ?_)
  · refine z_ldc (pc := 41) C q2_96 dX9_lay_41 ?_
    refine z_ireturn (pc := 43) C K dX9_lay_43 ?_
    refine ⟨_, rfl, ?_, by rw [if_pos (by decide)]⟩
    rw [Flay, zif_neg (by exact fun q => h1.no c4 q.1)]
  · refine z_iload_n (pc := 7) C 2 dX9_lay_7 rfl rfl ?_
    refine z_if_lt (pc := 8) C 41 dX9_lay_8 (by decide) (fun c8 => ?_) (fun c8 => ?_)
    · refine z_ldc (pc := 41) C q2_96 dX9_lay_41 ?_
      refine z_ireturn (pc := 43) C K dX9_lay_43 ?_
      refine ⟨_, rfl, ?_, by rw [if_pos (by decide)]⟩
      rw [Flay, zif_neg (by intro q; have z := q.2.1.1; rw [zi_lt, i0] at c8; omega)]
    · refine z_iload_n (pc := 11) C 2 dX9_lay_11 rfl rfl ?_
      refine z_iconst (pc := 12) (v := 3) C dX9_lay_12 rfl ?_
      refine z_icmp_gt (pc := 13) C 41 dX9_lay_13 (by decide) (fun c13 => ?_) (fun c13 => ?_)
      · refine z_ldc (pc := 41) C q2_96 dX9_lay_41 ?_
        refine z_ireturn (pc := 43) C K dX9_lay_43 ?_
        refine ⟨_, rfl, ?_, by rw [if_pos (by decide)]⟩
        rw [Flay, zif_neg (by intro q; have z := q.2.1.2; rw [zi_lt, i3] at c13; omega)]
      · refine z_iload_n (pc := 16) C 2 dX9_lay_16 rfl rfl ?_
        refine z_iconst (pc := 17) (v := 1) C dX9_lay_17 rfl ?_
        refine z_icmp_ne (pc := 18) C 29 dX9_lay_18 (by decide) (fun c18 => ?_) (fun c18 => ?_)
        · refine z_iload_n (pc := 29) C 2 dX9_lay_29 rfl rfl ?_
          refine z_iconst (pc := 30) (v := 2) C dX9_lay_30 rfl ?_
          refine z_icmp_ne (pc := 31) C 44 dX9_lay_31 (by decide) (fun c31 => ?_) (fun c31 => ?_)
          · have hx := h1.yes c4
            have hit : iin t 0 3 := by
              rw [zi_lt, i0] at c8
              rw [zi_lt, i3] at c13
              unfold iin
              omega
            have hall : iin x 0 4 ∧ iin t 0 3 ∧ (t = 1 → iin k 0 ((n : Int) - 1)) ∧ (t = 2 → iin k 0 3) := ⟨hx, hit, fun e => absurd e c18, fun e => absurd e c31⟩
            obtain ⟨s, hs, rfl⟩ := iin_nI (n := 5) (by decide) hx
            obtain ⟨f1, f2, f3, f4, f5⟩ := hR.RF s hs
            refine z_iload_n (pc := 44) C 2 dX9_lay_44 rfl rfl ?_
            refine z_iconst (pc := 45) (v := 2) C dX9_lay_45 rfl ?_
            refine z_icmp_ne (pc := 46) C 65 dX9_lay_46 (by decide) (fun c46 => ?_) (fun c46 => absurd c46 c31)
            refine z_aload_n (pc := 65) C 0 dX9_lay_65 rfl rfl ?_
            refine z_getR (pc := 66) (r := 209) C dX9_lay_66 fX9_59 sh_0 rfl ?_
            refine z_iload_n (pc := 69) C 1 dX9_lay_69 rfl rfl ?_
            refine z_aald (pc := 70) (r := 219 + 4 * s) C dX9_lay_70 sh_209 rfl rfl (vp_in_nI hs (by decide)) (slget hs) ?_
            refine z_astore (pc := 71) C 4 dX9_lay_71 (by decide) rfl ?_
            refine z_aload (pc := 73) C 4 dX9_lay_73 rfl ?_
            refine z_getI (pc := 75) C dX9_lay_75 fX9_275 (shL hs) rfl ?_
            refine z_istore (pc := 78) C 5 dX9_lay_78 (by decide) rfl ?_
            refine z_aload (pc := 80) C 4 dX9_lay_80 rfl ?_
            refine z_iload_n (pc := 82) C 2 dX9_lay_82 rfl rfl ?_
            refine z_putII (pc := 83) C dX9_lay_83 fX9_275 (shL hs) rfl ?_
            refine z_iload_n (pc := 86) C 2 dX9_lay_86 rfl rfl ?_
            refine z_iconst (pc := 87) (v := 1) C dX9_lay_87 rfl ?_
            refine z_icmp_ne (pc := 88) C 111 dX9_lay_88 (by decide) (fun c88 => ?_) (fun c88 => absurd c88 c18)
            refine z_iload_n (pc := 111) C 2 dX9_lay_111 rfl rfl ?_
            refine z_iconst (pc := 112) (v := 2) C dX9_lay_112 rfl ?_
            refine z_icmp_ne (pc := 113) C 133 dX9_lay_113 (by decide) (fun c113 => ?_) (fun c113 => absurd c113 c31)
            refine z_aload (pc := 133) C 4 dX9_lay_133 rfl ?_
            refine z_iload_n (pc := 135) C 3 dX9_lay_135 rfl rfl ?_
            refine z_putII (pc := 136) C dX9_lay_136 fX9_292 (shL hs) rfl ?_
            refine z_iload (pc := 139) C 5 dX9_lay_139 rfl ?_
            refine z_ireturn (pc := 141) C K dX9_lay_141 ?_
            have hth : ¬ M 25 s 0 0 < 0 := by
              rw [f1, zi_lt, i0]
              unfold iin at f2
              omega
            refine ⟨_, rfl, ?_, ?_⟩
            · rw [Flay, zif_pos hall, zif_neg (fun q => c31 q.1), nI_clamp (n := s) (by omega)]
            · rw [if_neg hth, nI_clamp (n := s) (by omega), layC, if_neg c18, if_neg c31]
          · refine z_iload_n (pc := 34) C 3 dX9_lay_34 rfl rfl ?_
            refine z_callSi (pc := 35) C dX9_lay_35 kX9_192 mX9_isSheet (by decide) rfl rfl (Nat.le_of_ble_eq_true rfl) (fun r35 M35 h35 => ?_)
            obtain ⟨h35, e35⟩ := h35
            subst M35
            refine z_if_ne (pc := 38) C 44 dX9_lay_38 (by decide) (fun c38 => ?_) (fun c38 => ?_)
            · have hx := h1.yes c4
              have hit : iin t 0 3 := by
                rw [zi_lt, i0] at c8
                rw [zi_lt, i3] at c13
                unfold iin
                omega
              have hk2 := h35.yes c38
              have hall : iin x 0 4 ∧ iin t 0 3 ∧ (t = 1 → iin k 0 ((n : Int) - 1)) ∧ (t = 2 → iin k 0 3) := ⟨hx, hit, fun e => absurd e c18, fun _ => hk2⟩
              obtain ⟨s, hs, rfl⟩ := iin_nI (n := 5) (by decide) hx
              obtain ⟨f1, f2, f3, f4, f5⟩ := hR.RF s hs
              obtain ⟨j, hj, rfl⟩ := iin_nI (n := 4) (by decide) hk2
              have hj9 : j < 9 := by omega
              obtain ⟨w1, w2⟩ := hR.shR j hj
              replace w1 : iin (M 3 j 0 0) (-1) 1 := w1
              refine z_iload_n (pc := 44) C 2 dX9_lay_44 rfl rfl ?_
              refine z_iconst (pc := 45) (v := 2) C dX9_lay_45 rfl ?_
              refine z_icmp_ne (pc := 46) C 65 dX9_lay_46 (by decide) (fun c46 => absurd c31 c46) (fun c46 => ?_)
              refine z_aload_n (pc := 49) C 0 dX9_lay_49 rfl rfl ?_
              refine z_getR (pc := 50) (r := 208) C dX9_lay_50 fX9_53 sh_0 rfl ?_
              refine z_iload_n (pc := 53) C 3 dX9_lay_53 rfl rfl ?_
              refine z_aald (pc := 54) (r := adS j) C dX9_lay_54 sh_208 rfl rfl (vp_in_nI hj (by decide)) (shget hj) ?_
              refine z_getI (pc := 55) C dX9_lay_55 fX9_195 (shS hj9) rfl ?_
              refine z_iconst (pc := 58) (v := -1) C dX9_lay_58 rfl ?_
              refine z_icmp_ne (pc := 59) C 65 dX9_lay_59 (by decide) (fun c59 => ?_) (fun c59 => ?_)
              · refine z_aload_n (pc := 65) C 0 dX9_lay_65 rfl rfl ?_
                refine z_getR (pc := 66) (r := 209) C dX9_lay_66 fX9_59 sh_0 rfl ?_
                refine z_iload_n (pc := 69) C 1 dX9_lay_69 rfl rfl ?_
                refine z_aald (pc := 70) (r := 219 + 4 * s) C dX9_lay_70 sh_209 rfl rfl (vp_in_nI hs (by decide)) (slget hs) ?_
                refine z_astore (pc := 71) C 4 dX9_lay_71 (by decide) rfl ?_
                refine z_aload (pc := 73) C 4 dX9_lay_73 rfl ?_
                refine z_getI (pc := 75) C dX9_lay_75 fX9_275 (shL hs) rfl ?_
                refine z_istore (pc := 78) C 5 dX9_lay_78 (by decide) rfl ?_
                refine z_aload (pc := 80) C 4 dX9_lay_80 rfl ?_
                refine z_iload_n (pc := 82) C 2 dX9_lay_82 rfl rfl ?_
                refine z_putII (pc := 83) C dX9_lay_83 fX9_275 (shL hs) rfl ?_
                refine z_iload_n (pc := 86) C 2 dX9_lay_86 rfl rfl ?_
                refine z_iconst (pc := 87) (v := 1) C dX9_lay_87 rfl ?_
                refine z_icmp_ne (pc := 88) C 111 dX9_lay_88 (by decide) (fun c88 => ?_) (fun c88 => absurd c88 c18)
                refine z_iload_n (pc := 111) C 2 dX9_lay_111 rfl rfl ?_
                refine z_iconst (pc := 112) (v := 2) C dX9_lay_112 rfl ?_
                refine z_icmp_ne (pc := 113) C 133 dX9_lay_113 (by decide) (fun c113 => absurd c31 c113) (fun c113 => ?_)
                refine z_aload (pc := 116) C 4 dX9_lay_116 rfl ?_
                refine z_getR (pc := 118) (r := adS (4 + s)) C dX9_lay_118 fX9_285 (shL hs) rfl ?_
                refine z_aload_n (pc := 121) C 0 dX9_lay_121 rfl rfl ?_
                refine z_getR (pc := 122) (r := 208) C dX9_lay_122 fX9_53 sh_0 rfl ?_
                refine z_iload_n (pc := 125) C 3 dX9_lay_125 rfl rfl ?_
                refine z_aald (pc := 126) (r := adS j) C dX9_lay_126 sh_208 rfl rfl (vp_in_nI hj (by decide)) (shget hj) ?_
                refine z_callVv (pc := 127) C dX9_lay_127 kX9_289 (mX2_become_ (lt9_slot hs) hj9 (by omega)) (by decide) (shS (lt9_slot hs)) rfl rfl rfl (Nat.le_of_ble_eq_true rfl) (fun M127 h127 => ?_)
                subst M127
                refine z_goto (pc := 130) C 139 dX9_lay_130 (by decide) ?_
                refine z_iload (pc := 139) C 5 dX9_lay_139 rfl ?_
                refine z_ireturn (pc := 141) C K dX9_lay_141 ?_
                have hth : ¬ M 25 s 0 0 < 0 := by
                  rw [f1, zi_lt, i0]
                  unfold iin at f2
                  omega
                refine ⟨_, rfl, ?_, ?_⟩
                · rw [Flay, zif_pos hall, zif_neg (fun q => by have q2 := q.2; rw [nI_clamp (by omega)] at q2; replace q2 : M 3 j 0 0 < 0 := q2; rw [zi_lt, i0] at q2; rw [zi_eq, im1] at c59; unfold iin at w1; omega), nI_clamp (n := s) (by omega)]
                · rw [if_neg hth, nI_clamp (n := s) (by omega), layC, if_neg c18, if_pos c31, nI_clamp (n := j) (by omega)]
              · refine z_ldc (pc := 62) C q3_100 dX9_lay_62 ?_
                refine z_ireturn (pc := 64) C K dX9_lay_64 ?_
                refine ⟨_, rfl, ?_, by rw [if_pos (by decide)]⟩
                rw [Flay, zif_pos hall, zif_pos ⟨c31, by rw [nI_clamp (by omega)]; show M 3 j 0 0 < 0; rw [c59]; decide⟩]
            · refine z_ldc (pc := 41) C q2_96 dX9_lay_41 ?_
              refine z_ireturn (pc := 43) C K dX9_lay_43 ?_
              refine ⟨_, rfl, ?_, by rw [if_pos (by decide)]⟩
              rw [Flay, zif_neg (by exact fun q => h35.no c38 (q.2.2.2 c31))]
        · refine z_aload_n (pc := 21) C 0 dX9_lay_21 rfl rfl ?_
          refine z_iload_n (pc := 22) C 3 dX9_lay_22 rfl rfl ?_
          refine z_callVi (pc := 23) C dX9_lay_23 kX9_96 (mX9_isOne hR.hn hR.n8) (by decide) sh_0 rfl rfl rfl (Nat.le_of_ble_eq_true rfl) (fun r23 M23 h23 => ?_)
          obtain ⟨h23, e23⟩ := h23
          subst M23
          refine z_if_eq (pc := 26) C 41 dX9_lay_26 (by decide) (fun c26 => ?_) (fun c26 => ?_)
          · refine z_ldc (pc := 41) C q2_96 dX9_lay_41 ?_
            refine z_ireturn (pc := 43) C K dX9_lay_43 ?_
            refine ⟨_, rfl, ?_, by rw [if_pos (by decide)]⟩
            rw [Flay, zif_neg (by exact fun q => h23.no c26 (q.2.2.1 c18))]
          · refine z_iload_n (pc := 29) C 2 dX9_lay_29 rfl rfl ?_
            refine z_iconst (pc := 30) (v := 2) C dX9_lay_30 rfl ?_
            refine z_icmp_ne (pc := 31) C 44 dX9_lay_31 (by decide) (fun c31 => ?_) (fun c31 => absurd (c18.symm.trans c31) (by decide))
            have hx := h1.yes c4
            have hit : iin t 0 3 := by
              rw [zi_lt, i0] at c8
              rw [zi_lt, i3] at c13
              unfold iin
              omega
            have hk1 := h23.yes c26
            have hall : iin x 0 4 ∧ iin t 0 3 ∧ (t = 1 → iin k 0 ((n : Int) - 1)) ∧ (t = 2 → iin k 0 3) := ⟨hx, hit, fun _ => hk1, fun e => absurd (c18.symm.trans e) (by decide)⟩
            obtain ⟨s, hs, rfl⟩ := iin_nI (n := 5) (by decide) hx
            obtain ⟨f1, f2, f3, f4, f5⟩ := hR.RF s hs
            obtain ⟨i, hi, rfl⟩ := iin_nI (by have := hR.n8; omega) hk1
            have hin : i < 8 := by have := hR.n8; omega
            refine z_iload_n (pc := 44) C 2 dX9_lay_44 rfl rfl ?_
            refine z_iconst (pc := 45) (v := 2) C dX9_lay_45 rfl ?_
            refine z_icmp_ne (pc := 46) C 65 dX9_lay_46 (by decide) (fun c46 => ?_) (fun c46 => absurd (c18.symm.trans c46) (by decide))
            refine z_aload_n (pc := 65) C 0 dX9_lay_65 rfl rfl ?_
            refine z_getR (pc := 66) (r := 209) C dX9_lay_66 fX9_59 sh_0 rfl ?_
            refine z_iload_n (pc := 69) C 1 dX9_lay_69 rfl rfl ?_
            refine z_aald (pc := 70) (r := 219 + 4 * s) C dX9_lay_70 sh_209 rfl rfl (vp_in_nI hs (by decide)) (slget hs) ?_
            refine z_astore (pc := 71) C 4 dX9_lay_71 (by decide) rfl ?_
            refine z_aload (pc := 73) C 4 dX9_lay_73 rfl ?_
            refine z_getI (pc := 75) C dX9_lay_75 fX9_275 (shL hs) rfl ?_
            refine z_istore (pc := 78) C 5 dX9_lay_78 (by decide) rfl ?_
            refine z_aload (pc := 80) C 4 dX9_lay_80 rfl ?_
            refine z_iload_n (pc := 82) C 2 dX9_lay_82 rfl rfl ?_
            refine z_putII (pc := 83) C dX9_lay_83 fX9_275 (shL hs) rfl ?_
            refine z_iload_n (pc := 86) C 2 dX9_lay_86 rfl rfl ?_
            refine z_iconst (pc := 87) (v := 1) C dX9_lay_87 rfl ?_
            refine z_icmp_ne (pc := 88) C 111 dX9_lay_88 (by decide) (fun c88 => absurd c18 c88) (fun c88 => ?_)
            refine z_aload (pc := 91) C 4 dX9_lay_91 rfl ?_
            refine z_getR (pc := 93) (r := adP (14 + s) 0) C dX9_lay_93 fX9_278 (shL hs) rfl ?_
            refine z_aload_n (pc := 96) C 0 dX9_lay_96 rfl rfl ?_
            refine z_getR (pc := 97) (r := adW 0) C dX9_lay_97 fX9_21 sh_0 rfl ?_
            refine z_getR (pc := 100) (r := adW 0 + 1) C dX9_lay_100 fX9_99 (shW lt0_14) rfl ?_
            refine z_iload_n (pc := 103) C 3 dX9_lay_103 rfl rfl ?_
            refine z_aald (pc := 104) (r := adP 0 i) C dX9_lay_104 (shPa lt0_14) rfl rfl (pin hin) (pget hin) ?_
            refine z_callVv (pc := 105) C dX9_lay_105 kX9_282 (mX0_become (okP_slot hs) (okP_w lt0_14 hin) (by rw [zu_a (by decide)]; exact (hR.ok hi).2.2.2.2.2.2)) (by decide) (shP (okP_slot hs)) rfl rfl rfl (Nat.le_of_ble_eq_true rfl) (fun M105 h105 => ?_)
            subst M105
            refine z_goto (pc := 108) C 139 dX9_lay_108 (by decide) ?_
            refine z_iload (pc := 139) C 5 dX9_lay_139 rfl ?_
            refine z_ireturn (pc := 141) C K dX9_lay_141 ?_
            have hth : ¬ M 25 s 0 0 < 0 := by
              rw [f1, zi_lt, i0]
              unfold iin at f2
              omega
            refine ⟨_, rfl, ?_, ?_⟩
            · rw [Flay, zif_pos hall, zif_neg (fun q => absurd (c18.symm.trans q.1) (by decide)), nI_clamp (n := s) (by omega)]
            · rw [if_neg hth, nI_clamp (n := s) (by omega), layC, if_pos c18, nI_clamp (n := i) (by omega)]

set_option maxHeartbeats 800000 in
set_option maxRecDepth 100000 in
theorem mX10_lay {l : Launch} {G : zG} {b : Nat} {M : zM} {n : Nat} (hm : M 31 0 0 1 = nI n) (hn8 : n ≤ 8) (hb : ∀ i, i < n → iin (mp M i 3) (-20) 20) (hth : ∀ s, s < 5 → iin (M 47 0 0 s) 0 3) {x t k : Int32} : zMet l G b yX10_lay cX10_lay 6 (some .int) 2 zshL zshL [.ref (b + 239), .int x, .int t, .int k] M (zI (Acp (Flay (fun s => M 47 0 0 s) (fun s => M 44 0 0 s) n x t k) (layM M x.toNatClampNeg t k) M)) := by
  refine zMet.of (L0 := [some (.ref (b + 239)), some (.int x), some (.int t), some (.int k), none, none]) (by decide +kernel) (Nat.le_refl _) (Nat.le_refl _) (Nat.le_of_ble_eq_true rfl) (List.forall_mem_cons.mpr ⟨rfl, List.forall_mem_cons.mpr ⟨rfl, List.forall_mem_cons.mpr ⟨rfl, List.forall_mem_cons.mpr ⟨rfl, fun _ h => absurd h List.not_mem_nil⟩⟩⟩⟩) rfl (fun X C Al K => ?_)
  have loop : ∀ (s j : Nat), s < 5 → j < 4 → x = nI s → k = nI j → t = 2 → M 47 0 0 s = Flay (fun s => M 47 0 0 s) (fun s => M 44 0 0 s) n x t k → ∀ (d i : Nat), i + d = 24 → zW X zshL (zpt (layM0 M s t k) 50 (24 * s) i (fun i => M 46 0 0 (24 * j + i))) 134 [some (.ref (b + 239)), some (.int x), some (.int t), some (.int k), some (.int (M 47 0 0 s)), some (.int (nI i))] [] := by
    intro s j hs hj e1 e2 e3 hF d
    have f2 := hth s hs
    have hth0 : ¬ M 47 0 0 s < 0 := by
      rw [zi_lt, i0]
      unfold iin at f2
      omega
    induction d with
    | zero =>
      intro i hi
      obtain rfl : i = 24 := by omega
      refine z_iload (pc := 134) C 5 dX10_lay_134 rfl ?_
      refine z_bipush (pc := 136) (v := 24) C dX10_lay_136 rfl ?_
      refine z_icmp_ge (pc := 138) C 176 dX10_lay_138 (by decide) (fun c138 => ?_) (fun c138 => absurd (by decide) c138)
      refine z_iload (pc := 176) C 4 dX10_lay_176 rfl ?_
      refine z_ireturn (pc := 178) C K dX10_lay_178 ?_
      refine ⟨_, rfl, hF, ?_⟩
      rw [if_neg hth0, e1, nI_clamp (n := s) (by omega), layM, if_pos e3, e2, nI_clamp (n := j) (by omega)]
    | succ d ih =>
      intro i hi
      have ei : (nI i).toInt = i := nI_toInt (by omega)
      refine z_iload (pc := 134) C 5 dX10_lay_134 rfl ?_
      refine z_bipush (pc := 136) (v := 24) C dX10_lay_136 rfl ?_
      refine z_icmp_ge (pc := 138) C 176 dX10_lay_138 (by decide) (fun c138 => absurd c138 (by rw [zi_le, ei, i24]; omega)) (fun c138 => ?_)
      refine z_iload_n (pc := 141) C 2 dX10_lay_141 rfl rfl ?_
      refine z_iconst (pc := 142) (v := 2) C dX10_lay_142 rfl ?_
      refine z_icmp_ne (pc := 143) C 176 dX10_lay_143 (by decide) (fun c143 => absurd e3 c143) (fun c143 => ?_)
      refine z_aload_n (pc := 146) C 0 dX10_lay_146 rfl rfl ?_
      refine z_getR (pc := 147) (r := 259) C dX10_lay_147 fX10_69 sh_239 rfl ?_
      refine z_bipush (pc := 150) (v := 24) C dX10_lay_150 rfl ?_
      refine z_iload_n (pc := 152) C 1 dX10_lay_152 rfl rfl ?_
      refine z_imul (pc := 153) C dX10_lay_153 ?_
      refine z_iload (pc := 154) C 5 dX10_lay_154 rfl ?_
      refine z_iadd (pc := 156) C dX10_lay_156 ?_
      rw [e1, idx24]
      refine z_aload_n (pc := 157) C 0 dX10_lay_157 rfl rfl ?_
      refine z_getR (pc := 158) (r := 255) C dX10_lay_158 fX10_57 sh_239 rfl ?_
      refine z_bipush (pc := 161) (v := 24) C dX10_lay_161 rfl ?_
      refine z_iload_n (pc := 163) C 3 dX10_lay_163 rfl rfl ?_
      refine z_imul (pc := 164) C dX10_lay_164 ?_
      refine z_iload (pc := 165) C 5 dX10_lay_165 rfl ?_
      refine z_iadd (pc := 167) C dX10_lay_167 ?_
      rw [e2, idx24]
      refine z_iald (pc := 168) (n := 24 * j + i) C dX10_lay_168 sh_255 (vp_in_nI (by omega) (by decide)) (nI_clamp (by omega)) ?_
      rw [zpt_a (a := 46) (by decide), show layM0 M s t (nI j) 46 = M 46 from by unfold layM0; rw [zu_a (by decide), zu_a (by decide), zu_a (by decide)], ← e2, ← e1]
      refine z_iast (pc := 169) (n := 24 * s + i) C dX10_lay_169 sh_259 (vp_in_nI (by omega) (by decide)) (nI_clamp (by omega)) ?_
      refine z_iinc (pc := 170) (v := 1) C 5 dX10_lay_170 (by decide) rfl rfl rfl ?_
      refine z_goto (pc := 173) C 134 dX10_lay_173 (by decide) ?_
      have e := ih (i + 1) (by omega)
      rw [nI_succ, ← zpt_s (lo := 24 * s) (i := i) (k := 24 * s + i) rfl rfl] at e
      exact e
  refine z_iload_n (pc := 0) C 1 dX10_lay_0 rfl rfl ?_
  refine z_callSi (pc := 1) C dX10_lay_1 kX10_276 mX10_isSlot (by decide) rfl rfl (Nat.le_of_ble_eq_true rfl) (fun r1 M1 h1 => ?_)
  obtain ⟨h1, e1⟩ := h1
  subst M1
  refine z_if_eq (pc := 4) C 41 dX10_lay_4 (by decide) (fun c4 => ?_) (fun c4 => ?_)
  · refine z_ldc (pc := 41) C q5_48 dX10_lay_41 ?_
    refine z_ireturn (pc := 43) C K dX10_lay_43 ?_
    refine ⟨_, rfl, ?_, by rw [if_pos (by decide)]⟩
    rw [Flay, zif_neg (by exact fun q => h1.no c4 q.1)]
  · refine z_iload_n (pc := 7) C 2 dX10_lay_7 rfl rfl ?_
    refine z_iconst (pc := 8) (v := 0) C dX10_lay_8 rfl ?_
    refine z_iconst (pc := 9) (v := 3) C dX10_lay_9 rfl ?_
    refine z_callSi (pc := 10) C dX10_lay_10 kX10_78 mX10_in (by decide) rfl rfl (Nat.le_of_ble_eq_true rfl) (fun r10 M10 h10 => ?_)
    obtain ⟨h10, e10⟩ := h10
    subst M10
    replace h10 : zb r10 (iin t (0) (3)) := zin_b (by decide) (by decide) h10
    refine z_if_eq (pc := 13) C 41 dX10_lay_13 (by decide) (fun c13 => ?_) (fun c13 => ?_)
    · refine z_ldc (pc := 41) C q5_48 dX10_lay_41 ?_
      refine z_ireturn (pc := 43) C K dX10_lay_43 ?_
      refine ⟨_, rfl, ?_, by rw [if_pos (by decide)]⟩
      rw [Flay, zif_neg (by exact fun q => h10.no c13 q.2.1)]
    · refine z_iload_n (pc := 16) C 2 dX10_lay_16 rfl rfl ?_
      refine z_iconst (pc := 17) (v := 1) C dX10_lay_17 rfl ?_
      refine z_icmp_ne (pc := 18) C 29 dX10_lay_18 (by decide) (fun c18 => ?_) (fun c18 => ?_)
      · refine z_iload_n (pc := 29) C 2 dX10_lay_29 rfl rfl ?_
        refine z_iconst (pc := 30) (v := 2) C dX10_lay_30 rfl ?_
        refine z_icmp_ne (pc := 31) C 44 dX10_lay_31 (by decide) (fun c31 => ?_) (fun c31 => ?_)
        · have hx := h1.yes c4
          have hit := h10.yes c13
          have hall : iin x 0 4 ∧ iin t 0 3 ∧ (t = 1 → iin k 0 ((n : Int) - 1)) ∧ (t = 2 → iin k 0 3) := ⟨hx, hit, fun e => absurd e c18, fun e => absurd e c31⟩
          obtain ⟨s, hs, rfl⟩ := iin_nI (n := 5) (by decide) hx
          have f2 := hth s hs
          refine z_iload_n (pc := 44) C 2 dX10_lay_44 rfl rfl ?_
          refine z_iconst (pc := 45) (v := 2) C dX10_lay_45 rfl ?_
          refine z_icmp_ne (pc := 46) C 61 dX10_lay_46 (by decide) (fun c46 => ?_) (fun c46 => absurd c46 c31)
          refine z_aload_n (pc := 61) C 0 dX10_lay_61 rfl rfl ?_
          refine z_getR (pc := 62) (r := 256) C dX10_lay_62 fX10_60 sh_239 rfl ?_
          refine z_iload_n (pc := 65) C 1 dX10_lay_65 rfl rfl ?_
          refine z_iald (pc := 66) (n := s) C dX10_lay_66 sh_256 (vp_in_nI (by omega) (by decide)) (nI_clamp (by omega)) ?_
          refine z_istore (pc := 67) C 4 dX10_lay_67 (by decide) rfl ?_
          refine z_aload_n (pc := 69) C 0 dX10_lay_69 rfl rfl ?_
          refine z_getR (pc := 70) (r := 256) C dX10_lay_70 fX10_60 sh_239 rfl ?_
          refine z_iload_n (pc := 73) C 1 dX10_lay_73 rfl rfl ?_
          refine z_iload_n (pc := 74) C 2 dX10_lay_74 rfl rfl ?_
          refine z_iast (pc := 75) (n := s) C dX10_lay_75 sh_256 (vp_in_nI (by omega) (by decide)) (nI_clamp (by omega)) ?_
          refine z_aload_n (pc := 76) C 0 dX10_lay_76 rfl rfl ?_
          refine z_getR (pc := 77) (r := 257) C dX10_lay_77 fX10_63 sh_239 rfl ?_
          refine z_iload_n (pc := 80) C 1 dX10_lay_80 rfl rfl ?_
          refine z_iload_n (pc := 81) C 2 dX10_lay_81 rfl rfl ?_
          refine z_iconst (pc := 82) (v := 1) C dX10_lay_82 rfl ?_
          refine z_icmp_ne (pc := 83) C 95 dX10_lay_83 (by decide) (fun c83 => ?_) (fun c83 => absurd c83 c18)
          refine z_iload_n (pc := 95) C 2 dX10_lay_95 rfl rfl ?_
          refine z_iconst (pc := 96) (v := 2) C dX10_lay_96 rfl ?_
          refine z_icmp_ne (pc := 97) C 109 dX10_lay_97 (by decide) (fun c97 => ?_) (fun c97 => absurd c97 c31)
          refine z_iload_n (pc := 109) C 3 dX10_lay_109 rfl rfl ?_
          refine z_iast (pc := 110) (n := s) C dX10_lay_110 sh_257 (vp_in_nI (by omega) (by decide)) (nI_clamp (by omega)) ?_
          refine z_aload_n (pc := 111) C 0 dX10_lay_111 rfl rfl ?_
          refine z_getR (pc := 112) (r := 258) C dX10_lay_112 fX10_66 sh_239 rfl ?_
          refine z_iload_n (pc := 115) C 1 dX10_lay_115 rfl rfl ?_
          refine z_iload_n (pc := 116) C 2 dX10_lay_116 rfl rfl ?_
          refine z_iconst (pc := 117) (v := 1) C dX10_lay_117 rfl ?_
          refine z_icmp_ne (pc := 118) C 129 dX10_lay_118 (by decide) (fun c118 => ?_) (fun c118 => absurd c118 c18)
          refine z_iconst (pc := 129) (v := 0) C dX10_lay_129 rfl ?_
          refine z_iast (pc := 130) (n := s) C dX10_lay_130 sh_258 (vp_in_nI (by omega) (by decide)) (nI_clamp (by omega)) ?_
          refine z_iconst (pc := 131) (v := 0) C dX10_lay_131 rfl ?_
          refine z_istore (pc := 132) C 5 dX10_lay_132 (by decide) rfl ?_
          refine z_iload (pc := 134) C 5 dX10_lay_134 rfl ?_
          refine z_bipush (pc := 136) (v := 24) C dX10_lay_136 rfl ?_
          refine z_icmp_ge (pc := 138) C 176 dX10_lay_138 (by decide) (fun c138 => absurd c138 (by decide)) (fun c138 => ?_)
          refine z_iload_n (pc := 141) C 2 dX10_lay_141 rfl rfl ?_
          refine z_iconst (pc := 142) (v := 2) C dX10_lay_142 rfl ?_
          refine z_icmp_ne (pc := 143) C 176 dX10_lay_143 (by decide) (fun c143 => ?_) (fun c143 => absurd c143 c31)
          refine z_iload (pc := 176) C 4 dX10_lay_176 rfl ?_
          refine z_ireturn (pc := 178) C K dX10_lay_178 ?_
          have hth0 : ¬ M 47 0 0 s < 0 := by
            rw [zi_lt, i0]
            unfold iin at f2
            omega
          refine ⟨_, rfl, ?_, ?_⟩
          · rw [Flay, zif_pos hall, zif_neg (fun q => c31 q.1), nI_clamp (n := s) (by omega)]
          · rw [if_neg hth0, nI_clamp (n := s) (by omega), layM, if_neg (c31), layM0, layA, layB, if_neg c18, if_neg c31, if_neg c18]
        · refine z_iload_n (pc := 34) C 3 dX10_lay_34 rfl rfl ?_
          refine z_callSi (pc := 35) C dX10_lay_35 kX10_198 mX10_isSheet (by decide) rfl rfl (Nat.le_of_ble_eq_true rfl) (fun r35 M35 h35 => ?_)
          obtain ⟨h35, e35⟩ := h35
          subst M35
          refine z_if_ne (pc := 38) C 44 dX10_lay_38 (by decide) (fun c38 => ?_) (fun c38 => ?_)
          · have hx := h1.yes c4
            have hit := h10.yes c13
            have hk2 := h35.yes c38
            have hall : iin x 0 4 ∧ iin t 0 3 ∧ (t = 1 → iin k 0 ((n : Int) - 1)) ∧ (t = 2 → iin k 0 3) := ⟨hx, hit, fun e => absurd e c18, fun _ => hk2⟩
            obtain ⟨s, hs, rfl⟩ := iin_nI (n := 5) (by decide) hx
            have f2 := hth s hs
            obtain ⟨j, hj, rfl⟩ := iin_nI (n := 4) (by decide) hk2
            refine z_iload_n (pc := 44) C 2 dX10_lay_44 rfl rfl ?_
            refine z_iconst (pc := 45) (v := 2) C dX10_lay_45 rfl ?_
            refine z_icmp_ne (pc := 46) C 61 dX10_lay_46 (by decide) (fun c46 => absurd c31 c46) (fun c46 => ?_)
            refine z_aload_n (pc := 49) C 0 dX10_lay_49 rfl rfl ?_
            refine z_getR (pc := 50) (r := 253) C dX10_lay_50 fX10_51 sh_239 rfl ?_
            refine z_iload_n (pc := 53) C 3 dX10_lay_53 rfl rfl ?_
            refine z_iald (pc := 54) (n := j) C dX10_lay_54 sh_253 (vp_in_nI (by omega) (by decide)) (nI_clamp (by omega)) ?_
            refine z_if_ge (pc := 55) C 61 dX10_lay_55 (by decide) (fun c55 => ?_) (fun c55 => ?_)
            · refine z_aload_n (pc := 61) C 0 dX10_lay_61 rfl rfl ?_
              refine z_getR (pc := 62) (r := 256) C dX10_lay_62 fX10_60 sh_239 rfl ?_
              refine z_iload_n (pc := 65) C 1 dX10_lay_65 rfl rfl ?_
              refine z_iald (pc := 66) (n := s) C dX10_lay_66 sh_256 (vp_in_nI (by omega) (by decide)) (nI_clamp (by omega)) ?_
              refine z_istore (pc := 67) C 4 dX10_lay_67 (by decide) rfl ?_
              refine z_aload_n (pc := 69) C 0 dX10_lay_69 rfl rfl ?_
              refine z_getR (pc := 70) (r := 256) C dX10_lay_70 fX10_60 sh_239 rfl ?_
              refine z_iload_n (pc := 73) C 1 dX10_lay_73 rfl rfl ?_
              refine z_iload_n (pc := 74) C 2 dX10_lay_74 rfl rfl ?_
              refine z_iast (pc := 75) (n := s) C dX10_lay_75 sh_256 (vp_in_nI (by omega) (by decide)) (nI_clamp (by omega)) ?_
              refine z_aload_n (pc := 76) C 0 dX10_lay_76 rfl rfl ?_
              refine z_getR (pc := 77) (r := 257) C dX10_lay_77 fX10_63 sh_239 rfl ?_
              refine z_iload_n (pc := 80) C 1 dX10_lay_80 rfl rfl ?_
              refine z_iload_n (pc := 81) C 2 dX10_lay_81 rfl rfl ?_
              refine z_iconst (pc := 82) (v := 1) C dX10_lay_82 rfl ?_
              refine z_icmp_ne (pc := 83) C 95 dX10_lay_83 (by decide) (fun c83 => ?_) (fun c83 => absurd c83 c18)
              refine z_iload_n (pc := 95) C 2 dX10_lay_95 rfl rfl ?_
              refine z_iconst (pc := 96) (v := 2) C dX10_lay_96 rfl ?_
              refine z_icmp_ne (pc := 97) C 109 dX10_lay_97 (by decide) (fun c97 => absurd c31 c97) (fun c97 => ?_)
              refine z_aload_n (pc := 100) C 0 dX10_lay_100 rfl rfl ?_
              refine z_getR (pc := 101) (r := 254) C dX10_lay_101 fX10_54 sh_239 rfl ?_
              refine z_iload_n (pc := 104) C 3 dX10_lay_104 rfl rfl ?_
              refine z_iald (pc := 105) (n := j) C dX10_lay_105 sh_254 (vp_in_nI (by omega) (by decide)) (nI_clamp (by omega)) ?_
              refine z_goto (pc := 106) C 110 dX10_lay_106 (by decide) ?_
              refine z_iast (pc := 110) (n := s) C dX10_lay_110 sh_257 (vp_in_nI (by omega) (by decide)) (nI_clamp (by omega)) ?_
              refine z_aload_n (pc := 111) C 0 dX10_lay_111 rfl rfl ?_
              refine z_getR (pc := 112) (r := 258) C dX10_lay_112 fX10_66 sh_239 rfl ?_
              refine z_iload_n (pc := 115) C 1 dX10_lay_115 rfl rfl ?_
              refine z_iload_n (pc := 116) C 2 dX10_lay_116 rfl rfl ?_
              refine z_iconst (pc := 117) (v := 1) C dX10_lay_117 rfl ?_
              refine z_icmp_ne (pc := 118) C 129 dX10_lay_118 (by decide) (fun c118 => ?_) (fun c118 => absurd c118 c18)
              refine z_iconst (pc := 129) (v := 0) C dX10_lay_129 rfl ?_
              refine z_iast (pc := 130) (n := s) C dX10_lay_130 sh_258 (vp_in_nI (by omega) (by decide)) (nI_clamp (by omega)) ?_
              refine z_iconst (pc := 131) (v := 0) C dX10_lay_131 rfl ?_
              refine z_istore (pc := 132) C 5 dX10_lay_132 (by decide) rfl ?_
              have hF : M 47 0 0 s = Flay (fun s => M 47 0 0 s) (fun s => M 44 0 0 s) n (nI s) t (nI j) := by
                rw [Flay, zif_pos hall, zif_neg (fun q => by have q2 := q.2; rw [nI_clamp (by omega)] at q2; exact absurd c55 (Int32.not_le.mpr q2)), nI_clamp (n := s) (by omega)]
              have e := loop s j hs hj rfl rfl c31 hF 24 0 (by omega)
              rw [zpt_0, layM0, layA, layB, if_neg c18, if_pos c31, if_neg c18, nI_clamp (n := j) (by omega)] at e
              rw [zu_a (a := 47) (a' := 45) (by decide)]
              exact e
            · refine z_ldc (pc := 58) C q6_15 dX10_lay_58 ?_
              refine z_ireturn (pc := 60) C K dX10_lay_60 ?_
              refine ⟨_, rfl, ?_, by rw [if_pos (by decide)]⟩
              rw [Flay, zif_pos hall, zif_pos ⟨c31, by rw [nI_clamp (by omega)]; exact Int32.not_le.mp c55⟩]
          · refine z_ldc (pc := 41) C q5_48 dX10_lay_41 ?_
            refine z_ireturn (pc := 43) C K dX10_lay_43 ?_
            refine ⟨_, rfl, ?_, by rw [if_pos (by decide)]⟩
            rw [Flay, zif_neg (by exact fun q => h35.no c38 (q.2.2.2 c31))]
      · refine z_aload_n (pc := 21) C 0 dX10_lay_21 rfl rfl ?_
        refine z_iload_n (pc := 22) C 3 dX10_lay_22 rfl rfl ?_
        refine z_callVi (pc := 23) C dX10_lay_23 kX10_107 (mX10_isOne hm hn8) (by decide) sh_239 rfl rfl rfl (Nat.le_of_ble_eq_true rfl) (fun r23 M23 h23 => ?_)
        obtain ⟨h23, e23⟩ := h23
        subst M23
        refine z_if_eq (pc := 26) C 41 dX10_lay_26 (by decide) (fun c26 => ?_) (fun c26 => ?_)
        · refine z_ldc (pc := 41) C q5_48 dX10_lay_41 ?_
          refine z_ireturn (pc := 43) C K dX10_lay_43 ?_
          refine ⟨_, rfl, ?_, by rw [if_pos (by decide)]⟩
          rw [Flay, zif_neg (by exact fun q => h23.no c26 (q.2.2.1 c18))]
        · refine z_iload_n (pc := 29) C 2 dX10_lay_29 rfl rfl ?_
          refine z_iconst (pc := 30) (v := 2) C dX10_lay_30 rfl ?_
          refine z_icmp_ne (pc := 31) C 44 dX10_lay_31 (by decide) (fun c31 => ?_) (fun c31 => absurd (c18.symm.trans c31) (by decide))
          have hx := h1.yes c4
          have hit := h10.yes c13
          have hk1 := h23.yes c26
          have hall : iin x 0 4 ∧ iin t 0 3 ∧ (t = 1 → iin k 0 ((n : Int) - 1)) ∧ (t = 2 → iin k 0 3) := ⟨hx, hit, fun _ => hk1, fun e => absurd (c18.symm.trans e) (by decide)⟩
          obtain ⟨s, hs, rfl⟩ := iin_nI (n := 5) (by decide) hx
          have f2 := hth s hs
          obtain ⟨i, hi, rfl⟩ := iin_nI (by omega) hk1
          have hin : i < 8 := by omega
          refine z_iload_n (pc := 44) C 2 dX10_lay_44 rfl rfl ?_
          refine z_iconst (pc := 45) (v := 2) C dX10_lay_45 rfl ?_
          refine z_icmp_ne (pc := 46) C 61 dX10_lay_46 (by decide) (fun c46 => ?_) (fun c46 => absurd (c18.symm.trans c46) (by decide))
          refine z_aload_n (pc := 61) C 0 dX10_lay_61 rfl rfl ?_
          refine z_getR (pc := 62) (r := 256) C dX10_lay_62 fX10_60 sh_239 rfl ?_
          refine z_iload_n (pc := 65) C 1 dX10_lay_65 rfl rfl ?_
          refine z_iald (pc := 66) (n := s) C dX10_lay_66 sh_256 (vp_in_nI (by omega) (by decide)) (nI_clamp (by omega)) ?_
          refine z_istore (pc := 67) C 4 dX10_lay_67 (by decide) rfl ?_
          refine z_aload_n (pc := 69) C 0 dX10_lay_69 rfl rfl ?_
          refine z_getR (pc := 70) (r := 256) C dX10_lay_70 fX10_60 sh_239 rfl ?_
          refine z_iload_n (pc := 73) C 1 dX10_lay_73 rfl rfl ?_
          refine z_iload_n (pc := 74) C 2 dX10_lay_74 rfl rfl ?_
          refine z_iast (pc := 75) (n := s) C dX10_lay_75 sh_256 (vp_in_nI (by omega) (by decide)) (nI_clamp (by omega)) ?_
          refine z_aload_n (pc := 76) C 0 dX10_lay_76 rfl rfl ?_
          refine z_getR (pc := 77) (r := 257) C dX10_lay_77 fX10_63 sh_239 rfl ?_
          refine z_iload_n (pc := 80) C 1 dX10_lay_80 rfl rfl ?_
          refine z_iload_n (pc := 81) C 2 dX10_lay_81 rfl rfl ?_
          refine z_iconst (pc := 82) (v := 1) C dX10_lay_82 rfl ?_
          refine z_icmp_ne (pc := 83) C 95 dX10_lay_83 (by decide) (fun c83 => absurd c18 c83) (fun c83 => ?_)
          refine z_aload_n (pc := 86) C 0 dX10_lay_86 rfl rfl ?_
          refine z_iload_n (pc := 87) C 3 dX10_lay_87 rfl rfl ?_
          refine z_iconst (pc := 88) (v := 0) C dX10_lay_88 rfl ?_
          refine z_callVi (pc := 89) C dX10_lay_89 kX10_96 (mX10_of (f := 0) hin (by decide)) (by decide) sh_239 rfl rfl rfl (Nat.le_of_ble_eq_true rfl) (fun r89 M89 h89 => ?_)
          obtain ⟨rfl, e89⟩ := h89
          subst M89
          rw [mp_c (zu_a (by decide))]
          refine z_goto (pc := 92) C 110 dX10_lay_92 (by decide) ?_
          refine z_iast (pc := 110) (n := s) C dX10_lay_110 sh_257 (vp_in_nI (by omega) (by decide)) (nI_clamp (by omega)) ?_
          refine z_aload_n (pc := 111) C 0 dX10_lay_111 rfl rfl ?_
          refine z_getR (pc := 112) (r := 258) C dX10_lay_112 fX10_66 sh_239 rfl ?_
          refine z_iload_n (pc := 115) C 1 dX10_lay_115 rfl rfl ?_
          refine z_iload_n (pc := 116) C 2 dX10_lay_116 rfl rfl ?_
          refine z_iconst (pc := 117) (v := 1) C dX10_lay_117 rfl ?_
          refine z_icmp_ne (pc := 118) C 129 dX10_lay_118 (by decide) (fun c118 => absurd c18 c118) (fun c118 => ?_)
          refine z_aload_n (pc := 121) C 0 dX10_lay_121 rfl rfl ?_
          refine z_iload_n (pc := 122) C 3 dX10_lay_122 rfl rfl ?_
          refine z_callVi (pc := 123) C dX10_lay_123 kX10_114 (mX10_worthOf hin (by rw [mp_c (by rw [zu_a (by decide), zu_a (by decide)])]; exact hb i hi)) (by decide) sh_239 rfl rfl rfl (Nat.le_of_ble_eq_true rfl) (fun r123 M123 h123 => ?_)
          obtain ⟨rfl, e123⟩ := h123
          subst M123
          rw [mp_c (M := M) (M' := zu (zu M 47 0 0 s t) 48 0 0 s (mp M i 0)) (by rw [zu_a (by decide), zu_a (by decide)])]
          refine z_goto (pc := 126) C 130 dX10_lay_126 (by decide) ?_
          refine z_iast (pc := 130) (n := s) C dX10_lay_130 sh_258 (vp_in_nI (by omega) (by decide)) (nI_clamp (by omega)) ?_
          refine z_iconst (pc := 131) (v := 0) C dX10_lay_131 rfl ?_
          refine z_istore (pc := 132) C 5 dX10_lay_132 (by decide) rfl ?_
          refine z_iload (pc := 134) C 5 dX10_lay_134 rfl ?_
          refine z_bipush (pc := 136) (v := 24) C dX10_lay_136 rfl ?_
          refine z_icmp_ge (pc := 138) C 176 dX10_lay_138 (by decide) (fun c138 => absurd c138 (by decide)) (fun c138 => ?_)
          refine z_iload_n (pc := 141) C 2 dX10_lay_141 rfl rfl ?_
          refine z_iconst (pc := 142) (v := 2) C dX10_lay_142 rfl ?_
          refine z_icmp_ne (pc := 143) C 176 dX10_lay_143 (by decide) (fun c143 => ?_) (fun c143 => absurd (c18.symm.trans c143) (by decide))
          refine z_iload (pc := 176) C 4 dX10_lay_176 rfl ?_
          refine z_ireturn (pc := 178) C K dX10_lay_178 ?_
          have hth0 : ¬ M 47 0 0 s < 0 := by
            rw [zi_lt, i0]
            unfold iin at f2
            omega
          refine ⟨_, rfl, ?_, ?_⟩
          · rw [Flay, zif_pos hall, zif_neg (fun q => absurd (c18.symm.trans q.1) (by decide)), nI_clamp (n := s) (by omega)]
          · rw [if_neg hth0, nI_clamp (n := s) (by omega), layM, if_neg (fun z => absurd (c18.symm.trans z) (by decide)), layM0, layA, layB, if_pos c18, if_pos c18, nI_clamp (n := i) (by omega)]

theorem layC_o {M : zM} {s : Nat} {t k : Int32} {a x y f : Nat} (h : ¬ ((a = 1 ∧ x = 14 + s) ∨ ((a = 3 ∨ a = 4) ∧ x = 4 + s) ∨ (a = 25 ∧ x = s))) : layC M s t k a x y f = M a x y f := by
  unfold layC
  by_cases q : t = 1
  · rw [if_pos q]
    unfold pCopy
    rw [if_neg (fun e => h (by omega)), zu_ne _ _ (fun e => h (by omega))]
  · rw [if_neg q]
    by_cases q2 : t = 2
    · rw [if_pos q2]
      unfold shC2 zcp
      rw [if_neg (fun e => h (by omega)), zu_ne _ _ (fun e => h (by omega)), zu_ne _ _ (fun e => h (by omega)), zu_ne _ _ (fun e => h (by omega))]
    · rw [if_neg q2, zu_ne _ _ (fun e => h (by omega)), zu_ne _ _ (fun e => h (by omega))]
theorem layM_o {M : zM} {s : Nat} {t k : Int32} {a x y f : Nat} (h : ¬ (((a = 47 ∨ a = 48 ∨ a = 49) ∧ f = s) ∨ (a = 50 ∧ 24 * s ≤ f ∧ f < 24 * s + 24))) : layM M s t k a x y f = M a x y f := by
  have e0 : layM0 M s t k a x y f = M a x y f := by
    unfold layM0
    rw [zu_ne _ _ (fun e => h (by omega)), zu_ne _ _ (fun e => h (by omega)), zu_ne _ _ (fun e => h (by omega))]
  unfold layM
  by_cases q : t = 2
  · rw [if_pos q, zpt_o (fun e => h (by omega))]
    exact e0
  · rw [if_neg q]
    exact e0
theorem layM_47 {M : zM} {s : Nat} {t k : Int32} : layM M s t k 47 0 0 s = t ∧ layM M s t k 48 0 0 s = layA M t k ∧ layM M s t k 49 0 0 s = layB M t k := by
  have e0 : layM0 M s t k 47 0 0 s = t ∧ layM0 M s t k 48 0 0 s = layA M t k ∧ layM0 M s t k 49 0 0 s = layB M t k := by
    unfold layM0
    refine ⟨?_, ?_, zu_self _ _ _ _ _ _⟩
    · rw [zu_a (by decide), zu_a (by decide), zu_self]
    · rw [zu_a (by decide), zu_self]
  unfold layM
  by_cases q : t = 2
  · rw [if_pos q, zpt_a (by decide), zpt_a (by decide), zpt_a (by decide)]
    exact e0
  · rw [if_neg q]
    exact e0
theorem Flay_ok {th so : Nat → Int32} {n : Nat} {x t k : Int32} (h : ¬ Flay th so n x t k < 0) : iin x 0 4 ∧ iin t 0 3 ∧ (t = 1 → iin k 0 ((n : Int) - 1)) ∧ (t = 2 → iin k 0 3) := by
  unfold Flay at h
  by_cases q : iin x 0 4 ∧ iin t 0 3 ∧ (t = 1 → iin k 0 ((n : Int) - 1)) ∧ (t = 2 → iin k 0 3)
  · exact q
  · rw [zif_neg q] at h
    exact absurd (by decide) h
theorem Flay_c {th so th' so' : Nat → Int32} (h1 : ∀ s, s < 5 → th' s = th s) (h2 : ∀ s, s < 4 → so' s = so s) (n : Nat) (x t k : Int32) : Flay th' so' n x t k = Flay th so n x t k := by
  unfold Flay
  by_cases q : iin x 0 4 ∧ iin t 0 3 ∧ (t = 1 → iin k 0 ((n : Int) - 1)) ∧ (t = 2 → iin k 0 3)
  · rw [zif_pos q, zif_pos q]
    obtain ⟨s, hs, rfl⟩ := iin_nI (n := 5) (by decide) q.1
    rw [nI_clamp (n := s) (by omega), h1 s hs]
    by_cases q2 : t = 2
    · obtain ⟨j, hj, rfl⟩ := iin_nI (n := 4) (by decide) (q.2.2.2 q2)
      rw [nI_clamp (n := j) (by omega), h2 j hj]
    · rw [zif_neg (fun z => q2 z.1), zif_neg (fun z => q2 z.1)]
  · rw [zif_neg q, zif_neg q]
theorem op_lay {l : Launch} {G : zG} {b : Nat} {M : zM} (hM : Rel M) {x t k : Int32} : opOK l G b yX9_lay cX9_lay 6 2 yX10_lay cX10_lay 6 2 [.int x, .int t, .int k] M := by
  obtain ⟨n, T, ky, ln, hR⟩ := hM
  refine ⟨_, mX9_lay hR, fun r M1 h1 => ?_⟩
  obtain ⟨rfl, e1⟩ := h1
  have hk : ∀ a x y f, (31 ≤ a ∨ (a = 3 ∧ x < 4) ∨ (a = 1 ∧ x = 0) ∨ a = 4 ∧ x < 4) → M1 a x y f = M a x y f := fun a x y f z => by
    rw [e1]
    split
    · rfl
    · exact layC_o (by omega)
  have h44 : ∀ s, s < 4 → M1 44 0 0 s = M 3 s 0 0 := fun s hs => (hk 44 0 0 s (by omega)).trans (hR.RE s hs).1.symm
  have h47 : ∀ s, s < 5 → M1 47 0 0 s = M 25 s 0 0 := fun s hs => (hk 47 0 0 s (by omega)).trans (hR.RF s hs).1.symm
  have hmp : mp M1 = mp M := by
    funext i f
    exact hk 31 0 0 _ (by omega)
  refine zI.post (mX10_lay (n := n) (by rw [hk 31 0 0 1 (by omega)]; exact hR.hm) hR.n8 (fun i hi => by rw [hmp, hR.mp hi (by decide)]; exact (hR.ok hi).2.2.2.1) (fun s hs => by rw [hk 47 0 0 s (by omega)]; exact (hR.RF s hs).2.1)) (fun r2 M2 h2 => ?_)
  obtain ⟨rfl, e2⟩ := h2
  have hF := Flay_c (th := fun s => M 25 s 0 0) (so := fun s => M 3 s 0 0) (th' := fun s => M1 47 0 0 s) (so' := fun s => M1 44 0 0 s) h47 h44 n x t k
  rw [hF] at e2 ⊢
  refine ⟨rfl, ?_⟩
  by_cases h1 : Flay (fun s => M 25 s 0 0) (fun s => M 3 s 0 0) n x t k < 0
  · rw [if_pos h1] at e1 e2
    subst M1 M2
    exact ⟨_, _, _, _, hR⟩
  · rw [if_neg h1] at e1 e2
    obtain ⟨hx, ht, hk1, hk2⟩ := Flay_ok h1
    obtain ⟨s, hs, rfl⟩ := iin_nI (n := 5) (by decide) hx
    rw [nI_clamp (n := s) (by omega)] at e1 e2
    have keep : ∀ a x y f, ¬ ((a = 1 ∧ x = 14 + s) ∨ ((a = 3 ∨ a = 4) ∧ x = 4 + s) ∨ (a = 25 ∧ x = s) ∨ ((a = 47 ∨ a = 48 ∨ a = 49) ∧ f = s) ∨ (a = 50 ∧ 24 * s ≤ f ∧ f < 24 * s + 24)) → M2 a x y f = M a x y f := fun a x y f z => by
      rw [e2, layM_o (fun e => z (by omega)), e1, layC_o (fun e => z (by omega))]
    have kc : ∀ a x y f, a ≠ 47 ∧ a ≠ 48 ∧ a ≠ 49 ∧ a ≠ 50 → M2 a x y f = layC M s t k a x y f := fun a x y f z => by
      rw [e2, layM_o (fun e => by omega), e1]
    refine ⟨_, _, _, _, (hR.ch (D := fun a x y f => (a = 1 ∧ x = 14 + s) ∨ ((a = 3 ∨ a = 4) ∧ x = 4 + s) ∨ (a = 25 ∧ x = s) ∨ ((a = 47 ∨ a = 48 ∨ a = 49) ∧ f = s) ∨ (a = 50 ∧ 24 * s ≤ f ∧ f < 24 * s + 24)) ?_ (Or.inl (fun a x y f z q => by have q1 : (a = 1 ∧ x = 14 + s) ∨ ((a = 3 ∨ a = 4) ∧ x = 4 + s) ∨ (a = 25 ∧ x = s) ∨ ((a = 47 ∨ a = 48 ∨ a = 49) ∧ f = s) ∨ (a = 50 ∧ 24 * s ≤ f ∧ f < 24 * s + 24) := q; unfold RAd at z; omega)) (Or.inl (fun a x y f z q => by have q1 : (a = 1 ∧ x = 14 + s) ∨ ((a = 3 ∨ a = 4) ∧ x = 4 + s) ∨ (a = 25 ∧ x = s) ∨ ((a = 47 ∨ a = 48 ∨ a = 49) ∧ f = s) ∨ (a = 50 ∧ 24 * s ≤ f ∧ f < 24 * s + 24) := q; unfold RCd at z; omega)) (Or.inl (fun a x y f z q => by have q1 : (a = 1 ∧ x = 14 + s) ∨ ((a = 3 ∨ a = 4) ∧ x = 4 + s) ∨ (a = 25 ∧ x = s) ∨ ((a = 47 ∨ a = 48 ∨ a = 49) ∧ f = s) ∨ (a = 50 ∧ 24 * s ≤ f ∧ f < 24 * s + 24) := q; unfold RDd at z; omega)) (Or.inl (fun a x y f z q => by have q1 : (a = 1 ∧ x = 14 + s) ∨ ((a = 3 ∨ a = 4) ∧ x = 4 + s) ∨ (a = 25 ∧ x = s) ∨ ((a = 47 ∨ a = 48 ∨ a = 49) ∧ f = s) ∨ (a = 50 ∧ 24 * s ≤ f ∧ f < 24 * s + 24) := q; unfold REd at z; omega)) (Or.inr (fun s2 hs2 => ?_)) (Or.inl (fun a x y f z q => by have q1 : (a = 1 ∧ x = 14 + s) ∨ ((a = 3 ∨ a = 4) ∧ x = 4 + s) ∨ (a = 25 ∧ x = s) ∨ ((a = 47 ∨ a = 48 ∨ a = 49) ∧ f = s) ∨ (a = 50 ∧ 24 * s ≤ f ∧ f < 24 * s + 24) := q; unfold RGd at z; omega)) (Or.inl (fun a x y f z q => by have q1 : (a = 1 ∧ x = 14 + s) ∨ ((a = 3 ∨ a = 4) ∧ x = 4 + s) ∨ (a = 25 ∧ x = s) ∨ ((a = 47 ∨ a = 48 ∨ a = 49) ∧ f = s) ∨ (a = 50 ∧ 24 * s ≤ f ∧ f < 24 * s + 24) := q; unfold RHd at z; omega)))⟩
    · exact keep
    · obtain ⟨f1, f2, f3, f4, f5⟩ := hR.RF s2 hs2
      by_cases e : s2 = s
      · subst e
        have g47 : M2 47 0 0 s2 = t := by rw [e2]; exact layM_47.1
        have g48 : M2 48 0 0 s2 = layA M1 t k := by rw [e2]; exact layM_47.2.1
        have g49 : M2 49 0 0 s2 = layB M1 t k := by rw [e2]; exact layM_47.2.2
        have g25 : M2 25 s2 0 0 = t := by
          rw [kc 25 s2 0 0 (by decide)]
          unfold layC
          by_cases q : t = 1
          · rw [if_pos q]
            unfold pCopy
            rw [if_neg (fun z => absurd z.1 (by decide)), zu_self]
          · rw [if_neg q]
            by_cases q2 : t = 2
            · rw [if_pos q2]
              unfold shC2 zcp
              rw [if_neg (fun z => absurd z.1 (by decide)), zu_a (by decide), zu_a (by decide), zu_self]
            · rw [if_neg q2, zu_f (by decide), zu_self]
        rw [g47, g48, g49]
        refine ⟨g25, ht, fun q => ?_, fun q => ?_, fun q => ?_⟩
        · obtain ⟨i, hi, rfl⟩ := iin_nI (by have := hR.n8; omega) (hk1 q)
          have n8 := hR.n8
          have g1 : ∀ f, f < 7 → M2 1 (14 + s2) 0 f = M 1 0 i f := fun f hf => by
            rw [kc 1 _ 0 f (by decide), layC, if_pos q]
            unfold pCopy
            rw [if_pos ⟨rfl, rfl, rfl, hf⟩, nI_clamp (by omega), zu_a (by decide)]
          rw [layA, layB, if_pos q, if_pos q, nI_clamp (by omega), hmp, hR.mp hi (by decide), hR.mp hi (by decide), hR.mp hi (by decide), g1 0 (by decide), g1 2 (by decide), g1 3 (by decide)]
          exact ⟨rfl, (hR.ok hi).1, rfl⟩
        · obtain ⟨j, hj, rfl⟩ := iin_nI (n := 4) (by decide) (hk2 q)
          obtain ⟨a1, a2, a3, a4, a5⟩ := hR.RE j hj
          have q1 : ¬ t = 1 := by rw [q]; decide
          rw [layA, if_neg q1, if_pos q, nI_clamp (by omega), hk 45 0 0 j (by omega), kc 3 _ 0 1 (by decide), layC, if_neg q1, if_pos q, nI_clamp (by omega)]
          unfold shC2
          refine ⟨?_, a4, fun i hi => ?_⟩
          · unfold zcp
            rw [if_neg (fun z => absurd z.1 (by decide)), zu_self, zu_a (by decide)]
            exact a3.symm
          · rw [kc 4 _ 0 i (by decide), layC, if_neg q1, if_pos q, nI_clamp (by omega)]
            unfold shC2
            have w : M2 50 0 0 (24 * s2 + i) = M 46 0 0 (24 * j + i) := by
              rw [e2, layM, if_pos q, zpt_in hi, nI_clamp (by omega)]
              exact hk 46 0 0 _ (by omega)
            rw [w, ← a5 i hi]
            unfold zcp
            rw [if_pos ⟨rfl, rfl, rfl, by omega, by omega⟩, zu_a (by decide), zu_a (by decide), zu_a (by decide), show 0 + (i - 0) = i by omega]
        · have q1 : ¬ t = 1 := by rw [q]; decide
          have q2 : ¬ t = 2 := by rw [q]; decide
          rw [layA, if_neg q1, if_neg q2, kc 25 s2 0 3 (by decide), layC, if_neg q1, if_neg q2, zu_self]
      · have e1' : ∀ f, M2 1 (14 + s2) 0 f = M 1 (14 + s2) 0 f := fun f => keep _ _ _ _ (by omega)
        have e2' : ∀ f, M2 3 (4 + s2) 0 f = M 3 (4 + s2) 0 f := fun f => keep _ _ _ _ (by omega)
        have e3' : ∀ f, M2 4 (4 + s2) 0 f = M 4 (4 + s2) 0 f := fun f => keep _ _ _ _ (by omega)
        have e4' : ∀ f, M2 25 s2 0 f = M 25 s2 0 f := fun f => keep _ _ _ _ (by omega)
        rw [keep 47 0 0 s2 (by omega), keep 48 0 0 s2 (by omega), keep 49 0 0 s2 (by omega)]
        simp only [e1', e2', e3', e4']
        refine ⟨f1, f2, f3, fun q => ?_, f5⟩
        obtain ⟨b1, b2, b3⟩ := f4 q
        exact ⟨b1, b2, fun i hi => by rw [keep 50 0 0 _ (by omega)]; exact b3 i hi⟩