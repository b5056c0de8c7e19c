/-! CONSTRUCTORS: the thought -/
def sA0 : List zS := [((0, 0, 0), .inl (9, [some none, some none, some none, some none, some none, some none, some none, some none, some none, none, none]))]
def sA1 : List zS := sA0 ++ [((10, 0, 0), .inl (6, [some none, some none]))]
def sA2 : List zS := sA0 ++ tsB 1
def sA3 : List zS := sA2.set 0 (((0, 0, 0), .inl (9, [some (some (1)), some none, some none, some none, some none, some none, some none, some none, some none, none, none])))
def sA4 : List zS := sA3 ++ [((5, 0, 0), .inl (8, [some none, some none, none, none, none, none, none, none, none, none, none, some none]))]
def sA5 : List zS := sA3 ++ wdB 32 0
def sA6 : List zS := sA5.set 0 (((0, 0, 0), .inl (9, [some (some (1)), some (some (32)), some none, some none, some none, some none, some none, some none, some none, none, none])))
def sA7 : List zS := sA6 ++ [((5, 1, 0), .inl (8, [some none, some none, none, none, none, none, none, none, none, none, none, some none]))]
def sA8 : List zS := sA6 ++ wdB 43 1
def sA9 : List zS := sA8.set 0 (((0, 0, 0), .inl (9, [some (some (1)), some (some (32)), some (some (43)), some none, some none, some none, some none, some none, some none, none, none])))
def sA10 : List zS := sA9 ++ [((13, 0, 0), .inl (7, [some none, some none, some none, some none]))]
def sB1 : List zS := sA10 ++ [((14, 0, 0), .inr (.inr (5, [none, none, none, none, none, none, none, none, none, none, none, none])))]
def sB2 : List zS := sB1.set 54 (((13, 0, 0), .inl (7, [some (some (55)), some none, some none, some none])))
def sB3 : List zS := sB2 ++ ((15, 0, 0), .inr (.inr (6, [some (57), some (58), some (59), some (60), some (61), some (62), some (63), some (64), some (65), some (66), some (67), some (68)]))) :: [((16, 0, 0), .inr (.inl (0, 100))), ((16, 1, 0), .inr (.inl (0, 100))), ((16, 2, 0), .inr (.inl (0, 100))), ((16, 3, 0), .inr (.inl (0, 100))), ((16, 4, 0), .inr (.inl (0, 100))), ((16, 5, 0), .inr (.inl (0, 100))), ((16, 6, 0), .inr (.inl (0, 100))), ((16, 7, 0), .inr (.inl (0, 100))), ((16, 8, 0), .inr (.inl (0, 100))), ((16, 9, 0), .inr (.inl (0, 100))), ((16, 10, 0), .inr (.inl (0, 100))), ((16, 11, 0), .inr (.inl (0, 100)))]
def sB4 : List zS := sB3.set 54 (((13, 0, 0), .inl (7, [some (some (55)), some (some (56)), some none, some none])))
def sB5 : List zS := sB4 ++ [((17, 0, 0), .inr (.inl (0, 12)))]
def sB6 : List zS := sB5.set 54 (((13, 0, 0), .inl (7, [some (some (55)), some (some (56)), some (some (69)), some none])))
def sB7 : List zS := sB6 ++ [((18, 0, 0), .inr (.inl (0, 100)))]
def sB8 : List zS := sB7.set 54 (((13, 0, 0), .inl (7, [some (some (55)), some (some (56)), some (some (69)), some (some (70))])))
def sB9 : List zS := sB8 ++ [((5, 2, 0), .inl (8, [some none, some none, none, none, none, none, none, none, none, none, none, some none]))]
def sB10 : List zS := sB8 ++ wdB 71 2
def sB11 : List zS := sB10.set 55 (((14, 0, 0), .inr (.inr (5, [some (71), none, none, none, none, none, none, none, none, none, none, none]))))
set_option maxHeartbeats 1600000 in
set_option maxRecDepth 100000 in
theorem th_0 {X : zX} {l : Launch} {G : zG} {b : Nat} {d : Nat} {M : zM} (hd : 3 ≤ d) (C : zOK X l G b cX7_init 3 RX7 d) (I : zIn X) (A2 : zAl2 X [] 203 3969) (kk : ∀ M', (∀ a i j f, ¬ ((a = 1 ∨ a = 5 ∨ a = 6 ∨ a = 7) ∧ i = 2) → M' a i j f = M a i j f) → zW X sB11 M' 43 [some (.ref (b + 54)), some (.ref (b + 1)), some (.int 1)] []) : zW X sB8 M 43 [some (.ref (b + 54)), some (.ref (b + 1)), some (.int 0)] [] := by
  refine z_iload_n (pc := 43) C 2 dX7_init_43 rfl rfl ?_
  refine z_bipush (pc := 44) (v := 12) C dX7_init_44 rfl ?_
  refine z_icmp_ge (pc := 46) C 69 dX7_init_46 (by decide) (fun c46 => absurd c46 (by decide)) (fun c46 => ?_)
  refine z_aload_n (pc := 49) C 0 dX7_init_49 rfl rfl ?_
  refine z_getR (pc := 50) (k := 54) (r := 55) (q := (13, 0, 0)) (fl := [some (some (55)), some (some (56)), some (some (69)), some (some (70))]) C dX7_init_50 fX7_11 (zgt (by decide +kernel)) rfl ?_
  refine z_iload_n (pc := 53) C 2 dX7_init_53 rfl rfl ?_
  refine c_new (pc := 54) (S := sB8) (5, 2, 0) 71 sB9 C A2 dX7_init_54 wX7_9 (by decide +kernel) (by decide) (by decide +kernel) (by decide +kernel) (by decide +kernel) rfl ?_
  refine z_dup (pc := 57) C dX7_init_57 rfl ?_
  refine z_aload_n (pc := 58) C 1 dX7_init_58 rfl rfl ?_
  refine c_callI (pc := 59) (S := sB9) sB10 C I A2 dX7_init_59 jX7_29 (mX8_init (sh0 := sB8) (n := 71) (w := 2) (by decide +kernel) (by decide +kernel) (by unfold zFw; decide +kernel)) rfl rfl (by decide +kernel) (by decide +kernel) (by omega) rfl rfl (Nat.le_of_ble_eq_true rfl) (fun M59_10 h59_10 => ?_)
  refine c_aast (pc := 62) (S := sB10) (t := 5) (k := 55) (k2 := 71) (i := 0) (q := (14, 0, 0)) (q2 := (5, 2, 0)) (ci := 8) (rs := [none, none, none, none, none, none, none, none, none, none, none, none]) (fl := [some (some (1)), some (some (72)), none, none, none, none, none, none, none, none, none, some (some (73))]) sB11 C dX7_init_62 (zgt (by decide +kernel)) (zgt (by decide +kernel)) rfl rfl (show vp_in _ 12 from zi_in.mpr (by decide)) rfl rfl ?_
  refine z_iinc (pc := 63) (v := 1) (L' := [some (.ref (b + 54)), some (.ref (b + 1)), some (.int 1)]) C 2 dX7_init_63 (by decide) rfl rfl rfl ?_
  refine z_goto (pc := 66) C 43 dX7_init_66 (by decide) ?_
  refine kk _ (fun a i j f z => ?_)
  rw [h59_10.2 a i j (f) (by omega), zcl_ne (by show ¬ (a = 5 ∧ i = 2 ∧ j = 0); omega)]
def sB12 : List zS := sB11 ++ [((5, 3, 0), .inl (8, [some none, some none, none, none, none, none, none, none, none, none, none, some none]))]
def sB13 : List zS := sB11 ++ wdB 82 3
def sB14 : List zS := sB13.set 55 (((14, 0, 0), .inr (.inr (5, [some (71), some (82), none, none, none, none, none, none, none, none, none, none]))))
set_option maxHeartbeats 1600000 in
set_option maxRecDepth 100000 in
theorem th_1 {X : zX} {l : Launch} {G : zG} {b : Nat} {d : Nat} {M : zM} (hd : 3 ≤ d) (C : zOK X l G b cX7_init 3 RX7 d) (I : zIn X) (A2 : zAl2 X [] 203 3969) (kk : ∀ M', (∀ a i j f, ¬ ((a = 1 ∨ a = 5 ∨ a = 6 ∨ a = 7) ∧ i = 3) → M' a i j f = M a i j f) → zW X sB14 M' 43 [some (.ref (b + 54)), some (.ref (b + 1)), some (.int 2)] []) : zW X sB11 M 43 [some (.ref (b + 54)), some (.ref (b + 1)), some (.int 1)] [] := by
  refine z_iload_n (pc := 43) C 2 dX7_init_43 rfl rfl ?_
  refine z_bipush (pc := 44) (v := 12) C dX7_init_44 rfl ?_
  refine z_icmp_ge (pc := 46) C 69 dX7_init_46 (by decide) (fun c46 => absurd c46 (by decide)) (fun c46 => ?_)
  refine z_aload_n (pc := 49) C 0 dX7_init_49 rfl rfl ?_
  refine z_getR (pc := 50) (k := 54) (r := 55) (q := (13, 0, 0)) (fl := [some (some (55)), some (some (56)), some (some (69)), some (some (70))]) C dX7_init_50 fX7_11 (zgt (by decide +kernel)) rfl ?_
  refine z_iload_n (pc := 53) C 2 dX7_init_53 rfl rfl ?_
  refine c_new (pc := 54) (S := sB11) (5, 3, 0) 82 sB12 C A2 dX7_init_54 wX7_9 (by decide +kernel) (by decide) (by decide +kernel) (by decide +kernel) (by decide +kernel) rfl ?_
  refine z_dup (pc := 57) C dX7_init_57 rfl ?_
  refine z_aload_n (pc := 58) C 1 dX7_init_58 rfl rfl ?_
  refine c_callI (pc := 59) (S := sB12) sB13 C I A2 dX7_init_59 jX7_29 (mX8_init (sh0 := sB11) (n := 82) (w := 3) (by decide +kernel) (by decide +kernel) (by unfold zFw; decide +kernel)) rfl rfl (by decide +kernel) (by decide +kernel) (by omega) rfl rfl (Nat.le_of_ble_eq_true rfl) (fun M59_10 h59_10 => ?_)
  refine c_aast (pc := 62) (S := sB13) (t := 5) (k := 55) (k2 := 82) (i := 1) (q := (14, 0, 0)) (q2 := (5, 3, 0)) (ci := 8) (rs := [some (71), none, none, none, none, none, none, none, none, none, none, none]) (fl := [some (some (1)), some (some (83)), none, none, none, none, none, none, none, none, none, some (some (84))]) sB14 C dX7_init_62 (zgt (by decide +kernel)) (zgt (by decide +kernel)) rfl rfl (show vp_in _ 12 from zi_in.mpr (by decide)) rfl rfl ?_
  refine z_iinc (pc := 63) (v := 1) (L' := [some (.ref (b + 54)), some (.ref (b + 1)), some (.int 2)]) C 2 dX7_init_63 (by decide) rfl rfl rfl ?_
  refine z_goto (pc := 66) C 43 dX7_init_66 (by decide) ?_
  refine kk _ (fun a i j f z => ?_)
  rw [h59_10.2 a i j (f) (by omega), zcl_ne (by show ¬ (a = 5 ∧ i = 3 ∧ j = 0); omega)]
def sB15 : List zS := sB14 ++ [((5, 4, 0), .inl (8, [some none, some none, none, none, none, none, none, none, none, none, none, some none]))]
def sB16 : List zS := sB14 ++ wdB 93 4
def sB17 : List zS := sB16.set 55 (((14, 0, 0), .inr (.inr (5, [some (71), some (82), some (93), none, none, none, none, none, none, none, none, none]))))
set_option maxHeartbeats 1600000 in
set_option maxRecDepth 100000 in
theorem th_2 {X : zX} {l : Launch} {G : zG} {b : Nat} {d : Nat} {M : zM} (hd : 3 ≤ d) (C : zOK X l G b cX7_init 3 RX7 d) (I : zIn X) (A2 : zAl2 X [] 203 3969) (kk : ∀ M', (∀ a i j f, ¬ ((a = 1 ∨ a = 5 ∨ a = 6 ∨ a = 7) ∧ i = 4) → M' a i j f = M a i j f) → zW X sB17 M' 43 [some (.ref (b + 54)), some (.ref (b + 1)), some (.int 3)] []) : zW X sB14 M 43 [some (.ref (b + 54)), some (.ref (b + 1)), some (.int 2)] [] := by
  refine z_iload_n (pc := 43) C 2 dX7_init_43 rfl rfl ?_
  refine z_bipush (pc := 44) (v := 12) C dX7_init_44 rfl ?_
  refine z_icmp_ge (pc := 46) C 69 dX7_init_46 (by decide) (fun c46 => absurd c46 (by decide)) (fun c46 => ?_)
  refine z_aload_n (pc := 49) C 0 dX7_init_49 rfl rfl ?_
  refine z_getR (pc := 50) (k := 54) (r := 55) (q := (13, 0, 0)) (fl := [some (some (55)), some (some (56)), some (some (69)), some (some (70))]) C dX7_init_50 fX7_11 (zgt (by decide +kernel)) rfl ?_
  refine z_iload_n (pc := 53) C 2 dX7_init_53 rfl rfl ?_
  refine c_new (pc := 54) (S := sB14) (5, 4, 0) 93 sB15 C A2 dX7_init_54 wX7_9 (by decide +kernel) (by decide) (by decide +kernel) (by decide +kernel) (by decide +kernel) rfl ?_
  refine z_dup (pc := 57) C dX7_init_57 rfl ?_
  refine z_aload_n (pc := 58) C 1 dX7_init_58 rfl rfl ?_
  refine c_callI (pc := 59) (S := sB15) sB16 C I A2 dX7_init_59 jX7_29 (mX8_init (sh0 := sB14) (n := 93) (w := 4) (by decide +kernel) (by decide +kernel) (by unfold zFw; decide +kernel)) rfl rfl (by decide +kernel) (by decide +kernel) (by omega) rfl rfl (Nat.le_of_ble_eq_true rfl) (fun M59_10 h59_10 => ?_)
  refine c_aast (pc := 62) (S := sB16) (t := 5) (k := 55) (k2 := 93) (i := 2) (q := (14, 0, 0)) (q2 := (5, 4, 0)) (ci := 8) (rs := [some (71), some (82), none, none, none, none, none, none, none, none, none, none]) (fl := [some (some (1)), some (some (94)), none, none, none, none, none, none, none, none, none, some (some (95))]) sB17 C dX7_init_62 (zgt (by decide +kernel)) (zgt (by decide +kernel)) rfl rfl (show vp_in _ 12 from zi_in.mpr (by decide)) rfl rfl ?_
  refine z_iinc (pc := 63) (v := 1) (L' := [some (.ref (b + 54)), some (.ref (b + 1)), some (.int 3)]) C 2 dX7_init_63 (by decide) rfl rfl rfl ?_
  refine z_goto (pc := 66) C 43 dX7_init_66 (by decide) ?_
  refine kk _ (fun a i j f z => ?_)
  rw [h59_10.2 a i j (f) (by omega), zcl_ne (by show ¬ (a = 5 ∧ i = 4 ∧ j = 0); omega)]
def sB18 : List zS := sB17 ++ [((5, 5, 0), .inl (8, [some none, some none, none, none, none, none, none, none, none, none, none, some none]))]
def sB19 : List zS := sB17 ++ wdB 104 5
def sB20 : List zS := sB19.set 55 (((14, 0, 0), .inr (.inr (5, [some (71), some (82), some (93), some (104), none, none, none, none, none, none, none, none]))))
set_option maxHeartbeats 1600000 in
set_option maxRecDepth 100000 in
theorem th_3 {X : zX} {l : Launch} {G : zG} {b : Nat} {d : Nat} {M : zM} (hd : 3 ≤ d) (C : zOK X l G b cX7_init 3 RX7 d) (I : zIn X) (A2 : zAl2 X [] 203 3969) (kk : ∀ M', (∀ a i j f, ¬ ((a = 1 ∨ a = 5 ∨ a = 6 ∨ a = 7) ∧ i = 5) → M' a i j f = M a i j f) → zW X sB20 M' 43 [some (.ref (b + 54)), some (.ref (b + 1)), some (.int 4)] []) : zW X sB17 M 43 [some (.ref (b + 54)), some (.ref (b + 1)), some (.int 3)] [] := by
  refine z_iload_n (pc := 43) C 2 dX7_init_43 rfl rfl ?_
  refine z_bipush (pc := 44) (v := 12) C dX7_init_44 rfl ?_
  refine z_icmp_ge (pc := 46) C 69 dX7_init_46 (by decide) (fun c46 => absurd c46 (by decide)) (fun c46 => ?_)
  refine z_aload_n (pc := 49) C 0 dX7_init_49 rfl rfl ?_
  refine z_getR (pc := 50) (k := 54) (r := 55) (q := (13, 0, 0)) (fl := [some (some (55)), some (some (56)), some (some (69)), some (some (70))]) C dX7_init_50 fX7_11 (zgt (by decide +kernel)) rfl ?_
  refine z_iload_n (pc := 53) C 2 dX7_init_53 rfl rfl ?_
  refine c_new (pc := 54) (S := sB17) (5, 5, 0) 104 sB18 C A2 dX7_init_54 wX7_9 (by decide +kernel) (by decide) (by decide +kernel) (by decide +kernel) (by decide +kernel) rfl ?_
  refine z_dup (pc := 57) C dX7_init_57 rfl ?_
  refine z_aload_n (pc := 58) C 1 dX7_init_58 rfl rfl ?_
  refine c_callI (pc := 59) (S := sB18) sB19 C I A2 dX7_init_59 jX7_29 (mX8_init (sh0 := sB17) (n := 104) (w := 5) (by decide +kernel) (by decide +kernel) (by unfold zFw; decide +kernel)) rfl rfl (by decide +kernel) (by decide +kernel) (by omega) rfl rfl (Nat.le_of_ble_eq_true rfl) (fun M59_10 h59_10 => ?_)
  refine c_aast (pc := 62) (S := sB19) (t := 5) (k := 55) (k2 := 104) (i := 3) (q := (14, 0, 0)) (q2 := (5, 5, 0)) (ci := 8) (rs := [some (71), some (82), some (93), none, none, none, none, none, none, none, none, none]) (fl := [some (some (1)), some (some (105)), none, none, none, none, none, none, none, none, none, some (some (106))]) sB20 C dX7_init_62 (zgt (by decide +kernel)) (zgt (by decide +kernel)) rfl rfl (show vp_in _ 12 from zi_in.mpr (by decide)) rfl rfl ?_
  refine z_iinc (pc := 63) (v := 1) (L' := [some (.ref (b + 54)), some (.ref (b + 1)), some (.int 4)]) C 2 dX7_init_63 (by decide) rfl rfl rfl ?_
  refine z_goto (pc := 66) C 43 dX7_init_66 (by decide) ?_
  refine kk _ (fun a i j f z => ?_)
  rw [h59_10.2 a i j (f) (by omega), zcl_ne (by show ¬ (a = 5 ∧ i = 5 ∧ j = 0); omega)]
def sB21 : List zS := sB20 ++ [((5, 6, 0), .inl (8, [some none, some none, none, none, none, none, none, none, none, none, none, some none]))]
def sB22 : List zS := sB20 ++ wdB 115 6
def sB23 : List zS := sB22.set 55 (((14, 0, 0), .inr (.inr (5, [some (71), some (82), some (93), some (104), some (115), none, none, none, none, none, none, none]))))
set_option maxHeartbeats 1600000 in
set_option maxRecDepth 100000 in
theorem th_4 {X : zX} {l : Launch} {G : zG} {b : Nat} {d : Nat} {M : zM} (hd : 3 ≤ d) (C : zOK X l G b cX7_init 3 RX7 d) (I : zIn X) (A2 : zAl2 X [] 203 3969) (kk : ∀ M', (∀ a i j f, ¬ ((a = 1 ∨ a = 5 ∨ a = 6 ∨ a = 7) ∧ i = 6) → M' a i j f = M a i j f) → zW X sB23 M' 43 [some (.ref (b + 54)), some (.ref (b + 1)), some (.int 5)] []) : zW X sB20 M 43 [some (.ref (b + 54)), some (.ref (b + 1)), some (.int 4)] [] := by
  refine z_iload_n (pc := 43) C 2 dX7_init_43 rfl rfl ?_
  refine z_bipush (pc := 44) (v := 12) C dX7_init_44 rfl ?_
  refine z_icmp_ge (pc := 46) C 69 dX7_init_46 (by decide) (fun c46 => absurd c46 (by decide)) (fun c46 => ?_)
  refine z_aload_n (pc := 49) C 0 dX7_init_49 rfl rfl ?_
  refine z_getR (pc := 50) (k := 54) (r := 55) (q := (13, 0, 0)) (fl := [some (some (55)), some (some (56)), some (some (69)), some (some (70))]) C dX7_init_50 fX7_11 (zgt (by decide +kernel)) rfl ?_
  refine z_iload_n (pc := 53) C 2 dX7_init_53 rfl rfl ?_
  refine c_new (pc := 54) (S := sB20) (5, 6, 0) 115 sB21 C A2 dX7_init_54 wX7_9 (by decide +kernel) (by decide) (by decide +kernel) (by decide +kernel) (by decide +kernel) rfl ?_
  refine z_dup (pc := 57) C dX7_init_57 rfl ?_
  refine z_aload_n (pc := 58) C 1 dX7_init_58 rfl rfl ?_
  refine c_callI (pc := 59) (S := sB21) sB22 C I A2 dX7_init_59 jX7_29 (mX8_init (sh0 := sB20) (n := 115) (w := 6) (by decide +kernel) (by decide +kernel) (by unfold zFw; decide +kernel)) rfl rfl (by decide +kernel) (by decide +kernel) (by omega) rfl rfl (Nat.le_of_ble_eq_true rfl) (fun M59_10 h59_10 => ?_)
  refine c_aast (pc := 62) (S := sB22) (t := 5) (k := 55) (k2 := 115) (i := 4) (q := (14, 0, 0)) (q2 := (5, 6, 0)) (ci := 8) (rs := [some (71), some (82), some (93), some (104), none, none, none, none, none, none, none, none]) (fl := [some (some (1)), some (some (116)), none, none, none, none, none, none, none, none, none, some (some (117))]) sB23 C dX7_init_62 (zgt (by decide +kernel)) (zgt (by decide +kernel)) rfl rfl (show vp_in _ 12 from zi_in.mpr (by decide)) rfl rfl ?_
  refine z_iinc (pc := 63) (v := 1) (L' := [some (.ref (b + 54)), some (.ref (b + 1)), some (.int 5)]) C 2 dX7_init_63 (by decide) rfl rfl rfl ?_
  refine z_goto (pc := 66) C 43 dX7_init_66 (by decide) ?_
  refine kk _ (fun a i j f z => ?_)
  rw [h59_10.2 a i j (f) (by omega), zcl_ne (by show ¬ (a = 5 ∧ i = 6 ∧ j = 0); omega)]
def sB24 : List zS := sB23 ++ [((5, 7, 0), .inl (8, [some none, some none, none, none, none, none, none, none, none, none, none, some none]))]
def sB25 : List zS := sB23 ++ wdB 126 7
def sB26 : List zS := sB25.set 55 (((14, 0, 0), .inr (.inr (5, [some (71), some (82), some (93), some (104), some (115), some (126), none, none, none, none, none, none]))))
set_option maxHeartbeats 1600000 in
set_option maxRecDepth 100000 in
theorem th_5 {X : zX} {l : Launch} {G : zG} {b : Nat} {d : Nat} {M : zM} (hd : 3 ≤ d) (C : zOK X l G b cX7_init 3 RX7 d) (I : zIn X) (A2 : zAl2 X [] 203 3969) (kk : ∀ M', (∀ a i j f, ¬ ((a = 1 ∨ a = 5 ∨ a = 6 ∨ a = 7) ∧ i = 7) → M' a i j f = M a i j f) → zW X sB26 M' 43 [some (.ref (b + 54)), some (.ref (b + 1)), some (.int 6)] []) : zW X sB23 M 43 [some (.ref (b + 54)), some (.ref (b + 1)), some (.int 5)] [] := by
  refine z_iload_n (pc := 43) C 2 dX7_init_43 rfl rfl ?_
  refine z_bipush (pc := 44) (v := 12) C dX7_init_44 rfl ?_
  refine z_icmp_ge (pc := 46) C 69 dX7_init_46 (by decide) (fun c46 => absurd c46 (by decide)) (fun c46 => ?_)
  refine z_aload_n (pc := 49) C 0 dX7_init_49 rfl rfl ?_
  refine z_getR (pc := 50) (k := 54) (r := 55) (q := (13, 0, 0)) (fl := [some (some (55)), some (some (56)), some (some (69)), some (some (70))]) C dX7_init_50 fX7_11 (zgt (by decide +kernel)) rfl ?_
  refine z_iload_n (pc := 53) C 2 dX7_init_53 rfl rfl ?_
  refine c_new (pc := 54) (S := sB23) (5, 7, 0) 126 sB24 C A2 dX7_init_54 wX7_9 (by decide +kernel) (by decide) (by decide +kernel) (by decide +kernel) (by decide +kernel) rfl ?_
  refine z_dup (pc := 57) C dX7_init_57 rfl ?_
  refine z_aload_n (pc := 58) C 1 dX7_init_58 rfl rfl ?_
  refine c_callI (pc := 59) (S := sB24) sB25 C I A2 dX7_init_59 jX7_29 (mX8_init (sh0 := sB23) (n := 126) (w := 7) (by decide +kernel) (by decide +kernel) (by unfold zFw; decide +kernel)) rfl rfl (by decide +kernel) (by decide +kernel) (by omega) rfl rfl (Nat.le_of_ble_eq_true rfl) (fun M59_10 h59_10 => ?_)
  refine c_aast (pc := 62) (S := sB25) (t := 5) (k := 55) (k2 := 126) (i := 5) (q := (14, 0, 0)) (q2 := (5, 7, 0)) (ci := 8) (rs := [some (71), some (82), some (93), some (104), some (115), none, none, none, none, none, none, none]) (fl := [some (some (1)), some (some (127)), none, none, none, none, none, none, none, none, none, some (some (128))]) sB26 C dX7_init_62 (zgt (by decide +kernel)) (zgt (by decide +kernel)) rfl rfl (show vp_in _ 12 from zi_in.mpr (by decide)) rfl rfl ?_
  refine z_iinc (pc := 63) (v := 1) (L' := [some (.ref (b + 54)), some (.ref (b + 1)), some (.int 6)]) C 2 dX7_init_63 (by decide) rfl rfl rfl ?_
  refine z_goto (pc := 66) C 43 dX7_init_66 (by decide) ?_
  refine kk _ (fun a i j f z => ?_)
  rw [h59_10.2 a i j (f) (by omega), zcl_ne (by show ¬ (a = 5 ∧ i = 7 ∧ j = 0); omega)]
def sB27 : List zS := sB26 ++ [((5, 8, 0), .inl (8, [some none, some none, none, none, none, none, none, none, none, none, none, some none]))]
def sB28 : List zS := sB26 ++ wdB 137 8
def sB29 : List zS := sB28.set 55 (((14, 0, 0), .inr (.inr (5, [some (71), some (82), some (93), some (104), some (115), some (126), some (137), none, none, none, none, none]))))
set_option maxHeartbeats 1600000 in
set_option maxRecDepth 100000 in
theorem th_6 {X : zX} {l : Launch} {G : zG} {b : Nat} {d : Nat} {M : zM} (hd : 3 ≤ d) (C : zOK X l G b cX7_init 3 RX7 d) (I : zIn X) (A2 : zAl2 X [] 203 3969) (kk : ∀ M', (∀ a i j f, ¬ ((a = 1 ∨ a = 5 ∨ a = 6 ∨ a = 7) ∧ i = 8) → M' a i j f = M a i j f) → zW X sB29 M' 43 [some (.ref (b + 54)), some (.ref (b + 1)), some (.int 7)] []) : zW X sB26 M 43 [some (.ref (b + 54)), some (.ref (b + 1)), some (.int 6)] [] := by
  refine z_iload_n (pc := 43) C 2 dX7_init_43 rfl rfl ?_
  refine z_bipush (pc := 44) (v := 12) C dX7_init_44 rfl ?_
  refine z_icmp_ge (pc := 46) C 69 dX7_init_46 (by decide) (fun c46 => absurd c46 (by decide)) (fun c46 => ?_)
  refine z_aload_n (pc := 49) C 0 dX7_init_49 rfl rfl ?_
  refine z_getR (pc := 50) (k := 54) (r := 55) (q := (13, 0, 0)) (fl := [some (some (55)), some (some (56)), some (some (69)), some (some (70))]) C dX7_init_50 fX7_11 (zgt (by decide +kernel)) rfl ?_
  refine z_iload_n (pc := 53) C 2 dX7_init_53 rfl rfl ?_
  refine c_new (pc := 54) (S := sB26) (5, 8, 0) 137 sB27 C A2 dX7_init_54 wX7_9 (by decide +kernel) (by decide) (by decide +kernel) (by decide +kernel) (by decide +kernel) rfl ?_
  refine z_dup (pc := 57) C dX7_init_57 rfl ?_
  refine z_aload_n (pc := 58) C 1 dX7_init_58 rfl rfl ?_
  refine c_callI (pc := 59) (S := sB27) sB28 C I A2 dX7_init_59 jX7_29 (mX8_init (sh0 := sB26) (n := 137) (w := 8) (by decide +kernel) (by decide +kernel) (by unfold zFw; decide +kernel)) rfl rfl (by decide +kernel) (by decide +kernel) (by omega) rfl rfl (Nat.le_of_ble_eq_true rfl) (fun M59_10 h59_10 => ?_)
  refine c_aast (pc := 62) (S := sB28) (t := 5) (k := 55) (k2 := 137) (i := 6) (q := (14, 0, 0)) (q2 := (5, 8, 0)) (ci := 8) (rs := [some (71), some (82), some (93), some (104), some (115), some (126), none, none, none, none, none, none]) (fl := [some (some (1)), some (some (138)), none, none, none, none, none, none, none, none, none, some (some (139))]) sB29 C dX7_init_62 (zgt (by decide +kernel)) (zgt (by decide +kernel)) rfl rfl (show vp_in _ 12 from zi_in.mpr (by decide)) rfl rfl ?_
  refine z_iinc (pc := 63) (v := 1) (L' := [some (.ref (b + 54)), some (.ref (b + 1)), some (.int 7)]) C 2 dX7_init_63 (by decide) rfl rfl rfl ?_
  refine z_goto (pc := 66) C 43 dX7_init_66 (by decide) ?_
  refine kk _ (fun a i j f z => ?_)
  rw [h59_10.2 a i j (f) (by omega), zcl_ne (by show ¬ (a = 5 ∧ i = 8 ∧ j = 0); omega)]
def sB30 : List zS := sB29 ++ [((5, 9, 0), .inl (8, [some none, some none, none, none, none, none, none, none, none, none, none, some none]))]
def sB31 : List zS := sB29 ++ wdB 148 9
def sB32 : List zS := sB31.set 55 (((14, 0, 0), .inr (.inr (5, [some (71), some (82), some (93), some (104), some (115), some (126), some (137), some (148), none, none, none, none]))))
set_option maxHeartbeats 1600000 in
set_option maxRecDepth 100000 in
theorem th_7 {X : zX} {l : Launch} {G : zG} {b : Nat} {d : Nat} {M : zM} (hd : 3 ≤ d) (C : zOK X l G b cX7_init 3 RX7 d) (I : zIn X) (A2 : zAl2 X [] 203 3969) (kk : ∀ M', (∀ a i j f, ¬ ((a = 1 ∨ a = 5 ∨ a = 6 ∨ a = 7) ∧ i = 9) → M' a i j f = M a i j f) → zW X sB32 M' 43 [some (.ref (b + 54)), some (.ref (b + 1)), some (.int 8)] []) : zW X sB29 M 43 [some (.ref (b + 54)), some (.ref (b + 1)), some (.int 7)] [] := by
  refine z_iload_n (pc := 43) C 2 dX7_init_43 rfl rfl ?_
  refine z_bipush (pc := 44) (v := 12) C dX7_init_44 rfl ?_
  refine z_icmp_ge (pc := 46) C 69 dX7_init_46 (by decide) (fun c46 => absurd c46 (by decide)) (fun c46 => ?_)
  refine z_aload_n (pc := 49) C 0 dX7_init_49 rfl rfl ?_
  refine z_getR (pc := 50) (k := 54) (r := 55) (q := (13, 0, 0)) (fl := [some (some (55)), some (some (56)), some (some (69)), some (some (70))]) C dX7_init_50 fX7_11 (zgt (by decide +kernel)) rfl ?_
  refine z_iload_n (pc := 53) C 2 dX7_init_53 rfl rfl ?_
  refine c_new (pc := 54) (S := sB29) (5, 9, 0) 148 sB30 C A2 dX7_init_54 wX7_9 (by decide +kernel) (by decide) (by decide +kernel) (by decide +kernel) (by decide +kernel) rfl ?_
  refine z_dup (pc := 57) C dX7_init_57 rfl ?_
  refine z_aload_n (pc := 58) C 1 dX7_init_58 rfl rfl ?_
  refine c_callI (pc := 59) (S := sB30) sB31 C I A2 dX7_init_59 jX7_29 (mX8_init (sh0 := sB29) (n := 148) (w := 9) (by decide +kernel) (by decide +kernel) (by unfold zFw; decide +kernel)) rfl rfl (by decide +kernel) (by decide +kernel) (by omega) rfl rfl (Nat.le_of_ble_eq_true rfl) (fun M59_10 h59_10 => ?_)
  refine c_aast (pc := 62) (S := sB31) (t := 5) (k := 55) (k2 := 148) (i := 7) (q := (14, 0, 0)) (q2 := (5, 9, 0)) (ci := 8) (rs := [some (71), some (82), some (93), some (104), some (115), some (126), some (137), none, none, none, none, none]) (fl := [some (some (1)), some (some (149)), none, none, none, none, none, none, none, none, none, some (some (150))]) sB32 C dX7_init_62 (zgt (by decide +kernel)) (zgt (by decide +kernel)) rfl rfl (show vp_in _ 12 from zi_in.mpr (by decide)) rfl rfl ?_
  refine z_iinc (pc := 63) (v := 1) (L' := [some (.ref (b + 54)), some (.ref (b + 1)), some (.int 8)]) C 2 dX7_init_63 (by decide) rfl rfl rfl ?_
  refine z_goto (pc := 66) C 43 dX7_init_66 (by decide) ?_
  refine kk _ (fun a i j f z => ?_)
  rw [h59_10.2 a i j (f) (by omega), zcl_ne (by show ¬ (a = 5 ∧ i = 9 ∧ j = 0); omega)]
def sB33 : List zS := sB32 ++ [((5, 10, 0), .inl (8, [some none, some none, none, none, none, none, none, none, none, none, none, some none]))]
def sB34 : List zS := sB32 ++ wdB 159 10
def sB35 : List zS := sB34.set 55 (((14, 0, 0), .inr (.inr (5, [some (71), some (82), some (93), some (104), some (115), some (126), some (137), some (148), some (159), none, none, none]))))
set_option maxHeartbeats 1600000 in
set_option maxRecDepth 100000 in
theorem th_8 {X : zX} {l : Launch} {G : zG} {b : Nat} {d : Nat} {M : zM} (hd : 3 ≤ d) (C : zOK X l G b cX7_init 3 RX7 d) (I : zIn X) (A2 : zAl2 X [] 203 3969) (kk : ∀ M', (∀ a i j f, ¬ ((a = 1 ∨ a = 5 ∨ a = 6 ∨ a = 7) ∧ i = 10) → M' a i j f = M a i j f) → zW X sB35 M' 43 [some (.ref (b + 54)), some (.ref (b + 1)), some (.int 9)] []) : zW X sB32 M 43 [some (.ref (b + 54)), some (.ref (b + 1)), some (.int 8)] [] := by
  refine z_iload_n (pc := 43) C 2 dX7_init_43 rfl rfl ?_
  refine z_bipush (pc := 44) (v := 12) C dX7_init_44 rfl ?_
  refine z_icmp_ge (pc := 46) C 69 dX7_init_46 (by decide) (fun c46 => absurd c46 (by decide)) (fun c46 => ?_)
  refine z_aload_n (pc := 49) C 0 dX7_init_49 rfl rfl ?_
  refine z_getR (pc := 50) (k := 54) (r := 55) (q := (13, 0, 0)) (fl := [some (some (55)), some (some (56)), some (some (69)), some (some (70))]) C dX7_init_50 fX7_11 (zgt (by decide +kernel)) rfl ?_
  refine z_iload_n (pc := 53) C 2 dX7_init_53 rfl rfl ?_
  refine c_new (pc := 54) (S := sB32) (5, 10, 0) 159 sB33 C A2 dX7_init_54 wX7_9 (by decide +kernel) (by decide) (by decide +kernel) (by decide +kernel) (by decide +kernel) rfl ?_
  refine z_dup (pc := 57) C dX7_init_57 rfl ?_
  refine z_aload_n (pc := 58) C 1 dX7_init_58 rfl rfl ?_
  refine c_callI (pc := 59) (S := sB33) sB34 C I A2 dX7_init_59 jX7_29 (mX8_init (sh0 := sB32) (n := 159) (w := 10) (by decide +kernel) (by decide +kernel) (by unfold zFw; decide +kernel)) rfl rfl (by decide +kernel) (by decide +kernel) (by omega) rfl rfl (Nat.le_of_ble_eq_true rfl) (fun M59_10 h59_10 => ?_)
  refine c_aast (pc := 62) (S := sB34) (t := 5) (k := 55) (k2 := 159) (i := 8) (q := (14, 0, 0)) (q2 := (5, 10, 0)) (ci := 8) (rs := [some (71), some (82), some (93), some (104), some (115), some (126), some (137), some (148), none, none, none, none]) (fl := [some (some (1)), some (some (160)), none, none, none, none, none, none, none, none, none, some (some (161))]) sB35 C dX7_init_62 (zgt (by decide +kernel)) (zgt (by decide +kernel)) rfl rfl (show vp_in _ 12 from zi_in.mpr (by decide)) rfl rfl ?_
  refine z_iinc (pc := 63) (v := 1) (L' := [some (.ref (b + 54)), some (.ref (b + 1)), some (.int 9)]) C 2 dX7_init_63 (by decide) rfl rfl rfl ?_
  refine z_goto (pc := 66) C 43 dX7_init_66 (by decide) ?_
  refine kk _ (fun a i j f z => ?_)
  rw [h59_10.2 a i j (f) (by omega), zcl_ne (by show ¬ (a = 5 ∧ i = 10 ∧ j = 0); omega)]
def sB36 : List zS := sB35 ++ [((5, 11, 0), .inl (8, [some none, some none, none, none, none, none, none, none, none, none, none, some none]))]
def sB37 : List zS := sB35 ++ wdB 170 11
def sB38 : List zS := sB37.set 55 (((14, 0, 0), .inr (.inr (5, [some (71), some (82), some (93), some (104), some (115), some (126), some (137), some (148), some (159), some (170), none, none]))))
set_option maxHeartbeats 1600000 in
set_option maxRecDepth 100000 in
theorem th_9 {X : zX} {l : Launch} {G : zG} {b : Nat} {d : Nat} {M : zM} (hd : 3 ≤ d) (C : zOK X l G b cX7_init 3 RX7 d) (I : zIn X) (A2 : zAl2 X [] 203 3969) (kk : ∀ M', (∀ a i j f, ¬ ((a = 1 ∨ a = 5 ∨ a = 6 ∨ a = 7) ∧ i = 11) → M' a i j f = M a i j f) → zW X sB38 M' 43 [some (.ref (b + 54)), some (.ref (b + 1)), some (.int 10)] []) : zW X sB35 M 43 [some (.ref (b + 54)), some (.ref (b + 1)), some (.int 9)] [] := by
  refine z_iload_n (pc := 43) C 2 dX7_init_43 rfl rfl ?_
  refine z_bipush (pc := 44) (v := 12) C dX7_init_44 rfl ?_
  refine z_icmp_ge (pc := 46) C 69 dX7_init_46 (by decide) (fun c46 => absurd c46 (by decide)) (fun c46 => ?_)
  refine z_aload_n (pc := 49) C 0 dX7_init_49 rfl rfl ?_
  refine z_getR (pc := 50) (k := 54) (r := 55) (q := (13, 0, 0)) (fl := [some (some (55)), some (some (56)), some (some (69)), some (some (70))]) C dX7_init_50 fX7_11 (zgt (by decide +kernel)) rfl ?_
  refine z_iload_n (pc := 53) C 2 dX7_init_53 rfl rfl ?_
  refine c_new (pc := 54) (S := sB35) (5, 11, 0) 170 sB36 C A2 dX7_init_54 wX7_9 (by decide +kernel) (by decide) (by decide +kernel) (by decide +kernel) (by decide +kernel) rfl ?_
  refine z_dup (pc := 57) C dX7_init_57 rfl ?_
  refine z_aload_n (pc := 58) C 1 dX7_init_58 rfl rfl ?_
  refine c_callI (pc := 59) (S := sB36) sB37 C I A2 dX7_init_59 jX7_29 (mX8_init (sh0 := sB35) (n := 170) (w := 11) (by decide +kernel) (by decide +kernel) (by unfold zFw; decide +kernel)) rfl rfl (by decide +kernel) (by decide +kernel) (by omega) rfl rfl (Nat.le_of_ble_eq_true rfl) (fun M59_10 h59_10 => ?_)
  refine c_aast (pc := 62) (S := sB37) (t := 5) (k := 55) (k2 := 170) (i := 9) (q := (14, 0, 0)) (q2 := (5, 11, 0)) (ci := 8) (rs := [some (71), some (82), some (93), some (104), some (115), some (126), some (137), some (148), some (159), none, none, none]) (fl := [some (some (1)), some (some (171)), none, none, none, none, none, none, none, none, none, some (some (172))]) sB38 C dX7_init_62 (zgt (by decide +kernel)) (zgt (by decide +kernel)) rfl rfl (show vp_in _ 12 from zi_in.mpr (by decide)) rfl rfl ?_
  refine z_iinc (pc := 63) (v := 1) (L' := [some (.ref (b + 54)), some (.ref (b + 1)), some (.int 10)]) C 2 dX7_init_63 (by decide) rfl rfl rfl ?_
  refine z_goto (pc := 66) C 43 dX7_init_66 (by decide) ?_
  refine kk _ (fun a i j f z => ?_)
  rw [h59_10.2 a i j (f) (by omega), zcl_ne (by show ¬ (a = 5 ∧ i = 11 ∧ j = 0); omega)]
def sB39 : List zS := sB38 ++ [((5, 12, 0), .inl (8, [some none, some none, none, none, none, none, none, none, none, none, none, some none]))]
def sB40 : List zS := sB38 ++ wdB 181 12
def sB41 : List zS := sB40.set 55 (((14, 0, 0), .inr (.inr (5, [some (71), some (82), some (93), some (104), some (115), some (126), some (137), some (148), some (159), some (170), some (181), none]))))
set_option maxHeartbeats 1600000 in
set_option maxRecDepth 100000 in
theorem th_10 {X : zX} {l : Launch} {G : zG} {b : Nat} {d : Nat} {M : zM} (hd : 3 ≤ d) (C : zOK X l G b cX7_init 3 RX7 d) (I : zIn X) (A2 : zAl2 X [] 203 3969) (kk : ∀ M', (∀ a i j f, ¬ ((a = 1 ∨ a = 5 ∨ a = 6 ∨ a = 7) ∧ i = 12) → M' a i j f = M a i j f) → zW X sB41 M' 43 [some (.ref (b + 54)), some (.ref (b + 1)), some (.int 11)] []) : zW X sB38 M 43 [some (.ref (b + 54)), some (.ref (b + 1)), some (.int 10)] [] := by
  refine z_iload_n (pc := 43) C 2 dX7_init_43 rfl rfl ?_
  refine z_bipush (pc := 44) (v := 12) C dX7_init_44 rfl ?_
  refine z_icmp_ge (pc := 46) C 69 dX7_init_46 (by decide) (fun c46 => absurd c46 (by decide)) (fun c46 => ?_)
  refine z_aload_n (pc := 49) C 0 dX7_init_49 rfl rfl ?_
  refine z_getR (pc := 50) (k := 54) (r := 55) (q := (13, 0, 0)) (fl := [some (some (55)), some (some (56)), some (some (69)), some (some (70))]) C dX7_init_50 fX7_11 (zgt (by decide +kernel)) rfl ?_
  refine z_iload_n (pc := 53) C 2 dX7_init_53 rfl rfl ?_
  refine c_new (pc := 54) (S := sB38) (5, 12, 0) 181 sB39 C A2 dX7_init_54 wX7_9 (by decide +kernel) (by decide) (by decide +kernel) (by decide +kernel) (by decide +kernel) rfl ?_
  refine z_dup (pc := 57) C dX7_init_57 rfl ?_
  refine z_aload_n (pc := 58) C 1 dX7_init_58 rfl rfl ?_
  refine c_callI (pc := 59) (S := sB39) sB40 C I A2 dX7_init_59 jX7_29 (mX8_init (sh0 := sB38) (n := 181) (w := 12) (by decide +kernel) (by decide +kernel) (by unfold zFw; decide +kernel)) rfl rfl (by decide +kernel) (by decide +kernel) (by omega) rfl rfl (Nat.le_of_ble_eq_true rfl) (fun M59_10 h59_10 => ?_)
  refine c_aast (pc := 62) (S := sB40) (t := 5) (k := 55) (k2 := 181) (i := 10) (q := (14, 0, 0)) (q2 := (5, 12, 0)) (ci := 8) (rs := [some (71), some (82), some (93), some (104), some (115), some (126), some (137), some (148), some (159), some (170), none, none]) (fl := [some (some (1)), some (some (182)), none, none, none, none, none, none, none, none, none, some (some (183))]) sB41 C dX7_init_62 (zgt (by decide +kernel)) (zgt (by decide +kernel)) rfl rfl (show vp_in _ 12 from zi_in.mpr (by decide)) rfl rfl ?_
  refine z_iinc (pc := 63) (v := 1) (L' := [some (.ref (b + 54)), some (.ref (b + 1)), some (.int 11)]) C 2 dX7_init_63 (by decide) rfl rfl rfl ?_
  refine z_goto (pc := 66) C 43 dX7_init_66 (by decide) ?_
  refine kk _ (fun a i j f z => ?_)
  rw [h59_10.2 a i j (f) (by omega), zcl_ne (by show ¬ (a = 5 ∧ i = 12 ∧ j = 0); omega)]
def sB42 : List zS := sB41 ++ [((5, 13, 0), .inl (8, [some none, some none, none, none, none, none, none, none, none, none, none, some none]))]
def sB43 : List zS := sB41 ++ wdB 192 13
def sB44 : List zS := sB43.set 55 (((14, 0, 0), .inr (.inr (5, [some (71), some (82), some (93), some (104), some (115), some (126), some (137), some (148), some (159), some (170), some (181), some (192)]))))
set_option maxHeartbeats 1600000 in
set_option maxRecDepth 100000 in
theorem th_11 {X : zX} {l : Launch} {G : zG} {b : Nat} {d : Nat} {M : zM} (hd : 3 ≤ d) (C : zOK X l G b cX7_init 3 RX7 d) (I : zIn X) (A2 : zAl2 X [] 203 3969) (kk : ∀ M', (∀ a i j f, ¬ ((a = 1 ∨ a = 5 ∨ a = 6 ∨ a = 7) ∧ i = 13) → M' a i j f = M a i j f) → zW X sB44 M' 43 [some (.ref (b + 54)), some (.ref (b + 1)), some (.int 12)] []) : zW X sB41 M 43 [some (.ref (b + 54)), some (.ref (b + 1)), some (.int 11)] [] := by
  refine z_iload_n (pc := 43) C 2 dX7_init_43 rfl rfl ?_
  refine z_bipush (pc := 44) (v := 12) C dX7_init_44 rfl ?_
  refine z_icmp_ge (pc := 46) C 69 dX7_init_46 (by decide) (fun c46 => absurd c46 (by decide)) (fun c46 => ?_)
  refine z_aload_n (pc := 49) C 0 dX7_init_49 rfl rfl ?_
  refine z_getR (pc := 50) (k := 54) (r := 55) (q := (13, 0, 0)) (fl := [some (some (55)), some (some (56)), some (some (69)), some (some (70))]) C dX7_init_50 fX7_11 (zgt (by decide +kernel)) rfl ?_
  refine z_iload_n (pc := 53) C 2 dX7_init_53 rfl rfl ?_
  refine c_new (pc := 54) (S := sB41) (5, 13, 0) 192 sB42 C A2 dX7_init_54 wX7_9 (by decide +kernel) (by decide) (by decide +kernel) (by decide +kernel) (by decide +kernel) rfl ?_
  refine z_dup (pc := 57) C dX7_init_57 rfl ?_
  refine z_aload_n (pc := 58) C 1 dX7_init_58 rfl rfl ?_
  refine c_callI (pc := 59) (S := sB42) sB43 C I A2 dX7_init_59 jX7_29 (mX8_init (sh0 := sB41) (n := 192) (w := 13) (by decide +kernel) (by decide +kernel) (by unfold zFw; decide +kernel)) rfl rfl (by decide +kernel) (by decide +kernel) (by omega) rfl rfl (Nat.le_of_ble_eq_true rfl) (fun M59_10 h59_10 => ?_)
  refine c_aast (pc := 62) (S := sB43) (t := 5) (k := 55) (k2 := 192) (i := 11) (q := (14, 0, 0)) (q2 := (5, 13, 0)) (ci := 8) (rs := [some (71), some (82), some (93), some (104), some (115), some (126), some (137), some (148), some (159), some (170), some (181), none]) (fl := [some (some (1)), some (some (193)), none, none, none, none, none, none, none, none, none, some (some (194))]) sB44 C dX7_init_62 (zgt (by decide +kernel)) (zgt (by decide +kernel)) rfl rfl (show vp_in _ 12 from zi_in.mpr (by decide)) rfl rfl ?_
  refine z_iinc (pc := 63) (v := 1) (L' := [some (.ref (b + 54)), some (.ref (b + 1)), some (.int 12)]) C 2 dX7_init_63 (by decide) rfl rfl rfl ?_
  refine z_goto (pc := 66) C 43 dX7_init_66 (by decide) ?_
  refine kk _ (fun a i j f z => ?_)
  rw [h59_10.2 a i j (f) (by omega), zcl_ne (by show ¬ (a = 5 ∧ i = 13 ∧ j = 0); omega)]
set_option maxHeartbeats 1600000 in
set_option maxRecDepth 100000 in
theorem mX7_init {l : Launch} {G : zG} {b : Nat} {M : zM}  : zMk l G b yX7_init cX7_init 3 3 (sA10) (sB44) [.ref (b + 54), .ref (b + 1)] M (fun M' => ∀ a i j f, ¬ ((13 ≤ a ∧ a ≤ 18) ∨ ((a = 1 ∨ a = 5 ∨ a = 6 ∨ a = 7) ∧ 2 ≤ i ∧ i < 14)) → M' a i j f = M a i j f) := by
  refine zMk.of (L0 := [some (.ref (b + 54)), some (.ref (b + 1)), none]) (by decide +kernel) rfl (by decide +kernel) (by decide +kernel) (Nat.le_of_ble_eq_true rfl) (List.forall_mem_cons.mpr ⟨rfl, List.forall_mem_cons.mpr ⟨rfl, fun _ h => absurd h List.not_mem_nil⟩⟩) rfl (fun X C I Al K => ?_)
  have A2 : zAl2 X [] 203 3969 := by
    have h := zAl2.of (sh0 := []) (r := sA10) (r' := sB44) Al (by decide +kernel) (by decide +kernel)
    rw [show sB44.length = 203 by decide +kernel, show zsl sB44 = 3969 by decide +kernel] at h
    exact h
  refine z_aload_n (pc := 0) C 0 dX7_init_0 rfl rfl ?_
  refine z_obj (pc := 1) C (by decide) dX7_init_1 q1_169 (Nat.le_of_ble_eq_true rfl) ?_
  refine z_aload_n (pc := 4) C 0 dX7_init_4 rfl rfl ?_
  refine z_bipush (pc := 5) (v := 12) C dX7_init_5 rfl ?_
  refine c_anew (pc := 7) (S := sA10) (t := 5) (N := 12) (rs := [none, none, none, none, none, none, none, none, none, none, none, none]) (14, 0, 0) 55 sB1 C I A2 dX7_init_7 q1_170 (by decide) rfl (by decide) rfl (by decide) rfl (zrn_all (by decide)) (by decide +kernel) (by decide) (by decide +kernel) (by decide +kernel) (by decide +kernel) rfl ?_
  refine c_putR (pc := 10) (S := sB1) (k := 54) (v := 55) (q := (13, 0, 0)) (fl := [some none, some none, some none, some none]) sB2 C I dX7_init_10 gX7_11 (zgt (by decide +kernel)) (Nat.le_of_ble_eq_true rfl) rfl rfl rfl ?_
  refine z_aload_n (pc := 13) C 0 dX7_init_13 rfl rfl ?_
  refine z_bipush (pc := 14) (v := 12) C dX7_init_14 rfl ?_
  refine z_bipush (pc := 16) (v := 100) C dX7_init_16 rfl ?_
  refine c_multi (pc := 18) (S := sB2) (N := 12) (K := 100) (rs := [some (57), some (58), some (59), some (60), some (61), some (62), some (63), some (64), some (65), some (66), some (67), some (68)]) (xs := [((16, 0, 0), .inr (.inl (0, 100))), ((16, 1, 0), .inr (.inl (0, 100))), ((16, 2, 0), .inr (.inl (0, 100))), ((16, 3, 0), .inr (.inl (0, 100))), ((16, 4, 0), .inr (.inl (0, 100))), ((16, 5, 0), .inr (.inl (0, 100))), ((16, 6, 0), .inr (.inl (0, 100))), ((16, 7, 0), .inr (.inl (0, 100))), ((16, 8, 0), .inr (.inl (0, 100))), ((16, 9, 0), .inr (.inl (0, 100))), ((16, 10, 0), .inr (.inl (0, 100))), ((16, 11, 0), .inr (.inl (0, 100)))]) (15, 0, 0) 56 sB3 C I A2 dX7_init_18 q1_172 (by decide) (by decide) rfl rfl (by decide) (by decide) rfl (by decide +kernel) rfl (zxs_all (by decide)) (by decide +kernel) (by decide) (by decide +kernel) (by decide +kernel) (by decide +kernel) (by decide +kernel) (by decide +kernel) rfl ?_
  refine c_putR (pc := 22) (S := sB3) (k := 54) (v := 56) (q := (13, 0, 0)) (fl := [some (some (55)), some none, some none, some none]) sB4 C I dX7_init_22 gX7_19 (zgt (by decide +kernel)) (Nat.le_of_ble_eq_true rfl) rfl rfl rfl ?_
  refine z_aload_n (pc := 25) C 0 dX7_init_25 rfl rfl ?_
  refine z_bipush (pc := 26) (v := 12) C dX7_init_26 rfl ?_
  refine c_newa (pc := 28) (S := sB4) (t := 0) (N := 12) (17, 0, 0) 69 sB5 C A2 dX7_init_28 q1_62 rfl rfl (fun _ _ h => h) rfl (by decide) rfl (by decide) (by decide +kernel) (by decide) (by decide +kernel) (by decide +kernel) (by decide +kernel) rfl ?_
  refine c_putR (pc := 30) (S := sB5) (k := 54) (v := 69) (q := (13, 0, 0)) (fl := [some (some (55)), some (some (56)), some none, some none]) sB6 C I dX7_init_30 gX7_22 (zgt (by decide +kernel)) (Nat.le_of_ble_eq_true rfl) rfl rfl rfl ?_
  refine z_aload_n (pc := 33) C 0 dX7_init_33 rfl rfl ?_
  refine z_bipush (pc := 34) (v := 100) C dX7_init_34 rfl ?_
  refine c_newa (pc := 36) (S := sB6) (t := 0) (N := 100) (18, 0, 0) 70 sB7 C A2 dX7_init_36 q1_62 rfl rfl (fun _ _ h => h) rfl (by decide) rfl (by decide) (by decide +kernel) (by decide) (by decide +kernel) (by decide +kernel) (by decide +kernel) rfl ?_
  refine c_putR (pc := 38) (S := sB7) (k := 54) (v := 70) (q := (13, 0, 0)) (fl := [some (some (55)), some (some (56)), some (some (69)), some none]) sB8 C I dX7_init_38 gX7_26 (zgt (by decide +kernel)) (Nat.le_of_ble_eq_true rfl) rfl rfl rfl ?_
  refine z_iconst (pc := 41) (v := 0) C dX7_init_41 rfl ?_
  refine z_istore_n (pc := 42) (L' := [some (.ref (b + 54)), some (.ref (b + 1)), some (.int 0)]) C 2 dX7_init_42 rfl (by decide) rfl ?_
  refine th_0 (by decide) C I A2 (fun M0 h0 => ?_)
  refine th_1 (by decide) C I A2 (fun M1 h1 => ?_)
  refine th_2 (by decide) C I A2 (fun M2 h2 => ?_)
  refine th_3 (by decide) C I A2 (fun M3 h3 => ?_)
  refine th_4 (by decide) C I A2 (fun M4 h4 => ?_)
  refine th_5 (by decide) C I A2 (fun M5 h5 => ?_)
  refine th_6 (by decide) C I A2 (fun M6 h6 => ?_)
  refine th_7 (by decide) C I A2 (fun M7 h7 => ?_)
  refine th_8 (by decide) C I A2 (fun M8 h8 => ?_)
  refine th_9 (by decide) C I A2 (fun M9 h9 => ?_)
  refine th_10 (by decide) C I A2 (fun M10 h10 => ?_)
  refine th_11 (by decide) C I A2 (fun M11 h11 => ?_)
  refine z_iload_n (pc := 43) C 2 dX7_init_43 rfl rfl ?_
  refine z_bipush (pc := 44) (v := 12) C dX7_init_44 rfl ?_
  refine z_icmp_ge (pc := 46) C 69 dX7_init_46 (by decide) (fun c46 => ?_) (fun c46 => absurd (by decide) c46)
  refine z_return (pc := 69) C K dX7_init_69 ?_
  refine ⟨rfl, fun a i j f z => ?_⟩
  rw [h11 a i j f (by omega), h10 a i j f (by omega), h9 a i j f (by omega), h8 a i j f (by omega), h7 a i j f (by omega), h6 a i j f (by omega), h5 a i j f (by omega), h4 a i j f (by omega), h3 a i j f (by omega), h2 a i j f (by omega), h1 a i j f (by omega), h0 a i j f (by omega), zcl_ne (by show ¬ (a = 18 ∧ i = 0 ∧ j = 0); omega), zcl_ne (by show ¬ (a = 17 ∧ i = 0 ∧ j = 0); omega), clrs_ne (by simp; omega), zcl_ne (by show ¬ (a = 14 ∧ i = 0 ∧ j = 0); omega)]
