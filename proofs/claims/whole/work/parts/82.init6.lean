/-! CONSTRUCTORS: the class -/
def sA11 : List zS := sB44.set 0 (((0, 0, 0), .inl (9, [some (some (1)), some (some (32)), some (some (43)), some (some (54)), some none, some none, some none, some none, some none, none, none])))
def sA12 : List zS := sA11 ++ [((19, 0, 0), .inl (4, [some none, none]))]
def sA13 : List zS := sA11 ++ tpB 203
def sA14 : List zS := sA13.set 0 (((0, 0, 0), .inl (9, [some (some (1)), some (some (32)), some (some (43)), some (some (54)), some (some (203)), some none, some none, some none, some none, none, none])))
def sA15 : List zS := sA14 ++ [((21, 0, 0), .inl (1, [some none, some none, none, none, none, none, none, none, none]))]
def sA16 : List zS := sA14 ++ rdB 205
def sA17 : List zS := sA16.set 0 (((0, 0, 0), .inl (9, [some (some (1)), some (some (32)), some (some (43)), some (some (54)), some (some (203)), some (some (205)), some none, some none, some none, none, none])))
def sA18 : List zS := sA17 ++ [((22, 0, 0), .inr (.inr (7, [none, none, none, none])))]
def sA19 : List zS := sA18.set 0 (((0, 0, 0), .inl (9, [some (some (1)), some (some (32)), some (some (43)), some (some (54)), some (some (203)), some (some (205)), some (some (208)), some none, some none, none, none])))
def sA20 : List zS := sA19 ++ [((23, 0, 0), .inr (.inr (8, [none, none, none, none, none])))]
def sA21 : List zS := sA20.set 0 (((0, 0, 0), .inl (9, [some (some (1)), some (some (32)), some (some (43)), some (some (54)), some (some (203)), some (some (205)), some (some (208)), some (some (209)), some none, none, none])))
def sA22 : List zS := sA21 ++ [((24, 0, 0), .inr (.inl (0, 60)))]
def sA23 : List zS := sA22.set 0 (((0, 0, 0), .inl (9, [some (some (1)), some (some (32)), some (some (43)), some (some (54)), some (some (203)), some (some (205)), some (some (208)), some (some (209)), some (some (210)), none, none])))
def sA24 : List zS := sA23 ++ [((3, 0, 0), .inl (2, [none, none, some none]))]
def sA25 : List zS := sA23 ++ stB 211 0
def sA26 : List zS := sA25.set 208 (((22, 0, 0), .inr (.inr (7, [some (211), none, none, none]))))
set_option maxHeartbeats 1600000 in
set_option maxRecDepth 100000 in
theorem ms_sh0 {X : zX} {l : Launch} {G : zG} {b : Nat} {d : Nat} {M : zM} (hd : 4 ≤ d) (C : zOK X l G b cX9_init 2 RX9 d) (I : zIn X) (A2 : zAl2 X [] 239 4543) (kk : ∀ M', ((M' 3 0 0 0 = -1 ∧ M' 3 0 0 1 = 0 ∧ ∀ k, M' 4 0 0 k = 0) ∧ ∀ a i j f, ¬ ((a = 3 ∨ a = 4) ∧ i = 0) → M' a i j f = M a i j f) → zW X sA26 M' 122 [some (.ref (b + 0)), some (.int 1)] []) : zW X sA23 M 122 [some (.ref (b + 0)), some (.int 0)] [] := by
  refine z_iload_n (pc := 122) C 1 dX9_init_122 rfl rfl ?_
  refine z_iconst (pc := 123) (v := 4) C dX9_init_123 rfl ?_
  refine z_icmp_ge (pc := 124) C 146 dX9_init_124 (by decide) (fun c124 => absurd c124 (by decide)) (fun c124 => ?_)
  refine z_aload_n (pc := 127) C 0 dX9_init_127 rfl rfl ?_
  refine z_getR (pc := 128) (k := 0) (r := 208) (q := (0, 0, 0)) (fl := [some (some (1)), some (some (32)), some (some (43)), some (some (54)), some (some (203)), some (some (205)), some (some (208)), some (some (209)), some (some (210)), none, none]) C dX9_init_128 fX9_53 (zgt (by decide +kernel)) rfl ?_
  refine z_iload_n (pc := 131) C 1 dX9_init_131 rfl rfl ?_
  refine c_new (pc := 132) (S := sA23) (3, 0, 0) 211 sA24 C A2 dX9_init_132 wX9_51 (by decide +kernel) (by decide) (by decide +kernel) (by decide +kernel) (by decide +kernel) rfl ?_
  refine z_dup (pc := 135) C dX9_init_135 rfl ?_
  refine c_callN (pc := 136) (S := sA24) sA25 C I A2 dX9_init_136 jX9_75 (mX2_init (sh0 := sA23) (n := 211) (s := 0) (by decide +kernel) (by decide +kernel) (by decide +kernel)) rfl rfl (by decide +kernel) (by decide +kernel) (by omega) rfl rfl (Nat.le_of_ble_eq_true rfl) (fun M136_9 h136_9 => ?_)
  refine c_aast (pc := 139) (S := sA25) (t := 7) (k := 208) (k2 := 211) (i := 0) (q := (22, 0, 0)) (q2 := (3, 0, 0)) (ci := 2) (rs := [none, none, none, none]) (fl := [none, none, some (some (212))]) sA26 C dX9_init_139 (zgt (by decide +kernel)) (zgt (by decide +kernel)) rfl rfl (show vp_in _ 4 from zi_in.mpr (by decide)) rfl rfl ?_
  refine z_iinc (pc := 140) (v := 1) (L' := [some (.ref (b + 0)), some (.int 1)]) C 1 dX9_init_140 (by decide) rfl rfl rfl ?_
  refine z_goto (pc := 143) C 122 dX9_init_143 (by decide) ?_
  refine kk _ ⟨h136_9.1, fun a i j f z => ?_⟩
  rw [h136_9.2 a i j (f) (by omega), zcl_ne (by show ¬ (a = 3 ∧ i = 0 ∧ j = 0); omega)]
def sA27 : List zS := sA26 ++ [((3, 1, 0), .inl (2, [none, none, some none]))]
def sA28 : List zS := sA26 ++ stB 213 1
def sA29 : List zS := sA28.set 208 (((22, 0, 0), .inr (.inr (7, [some (211), some (213), none, none]))))
set_option maxHeartbeats 1600000 in
set_option maxRecDepth 100000 in
theorem ms_sh1 {X : zX} {l : Launch} {G : zG} {b : Nat} {d : Nat} {M : zM} (hd : 4 ≤ d) (C : zOK X l G b cX9_init 2 RX9 d) (I : zIn X) (A2 : zAl2 X [] 239 4543) (kk : ∀ M', ((M' 3 1 0 0 = -1 ∧ M' 3 1 0 1 = 0 ∧ ∀ k, M' 4 1 0 k = 0) ∧ ∀ a i j f, ¬ ((a = 3 ∨ a = 4) ∧ i = 1) → M' a i j f = M a i j f) → zW X sA29 M' 122 [some (.ref (b + 0)), some (.int 2)] []) : zW X sA26 M 122 [some (.ref (b + 0)), some (.int 1)] [] := by
  refine z_iload_n (pc := 122) C 1 dX9_init_122 rfl rfl ?_
  refine z_iconst (pc := 123) (v := 4) C dX9_init_123 rfl ?_
  refine z_icmp_ge (pc := 124) C 146 dX9_init_124 (by decide) (fun c124 => absurd c124 (by decide)) (fun c124 => ?_)
  refine z_aload_n (pc := 127) C 0 dX9_init_127 rfl rfl ?_
  refine z_getR (pc := 128) (k := 0) (r := 208) (q := (0, 0, 0)) (fl := [some (some (1)), some (some (32)), some (some (43)), some (some (54)), some (some (203)), some (some (205)), some (some (208)), some (some (209)), some (some (210)), none, none]) C dX9_init_128 fX9_53 (zgt (by decide +kernel)) rfl ?_
  refine z_iload_n (pc := 131) C 1 dX9_init_131 rfl rfl ?_
  refine c_new (pc := 132) (S := sA26) (3, 1, 0) 213 sA27 C A2 dX9_init_132 wX9_51 (by decide +kernel) (by decide) (by decide +kernel) (by decide +kernel) (by decide +kernel) rfl ?_
  refine z_dup (pc := 135) C dX9_init_135 rfl ?_
  refine c_callN (pc := 136) (S := sA27) sA28 C I A2 dX9_init_136 jX9_75 (mX2_init (sh0 := sA26) (n := 213) (s := 1) (by decide +kernel) (by decide +kernel) (by decide +kernel)) rfl rfl (by decide +kernel) (by decide +kernel) (by omega) rfl rfl (Nat.le_of_ble_eq_true rfl) (fun M136_9 h136_9 => ?_)
  refine c_aast (pc := 139) (S := sA28) (t := 7) (k := 208) (k2 := 213) (i := 1) (q := (22, 0, 0)) (q2 := (3, 1, 0)) (ci := 2) (rs := [some (211), none, none, none]) (fl := [none, none, some (some (214))]) sA29 C dX9_init_139 (zgt (by decide +kernel)) (zgt (by decide +kernel)) rfl rfl (show vp_in _ 4 from zi_in.mpr (by decide)) rfl rfl ?_
  refine z_iinc (pc := 140) (v := 1) (L' := [some (.ref (b + 0)), some (.int 2)]) C 1 dX9_init_140 (by decide) rfl rfl rfl ?_
  refine z_goto (pc := 143) C 122 dX9_init_143 (by decide) ?_
  refine kk _ ⟨h136_9.1, fun a i j f z => ?_⟩
  rw [h136_9.2 a i j (f) (by omega), zcl_ne (by show ¬ (a = 3 ∧ i = 1 ∧ j = 0); omega)]
def sA30 : List zS := sA29 ++ [((3, 2, 0), .inl (2, [none, none, some none]))]
def sA31 : List zS := sA29 ++ stB 215 2
def sA32 : List zS := sA31.set 208 (((22, 0, 0), .inr (.inr (7, [some (211), some (213), some (215), none]))))
set_option maxHeartbeats 1600000 in
set_option maxRecDepth 100000 in
theorem ms_sh2 {X : zX} {l : Launch} {G : zG} {b : Nat} {d : Nat} {M : zM} (hd : 4 ≤ d) (C : zOK X l G b cX9_init 2 RX9 d) (I : zIn X) (A2 : zAl2 X [] 239 4543) (kk : ∀ M', ((M' 3 2 0 0 = -1 ∧ M' 3 2 0 1 = 0 ∧ ∀ k, M' 4 2 0 k = 0) ∧ ∀ a i j f, ¬ ((a = 3 ∨ a = 4) ∧ i = 2) → M' a i j f = M a i j f) → zW X sA32 M' 122 [some (.ref (b + 0)), some (.int 3)] []) : zW X sA29 M 122 [some (.ref (b + 0)), some (.int 2)] [] := by
  refine z_iload_n (pc := 122) C 1 dX9_init_122 rfl rfl ?_
  refine z_iconst (pc := 123) (v := 4) C dX9_init_123 rfl ?_
  refine z_icmp_ge (pc := 124) C 146 dX9_init_124 (by decide) (fun c124 => absurd c124 (by decide)) (fun c124 => ?_)
  refine z_aload_n (pc := 127) C 0 dX9_init_127 rfl rfl ?_
  refine z_getR (pc := 128) (k := 0) (r := 208) (q := (0, 0, 0)) (fl := [some (some (1)), some (some (32)), some (some (43)), some (some (54)), some (some (203)), some (some (205)), some (some (208)), some (some (209)), some (some (210)), none, none]) C dX9_init_128 fX9_53 (zgt (by decide +kernel)) rfl ?_
  refine z_iload_n (pc := 131) C 1 dX9_init_131 rfl rfl ?_
  refine c_new (pc := 132) (S := sA29) (3, 2, 0) 215 sA30 C A2 dX9_init_132 wX9_51 (by decide +kernel) (by decide) (by decide +kernel) (by decide +kernel) (by decide +kernel) rfl ?_
  refine z_dup (pc := 135) C dX9_init_135 rfl ?_
  refine c_callN (pc := 136) (S := sA30) sA31 C I A2 dX9_init_136 jX9_75 (mX2_init (sh0 := sA29) (n := 215) (s := 2) (by decide +kernel) (by decide +kernel) (by decide +kernel)) rfl rfl (by decide +kernel) (by decide +kernel) (by omega) rfl rfl (Nat.le_of_ble_eq_true rfl) (fun M136_9 h136_9 => ?_)
  refine c_aast (pc := 139) (S := sA31) (t := 7) (k := 208) (k2 := 215) (i := 2) (q := (22, 0, 0)) (q2 := (3, 2, 0)) (ci := 2) (rs := [some (211), some (213), none, none]) (fl := [none, none, some (some (216))]) sA32 C dX9_init_139 (zgt (by decide +kernel)) (zgt (by decide +kernel)) rfl rfl (show vp_in _ 4 from zi_in.mpr (by decide)) rfl rfl ?_
  refine z_iinc (pc := 140) (v := 1) (L' := [some (.ref (b + 0)), some (.int 3)]) C 1 dX9_init_140 (by decide) rfl rfl rfl ?_
  refine z_goto (pc := 143) C 122 dX9_init_143 (by decide) ?_
  refine kk _ ⟨h136_9.1, fun a i j f z => ?_⟩
  rw [h136_9.2 a i j (f) (by omega), zcl_ne (by show ¬ (a = 3 ∧ i = 2 ∧ j = 0); omega)]
def sA33 : List zS := sA32 ++ [((3, 3, 0), .inl (2, [none, none, some none]))]
def sA34 : List zS := sA32 ++ stB 217 3
def sA35 : List zS := sA34.set 208 (((22, 0, 0), .inr (.inr (7, [some (211), some (213), some (215), some (217)]))))
set_option maxHeartbeats 1600000 in
set_option maxRecDepth 100000 in
theorem ms_sh3 {X : zX} {l : Launch} {G : zG} {b : Nat} {d : Nat} {M : zM} (hd : 4 ≤ d) (C : zOK X l G b cX9_init 2 RX9 d) (I : zIn X) (A2 : zAl2 X [] 239 4543) (kk : ∀ M', ((M' 3 3 0 0 = -1 ∧ M' 3 3 0 1 = 0 ∧ ∀ k, M' 4 3 0 k = 0) ∧ ∀ a i j f, ¬ ((a = 3 ∨ a = 4) ∧ i = 3) → M' a i j f = M a i j f) → zW X sA35 M' 122 [some (.ref (b + 0)), some (.int 4)] []) : zW X sA32 M 122 [some (.ref (b + 0)), some (.int 3)] [] := by
  refine z_iload_n (pc := 122) C 1 dX9_init_122 rfl rfl ?_
  refine z_iconst (pc := 123) (v := 4) C dX9_init_123 rfl ?_
  refine z_icmp_ge (pc := 124) C 146 dX9_init_124 (by decide) (fun c124 => absurd c124 (by decide)) (fun c124 => ?_)
  refine z_aload_n (pc := 127) C 0 dX9_init_127 rfl rfl ?_
  refine z_getR (pc := 128) (k := 0) (r := 208) (q := (0, 0, 0)) (fl := [some (some (1)), some (some (32)), some (some (43)), some (some (54)), some (some (203)), some (some (205)), some (some (208)), some (some (209)), some (some (210)), none, none]) C dX9_init_128 fX9_53 (zgt (by decide +kernel)) rfl ?_
  refine z_iload_n (pc := 131) C 1 dX9_init_131 rfl rfl ?_
  refine c_new (pc := 132) (S := sA32) (3, 3, 0) 217 sA33 C A2 dX9_init_132 wX9_51 (by decide +kernel) (by decide) (by decide +kernel) (by decide +kernel) (by decide +kernel) rfl ?_
  refine z_dup (pc := 135) C dX9_init_135 rfl ?_
  refine c_callN (pc := 136) (S := sA33) sA34 C I A2 dX9_init_136 jX9_75 (mX2_init (sh0 := sA32) (n := 217) (s := 3) (by decide +kernel) (by decide +kernel) (by decide +kernel)) rfl rfl (by decide +kernel) (by decide +kernel) (by omega) rfl rfl (Nat.le_of_ble_eq_true rfl) (fun M136_9 h136_9 => ?_)
  refine c_aast (pc := 139) (S := sA34) (t := 7) (k := 208) (k2 := 217) (i := 3) (q := (22, 0, 0)) (q2 := (3, 3, 0)) (ci := 2) (rs := [some (211), some (213), some (215), none]) (fl := [none, none, some (some (218))]) sA35 C dX9_init_139 (zgt (by decide +kernel)) (zgt (by decide +kernel)) rfl rfl (show vp_in _ 4 from zi_in.mpr (by decide)) rfl rfl ?_
  refine z_iinc (pc := 140) (v := 1) (L' := [some (.ref (b + 0)), some (.int 4)]) C 1 dX9_init_140 (by decide) rfl rfl rfl ?_
  refine z_goto (pc := 143) C 122 dX9_init_143 (by decide) ?_
  refine kk _ ⟨h136_9.1, fun a i j f z => ?_⟩
  rw [h136_9.2 a i j (f) (by omega), zcl_ne (by show ¬ (a = 3 ∧ i = 3 ∧ j = 0); omega)]
def sA36 : List zS := sA35 ++ [((25, 0, 0), .inl (3, [none, some none, some none, none]))]
def sA37 : List zS := sA35 ++ slB 219 0
def sA38 : List zS := sA37.set 209 (((23, 0, 0), .inr (.inr (8, [some (219), none, none, none, none]))))
set_option maxHeartbeats 1600000 in
set_option maxRecDepth 100000 in
theorem ms_sl0 {X : zX} {l : Launch} {G : zG} {b : Nat} {d : Nat} {M : zM} (hd : 4 ≤ d) (C : zOK X l G b cX9_init 2 RX9 d) (I : zIn X) (A2 : zAl2 X [] 239 4543) (kk : ∀ M', (M' 25 0 0 0 = 0 ∧ ∀ a i j f, ¬ ((a = 25 ∧ i = 0) ∨ (a = 1 ∧ i = 14 + 0) ∨ ((a = 3 ∨ a = 4) ∧ i = 4 + 0)) → M' a i j f = M a i j f) → zW X sA38 M' 148 [some (.ref (b + 0)), some (.int 1)] []) : zW X sA35 M 148 [some (.ref (b + 0)), some (.int 0)] [] := by
  refine z_iload_n (pc := 148) C 1 dX9_init_148 rfl rfl ?_
  refine z_iconst (pc := 149) (v := 5) C dX9_init_149 rfl ?_
  refine z_icmp_ge (pc := 150) C 172 dX9_init_150 (by decide) (fun c150 => absurd c150 (by decide)) (fun c150 => ?_)
  refine z_aload_n (pc := 153) C 0 dX9_init_153 rfl rfl ?_
  refine z_getR (pc := 154) (k := 0) (r := 209) (q := (0, 0, 0)) (fl := [some (some (1)), some (some (32)), some (some (43)), some (some (54)), some (some (203)), some (some (205)), some (some (208)), some (some (209)), some (some (210)), none, none]) C dX9_init_154 fX9_59 (zgt (by decide +kernel)) rfl ?_
  refine z_iload_n (pc := 157) C 1 dX9_init_157 rfl rfl ?_
  refine c_new (pc := 158) (S := sA35) (25, 0, 0) 219 sA36 C A2 dX9_init_158 wX9_57 (by decide +kernel) (by decide) (by decide +kernel) (by decide +kernel) (by decide +kernel) rfl ?_
  refine z_dup (pc := 161) C dX9_init_161 rfl ?_
  refine c_callN (pc := 162) (S := sA36) sA37 C I A2 dX9_init_162 jX9_76 (mX3_init (sh0 := sA35) (n := 219) (s := 0) (by decide +kernel) (by decide +kernel) (by unfold zFs; decide +kernel)) rfl rfl (by decide +kernel) (by decide +kernel) (by omega) rfl rfl (Nat.le_of_ble_eq_true rfl) (fun M162_9 h162_9 => ?_)
  refine c_aast (pc := 165) (S := sA37) (t := 8) (k := 209) (k2 := 219) (i := 0) (q := (23, 0, 0)) (q2 := (25, 0, 0)) (ci := 3) (rs := [none, none, none, none, none]) (fl := [none, some (some (220)), some (some (221)), none]) sA38 C dX9_init_165 (zgt (by decide +kernel)) (zgt (by decide +kernel)) rfl rfl (show vp_in _ 5 from zi_in.mpr (by decide)) rfl rfl ?_
  refine z_iinc (pc := 166) (v := 1) (L' := [some (.ref (b + 0)), some (.int 1)]) C 1 dX9_init_166 (by decide) rfl rfl rfl ?_
  refine z_goto (pc := 169) C 148 dX9_init_169 (by decide) ?_
  refine kk _ ⟨h162_9.1, fun a i j f z => ?_⟩
  rw [h162_9.2 a i j (f) (by omega), zcl_ne (by show ¬ (a = 25 ∧ i = 0 ∧ j = 0); omega)]
def sA39 : List zS := sA38 ++ [((25, 1, 0), .inl (3, [none, some none, some none, none]))]
def sA40 : List zS := sA38 ++ slB 223 1
def sA41 : List zS := sA40.set 209 (((23, 0, 0), .inr (.inr (8, [some (219), some (223), none, none, none]))))
set_option maxHeartbeats 1600000 in
set_option maxRecDepth 100000 in
theorem ms_sl1 {X : zX} {l : Launch} {G : zG} {b : Nat} {d : Nat} {M : zM} (hd : 4 ≤ d) (C : zOK X l G b cX9_init 2 RX9 d) (I : zIn X) (A2 : zAl2 X [] 239 4543) (kk : ∀ M', (M' 25 1 0 0 = 0 ∧ ∀ a i j f, ¬ ((a = 25 ∧ i = 1) ∨ (a = 1 ∧ i = 14 + 1) ∨ ((a = 3 ∨ a = 4) ∧ i = 4 + 1)) → M' a i j f = M a i j f) → zW X sA41 M' 148 [some (.ref (b + 0)), some (.int 2)] []) : zW X sA38 M 148 [some (.ref (b + 0)), some (.int 1)] [] := by
  refine z_iload_n (pc := 148) C 1 dX9_init_148 rfl rfl ?_
  refine z_iconst (pc := 149) (v := 5) C dX9_init_149 rfl ?_
  refine z_icmp_ge (pc := 150) C 172 dX9_init_150 (by decide) (fun c150 => absurd c150 (by decide)) (fun c150 => ?_)
  refine z_aload_n (pc := 153) C 0 dX9_init_153 rfl rfl ?_
  refine z_getR (pc := 154) (k := 0) (r := 209) (q := (0, 0, 0)) (fl := [some (some (1)), some (some (32)), some (some (43)), some (some (54)), some (some (203)), some (some (205)), some (some (208)), some (some (209)), some (some (210)), none, none]) C dX9_init_154 fX9_59 (zgt (by decide +kernel)) rfl ?_
  refine z_iload_n (pc := 157) C 1 dX9_init_157 rfl rfl ?_
  refine c_new (pc := 158) (S := sA38) (25, 1, 0) 223 sA39 C A2 dX9_init_158 wX9_57 (by decide +kernel) (by decide) (by decide +kernel) (by decide +kernel) (by decide +kernel) rfl ?_
  refine z_dup (pc := 161) C dX9_init_161 rfl ?_
  refine c_callN (pc := 162) (S := sA39) sA40 C I A2 dX9_init_162 jX9_76 (mX3_init (sh0 := sA38) (n := 223) (s := 1) (by decide +kernel) (by decide +kernel) (by unfold zFs; decide +kernel)) rfl rfl (by decide +kernel) (by decide +kernel) (by omega) rfl rfl (Nat.le_of_ble_eq_true rfl) (fun M162_9 h162_9 => ?_)
  refine c_aast (pc := 165) (S := sA40) (t := 8) (k := 209) (k2 := 223) (i := 1) (q := (23, 0, 0)) (q2 := (25, 1, 0)) (ci := 3) (rs := [some (219), none, none, none, none]) (fl := [none, some (some (224)), some (some (225)), none]) sA41 C dX9_init_165 (zgt (by decide +kernel)) (zgt (by decide +kernel)) rfl rfl (show vp_in _ 5 from zi_in.mpr (by decide)) rfl rfl ?_
  refine z_iinc (pc := 166) (v := 1) (L' := [some (.ref (b + 0)), some (.int 2)]) C 1 dX9_init_166 (by decide) rfl rfl rfl ?_
  refine z_goto (pc := 169) C 148 dX9_init_169 (by decide) ?_
  refine kk _ ⟨h162_9.1, fun a i j f z => ?_⟩
  rw [h162_9.2 a i j (f) (by omega), zcl_ne (by show ¬ (a = 25 ∧ i = 1 ∧ j = 0); omega)]
def sA42 : List zS := sA41 ++ [((25, 2, 0), .inl (3, [none, some none, some none, none]))]
def sA43 : List zS := sA41 ++ slB 227 2
def sA44 : List zS := sA43.set 209 (((23, 0, 0), .inr (.inr (8, [some (219), some (223), some (227), none, none]))))
set_option maxHeartbeats 1600000 in
set_option maxRecDepth 100000 in
theorem ms_sl2 {X : zX} {l : Launch} {G : zG} {b : Nat} {d : Nat} {M : zM} (hd : 4 ≤ d) (C : zOK X l G b cX9_init 2 RX9 d) (I : zIn X) (A2 : zAl2 X [] 239 4543) (kk : ∀ M', (M' 25 2 0 0 = 0 ∧ ∀ a i j f, ¬ ((a = 25 ∧ i = 2) ∨ (a = 1 ∧ i = 14 + 2) ∨ ((a = 3 ∨ a = 4) ∧ i = 4 + 2)) → M' a i j f = M a i j f) → zW X sA44 M' 148 [some (.ref (b + 0)), some (.int 3)] []) : zW X sA41 M 148 [some (.ref (b + 0)), some (.int 2)] [] := by
  refine z_iload_n (pc := 148) C 1 dX9_init_148 rfl rfl ?_
  refine z_iconst (pc := 149) (v := 5) C dX9_init_149 rfl ?_
  refine z_icmp_ge (pc := 150) C 172 dX9_init_150 (by decide) (fun c150 => absurd c150 (by decide)) (fun c150 => ?_)
  refine z_aload_n (pc := 153) C 0 dX9_init_153 rfl rfl ?_
  refine z_getR (pc := 154) (k := 0) (r := 209) (q := (0, 0, 0)) (fl := [some (some (1)), some (some (32)), some (some (43)), some (some (54)), some (some (203)), some (some (205)), some (some (208)), some (some (209)), some (some (210)), none, none]) C dX9_init_154 fX9_59 (zgt (by decide +kernel)) rfl ?_
  refine z_iload_n (pc := 157) C 1 dX9_init_157 rfl rfl ?_
  refine c_new (pc := 158) (S := sA41) (25, 2, 0) 227 sA42 C A2 dX9_init_158 wX9_57 (by decide +kernel) (by decide) (by decide +kernel) (by decide +kernel) (by decide +kernel) rfl ?_
  refine z_dup (pc := 161) C dX9_init_161 rfl ?_
  refine c_callN (pc := 162) (S := sA42) sA43 C I A2 dX9_init_162 jX9_76 (mX3_init (sh0 := sA41) (n := 227) (s := 2) (by decide +kernel) (by decide +kernel) (by unfold zFs; decide +kernel)) rfl rfl (by decide +kernel) (by decide +kernel) (by omega) rfl rfl (Nat.le_of_ble_eq_true rfl) (fun M162_9 h162_9 => ?_)
  refine c_aast (pc := 165) (S := sA43) (t := 8) (k := 209) (k2 := 227) (i := 2) (q := (23, 0, 0)) (q2 := (25, 2, 0)) (ci := 3) (rs := [some (219), some (223), none, none, none]) (fl := [none, some (some (228)), some (some (229)), none]) sA44 C dX9_init_165 (zgt (by decide +kernel)) (zgt (by decide +kernel)) rfl rfl (show vp_in _ 5 from zi_in.mpr (by decide)) rfl rfl ?_
  refine z_iinc (pc := 166) (v := 1) (L' := [some (.ref (b + 0)), some (.int 3)]) C 1 dX9_init_166 (by decide) rfl rfl rfl ?_
  refine z_goto (pc := 169) C 148 dX9_init_169 (by decide) ?_
  refine kk _ ⟨h162_9.1, fun a i j f z => ?_⟩
  rw [h162_9.2 a i j (f) (by omega), zcl_ne (by show ¬ (a = 25 ∧ i = 2 ∧ j = 0); omega)]
def sA45 : List zS := sA44 ++ [((25, 3, 0), .inl (3, [none, some none, some none, none]))]
def sA46 : List zS := sA44 ++ slB 231 3
def sA47 : List zS := sA46.set 209 (((23, 0, 0), .inr (.inr (8, [some (219), some (223), some (227), some (231), none]))))
set_option maxHeartbeats 1600000 in
set_option maxRecDepth 100000 in
theorem ms_sl3 {X : zX} {l : Launch} {G : zG} {b : Nat} {d : Nat} {M : zM} (hd : 4 ≤ d) (C : zOK X l G b cX9_init 2 RX9 d) (I : zIn X) (A2 : zAl2 X [] 239 4543) (kk : ∀ M', (M' 25 3 0 0 = 0 ∧ ∀ a i j f, ¬ ((a = 25 ∧ i = 3) ∨ (a = 1 ∧ i = 14 + 3) ∨ ((a = 3 ∨ a = 4) ∧ i = 4 + 3)) → M' a i j f = M a i j f) → zW X sA47 M' 148 [some (.ref (b + 0)), some (.int 4)] []) : zW X sA44 M 148 [some (.ref (b + 0)), some (.int 3)] [] := by
  refine z_iload_n (pc := 148) C 1 dX9_init_148 rfl rfl ?_
  refine z_iconst (pc := 149) (v := 5) C dX9_init_149 rfl ?_
  refine z_icmp_ge (pc := 150) C 172 dX9_init_150 (by decide) (fun c150 => absurd c150 (by decide)) (fun c150 => ?_)
  refine z_aload_n (pc := 153) C 0 dX9_init_153 rfl rfl ?_
  refine z_getR (pc := 154) (k := 0) (r := 209) (q := (0, 0, 0)) (fl := [some (some (1)), some (some (32)), some (some (43)), some (some (54)), some (some (203)), some (some (205)), some (some (208)), some (some (209)), some (some (210)), none, none]) C dX9_init_154 fX9_59 (zgt (by decide +kernel)) rfl ?_
  refine z_iload_n (pc := 157) C 1 dX9_init_157 rfl rfl ?_
  refine c_new (pc := 158) (S := sA44) (25, 3, 0) 231 sA45 C A2 dX9_init_158 wX9_57 (by decide +kernel) (by decide) (by decide +kernel) (by decide +kernel) (by decide +kernel) rfl ?_
  refine z_dup (pc := 161) C dX9_init_161 rfl ?_
  refine c_callN (pc := 162) (S := sA45) sA46 C I A2 dX9_init_162 jX9_76 (mX3_init (sh0 := sA44) (n := 231) (s := 3) (by decide +kernel) (by decide +kernel) (by unfold zFs; decide +kernel)) rfl rfl (by decide +kernel) (by decide +kernel) (by omega) rfl rfl (Nat.le_of_ble_eq_true rfl) (fun M162_9 h162_9 => ?_)
  refine c_aast (pc := 165) (S := sA46) (t := 8) (k := 209) (k2 := 231) (i := 3) (q := (23, 0, 0)) (q2 := (25, 3, 0)) (ci := 3) (rs := [some (219), some (223), some (227), none, none]) (fl := [none, some (some (232)), some (some (233)), none]) sA47 C dX9_init_165 (zgt (by decide +kernel)) (zgt (by decide +kernel)) rfl rfl (show vp_in _ 5 from zi_in.mpr (by decide)) rfl rfl ?_
  refine z_iinc (pc := 166) (v := 1) (L' := [some (.ref (b + 0)), some (.int 4)]) C 1 dX9_init_166 (by decide) rfl rfl rfl ?_
  refine z_goto (pc := 169) C 148 dX9_init_169 (by decide) ?_
  refine kk _ ⟨h162_9.1, fun a i j f z => ?_⟩
  rw [h162_9.2 a i j (f) (by omega), zcl_ne (by show ¬ (a = 25 ∧ i = 3 ∧ j = 0); omega)]
def sA48 : List zS := sA47 ++ [((25, 4, 0), .inl (3, [none, some none, some none, none]))]
def sA49 : List zS := sA47 ++ slB 235 4
def sA50 : List zS := sA49.set 209 (((23, 0, 0), .inr (.inr (8, [some (219), some (223), some (227), some (231), some (235)]))))
set_option maxHeartbeats 1600000 in
set_option maxRecDepth 100000 in
theorem ms_sl4 {X : zX} {l : Launch} {G : zG} {b : Nat} {d : Nat} {M : zM} (hd : 4 ≤ d) (C : zOK X l G b cX9_init 2 RX9 d) (I : zIn X) (A2 : zAl2 X [] 239 4543) (kk : ∀ M', (M' 25 4 0 0 = 0 ∧ ∀ a i j f, ¬ ((a = 25 ∧ i = 4) ∨ (a = 1 ∧ i = 14 + 4) ∨ ((a = 3 ∨ a = 4) ∧ i = 4 + 4)) → M' a i j f = M a i j f) → zW X sA50 M' 148 [some (.ref (b + 0)), some (.int 5)] []) : zW X sA47 M 148 [some (.ref (b + 0)), some (.int 4)] [] := by
  refine z_iload_n (pc := 148) C 1 dX9_init_148 rfl rfl ?_
  refine z_iconst (pc := 149) (v := 5) C dX9_init_149 rfl ?_
  refine z_icmp_ge (pc := 150) C 172 dX9_init_150 (by decide) (fun c150 => absurd c150 (by decide)) (fun c150 => ?_)
  refine z_aload_n (pc := 153) C 0 dX9_init_153 rfl rfl ?_
  refine z_getR (pc := 154) (k := 0) (r := 209) (q := (0, 0, 0)) (fl := [some (some (1)), some (some (32)), some (some (43)), some (some (54)), some (some (203)), some (some (205)), some (some (208)), some (some (209)), some (some (210)), none, none]) C dX9_init_154 fX9_59 (zgt (by decide +kernel)) rfl ?_
  refine z_iload_n (pc := 157) C 1 dX9_init_157 rfl rfl ?_
  refine c_new (pc := 158) (S := sA47) (25, 4, 0) 235 sA48 C A2 dX9_init_158 wX9_57 (by decide +kernel) (by decide) (by decide +kernel) (by decide +kernel) (by decide +kernel) rfl ?_
  refine z_dup (pc := 161) C dX9_init_161 rfl ?_
  refine c_callN (pc := 162) (S := sA48) sA49 C I A2 dX9_init_162 jX9_76 (mX3_init (sh0 := sA47) (n := 235) (s := 4) (by decide +kernel) (by decide +kernel) (by unfold zFs; decide +kernel)) rfl rfl (by decide +kernel) (by decide +kernel) (by omega) rfl rfl (Nat.le_of_ble_eq_true rfl) (fun M162_9 h162_9 => ?_)
  refine c_aast (pc := 165) (S := sA49) (t := 8) (k := 209) (k2 := 235) (i := 4) (q := (23, 0, 0)) (q2 := (25, 4, 0)) (ci := 3) (rs := [some (219), some (223), some (227), some (231), none]) (fl := [none, some (some (236)), some (some (237)), none]) sA50 C dX9_init_165 (zgt (by decide +kernel)) (zgt (by decide +kernel)) rfl rfl (show vp_in _ 5 from zi_in.mpr (by decide)) rfl rfl ?_
  refine z_iinc (pc := 166) (v := 1) (L' := [some (.ref (b + 0)), some (.int 5)]) C 1 dX9_init_166 (by decide) rfl rfl rfl ?_
  refine z_goto (pc := 169) C 148 dX9_init_169 (by decide) ?_
  refine kk _ ⟨h162_9.1, fun a i j f z => ?_⟩
  rw [h162_9.2 a i j (f) (by omega), zcl_ne (by show ¬ (a = 25 ∧ i = 4 ∧ j = 0); omega)]
set_option maxHeartbeats 1600000 in
set_option maxRecDepth 100000 in
theorem mX9_init {l : Launch} {G : zG} {b : Nat} {M : zM}  : zMk l G b yX9_init cX9_init 2 4 (sA0) (sA50) [.ref (b + 0)] M (fun M' => (M' 0 0 0 9 = 0 ∧ M' 0 0 0 10 = 0 ∧ wIn M' 0 ∧ M' 19 0 0 1 = 0 ∧ (∀ s, s < 4 → M' 3 s 0 0 = -1 ∧ M' 3 s 0 1 = 0 ∧ ∀ k, M' 4 s 0 k = 0) ∧ ∀ s, s < 5 → M' 25 s 0 0 = 0)) := by
  refine zMk.of (L0 := [some (.ref (b + 0)), none]) (by decide +kernel) rfl (by decide +kernel) (by decide +kernel) (Nat.le_of_ble_eq_true rfl) (List.forall_mem_cons.mpr ⟨rfl, fun _ h => absurd h List.not_mem_nil⟩) rfl (fun X C I Al K => ?_)
  have A2 : zAl2 X [] 239 4543 := by
    have h := zAl2.of (sh0 := []) (r := sA0) (r' := sA50) Al (by decide +kernel) (by decide +kernel)
    rw [show sA50.length = 239 by decide +kernel, show zsl sA50 = 4543 by decide +kernel] at h
    exact h
  refine z_aload_n (pc := 0) C 0 dX9_init_0 rfl rfl ?_
  refine z_obj (pc := 1) C (by decide) dX9_init_1 q1_25 (Nat.le_of_ble_eq_true rfl) ?_
  refine z_aload_n (pc := 4) C 0 dX9_init_4 rfl rfl ?_
  refine c_new (pc := 5) (S := sA0) (10, 0, 0) 1 sA1 C A2 dX9_init_5 wX9_9 (by decide +kernel) (by decide) (by decide +kernel) (by decide +kernel) (by decide +kernel) rfl ?_
  refine z_dup (pc := 8) C dX9_init_8 rfl ?_
  refine c_callI (pc := 9) (S := sA1) sA2 C I A2 dX9_init_9 jX9_11 (mX6_init (sh0 := sA0) (n := 1) (by decide +kernel) (by decide +kernel) (by unfold zFt; decide +kernel)) rfl rfl (by decide +kernel) (by decide +kernel) (by decide) rfl rfl (Nat.le_of_ble_eq_true rfl) (fun M9_6 h9_6 => ?_)
  refine c_putR (pc := 12) (S := sA2) (k := 0) (v := 1) (q := (0, 0, 0)) (fl := [some none, some none, some none, some none, some none, some none, some none, some none, some none, none, none]) sA3 C I dX9_init_12 gX9_12 (zgt (by decide +kernel)) (Nat.le_of_ble_eq_true rfl) rfl rfl rfl ?_
  refine z_aload_n (pc := 15) C 0 dX9_init_15 rfl rfl ?_
  refine c_new (pc := 16) (S := sA3) (5, 0, 0) 32 sA4 C A2 dX9_init_16 wX9_16 (by decide +kernel) (by decide) (by decide +kernel) (by decide +kernel) (by decide +kernel) rfl ?_
  refine z_dup (pc := 19) C dX9_init_19 rfl ?_
  refine z_aload_n (pc := 20) C 0 dX9_init_20 rfl rfl ?_
  refine z_getR (pc := 21) (k := 0) (r := 1) (q := (0, 0, 0)) (fl := [some (some (1)), some none, some none, some none, some none, some none, some none, some none, some none, none, none]) C dX9_init_21 fX9_12 (zgt (by decide +kernel)) rfl ?_
  refine c_callI (pc := 24) (S := sA4) sA5 C I A2 dX9_init_24 jX9_18 (mX8_init (sh0 := sA3) (n := 32) (w := 0) (by decide +kernel) (by decide +kernel) (by unfold zFw; decide +kernel)) rfl rfl (by decide +kernel) (by decide +kernel) (by decide) rfl rfl (Nat.le_of_ble_eq_true rfl) (fun M24_13 h24_13 => ?_)
  refine c_putR (pc := 27) (S := sA5) (k := 0) (v := 32) (q := (0, 0, 0)) (fl := [some (some (1)), some none, some none, some none, some none, some none, some none, some none, some none, none, none]) sA6 C I dX9_init_27 gX9_21 (zgt (by decide +kernel)) (Nat.le_of_ble_eq_true rfl) rfl rfl rfl ?_
  refine z_aload_n (pc := 30) C 0 dX9_init_30 rfl rfl ?_
  refine c_new (pc := 31) (S := sA6) (5, 1, 0) 43 sA7 C A2 dX9_init_31 wX9_16 (by decide +kernel) (by decide) (by decide +kernel) (by decide +kernel) (by decide +kernel) rfl ?_
  refine z_dup (pc := 34) C dX9_init_34 rfl ?_
  refine z_aload_n (pc := 35) C 0 dX9_init_35 rfl rfl ?_
  refine z_getR (pc := 36) (k := 0) (r := 1) (q := (0, 0, 0)) (fl := [some (some (1)), some (some (32)), some none, some none, some none, some none, some none, some none, some none, none, none]) C dX9_init_36 fX9_12 (zgt (by decide +kernel)) rfl ?_
  refine c_callI (pc := 39) (S := sA7) sA8 C I A2 dX9_init_39 jX9_18 (mX8_init (sh0 := sA6) (n := 43) (w := 1) (by decide +kernel) (by decide +kernel) (by unfold zFw; decide +kernel)) rfl rfl (by decide +kernel) (by decide +kernel) (by decide) rfl rfl (Nat.le_of_ble_eq_true rfl) (fun M39_20 h39_20 => ?_)
  refine c_putR (pc := 42) (S := sA8) (k := 0) (v := 43) (q := (0, 0, 0)) (fl := [some (some (1)), some (some (32)), some none, some none, some none, some none, some none, some none, some none, none, none]) sA9 C I dX9_init_42 gX9_25 (zgt (by decide +kernel)) (Nat.le_of_ble_eq_true rfl) rfl rfl rfl ?_
  refine z_aload_n (pc := 45) C 0 dX9_init_45 rfl rfl ?_
  refine c_new (pc := 46) (S := sA9) (13, 0, 0) 54 sA10 C A2 dX9_init_46 wX9_28 (by decide +kernel) (by decide) (by decide +kernel) (by decide +kernel) (by decide +kernel) rfl ?_
  refine z_dup (pc := 49) C dX9_init_49 rfl ?_
  refine z_aload_n (pc := 50) C 0 dX9_init_50 rfl rfl ?_
  refine z_getR (pc := 51) (k := 0) (r := 1) (q := (0, 0, 0)) (fl := [some (some (1)), some (some (32)), some (some (43)), some none, some none, some none, some none, some none, some none, none, none]) C dX9_init_51 fX9_12 (zgt (by decide +kernel)) rfl ?_
  refine c_callI (pc := 54) (S := sA10) sB44 C I A2 dX9_init_54 jX9_30 mX7_init rfl rfl (by decide +kernel) (by decide +kernel) (by decide) rfl rfl (Nat.le_of_ble_eq_true rfl) (fun M54_3 h54_3 => ?_)
  refine c_putR (pc := 57) (S := sB44) (k := 0) (v := 54) (q := (0, 0, 0)) (fl := [some (some (1)), some (some (32)), some (some (43)), some none, some none, some none, some none, some none, some none, none, none]) sA11 C I dX9_init_57 gX9_31 (zgt (by decide +kernel)) (Nat.le_of_ble_eq_true rfl) rfl rfl rfl ?_
  refine z_aload_n (pc := 60) C 0 dX9_init_60 rfl rfl ?_
  refine c_new (pc := 61) (S := sA11) (19, 0, 0) 203 sA12 C A2 dX9_init_61 wX9_35 (by decide +kernel) (by decide) (by decide +kernel) (by decide +kernel) (by decide +kernel) rfl ?_
  refine z_dup (pc := 64) C dX9_init_64 rfl ?_
  refine c_callN (pc := 65) (S := sA12) sA13 C I A2 dX9_init_65 jX9_37 (mX4_init (sh0 := sA11) (n := 203) (by decide +kernel) (by decide +kernel) (by decide +kernel)) rfl rfl (by decide +kernel) (by decide +kernel) (by decide) rfl rfl (Nat.le_of_ble_eq_true rfl) (fun M65_8 h65_8 => ?_)
  refine c_putR (pc := 68) (S := sA13) (k := 0) (v := 203) (q := (0, 0, 0)) (fl := [some (some (1)), some (some (32)), some (some (43)), some (some (54)), some none, some none, some none, some none, some none, none, none]) sA14 C I dX9_init_68 gX9_38 (zgt (by decide +kernel)) (Nat.le_of_ble_eq_true rfl) rfl rfl rfl ?_
  refine z_aload_n (pc := 71) C 0 dX9_init_71 rfl rfl ?_
  refine c_new (pc := 72) (S := sA14) (21, 0, 0) 205 sA15 C A2 dX9_init_72 wX9_42 (by decide +kernel) (by decide) (by decide +kernel) (by decide +kernel) (by decide +kernel) rfl ?_
  refine z_dup (pc := 75) C dX9_init_75 rfl ?_
  refine z_aload_n (pc := 76) C 0 dX9_init_76 rfl rfl ?_
  refine z_getR (pc := 77) (k := 0) (r := 203) (q := (0, 0, 0)) (fl := [some (some (1)), some (some (32)), some (some (43)), some (some (54)), some (some (203)), some none, some none, some none, some none, none, none]) C dX9_init_77 fX9_38 (zgt (by decide +kernel)) rfl ?_
  refine c_callI (pc := 80) (S := sA15) sA16 C I A2 dX9_init_80 jX9_44 (mX1_init (sh0 := sA14) (n := 205) (by decide +kernel) (by decide +kernel) (by decide +kernel) (by decide +kernel)) rfl rfl (by decide +kernel) (by decide +kernel) (by decide) rfl rfl (Nat.le_of_ble_eq_true rfl) (fun M80_15 h80_15 => ?_)
  refine c_putR (pc := 83) (S := sA16) (k := 0) (v := 205) (q := (0, 0, 0)) (fl := [some (some (1)), some (some (32)), some (some (43)), some (some (54)), some (some (203)), some none, some none, some none, some none, none, none]) sA17 C I dX9_init_83 gX9_47 (zgt (by decide +kernel)) (Nat.le_of_ble_eq_true rfl) rfl rfl rfl ?_
  refine z_aload_n (pc := 86) C 0 dX9_init_86 rfl rfl ?_
  refine z_iconst (pc := 87) (v := 4) C dX9_init_87 rfl ?_
  refine c_anew (pc := 88) (S := sA17) (t := 7) (N := 4) (rs := [none, none, none, none]) (22, 0, 0) 208 sA18 C I A2 dX9_init_88 q2_2 (by decide) rfl (by decide) rfl (by decide) rfl (zrn_all (by decide)) (by decide +kernel) (by decide) (by decide +kernel) (by decide +kernel) (by decide +kernel) rfl ?_
  refine c_putR (pc := 91) (S := sA18) (k := 0) (v := 208) (q := (0, 0, 0)) (fl := [some (some (1)), some (some (32)), some (some (43)), some (some (54)), some (some (203)), some (some (205)), some none, some none, some none, none, none]) sA19 C I dX9_init_91 gX9_53 (zgt (by decide +kernel)) (Nat.le_of_ble_eq_true rfl) rfl rfl rfl ?_
  refine z_aload_n (pc := 94) C 0 dX9_init_94 rfl rfl ?_
  refine z_iconst (pc := 95) (v := 5) C dX9_init_95 rfl ?_
  refine c_anew (pc := 96) (S := sA19) (t := 8) (N := 5) (rs := [none, none, none, none, none]) (23, 0, 0) 209 sA20 C I A2 dX9_init_96 q2_4 (by decide) rfl (by decide) rfl (by decide) rfl (zrn_all (by decide)) (by decide +kernel) (by decide) (by decide +kernel) (by decide +kernel) (by decide +kernel) rfl ?_
  refine c_putR (pc := 99) (S := sA20) (k := 0) (v := 209) (q := (0, 0, 0)) (fl := [some (some (1)), some (some (32)), some (some (43)), some (some (54)), some (some (203)), some (some (205)), some (some (208)), some none, some none, none, none]) sA21 C I dX9_init_99 gX9_59 (zgt (by decide +kernel)) (Nat.le_of_ble_eq_true rfl) rfl rfl rfl ?_
  refine z_aload_n (pc := 102) C 0 dX9_init_102 rfl rfl ?_
  refine z_bipush (pc := 103) (v := 60) C dX9_init_103 rfl ?_
  refine c_newa (pc := 105) (S := sA21) (t := 0) (N := 60) (24, 0, 0) 210 sA22 C A2 dX9_init_105 q1_62 rfl rfl (fun _ _ h => h) rfl (by decide) rfl (by decide) (by decide +kernel) (by decide) (by decide +kernel) (by decide +kernel) (by decide +kernel) rfl ?_
  refine c_putR (pc := 107) (S := sA22) (k := 0) (v := 210) (q := (0, 0, 0)) (fl := [some (some (1)), some (some (32)), some (some (43)), some (some (54)), some (some (203)), some (some (205)), some (some (208)), some (some (209)), some none, none, none]) sA23 C I dX9_init_107 gX9_63 (zgt (by decide +kernel)) (Nat.le_of_ble_eq_true rfl) rfl rfl rfl ?_
  refine z_aload_n (pc := 110) C 0 dX9_init_110 rfl rfl ?_
  refine z_iconst (pc := 111) (v := 0) C dX9_init_111 rfl ?_
  refine z_putII (pc := 112) (k := 0) (a := 0) (i := 0) (j := 0) (fl := [some (some (1)), some (some (32)), some (some (43)), some (some (54)), some (some (203)), some (some (205)), some (some (208)), some (some (209)), some (some (210)), none, none]) C dX9_init_112 fX9_67 (zgt (by decide +kernel)) rfl ?_
  refine z_aload_n (pc := 115) C 0 dX9_init_115 rfl rfl ?_
  refine z_iconst (pc := 116) (v := 0) C dX9_init_116 rfl ?_
  refine z_putZ (pc := 117) (k := 0) (a := 0) (i := 0) (j := 0) (fl := [some (some (1)), some (some (32)), some (some (43)), some (some (54)), some (some (203)), some (some (205)), some (some (208)), some (some (209)), some (some (210)), none, none]) C dX9_init_117 fX9_71 (zgt (by decide +kernel)) rfl (Or.inl rfl) ?_
  refine z_iconst (pc := 120) (v := 0) C dX9_init_120 rfl ?_
  refine z_istore_n (pc := 121) (L' := [some (.ref (b + 0)), some (.int 0)]) C 1 dX9_init_121 rfl (by decide) rfl ?_
  refine ms_sh0 (by decide) C I A2 (fun _ e0 => ?_)
  refine ms_sh1 (by decide) C I A2 (fun _ e1 => ?_)
  refine ms_sh2 (by decide) C I A2 (fun _ e2 => ?_)
  refine ms_sh3 (by decide) C I A2 (fun _ e3 => ?_)
  refine z_iload_n (pc := 122) C 1 dX9_init_122 rfl rfl ?_
  refine z_iconst (pc := 123) (v := 4) C dX9_init_123 rfl ?_
  refine z_icmp_ge (pc := 124) C 146 dX9_init_124 (by decide) (fun c124 => ?_) (fun c124 => absurd (by decide) c124)
  refine z_iconst (pc := 146) (v := 0) C dX9_init_146 rfl ?_
  refine z_istore_n (pc := 147) (L' := [some (.ref (b + 0)), some (.int 0)]) C 1 dX9_init_147 rfl (by decide) rfl ?_
  refine ms_sl0 (by decide) C I A2 (fun _ l0 => ?_)
  refine ms_sl1 (by decide) C I A2 (fun _ l1 => ?_)
  refine ms_sl2 (by decide) C I A2 (fun _ l2 => ?_)
  refine ms_sl3 (by decide) C I A2 (fun _ l3 => ?_)
  refine ms_sl4 (by decide) C I A2 (fun _ l4 => ?_)
  refine z_iload_n (pc := 148) C 1 dX9_init_148 rfl rfl ?_
  refine z_iconst (pc := 149) (v := 5) C dX9_init_149 rfl ?_
  refine z_icmp_ge (pc := 150) C 172 dX9_init_150 (by decide) (fun c150 => ?_) (fun c150 => absurd (by decide) c150)
  refine z_return (pc := 172) C K dX9_init_172 ?_
  refine ⟨rfl, ?_, ?_, ⟨?_, ?_, ?_, ?_, ?_, ?_, ?_, ?_, ?_, ?_, ?_, ?_⟩, ?_, fun s hs => ?_, fun s hs => ?_⟩
  · rw [l4.2 0 0 0 (9) (by omega), l3.2 0 0 0 (9) (by omega), l2.2 0 0 0 (9) (by omega), l1.2 0 0 0 (9) (by omega), l0.2 0 0 0 (9) (by omega), e3.2 0 0 0 (9) (by omega), e2.2 0 0 0 (9) (by omega), e1.2 0 0 0 (9) (by omega), e0.2 0 0 0 (9) (by omega), zu_ne _ _ (by omega), zu_self]
  · rw [l4.2 0 0 0 (10) (by omega), l3.2 0 0 0 (10) (by omega), l2.2 0 0 0 (10) (by omega), l1.2 0 0 0 (10) (by omega), l0.2 0 0 0 (10) (by omega), e3.2 0 0 0 (10) (by omega), e2.2 0 0 0 (10) (by omega), e1.2 0 0 0 (10) (by omega), e0.2 0 0 0 (10) (by omega), zu_self]
  · rw [l4.2 5 0 0 (2) (by omega), l3.2 5 0 0 (2) (by omega), l2.2 5 0 0 (2) (by omega), l1.2 5 0 0 (2) (by omega), l0.2 5 0 0 (2) (by omega), e3.2 5 0 0 (2) (by omega), e2.2 5 0 0 (2) (by omega), e1.2 5 0 0 (2) (by omega), e0.2 5 0 0 (2) (by omega), zu_ne _ _ (by omega), zu_ne _ _ (by omega), zcl_ne (by show ¬ (5 = 24 ∧ 0 = 0 ∧ 0 = 0); omega), zcl_ne (by show ¬ (5 = 23 ∧ 0 = 0 ∧ 0 = 0); omega), zcl_ne (by show ¬ (5 = 22 ∧ 0 = 0 ∧ 0 = 0); omega), h80_15 5 0 0 (2) (by omega), zcl_ne (by show ¬ (5 = 21 ∧ 0 = 0 ∧ 0 = 0); omega), h65_8.2 5 0 0 (2) (by omega), zcl_ne (by show ¬ (5 = 19 ∧ 0 = 0 ∧ 0 = 0); omega), h54_3 5 0 0 (2) (by omega), zcl_ne (by show ¬ (5 = 13 ∧ 0 = 0 ∧ 0 = 0); omega), h39_20.2 5 0 0 (2) (by omega), zcl_ne (by show ¬ (5 = 5 ∧ 0 = 1 ∧ 0 = 0); omega)]; exact h24_13.1.1
  · rw [l4.2 5 0 0 (3) (by omega), l3.2 5 0 0 (3) (by omega), l2.2 5 0 0 (3) (by omega), l1.2 5 0 0 (3) (by omega), l0.2 5 0 0 (3) (by omega), e3.2 5 0 0 (3) (by omega), e2.2 5 0 0 (3) (by omega), e1.2 5 0 0 (3) (by omega), e0.2 5 0 0 (3) (by omega), zu_ne _ _ (by omega), zu_ne _ _ (by omega), zcl_ne (by show ¬ (5 = 24 ∧ 0 = 0 ∧ 0 = 0); omega), zcl_ne (by show ¬ (5 = 23 ∧ 0 = 0 ∧ 0 = 0); omega), zcl_ne (by show ¬ (5 = 22 ∧ 0 = 0 ∧ 0 = 0); omega), h80_15 5 0 0 (3) (by omega), zcl_ne (by show ¬ (5 = 21 ∧ 0 = 0 ∧ 0 = 0); omega), h65_8.2 5 0 0 (3) (by omega), zcl_ne (by show ¬ (5 = 19 ∧ 0 = 0 ∧ 0 = 0); omega), h54_3 5 0 0 (3) (by omega), zcl_ne (by show ¬ (5 = 13 ∧ 0 = 0 ∧ 0 = 0); omega), h39_20.2 5 0 0 (3) (by omega), zcl_ne (by show ¬ (5 = 5 ∧ 0 = 1 ∧ 0 = 0); omega)]; exact h24_13.1.2.1
  · rw [l4.2 5 0 0 (4) (by omega), l3.2 5 0 0 (4) (by omega), l2.2 5 0 0 (4) (by omega), l1.2 5 0 0 (4) (by omega), l0.2 5 0 0 (4) (by omega), e3.2 5 0 0 (4) (by omega), e2.2 5 0 0 (4) (by omega), e1.2 5 0 0 (4) (by omega), e0.2 5 0 0 (4) (by omega), zu_ne _ _ (by omega), zu_ne _ _ (by omega), zcl_ne (by show ¬ (5 = 24 ∧ 0 = 0 ∧ 0 = 0); omega), zcl_ne (by show ¬ (5 = 23 ∧ 0 = 0 ∧ 0 = 0); omega), zcl_ne (by show ¬ (5 = 22 ∧ 0 = 0 ∧ 0 = 0); omega), h80_15 5 0 0 (4) (by omega), zcl_ne (by show ¬ (5 = 21 ∧ 0 = 0 ∧ 0 = 0); omega), h65_8.2 5 0 0 (4) (by omega), zcl_ne (by show ¬ (5 = 19 ∧ 0 = 0 ∧ 0 = 0); omega), h54_3 5 0 0 (4) (by omega), zcl_ne (by show ¬ (5 = 13 ∧ 0 = 0 ∧ 0 = 0); omega), h39_20.2 5 0 0 (4) (by omega), zcl_ne (by show ¬ (5 = 5 ∧ 0 = 1 ∧ 0 = 0); omega)]; exact h24_13.1.2.2.1
  · rw [l4.2 5 0 0 (5) (by omega), l3.2 5 0 0 (5) (by omega), l2.2 5 0 0 (5) (by omega), l1.2 5 0 0 (5) (by omega), l0.2 5 0 0 (5) (by omega), e3.2 5 0 0 (5) (by omega), e2.2 5 0 0 (5) (by omega), e1.2 5 0 0 (5) (by omega), e0.2 5 0 0 (5) (by omega), zu_ne _ _ (by omega), zu_ne _ _ (by omega), zcl_ne (by show ¬ (5 = 24 ∧ 0 = 0 ∧ 0 = 0); omega), zcl_ne (by show ¬ (5 = 23 ∧ 0 = 0 ∧ 0 = 0); omega), zcl_ne (by show ¬ (5 = 22 ∧ 0 = 0 ∧ 0 = 0); omega), h80_15 5 0 0 (5) (by omega), zcl_ne (by show ¬ (5 = 21 ∧ 0 = 0 ∧ 0 = 0); omega), h65_8.2 5 0 0 (5) (by omega), zcl_ne (by show ¬ (5 = 19 ∧ 0 = 0 ∧ 0 = 0); omega), h54_3 5 0 0 (5) (by omega), zcl_ne (by show ¬ (5 = 13 ∧ 0 = 0 ∧ 0 = 0); omega), h39_20.2 5 0 0 (5) (by omega), zcl_ne (by show ¬ (5 = 5 ∧ 0 = 1 ∧ 0 = 0); omega)]; exact h24_13.1.2.2.2.1
  · rw [l4.2 5 0 0 (6) (by omega), l3.2 5 0 0 (6) (by omega), l2.2 5 0 0 (6) (by omega), l1.2 5 0 0 (6) (by omega), l0.2 5 0 0 (6) (by omega), e3.2 5 0 0 (6) (by omega), e2.2 5 0 0 (6) (by omega), e1.2 5 0 0 (6) (by omega), e0.2 5 0 0 (6) (by omega), zu_ne _ _ (by omega), zu_ne _ _ (by omega), zcl_ne (by show ¬ (5 = 24 ∧ 0 = 0 ∧ 0 = 0); omega), zcl_ne (by show ¬ (5 = 23 ∧ 0 = 0 ∧ 0 = 0); omega), zcl_ne (by show ¬ (5 = 22 ∧ 0 = 0 ∧ 0 = 0); omega), h80_15 5 0 0 (6) (by omega), zcl_ne (by show ¬ (5 = 21 ∧ 0 = 0 ∧ 0 = 0); omega), h65_8.2 5 0 0 (6) (by omega), zcl_ne (by show ¬ (5 = 19 ∧ 0 = 0 ∧ 0 = 0); omega), h54_3 5 0 0 (6) (by omega), zcl_ne (by show ¬ (5 = 13 ∧ 0 = 0 ∧ 0 = 0); omega), h39_20.2 5 0 0 (6) (by omega), zcl_ne (by show ¬ (5 = 5 ∧ 0 = 1 ∧ 0 = 0); omega)]; exact h24_13.1.2.2.2.2.1
  · rw [l4.2 5 0 0 (7) (by omega), l3.2 5 0 0 (7) (by omega), l2.2 5 0 0 (7) (by omega), l1.2 5 0 0 (7) (by omega), l0.2 5 0 0 (7) (by omega), e3.2 5 0 0 (7) (by omega), e2.2 5 0 0 (7) (by omega), e1.2 5 0 0 (7) (by omega), e0.2 5 0 0 (7) (by omega), zu_ne _ _ (by omega), zu_ne _ _ (by omega), zcl_ne (by show ¬ (5 = 24 ∧ 0 = 0 ∧ 0 = 0); omega), zcl_ne (by show ¬ (5 = 23 ∧ 0 = 0 ∧ 0 = 0); omega), zcl_ne (by show ¬ (5 = 22 ∧ 0 = 0 ∧ 0 = 0); omega), h80_15 5 0 0 (7) (by omega), zcl_ne (by show ¬ (5 = 21 ∧ 0 = 0 ∧ 0 = 0); omega), h65_8.2 5 0 0 (7) (by omega), zcl_ne (by show ¬ (5 = 19 ∧ 0 = 0 ∧ 0 = 0); omega), h54_3 5 0 0 (7) (by omega), zcl_ne (by show ¬ (5 = 13 ∧ 0 = 0 ∧ 0 = 0); omega), h39_20.2 5 0 0 (7) (by omega), zcl_ne (by show ¬ (5 = 5 ∧ 0 = 1 ∧ 0 = 0); omega)]; exact h24_13.1.2.2.2.2.2.1
  · rw [l4.2 5 0 0 (8) (by omega), l3.2 5 0 0 (8) (by omega), l2.2 5 0 0 (8) (by omega), l1.2 5 0 0 (8) (by omega), l0.2 5 0 0 (8) (by omega), e3.2 5 0 0 (8) (by omega), e2.2 5 0 0 (8) (by omega), e1.2 5 0 0 (8) (by omega), e0.2 5 0 0 (8) (by omega), zu_ne _ _ (by omega), zu_ne _ _ (by omega), zcl_ne (by show ¬ (5 = 24 ∧ 0 = 0 ∧ 0 = 0); omega), zcl_ne (by show ¬ (5 = 23 ∧ 0 = 0 ∧ 0 = 0); omega), zcl_ne (by show ¬ (5 = 22 ∧ 0 = 0 ∧ 0 = 0); omega), h80_15 5 0 0 (8) (by omega), zcl_ne (by show ¬ (5 = 21 ∧ 0 = 0 ∧ 0 = 0); omega), h65_8.2 5 0 0 (8) (by omega), zcl_ne (by show ¬ (5 = 19 ∧ 0 = 0 ∧ 0 = 0); omega), h54_3 5 0 0 (8) (by omega), zcl_ne (by show ¬ (5 = 13 ∧ 0 = 0 ∧ 0 = 0); omega), h39_20.2 5 0 0 (8) (by omega), zcl_ne (by show ¬ (5 = 5 ∧ 0 = 1 ∧ 0 = 0); omega)]; exact h24_13.1.2.2.2.2.2.2.1
  · rw [l4.2 5 0 0 (9) (by omega), l3.2 5 0 0 (9) (by omega), l2.2 5 0 0 (9) (by omega), l1.2 5 0 0 (9) (by omega), l0.2 5 0 0 (9) (by omega), e3.2 5 0 0 (9) (by omega), e2.2 5 0 0 (9) (by omega), e1.2 5 0 0 (9) (by omega), e0.2 5 0 0 (9) (by omega), zu_ne _ _ (by omega), zu_ne _ _ (by omega), zcl_ne (by show ¬ (5 = 24 ∧ 0 = 0 ∧ 0 = 0); omega), zcl_ne (by show ¬ (5 = 23 ∧ 0 = 0 ∧ 0 = 0); omega), zcl_ne (by show ¬ (5 = 22 ∧ 0 = 0 ∧ 0 = 0); omega), h80_15 5 0 0 (9) (by omega), zcl_ne (by show ¬ (5 = 21 ∧ 0 = 0 ∧ 0 = 0); omega), h65_8.2 5 0 0 (9) (by omega), zcl_ne (by show ¬ (5 = 19 ∧ 0 = 0 ∧ 0 = 0); omega), h54_3 5 0 0 (9) (by omega), zcl_ne (by show ¬ (5 = 13 ∧ 0 = 0 ∧ 0 = 0); omega), h39_20.2 5 0 0 (9) (by omega), zcl_ne (by show ¬ (5 = 5 ∧ 0 = 1 ∧ 0 = 0); omega)]; exact h24_13.1.2.2.2.2.2.2.2.1
  · rw [l4.2 5 0 0 (10) (by omega), l3.2 5 0 0 (10) (by omega), l2.2 5 0 0 (10) (by omega), l1.2 5 0 0 (10) (by omega), l0.2 5 0 0 (10) (by omega), e3.2 5 0 0 (10) (by omega), e2.2 5 0 0 (10) (by omega), e1.2 5 0 0 (10) (by omega), e0.2 5 0 0 (10) (by omega), zu_ne _ _ (by omega), zu_ne _ _ (by omega), zcl_ne (by show ¬ (5 = 24 ∧ 0 = 0 ∧ 0 = 0); omega), zcl_ne (by show ¬ (5 = 23 ∧ 0 = 0 ∧ 0 = 0); omega), zcl_ne (by show ¬ (5 = 22 ∧ 0 = 0 ∧ 0 = 0); omega), h80_15 5 0 0 (10) (by omega), zcl_ne (by show ¬ (5 = 21 ∧ 0 = 0 ∧ 0 = 0); omega), h65_8.2 5 0 0 (10) (by omega), zcl_ne (by show ¬ (5 = 19 ∧ 0 = 0 ∧ 0 = 0); omega), h54_3 5 0 0 (10) (by omega), zcl_ne (by show ¬ (5 = 13 ∧ 0 = 0 ∧ 0 = 0); omega), h39_20.2 5 0 0 (10) (by omega), zcl_ne (by show ¬ (5 = 5 ∧ 0 = 1 ∧ 0 = 0); omega)]; exact h24_13.1.2.2.2.2.2.2.2.2.1
  · rw [l4.2 6 0 0 (0) (by omega), l3.2 6 0 0 (0) (by omega), l2.2 6 0 0 (0) (by omega), l1.2 6 0 0 (0) (by omega), l0.2 6 0 0 (0) (by omega), e3.2 6 0 0 (0) (by omega), e2.2 6 0 0 (0) (by omega), e1.2 6 0 0 (0) (by omega), e0.2 6 0 0 (0) (by omega), zu_ne _ _ (by omega), zu_ne _ _ (by omega), zcl_ne (by show ¬ (6 = 24 ∧ 0 = 0 ∧ 0 = 0); omega), zcl_ne (by show ¬ (6 = 23 ∧ 0 = 0 ∧ 0 = 0); omega), zcl_ne (by show ¬ (6 = 22 ∧ 0 = 0 ∧ 0 = 0); omega), h80_15 6 0 0 (0) (by omega), zcl_ne (by show ¬ (6 = 21 ∧ 0 = 0 ∧ 0 = 0); omega), h65_8.2 6 0 0 (0) (by omega), zcl_ne (by show ¬ (6 = 19 ∧ 0 = 0 ∧ 0 = 0); omega), h54_3 6 0 0 (0) (by omega), zcl_ne (by show ¬ (6 = 13 ∧ 0 = 0 ∧ 0 = 0); omega), h39_20.2 6 0 0 (0) (by omega), zcl_ne (by show ¬ (6 = 5 ∧ 0 = 1 ∧ 0 = 0); omega)]; exact h24_13.1.2.2.2.2.2.2.2.2.2.1
  · rw [l4.2 6 0 0 (1) (by omega), l3.2 6 0 0 (1) (by omega), l2.2 6 0 0 (1) (by omega), l1.2 6 0 0 (1) (by omega), l0.2 6 0 0 (1) (by omega), e3.2 6 0 0 (1) (by omega), e2.2 6 0 0 (1) (by omega), e1.2 6 0 0 (1) (by omega), e0.2 6 0 0 (1) (by omega), zu_ne _ _ (by omega), zu_ne _ _ (by omega), zcl_ne (by show ¬ (6 = 24 ∧ 0 = 0 ∧ 0 = 0); omega), zcl_ne (by show ¬ (6 = 23 ∧ 0 = 0 ∧ 0 = 0); omega), zcl_ne (by show ¬ (6 = 22 ∧ 0 = 0 ∧ 0 = 0); omega), h80_15 6 0 0 (1) (by omega), zcl_ne (by show ¬ (6 = 21 ∧ 0 = 0 ∧ 0 = 0); omega), h65_8.2 6 0 0 (1) (by omega), zcl_ne (by show ¬ (6 = 19 ∧ 0 = 0 ∧ 0 = 0); omega), h54_3 6 0 0 (1) (by omega), zcl_ne (by show ¬ (6 = 13 ∧ 0 = 0 ∧ 0 = 0); omega), h39_20.2 6 0 0 (1) (by omega), zcl_ne (by show ¬ (6 = 5 ∧ 0 = 1 ∧ 0 = 0); omega)]; exact h24_13.1.2.2.2.2.2.2.2.2.2.2.1
  · rw [l4.2 6 0 0 (2) (by omega), l3.2 6 0 0 (2) (by omega), l2.2 6 0 0 (2) (by omega), l1.2 6 0 0 (2) (by omega), l0.2 6 0 0 (2) (by omega), e3.2 6 0 0 (2) (by omega), e2.2 6 0 0 (2) (by omega), e1.2 6 0 0 (2) (by omega), e0.2 6 0 0 (2) (by omega), zu_ne _ _ (by omega), zu_ne _ _ (by omega), zcl_ne (by show ¬ (6 = 24 ∧ 0 = 0 ∧ 0 = 0); omega), zcl_ne (by show ¬ (6 = 23 ∧ 0 = 0 ∧ 0 = 0); omega), zcl_ne (by show ¬ (6 = 22 ∧ 0 = 0 ∧ 0 = 0); omega), h80_15 6 0 0 (2) (by omega), zcl_ne (by show ¬ (6 = 21 ∧ 0 = 0 ∧ 0 = 0); omega), h65_8.2 6 0 0 (2) (by omega), zcl_ne (by show ¬ (6 = 19 ∧ 0 = 0 ∧ 0 = 0); omega), h54_3 6 0 0 (2) (by omega), zcl_ne (by show ¬ (6 = 13 ∧ 0 = 0 ∧ 0 = 0); omega), h39_20.2 6 0 0 (2) (by omega), zcl_ne (by show ¬ (6 = 5 ∧ 0 = 1 ∧ 0 = 0); omega)]; exact h24_13.1.2.2.2.2.2.2.2.2.2.2.2
  · rw [l4.2 19 0 0 (1) (by omega), l3.2 19 0 0 (1) (by omega), l2.2 19 0 0 (1) (by omega), l1.2 19 0 0 (1) (by omega), l0.2 19 0 0 (1) (by omega), e3.2 19 0 0 (1) (by omega), e2.2 19 0 0 (1) (by omega), e1.2 19 0 0 (1) (by omega), e0.2 19 0 0 (1) (by omega), zu_ne _ _ (by omega), zu_ne _ _ (by omega), zcl_ne (by show ¬ (19 = 24 ∧ 0 = 0 ∧ 0 = 0); omega), zcl_ne (by show ¬ (19 = 23 ∧ 0 = 0 ∧ 0 = 0); omega), zcl_ne (by show ¬ (19 = 22 ∧ 0 = 0 ∧ 0 = 0); omega), h80_15 19 0 0 (1) (by omega), zcl_ne (by show ¬ (19 = 21 ∧ 0 = 0 ∧ 0 = 0); omega)]; exact h65_8.1
  · rcases (show s = 0 ∨ s = 1 ∨ s = 2 ∨ s = 3 by omega) with rfl | rfl | rfl | rfl
    · refine ⟨?_, ?_, fun k => ?_⟩
      · rw [l4.2 3 0 0 (0) (by omega), l3.2 3 0 0 (0) (by omega), l2.2 3 0 0 (0) (by omega), l1.2 3 0 0 (0) (by omega), l0.2 3 0 0 (0) (by omega), e3.2 3 0 0 (0) (by omega), e2.2 3 0 0 (0) (by omega), e1.2 3 0 0 (0) (by omega)]; exact e0.1.1
      · rw [l4.2 3 0 0 (1) (by omega), l3.2 3 0 0 (1) (by omega), l2.2 3 0 0 (1) (by omega), l1.2 3 0 0 (1) (by omega), l0.2 3 0 0 (1) (by omega), e3.2 3 0 0 (1) (by omega), e2.2 3 0 0 (1) (by omega), e1.2 3 0 0 (1) (by omega)]; exact e0.1.2.1
      · rw [l4.2 4 0 0 (k) (by omega), l3.2 4 0 0 (k) (by omega), l2.2 4 0 0 (k) (by omega), l1.2 4 0 0 (k) (by omega), l0.2 4 0 0 (k) (by omega), e3.2 4 0 0 (k) (by omega), e2.2 4 0 0 (k) (by omega), e1.2 4 0 0 (k) (by omega)]; exact e0.1.2.2 k
    · refine ⟨?_, ?_, fun k => ?_⟩
      · rw [l4.2 3 1 0 (0) (by omega), l3.2 3 1 0 (0) (by omega), l2.2 3 1 0 (0) (by omega), l1.2 3 1 0 (0) (by omega), l0.2 3 1 0 (0) (by omega), e3.2 3 1 0 (0) (by omega), e2.2 3 1 0 (0) (by omega)]; exact e1.1.1
      · rw [l4.2 3 1 0 (1) (by omega), l3.2 3 1 0 (1) (by omega), l2.2 3 1 0 (1) (by omega), l1.2 3 1 0 (1) (by omega), l0.2 3 1 0 (1) (by omega), e3.2 3 1 0 (1) (by omega), e2.2 3 1 0 (1) (by omega)]; exact e1.1.2.1
      · rw [l4.2 4 1 0 (k) (by omega), l3.2 4 1 0 (k) (by omega), l2.2 4 1 0 (k) (by omega), l1.2 4 1 0 (k) (by omega), l0.2 4 1 0 (k) (by omega), e3.2 4 1 0 (k) (by omega), e2.2 4 1 0 (k) (by omega)]; exact e1.1.2.2 k
    · refine ⟨?_, ?_, fun k => ?_⟩
      · rw [l4.2 3 2 0 (0) (by omega), l3.2 3 2 0 (0) (by omega), l2.2 3 2 0 (0) (by omega), l1.2 3 2 0 (0) (by omega), l0.2 3 2 0 (0) (by omega), e3.2 3 2 0 (0) (by omega)]; exact e2.1.1
      · rw [l4.2 3 2 0 (1) (by omega), l3.2 3 2 0 (1) (by omega), l2.2 3 2 0 (1) (by omega), l1.2 3 2 0 (1) (by omega), l0.2 3 2 0 (1) (by omega), e3.2 3 2 0 (1) (by omega)]; exact e2.1.2.1
      · rw [l4.2 4 2 0 (k) (by omega), l3.2 4 2 0 (k) (by omega), l2.2 4 2 0 (k) (by omega), l1.2 4 2 0 (k) (by omega), l0.2 4 2 0 (k) (by omega), e3.2 4 2 0 (k) (by omega)]; exact e2.1.2.2 k
    · refine ⟨?_, ?_, fun k => ?_⟩
      · rw [l4.2 3 3 0 (0) (by omega), l3.2 3 3 0 (0) (by omega), l2.2 3 3 0 (0) (by omega), l1.2 3 3 0 (0) (by omega), l0.2 3 3 0 (0) (by omega)]; exact e3.1.1
      · rw [l4.2 3 3 0 (1) (by omega), l3.2 3 3 0 (1) (by omega), l2.2 3 3 0 (1) (by omega), l1.2 3 3 0 (1) (by omega), l0.2 3 3 0 (1) (by omega)]; exact e3.1.2.1
      · rw [l4.2 4 3 0 (k) (by omega), l3.2 4 3 0 (k) (by omega), l2.2 4 3 0 (k) (by omega), l1.2 4 3 0 (k) (by omega), l0.2 4 3 0 (k) (by omega)]; exact e3.1.2.2 k
  · rcases (show s = 0 ∨ s = 1 ∨ s = 2 ∨ s = 3 ∨ s = 4 by omega) with rfl | rfl | rfl | rfl | rfl
    · rw [l4.2 25 0 0 (0) (by omega), l3.2 25 0 0 (0) (by omega), l2.2 25 0 0 (0) (by omega), l1.2 25 0 0 (0) (by omega)]; exact l0.1
    · rw [l4.2 25 1 0 (0) (by omega), l3.2 25 1 0 (0) (by omega), l2.2 25 1 0 (0) (by omega)]; exact l1.1
    · rw [l4.2 25 2 0 (0) (by omega), l3.2 25 2 0 (0) (by omega)]; exact l2.1
    · rw [l4.2 25 3 0 (0) (by omega)]; exact l3.1
    · exact l4.1

theorem MSN_shape : sA50 ++ mdB 239 = zshL := zeL (by decide +kernel)
theorem MSN_len : sA50.length = 239 := by decide +kernel
theorem MSN_fresh : zFm sA50 := by unfold zFm; decide +kernel
