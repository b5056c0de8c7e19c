/-! STRINGS: the constants' letters -/
def zsb (i j : Nat) : Int32 := (zbyt.getD i []).getD j 0
def zsl6 (i : Nat) : Nat := zlen.getD i 0
section ZSTR
variable {X : zX} {l : Launch} {G : zG} {b : Nat} {cc : ByteArray} {nL : Nat} {own : String} {d : Nat} {sh : List zS} {M : zM} {pc : Nat} {L : List (Option Value)} {st rest : List Value}
variable {y : MethodName} {cy : ByteArray} {ny ky index h : Nat} {ret : Option FieldType} {As : List Value} {post : Option Value → zM → Prop} {i : Nat}
theorem z_sval (C : zOK X l G b cc nL RJ0 d) (hi : i < 6) (hdg : decode cc pc = .ok (.getfield 9, 3)) (kk : zW X sh M (pc + 3) L (.ref (G.2.2 (10 + i)) :: st)) : zW X sh M pc L (.ref (G.2.2 (1 + i)) :: st) := by
  obtain ⟨p, l', e, R, s, m, args, below, meth, c, Q, n0, s0, G', b'⟩ := X
  obtain ⟨rfl, rfl, rfl, hx, hb, -, hown, hts, hAm, -⟩ := C
  intro H locs ls hP hz hS hN hn hs hL
  exact vk_getf hx hb (hAm.2.2.2.2.2.1.1 i hi).2.2.1 hS hown (hts _ q6_166) (fun x h => h) hdg (kk H locs ls hP hz hS hN hn hs hL)
theorem z_scod (C : zOK X l G b cc nL RJ0 d) (hi : i < 6) (hdg : decode cc pc = .ok (.getfield 15, 3)) (kk : zW X sh M (pc + 3) L (.int 0 :: st)) : zW X sh M pc L (.ref (G.2.2 (1 + i)) :: st) := by
  obtain ⟨p, l', e, R, s, m, args, below, meth, c, Q, n0, s0, G', b'⟩ := X
  obtain ⟨rfl, rfl, rfl, hx, hb, -, hown, hts, hAm, -⟩ := C
  intro H locs ls hP hz hS hN hn hs hL
  exact vk_getf hx hb (hAm.2.2.2.2.2.1.1 i hi).2.1 hS hown (hts _ q6_167) (fun x h => h) hdg (kk H locs ls hP hz hS hN hn hs hL)
theorem z_slen (C : zOK X l G b cc nL own d) (hi : i < 6) (hdg : decode cc pc = .ok (.arraylength, 1)) (kk : zW X sh M (pc + 1) L (.int (nI (zsl6 i)) :: st)) : zW X sh M pc L (.ref (G.2.2 (10 + i)) :: st) := by
  obtain ⟨p, l', e, R, s, m, args, below, meth, c, Q, n0, s0, G', b'⟩ := X
  obtain ⟨rfl, rfl, rfl, hx, hb, -, hown, hts, hAm, -⟩ := C
  intro H locs ls hP hz hS hN hn hs hL
  exact va_tlen hx hb (hAm.2.2.2.2.2.1.1 i hi).2.2.2 hS rfl hdg (kk H locs ls hP hz hS hN hn hs hL)
theorem z_sbyt (C : zOK X l G b cc nL own d) (hi : i < 6) {x : Int32} {n : Nat} (hdg : decode cc pc = .ok (.baload, 1)) (hin : vp_in x (zsl6 i)) (hn' : x.toNatClampNeg = n) (kk : zW X sh M (pc + 1) L (.int (zsb i n) :: st)) : zW X sh M pc L (.int x :: .ref (G.2.2 (10 + i)) :: st) := by
  subst hn'
  obtain ⟨p, l', e, R, s, m, args, below, meth, c, Q, n0, s0, G', b'⟩ := X
  obtain ⟨rfl, rfl, rfl, hx, hb, -, hown, hts, hAm, -⟩ := C
  intro H locs ls hP hz hS hN hn hs hL
  exact va_tb hx hb (hAm.2.2.2.2.2.1.1 i hi).2.2.2 hS hin rfl hdg (kk H locs ls hP hz hS hN hn hs hL)
theorem z_compact (C : zOK X l G b cc nL RJ0 d) (hdg : decode cc pc = .ok (.getstatic 38, 3)) (kk : zW X sh M (pc + 3) L (.int 1 :: st)) : zW X sh M pc L st := by
  obtain ⟨p, l', e, R, s, m, args, below, meth, c, Q, n0, s0, G', b'⟩ := X
  obtain ⟨rfl, rfl, rfl, hx, hb, -, hown, hts, hAm, -⟩ := C
  intro H locs ls hP hz hS hN hn hs hL
  exact va_gets hx hb hAm.2.2.2.2.2.2.2.1 hS hown (hts _ q3_163) (fun x h => h) hdg (kk H locs ls hP hz hS hN hn hs hL)
theorem z_sioobe (C : zOK X l G b cc nL RJ0 d) (hdg : decode cc pc = .ok (.getstatic 1053, 3)) (kk : ∀ v : Value, v.category = 1 → zW X sh M (pc + 3) L (v :: st)) : zW X sh M pc L st := by
  obtain ⟨p, l', e, R, s, m, args, below, meth, c, Q, n0, s0, G', b'⟩ := X
  obtain ⟨rfl, rfl, rfl, hx, hb, -, hown, hts, hAm, -⟩ := C
  intro H locs ls hP hz hS hN hn hs hL
  rcases hAm.2.2.2.2.2.2.2.2 with h | ⟨t, h⟩
  · exact va_gets hx hb h hS hown (hts _ q3_179) (fun x h => h) hdg (kk _ rfl H locs ls hP hz hS hN hn hs hL)
  · exact va_gets hx hb h hS hown (hts _ q3_179) (fun x h => h) hdg (kk _ rfl H locs ls hP hz hS hN hn hs hL)
theorem z_breturn (C : zOK X l G b cc nL own d) {v : Int32} {ty : FieldType} {post : Option Value → zM → Prop} (K : zRt X (some ty) sh post) (hdg : decode cc pc = .ok (.ireturn, 1)) (hv : narrow ty (.int v) = .int v) (hp : post (some (.int v)) M) : zW X sh M pc L [.int v] := by
  obtain ⟨p, l', e, R, s, m, args, below, meth, c, Q, n0, s0, G', b'⟩ := X
  obtain ⟨rfl, rfl, rfl, hx, hb, -⟩ := C
  obtain ⟨hr, hlk, rfl⟩ := K
  intro H locs ls hP hz hS hN hn hs hL
  exact W.zret hx hb hr hv (fun t ht hW => ⟨_, M, rfl, hp, by rw [ht]; exact hP, fun h => by rw [ht]; exact hz h, hN, hS.F ht⟩) hS.2.2 hdg hlk
theorem z_callT (C : zOK X l G b cc nL own d) (hi : i < 6) (hdg : decode cc pc = .ok (.invokevirtual index, 3)) (hw : zCV own index y cy ny ret ky) (hM : zMet l G b y cy ny ret h sh sh (.ref (G.2.2 (1 + i)) :: As) M post) (hd : h + 1 ≤ d) (hci : y.cls = "java/lang/String") (hn : As.length = ky) (hst : st = As.reverse ++ .ref (G.2.2 (1 + i)) :: rest) (hr : (rest.map fun v => v.category).sum ≤ 8) (kk : ∀ r M', post r M' → zW X sh M' (pc + 3) L (r.toList ++ rest)) : zW X sh M pc L st := by
  obtain ⟨p, l', e, R, s, m, args, below, meth, c, Q, n0, s0, G', b'⟩ := X
  obtain ⟨rfl, rfl, rfl, hx, hb, hml, hown, hts, hAm, hbz, hd1, hd2⟩ := C
  obtain ⟨w1, w2, w3, w4, w5, w6, w7⟩ := hw
  obtain ⟨hle, hsl, hMM⟩ := hM
  subst hst
  intro H locs ls hP hz hS hN hn' hs hL
  have hpre := zpre (av := .ref (G'.2.2 (1 + i)) :: As) hAm hbz hP hz hS hN
  have hrec := vk_recv hAm.2.2.2.2.2.1 hi hS
  rw [← hci] at hrec
  refine zcall (va_runV (C := y.cls) (As := As) (rest := rest) (n := ky) (nL := nL) ⟨hx, hb, hml, hown, hts⟩ hMM ⟨callB_of ky hts (zT_code w1) rfl rfl rfl (hts _ w5) (hts _ w2) w6 ⟨?_, ?_⟩, hts _ w3, hts _ w4⟩ ⟨hpre.1, hrec, hpre.2⟩ rfl hn (hL.1.1.trans hml) rfl ?_ hdg ⟨?_, ?_⟩) hle hsl hS hn'.1 hs.1 hn'.2 hs.2 hL kk
  · show h + 1 ≤ R.frames
    omega
  · show 8 + (ny + 11) + 40 * h ≤ R.locals
    omega
  · exact lv_room hr
  · rw [Nat.sub_self]; exact hn'.2
  · rw [Nat.sub_self]; exact hs.2
theorem z_callTi (C : zOK X l G b cc nL own d) (hi : i < 6) {p : Int32 → zM → Prop} (hdg : decode cc pc = .ok (.invokevirtual index, 3)) (hw : zCV own index y cy ny ret ky) (hM : zMet l G b y cy ny ret h sh sh (.ref (G.2.2 (1 + i)) :: As) M (zI p)) (hd : h + 1 ≤ d) (hci : y.cls = "java/lang/String") (hn : As.length = ky) (hst : st = As.reverse ++ .ref (G.2.2 (1 + i)) :: rest) (hr : (rest.map fun v => v.category).sum ≤ 8) (kk : ∀ v M', p v M' → zW X sh M' (pc + 3) L (.int v :: rest)) : zW X sh M pc L st :=
  z_callT C hi hdg hw hM hd hci hn hst hr (fun r M' h => by obtain ⟨v, rfl, hp⟩ := h; exact kk v M' hp)
end ZSTR
theorem zs_shr {i : Nat} (hi : i < 6) : nI (zsl6 i) >>> ((0 : Int32) &&& 31) = nI (zsl6 i) := by
  have h : ∀ i : Fin 6, nI (zsl6 i.1) >>> ((0 : Int32) &&& 31) = nI (zsl6 i.1) := by decide
  exact h ⟨i, hi⟩
theorem zs_chr {i j : Nat} (hi : i < 6) (hj : j < zsl6 i) : ((zsb i j &&& 255).toUInt32 % 65536).toInt32 = zsb i j := by
  have h : ∀ i : Fin 6, ∀ j : Fin (zsl6 i.1), ((zsb i.1 j.1 &&& 255).toUInt32 % 65536).toInt32 = zsb i.1 j.1 := by decide
  exact h ⟨i, hi⟩ ⟨j, hj⟩
theorem zs_4 (i : Nat) (hi : i < 6) : 1 ≤ zsl6 i ∧ zsl6 i ≤ 4 := by
  have h : ∀ i : Fin 6, 1 ≤ zsl6 i.1 ∧ zsl6 i.1 ≤ 4 := by decide
  exact h ⟨i, hi⟩
theorem zs_nar {i j : Nat} (hi : i < 6) (hj : j < zsl6 i) : narrow .char (.int (zsb i j)) = .int (zsb i j) := by
  have e := pk_nc (zsb i j &&& 255)
  rw [zs_chr hi hj] at e
  exact e
set_option maxHeartbeats 800000 in
set_option maxRecDepth 100000 in
theorem mJ0_coder_7d493 {l : Launch} {G : zG} {b : Nat} {M : zM} {i : Nat} (hi : i < 6) : zMet l G b yJ0_coder_7d493 cJ0_coder_7d493 1 (some .byte) 0 zshL zshL [.ref (G.2.2 (1 + i))] M (zI (fun r M' => r = 0 ∧ M' = M)) := by
  refine zMet.ofF (L0 := [some (.ref (G.2.2 (1 + i)))]) (by decide +kernel) (Nat.le_refl _) (Nat.le_refl _) (Nat.le_of_ble_eq_true rfl) (List.forall_mem_cons.mpr ⟨rfl, fun _ h => absurd h List.not_mem_nil⟩) rfl (fun X C Al K => ?_)
  refine z_compact (pc := 0) C dJ0_coder_7d493_0 ?_
  refine z_if_eq (pc := 3) C 13 dJ0_coder_7d493_3 (by decide) (fun c3 => absurd c3 (by decide)) (fun c3 => ?_)
  refine z_aload_n (pc := 6) C 0 dJ0_coder_7d493_6 rfl rfl ?_
  refine z_scod (pc := 7) C hi dJ0_coder_7d493_7 ?_
  refine z_goto (pc := 10) C 14 dJ0_coder_7d493_10 (by decide) ?_
  refine z_breturn (pc := 14) C K dJ0_coder_7d493_14 rfl ?_
  exact ⟨_, rfl, rfl, rfl⟩

set_option maxHeartbeats 800000 in
set_option maxRecDepth 100000 in
theorem mJ0_length_8abf5 {l : Launch} {G : zG} {b : Nat} {M : zM} {i : Nat} (hi : i < 6) : zMet l G b yJ0_length_8abf5 cJ0_length_8abf5 1 (some .int) 1 zshL zshL [.ref (G.2.2 (1 + i))] M (zI (fun r M' => r = nI (zsl6 i) ∧ M' = M)) := by
  refine zMet.ofF (L0 := [some (.ref (G.2.2 (1 + i)))]) (by decide +kernel) (Nat.le_refl _) (Nat.le_refl _) (Nat.le_of_ble_eq_true rfl) (List.forall_mem_cons.mpr ⟨rfl, fun _ h => absurd h List.not_mem_nil⟩) rfl (fun X C Al K => ?_)
  refine z_aload_n (pc := 0) C 0 dJ0_length_8abf5_0 rfl rfl ?_
  refine z_sval (pc := 1) C hi dJ0_length_8abf5_1 ?_
  refine z_slen (pc := 4) C hi dJ0_length_8abf5_4 ?_
  refine z_aload_n (pc := 5) C 0 dJ0_length_8abf5_5 rfl rfl ?_
  refine z_callTi (pc := 6) C hi dJ0_length_8abf5_6 kJ0_335 (mJ0_coder_7d493 hi) (by decide) rfl rfl rfl (Nat.le_of_ble_eq_true rfl) (fun r6 M6 h6 => ?_)
  obtain ⟨rfl, e6⟩ := h6
  subst M6
  refine z_ishr (pc := 9) C dJ0_length_8abf5_9 ?_
  refine z_ireturn (pc := 10) C K dJ0_length_8abf5_10 ?_
  exact ⟨_, rfl, zs_shr hi, rfl⟩

set_option maxHeartbeats 800000 in
set_option maxRecDepth 100000 in
theorem mJ0_isLatin1_aae02 {l : Launch} {G : zG} {b : Nat} {M : zM} {i : Nat} (hi : i < 6) : zMet l G b yJ0_isLatin1_aae02 cJ0_isLatin1_aae02 1 (some .boolean) 0 zshL zshL [.ref (G.2.2 (1 + i))] M (zI (fun r M' => r = 1 ∧ M' = M)) := by
  refine zMet.ofF (L0 := [some (.ref (G.2.2 (1 + i)))]) (by decide +kernel) (Nat.le_refl _) (Nat.le_refl _) (Nat.le_of_ble_eq_true rfl) (List.forall_mem_cons.mpr ⟨rfl, fun _ h => absurd h List.not_mem_nil⟩) rfl (fun X C Al K => ?_)
  refine z_compact (pc := 0) C dJ0_isLatin1_aae02_0 ?_
  refine z_if_eq (pc := 3) C 17 dJ0_isLatin1_aae02_3 (by decide) (fun c3 => absurd c3 (by decide)) (fun c3 => ?_)
  refine z_aload_n (pc := 6) C 0 dJ0_isLatin1_aae02_6 rfl rfl ?_
  refine z_scod (pc := 7) C hi dJ0_isLatin1_aae02_7 ?_
  refine z_if_ne (pc := 10) C 17 dJ0_isLatin1_aae02_10 (by decide) (fun c10 => absurd c10 (by decide)) (fun c10 => ?_)
  refine z_iconst (pc := 13) (v := 1) C dJ0_isLatin1_aae02_13 rfl ?_
  refine z_goto (pc := 14) C 18 dJ0_isLatin1_aae02_14 (by decide) ?_
  refine z_zreturn (pc := 18) C K dJ0_isLatin1_aae02_18 (Or.inr rfl) ?_
  exact ⟨_, rfl, rfl, rfl⟩

set_option maxHeartbeats 800000 in
set_option maxRecDepth 100000 in
theorem mJ3_checkIndex_8e157 {l : Launch} {G : zG} {b : Nat} {M : zM} {x n : Int32} {v : Value} (hv : v.category = 1) (h1 : ¬ x < 0) (h2 : x < n) : zMet l G b yJ3_checkIndex_8e157 cJ3_checkIndex_8e157 3 (some .int) 0 zshL zshL [.int x, .int n, v] M (zI (fun r M' => r = x ∧ M' = M)) := by
  refine zMet.ofF (L0 := [some (.int x), some (.int n), some (v)]) (by decide +kernel) (Nat.le_refl _) (Nat.le_refl _) (Nat.le_of_ble_eq_true rfl) (List.forall_mem_cons.mpr ⟨rfl, List.forall_mem_cons.mpr ⟨rfl, List.forall_mem_cons.mpr ⟨hv, fun _ h => absurd h List.not_mem_nil⟩⟩⟩) rfl (fun X C Al K => ?_)
  refine z_iload_n (pc := 0) C 0 dJ3_checkIndex_8e157_0 rfl rfl ?_
  refine z_if_lt (pc := 1) C 9 dJ3_checkIndex_8e157_1 (by decide) (fun c1 => absurd c1 h1) (fun c1 => ?_)
  refine z_iload_n (pc := 4) C 0 dJ3_checkIndex_8e157_4 rfl rfl ?_
  refine z_iload_n (pc := 5) C 1 dJ3_checkIndex_8e157_5 rfl rfl ?_
  refine z_icmp_lt (pc := 6) C 16 dJ3_checkIndex_8e157_6 (by decide) (fun c6 => ?_) (fun c6 => absurd h2 c6)
  refine z_iload_n (pc := 16) C 0 dJ3_checkIndex_8e157_16 rfl rfl ?_
  refine z_ireturn (pc := 17) C K dJ3_checkIndex_8e157_17 ?_
  exact ⟨_, rfl, rfl, rfl⟩
set_option maxHeartbeats 800000 in
set_option maxRecDepth 100000 in
theorem mJ0_checkIndex_df160 {l : Launch} {G : zG} {b : Nat} {M : zM} {x n : Int32} (h1 : ¬ x < 0) (h2 : x < n) : zMet l G b yJ0_checkIndex_df160 cJ0_checkIndex_df160 2 none 1 zshL zshL [.int x, .int n] M (zV (fun M' => M' = M)) := by
  refine zMet.ofF (L0 := [some (.int x), some (.int n)]) (by decide +kernel) (Nat.le_refl _) (Nat.le_refl _) (Nat.le_of_ble_eq_true rfl) (List.forall_mem_cons.mpr ⟨rfl, List.forall_mem_cons.mpr ⟨rfl, fun _ h => absurd h List.not_mem_nil⟩⟩) rfl (fun X C Al K => ?_)
  refine z_iload_n (pc := 0) C 0 dJ0_checkIndex_df160_0 rfl rfl ?_
  refine z_iload_n (pc := 1) C 1 dJ0_checkIndex_df160_1 rfl rfl ?_
  refine z_sioobe (pc := 2) C dJ0_checkIndex_df160_2 (fun v2 k2 => ?_)
  refine z_callSi (pc := 5) C dJ0_checkIndex_df160_5 kJ0_1059 (mJ3_checkIndex_8e157 k2 h1 h2) (by decide) rfl rfl (Nat.le_of_ble_eq_true rfl) (fun r5 M5 h5 => ?_)
  obtain ⟨rfl, e5⟩ := h5
  subst M5
  refine z_pop (pc := 8) C dJ0_checkIndex_df160_8 rfl ?_
  refine z_return (pc := 9) C K dJ0_checkIndex_df160_9 ?_
  exact ⟨rfl, rfl⟩

set_option maxHeartbeats 800000 in
set_option maxRecDepth 100000 in
theorem mJ1_charAt_3b067 {l : Launch} {G : zG} {b : Nat} {M : zM} {i : Nat} (hi : i < 6) {x : Int32} {j : Nat} (hx : x = nI j) (hj : j < zsl6 i) : zMet l G b yJ1_charAt_3b067 cJ1_charAt_3b067 2 (some .char) 2 zshL zshL [.ref (G.2.2 (10 + i)), .int x] M (zI (fun r M' => r = zsb i j ∧ M' = M)) := by
  refine zMet.ofF (L0 := [some (.ref (G.2.2 (10 + i))), some (.int x)]) (by decide +kernel) (Nat.le_refl _) (Nat.le_refl _) (Nat.le_of_ble_eq_true rfl) (List.forall_mem_cons.mpr ⟨rfl, List.forall_mem_cons.mpr ⟨rfl, fun _ h => absurd h List.not_mem_nil⟩⟩) rfl (fun X C Al K => ?_)
  have h4 := zs_4 i hi
  have ex : x.toInt = j := by rw [hx]; exact nI_toInt (by omega)
  have el : (nI (zsl6 i)).toInt = zsl6 i := nI_toInt (by omega)
  refine z_iload_n (pc := 0) C 1 dJ1_charAt_3b067_0 rfl rfl ?_
  refine z_aload_n (pc := 1) C 0 dJ1_charAt_3b067_1 rfl rfl ?_
  refine z_slen (pc := 2) C hi dJ1_charAt_3b067_2 ?_
  refine z_callSv (pc := 3) C dJ1_charAt_3b067_3 kJ1_9 (mJ0_checkIndex_df160 (by rw [zi_lt, ex, i0]; omega) (by rw [zi_lt, ex, el]; omega)) (by decide) rfl rfl (Nat.le_of_ble_eq_true rfl) (fun M3 h3 => ?_)
  subst M3
  refine z_aload_n (pc := 6) C 0 dJ1_charAt_3b067_6 rfl rfl ?_
  refine z_iload_n (pc := 7) C 1 dJ1_charAt_3b067_7 rfl rfl ?_
  refine z_sbyt (pc := 8) (n := j) C hi dJ1_charAt_3b067_8 (zi_in.mpr (by omega)) (zi_nat ex) ?_
  refine z_sipush (pc := 9) (v := 255) C dJ1_charAt_3b067_9 rfl ?_
  refine z_iand (pc := 12) C dJ1_charAt_3b067_12 ?_
  refine z_i2c (pc := 13) C dJ1_charAt_3b067_13 ?_
  rw [zs_chr hi hj]
  refine z_breturn (pc := 14) C K dJ1_charAt_3b067_14 (zs_nar hi hj) ?_
  exact ⟨_, rfl, rfl, rfl⟩

set_option maxHeartbeats 800000 in
set_option maxRecDepth 100000 in
theorem mJ0_charAt_5068e {l : Launch} {G : zG} {b : Nat} {M : zM} {i : Nat} (hi : i < 6) {x : Int32} {j : Nat} (hx : x = nI j) (hj : j < zsl6 i) : zMet l G b yJ0_charAt_5068e cJ0_charAt_5068e 2 (some .char) 3 zshL zshL [.ref (G.2.2 (1 + i)), .int x] M (zI (fun r M' => r = zsb i j ∧ M' = M)) := by
  refine zMet.ofF (L0 := [some (.ref (G.2.2 (1 + i))), some (.int x)]) (by decide +kernel) (Nat.le_refl _) (Nat.le_refl _) (Nat.le_of_ble_eq_true rfl) (List.forall_mem_cons.mpr ⟨rfl, List.forall_mem_cons.mpr ⟨rfl, fun _ h => absurd h List.not_mem_nil⟩⟩) rfl (fun X C Al K => ?_)
  refine z_aload_n (pc := 0) C 0 dJ0_charAt_5068e_0 rfl rfl ?_
  refine z_callTi (pc := 1) C hi dJ0_charAt_5068e_1 kJ0_492 (mJ0_isLatin1_aae02 hi) (by decide) rfl rfl rfl (Nat.le_of_ble_eq_true rfl) (fun r1 M1 h1 => ?_)
  obtain ⟨rfl, e1⟩ := h1
  subst M1
  refine z_if_eq (pc := 4) C 16 dJ0_charAt_5068e_4 (by decide) (fun c4 => absurd c4 (by decide)) (fun c4 => ?_)
  refine z_aload_n (pc := 7) C 0 dJ0_charAt_5068e_7 rfl rfl ?_
  refine z_sval (pc := 8) C hi dJ0_charAt_5068e_8 ?_
  refine z_iload_n (pc := 11) C 1 dJ0_charAt_5068e_11 rfl rfl ?_
  refine z_callSi (pc := 12) C dJ0_charAt_5068e_12 kJ0_495 (mJ1_charAt_3b067 hi hx hj) (by decide) rfl rfl (Nat.le_of_ble_eq_true rfl) (fun r12 M12 h12 => ?_)
  obtain ⟨rfl, e12⟩ := h12
  subst M12
  refine z_breturn (pc := 15) C K dJ0_charAt_5068e_15 (zs_nar hi hj) ?_
  exact ⟨_, rfl, rfl, rfl⟩

set_option maxHeartbeats 800000 in
set_option maxRecDepth 100000 in
theorem mJ1_canEncode_9a6ad {l : Launch} {G : zG} {b : Nat} {M : zM} {c : Int32} (hc : 0 ≤ c.toInt ∧ c.toInt ≤ 255) : zMet l G b yJ1_canEncode_9a6ad cJ1_canEncode_9a6ad 1 (some .boolean) 0 zshL zshL [.int c] M (zI (fun r M' => r = 1 ∧ M' = M)) := by
  refine zMet.ofF (L0 := [some (.int c)]) (by decide +kernel) (Nat.le_refl _) (Nat.le_refl _) (Nat.le_of_ble_eq_true rfl) (List.forall_mem_cons.mpr ⟨rfl, fun _ h => absurd h List.not_mem_nil⟩) rfl (fun X C Al K => ?_)
  refine z_iload_n (pc := 0) C 0 dJ1_canEncode_9a6ad_0 rfl rfl ?_
  refine z_if_lt (pc := 1) C 15 dJ1_canEncode_9a6ad_1 (by decide) (fun c1 => absurd c1 (by rw [zi_lt, i0]; omega)) (fun c1 => ?_)
  refine z_iload_n (pc := 4) C 0 dJ1_canEncode_9a6ad_4 rfl rfl ?_
  refine z_sipush (pc := 5) (v := 255) C dJ1_canEncode_9a6ad_5 rfl ?_
  refine z_icmp_gt (pc := 8) C 15 dJ1_canEncode_9a6ad_8 (by decide) (fun c8 => absurd c8 (by rw [zi_lt, show (255 : Int32).toInt = 255 by decide]; omega)) (fun c8 => ?_)
  refine z_iconst (pc := 11) (v := 1) C dJ1_canEncode_9a6ad_11 rfl ?_
  refine z_goto (pc := 12) C 16 dJ1_canEncode_9a6ad_12 (by decide) ?_
  refine z_zreturn (pc := 16) C K dJ1_canEncode_9a6ad_16 (Or.inr rfl) ?_
  exact ⟨_, rfl, rfl, rfl⟩

def zfx (i : Nat) (c : Int32) : Nat → Nat → Int32
  | 0, _ => -1
  | k + 1, j => if zsb i j = c then nI j else zfx i c k (j + 1)
set_option maxHeartbeats 800000 in
set_option maxRecDepth 100000 in
theorem mJ1_indexOfChar_4cfef {l : Launch} {G : zG} {b : Nat} {M : zM} {i : Nat} (hi : i < 6) {c : Int32} : zMet l G b yJ1_indexOfChar_4cfef cJ1_indexOfChar_4cfef 6 (some .int) 0 zshL zshL [.ref (G.2.2 (10 + i)), .int c, .int 0, .int (nI (zsl6 i))] M (zI (fun r M' => r = zfx i c.toInt8.toInt32 (zsl6 i) 0 ∧ M' = M)) := by
  refine zMet.ofF (L0 := [some (.ref (G.2.2 (10 + i))), some (.int c), some (.int 0), some (.int (nI (zsl6 i))), none, none]) (by decide +kernel) (Nat.le_refl _) (Nat.le_refl _) (Nat.le_of_ble_eq_true rfl) (List.forall_mem_cons.mpr ⟨rfl, List.forall_mem_cons.mpr ⟨rfl, List.forall_mem_cons.mpr ⟨rfl, List.forall_mem_cons.mpr ⟨rfl, fun _ h => absurd h List.not_mem_nil⟩⟩⟩⟩) rfl (fun X C Al K => ?_)
  have h4 := zs_4 i hi
  have loop : ∀ (k j : Nat), j + k = zsl6 i → zfx i c.toInt8.toInt32 k j = zfx i c.toInt8.toInt32 (zsl6 i) 0 → zW X zshL M 7 [some (.ref (G.2.2 (10 + i))), some (.int c), some (.int 0), some (.int (nI (zsl6 i))), some (.int c.toInt8.toInt32), some (.int (nI j))] [] := by
    intro k
    induction k with
    | zero =>
      intro j hj he
      obtain rfl : j = zsl6 i := by omega
      refine z_iload (pc := 7) C 5 dJ1_indexOfChar_4cfef_7 rfl ?_
      refine z_iload_n (pc := 9) C 3 dJ1_indexOfChar_4cfef_9 rfl rfl ?_
      refine z_icmp_ge (pc := 10) C 31 dJ1_indexOfChar_4cfef_10 (by decide) (fun c10 => ?_) (fun c10 => absurd (Int32.le_refl _) c10)
      refine z_iconst (pc := 31) (v := -1) C dJ1_indexOfChar_4cfef_31 rfl ?_
      refine z_ireturn (pc := 32) C K dJ1_indexOfChar_4cfef_32 ?_
      exact ⟨_, rfl, he, rfl⟩
    | succ k ih =>
      intro j hj he
      rw [zfx] at he
      refine z_iload (pc := 7) C 5 dJ1_indexOfChar_4cfef_7 rfl ?_
      refine z_iload_n (pc := 9) C 3 dJ1_indexOfChar_4cfef_9 rfl rfl ?_
      refine z_icmp_ge (pc := 10) C 31 dJ1_indexOfChar_4cfef_10 (by decide) (fun c10 => absurd c10 (nI_ge (by omega) (by omega))) (fun c10 => ?_)
      refine z_aload_n (pc := 13) C 0 dJ1_indexOfChar_4cfef_13 rfl rfl ?_
      refine z_iload (pc := 14) C 5 dJ1_indexOfChar_4cfef_14 rfl ?_
      refine z_sbyt (pc := 16) (n := j) C hi dJ1_indexOfChar_4cfef_16 (zi_in.mpr (by rw [nI_toInt (by omega)]; omega)) (nI_clamp (by omega)) ?_
      refine z_iload (pc := 17) C 4 dJ1_indexOfChar_4cfef_17 rfl ?_
      refine z_icmp_ne (pc := 19) C 25 dJ1_indexOfChar_4cfef_19 (by decide) (fun c19 => ?_) (fun c19 => ?_)
      · rw [if_neg c19] at he
        refine z_iinc (pc := 25) (v := 1) C 5 dJ1_indexOfChar_4cfef_25 (by decide) rfl rfl rfl ?_
        rw [nI_1]
        refine z_goto (pc := 28) C 7 dJ1_indexOfChar_4cfef_28 (by decide) ?_
        exact ih (j + 1) (by omega) he
      · refine z_iload (pc := 22) C 5 dJ1_indexOfChar_4cfef_22 rfl ?_
        refine z_ireturn (pc := 24) C K dJ1_indexOfChar_4cfef_24 ?_
        rw [if_pos c19] at he
        exact ⟨_, rfl, he, rfl⟩
  refine z_iload_n (pc := 0) C 1 dJ1_indexOfChar_4cfef_0 rfl rfl ?_
  refine z_i2b (pc := 1) C dJ1_indexOfChar_4cfef_1 ?_
  refine z_istore (pc := 2) C 4 dJ1_indexOfChar_4cfef_2 (by decide) rfl ?_
  refine z_iload_n (pc := 4) C 2 dJ1_indexOfChar_4cfef_4 rfl rfl ?_
  refine z_istore (pc := 5) C 5 dJ1_indexOfChar_4cfef_5 (by decide) rfl ?_
  exact loop (zsl6 i) 0 (by omega) rfl
set_option maxHeartbeats 800000 in
set_option maxRecDepth 100000 in
theorem mJ1_indexOf_4cfef {l : Launch} {G : zG} {b : Nat} {M : zM} {i : Nat} (hi : i < 6) {c : Int32} (hc : 0 ≤ c.toInt ∧ c.toInt ≤ 255) : zMet l G b yJ1_indexOf_4cfef cJ1_indexOf_4cfef 4 (some .int) 1 zshL zshL [.ref (G.2.2 (10 + i)), .int c, .int 0, .int (nI (zsl6 i))] M (zI (fun r M' => r = zfx i c.toInt8.toInt32 (zsl6 i) 0 ∧ M' = M)) := by
  refine zMet.ofF (L0 := [some (.ref (G.2.2 (10 + i))), some (.int c), some (.int 0), some (.int (nI (zsl6 i)))]) (by decide +kernel) (Nat.le_refl _) (Nat.le_refl _) (Nat.le_of_ble_eq_true rfl) (List.forall_mem_cons.mpr ⟨rfl, List.forall_mem_cons.mpr ⟨rfl, List.forall_mem_cons.mpr ⟨rfl, List.forall_mem_cons.mpr ⟨rfl, fun _ h => absurd h List.not_mem_nil⟩⟩⟩⟩) rfl (fun X C Al K => ?_)
  have h4 := zs_4 i hi
  have el : (nI (zsl6 i)).toInt = zsl6 i := nI_toInt (by omega)
  have em : (if nI (zsl6 i) < nI (zsl6 i) then nI (zsl6 i) else nI (zsl6 i)) = nI (zsl6 i) := by split <;> rfl
  refine z_iload_n (pc := 0) C 1 dJ1_indexOf_4cfef_0 rfl rfl ?_
  refine z_callSi (pc := 1) C dJ1_indexOf_4cfef_1 kJ1_88 (mJ1_canEncode_9a6ad hc) (by decide) rfl rfl (Nat.le_of_ble_eq_true rfl) (fun r1 M1 h1 => ?_)
  obtain ⟨rfl, e1⟩ := h1
  subst M1
  refine z_if_ne (pc := 4) C 9 dJ1_indexOf_4cfef_4 (by decide) (fun c4 => ?_) (fun c4 => absurd c4 (by decide))
  refine z_iload_n (pc := 9) C 2 dJ1_indexOf_4cfef_9 rfl rfl ?_
  refine z_iconst (pc := 10) (v := 0) C dJ1_indexOf_4cfef_10 rfl ?_
  refine z_max (pc := 11) C (by decide) q4_6 q2_139 q1_12 q2_140 dJ1_indexOf_4cfef_11 (Nat.le_of_ble_eq_true rfl) ?_
  rw [show (if (0 : Int32) < 0 then (0 : Int32) else 0) = 0 from rfl]
  refine z_istore_n (pc := 14) C 2 dJ1_indexOf_4cfef_14 rfl (by decide) rfl ?_
  refine z_iload_n (pc := 15) C 3 dJ1_indexOf_4cfef_15 rfl rfl ?_
  refine z_aload_n (pc := 16) C 0 dJ1_indexOf_4cfef_16 rfl rfl ?_
  refine z_slen (pc := 17) C hi dJ1_indexOf_4cfef_17 ?_
  refine z_min (pc := 18) C (by decide) q4_7 q2_136 q1_12 q2_137 dJ1_indexOf_4cfef_18 (Nat.le_of_ble_eq_true rfl) ?_
  rw [em]
  refine z_istore_n (pc := 21) C 3 dJ1_indexOf_4cfef_21 rfl (by decide) rfl ?_
  refine z_iload_n (pc := 22) C 2 dJ1_indexOf_4cfef_22 rfl rfl ?_
  refine z_iload_n (pc := 23) C 3 dJ1_indexOf_4cfef_23 rfl rfl ?_
  refine z_icmp_lt (pc := 24) C 29 dJ1_indexOf_4cfef_24 (by decide) (fun c24 => ?_) (fun c24 => absurd (show (0 : Int32) < nI (zsl6 i) by rw [zi_lt, el, i0]; omega) c24)
  refine z_aload_n (pc := 29) C 0 dJ1_indexOf_4cfef_29 rfl rfl ?_
  refine z_iload_n (pc := 30) C 1 dJ1_indexOf_4cfef_30 rfl rfl ?_
  refine z_iload_n (pc := 31) C 2 dJ1_indexOf_4cfef_31 rfl rfl ?_
  refine z_iload_n (pc := 32) C 3 dJ1_indexOf_4cfef_32 rfl rfl ?_
  refine z_callSi (pc := 33) C dJ1_indexOf_4cfef_33 kJ1_95 (mJ1_indexOfChar_4cfef hi) (by decide) rfl rfl (Nat.le_of_ble_eq_true rfl) (fun r33 M33 h33 => ?_)
  refine z_ireturn (pc := 36) C K dJ1_indexOf_4cfef_36 ?_
  obtain ⟨rfl, e33⟩ := h33
  exact ⟨_, rfl, rfl, e33⟩

set_option maxHeartbeats 800000 in
set_option maxRecDepth 100000 in
theorem mJ0_indexOf_7cf53 {l : Launch} {G : zG} {b : Nat} {M : zM} {i : Nat} (hi : i < 6) {c : Int32} (hc : 0 ≤ c.toInt ∧ c.toInt ≤ 255) : zMet l G b yJ0_indexOf_7cf53 cJ0_indexOf_7cf53 3 (some .int) 2 zshL zshL [.ref (G.2.2 (1 + i)), .int c, .int 0] M (zI (fun r M' => r = zfx i c.toInt8.toInt32 (zsl6 i) 0 ∧ M' = M)) := by
  refine zMet.ofF (L0 := [some (.ref (G.2.2 (1 + i))), some (.int c), some (.int 0)]) (by decide +kernel) (Nat.le_refl _) (Nat.le_refl _) (Nat.le_of_ble_eq_true rfl) (List.forall_mem_cons.mpr ⟨rfl, List.forall_mem_cons.mpr ⟨rfl, List.forall_mem_cons.mpr ⟨rfl, fun _ h => absurd h List.not_mem_nil⟩⟩⟩) rfl (fun X C Al K => ?_)
  refine z_aload_n (pc := 0) C 0 dJ0_indexOf_7cf53_0 rfl rfl ?_
  refine z_callTi (pc := 1) C hi dJ0_indexOf_7cf53_1 kJ0_492 (mJ0_isLatin1_aae02 hi) (by decide) rfl rfl rfl (Nat.le_of_ble_eq_true rfl) (fun r1 M1 h1 => ?_)
  obtain ⟨rfl, e1⟩ := h1
  subst M1
  refine z_if_eq (pc := 4) C 23 dJ0_indexOf_7cf53_4 (by decide) (fun c4 => absurd c4 (by decide)) (fun c4 => ?_)
  refine z_aload_n (pc := 7) C 0 dJ0_indexOf_7cf53_7 rfl rfl ?_
  refine z_sval (pc := 8) C hi dJ0_indexOf_7cf53_8 ?_
  refine z_iload_n (pc := 11) C 1 dJ0_indexOf_7cf53_11 rfl rfl ?_
  refine z_iload_n (pc := 12) C 2 dJ0_indexOf_7cf53_12 rfl rfl ?_
  refine z_aload_n (pc := 13) C 0 dJ0_indexOf_7cf53_13 rfl rfl ?_
  refine z_callTi (pc := 14) C hi dJ0_indexOf_7cf53_14 kJ0_505 (mJ0_length_8abf5 hi) (by decide) rfl rfl rfl (Nat.le_of_ble_eq_true rfl) (fun r14 M14 h14 => ?_)
  obtain ⟨rfl, e14⟩ := h14
  subst M14
  refine z_callSi (pc := 17) C dJ0_indexOf_7cf53_17 kJ0_637 (mJ1_indexOf_4cfef hi hc) (by decide) rfl rfl (Nat.le_of_ble_eq_true rfl) (fun r17 M17 h17 => ?_)
  refine z_goto (pc := 20) C 36 dJ0_indexOf_7cf53_20 (by decide) ?_
  refine z_ireturn (pc := 36) C K dJ0_indexOf_7cf53_36 ?_
  obtain ⟨rfl, e17⟩ := h17
  exact ⟨_, rfl, rfl, e17⟩

set_option maxHeartbeats 800000 in
set_option maxRecDepth 100000 in
theorem mJ0_indexOf_0f7a4 {l : Launch} {G : zG} {b : Nat} {M : zM} {i : Nat} (hi : i < 6) {c : Int32} (hc : 0 ≤ c.toInt ∧ c.toInt ≤ 255) : zMet l G b yJ0_indexOf_0f7a4 cJ0_indexOf_0f7a4 2 (some .int) 3 zshL zshL [.ref (G.2.2 (1 + i)), .int c] M (zI (fun r M' => r = zfx i c.toInt8.toInt32 (zsl6 i) 0 ∧ M' = M)) := by
  refine zMet.ofF (L0 := [some (.ref (G.2.2 (1 + i))), some (.int c)]) (by decide +kernel) (Nat.le_refl _) (Nat.le_refl _) (Nat.le_of_ble_eq_true rfl) (List.forall_mem_cons.mpr ⟨rfl, List.forall_mem_cons.mpr ⟨rfl, fun _ h => absurd h List.not_mem_nil⟩⟩) rfl (fun X C Al K => ?_)
  refine z_aload_n (pc := 0) C 0 dJ0_indexOf_0f7a4_0 rfl rfl ?_
  refine z_iload_n (pc := 1) C 1 dJ0_indexOf_0f7a4_1 rfl rfl ?_
  refine z_iconst (pc := 2) (v := 0) C dJ0_indexOf_0f7a4_2 rfl ?_
  refine z_callTi (pc := 3) C hi dJ0_indexOf_0f7a4_3 kJ0_633 (mJ0_indexOf_7cf53 hi hc) (by decide) rfl rfl rfl (Nat.le_of_ble_eq_true rfl) (fun r3 M3 h3 => ?_)
  refine z_ireturn (pc := 6) C K dJ0_indexOf_0f7a4_6 ?_
  obtain ⟨rfl, e3⟩ := h3
  exact ⟨_, rfl, rfl, e3⟩

