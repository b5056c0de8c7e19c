/-! MAKING: calls of constructors; the words of each -/
def zCI (own : String) (index : Nat) (y : MethodName) (cc : ByteArray) (nL n : Nat) : Prop := Cond.code y cc nL none ∈ zT ∧ Cond.methodLink own index y ∈ zT ∧ Cond.instanceMethod y ∈ zT ∧ Cond.initialized y.cls ∈ zT ∧ (y.cls ≠ "java/lang/invoke/MethodHandle" ∧ y.cls ≠ "java/lang/invoke/VarHandle" ∧ (parseMethodDescriptor y.desc).map (fun d => d.parameters.length) = some n) ∧ nL ≤ 21 ∧ y.name = "<init>"
def zCN (own : String) (index : Nat) (y : MethodName) (cc : ByteArray) (nL n : Nat) : Prop := Cond.code y cc nL none ∈ zT ∧ Cond.methodLinkNest own index y "MeanSafe" ∈ zNl ∧ Cond.instanceMethod y ∈ zT ∧ Cond.initialized y.cls ∈ zT ∧ (y.cls ≠ "java/lang/invoke/MethodHandle" ∧ y.cls ≠ "java/lang/invoke/VarHandle" ∧ (parseMethodDescriptor y.desc).map (fun d => d.parameters.length) = some n) ∧ nL ≤ 21 ∧ y.name = "<init>"
section ZMAKE3
variable {X : zX} {l : Launch} {G : zG} {b : Nat} {cc : ByteArray} {nL : Nat} {own : String} {d : Nat} {sh0 r : List zS} {M : zM} {pc : Nat} {L : List (Option Value)} {st rest : List Value} {kc ks : Nat}
variable {y : MethodName} {cy : ByteArray} {ny ky index h a : Nat} {As : List Value} {post : zM → Prop} {sh1 sh2 r' : List zS}
theorem zpre2 {s : State} {sh : List zS} {H : Heap} {locs : List Loc} {av : List Value} (hNs : zNst s) (hAm : zAmb G b s) (hbz : b ≤ s.heap.size) (hP : va_P G.1 vwCl (zws sh b G.2.1 M) H) (hz : sh.length < 262 → H.size = b + sh.length) (hS : va_S (fun q => b ≤ q) s.heap H locs) (hN : zND sh) : PreS s H (zP2 G b sh M av) av := by
  refine ⟨zP2.blind, fun U hU hW => ⟨rfl, ⟨hNs.go hW, hAm.go hW (fun q h1 h2 => by rw [hU]; exact hS.2.1 q h1 h2)⟩, by rw [hU]; exact hP, fun h => by rw [hU]; exact hz h, ?_, hN⟩⟩
  rw [hU]
  exact Nat.le_trans hbz hS.1
theorem z_callI (C : zOK X l G b cc nL own d) (I : zIn X) (A2 : zAl2 X sh0 kc ks) (hdg : decode cc pc = .ok (.invokespecial index, 3)) (hw : zCI own index y cy ny ky) (hM : zMk l G b y cy ny h sh1 sh2 (.ref a :: As) M post) (hs1 : sh1 = sh0 ++ r) (he : sh2 = sh0 ++ r') (h1 : r'.length ≤ kc) (h2 : zsl r' ≤ ks) (hd : h + 1 ≤ d) (hn : As.length = ky) (hst : st = As.reverse ++ .ref a :: rest) (hr : (rest.map fun v => v.category).sum ≤ 8) (kk : ∀ M', post M' → zW X (sh0 ++ r') M' (pc + 3) L rest) : zW X (sh0 ++ r) M pc L st := by
  subst he
  subst hs1
  obtain ⟨p, l', e, R, s, m, args, below, meth, c, Q, n0, s0, G', b'⟩ := X
  obtain ⟨rfl, rfl, rfl, hx, hb, hml, hown, hts, hAm, hbz, hd1, hd2⟩ := C
  obtain ⟨w1, w2, w3, w5, w6, w7, w8⟩ := hw
  obtain ⟨hle, hsl, hMM⟩ := hM
  obtain ⟨a1, a2⟩ := A2
  subst hst
  intro H locs ls hP hz hS hN hn' hs hL
  have hpre := zpre2 (av := .ref a :: As) I.1 hAm hbz hP hz hS hN
  have ln : (sh0 ++ r').length = sh0.length + r'.length := List.length_append
  have sn : zsl (sh0 ++ r') = zsl sh0 + zsl r' := zsl_app _ _
  refine zcall (va_runI (As := As) (rest := rest) (n := ky) (nL := nL) ⟨hx, hb, hml, hown, hts⟩ hMM ⟨callB_of ky hts (zT_code w1) rfl rfl rfl (hts _ w5) (hts _ w2) w6 ⟨?_, ?_⟩, w8, hts _ w3⟩ hpre rfl hn (hL.1.1.trans hml) rfl ?_ hdg ⟨?_, ?_⟩) hle hsl hS hn'.1 hs.1 (by omega) (by omega) hL (fun v M' hv => by obtain ⟨rfl, hp⟩ := hv; exact kk M' hp)
  · show h + 1 ≤ R.frames
    omega
  · show 8 + (ny + 11) + 40 * h ≤ R.locals
    omega
  · exact lv_room hr
  · omega
  · omega
theorem z_callN (C : zOK X l G b cc nL own d) (I : zIn X) (A2 : zAl2 X sh0 kc ks) (hdg : decode cc pc = .ok (.invokespecial index, 3)) (hw : zCN own index y cy ny ky) (hM : zMk l G b y cy ny h sh1 sh2 (.ref a :: As) M post) (hs1 : sh1 = sh0 ++ r) (he : sh2 = sh0 ++ r') (h1 : r'.length ≤ kc) (h2 : zsl r' ≤ ks) (hd : h + 1 ≤ d) (hn : As.length = ky) (hst : st = As.reverse ++ .ref a :: rest) (hr : (rest.map fun v => v.category).sum ≤ 8) (kk : ∀ M', post M' → zW X (sh0 ++ r') M' (pc + 3) L rest) : zW X (sh0 ++ r) M pc L st := by
  subst he
  subst hs1
  obtain ⟨p, l', e, R, s, m, args, below, meth, c, Q, n0, s0, G', b'⟩ := X
  obtain ⟨rfl, rfl, rfl, hx, hb, hml, hown, hts, hAm, hbz, hd1, hd2⟩ := C
  obtain ⟨w1, w2, w3, w5, w6, w7, w8⟩ := hw
  obtain ⟨hle, hsl, hMM⟩ := hM
  obtain ⟨a1, a2⟩ := A2
  subst hst
  intro H locs ls hP hz hS hN hn' hs hL
  have hpre := zpre2 (av := .ref a :: As) I.1 hAm hbz hP hz hS hN
  have ln : (sh0 ++ r').length = sh0.length + r'.length := List.length_append
  have sn : zsl (sh0 ++ r') = zsl sh0 + zsl r' := zsl_app _ _
  refine zcall (va_runIN (As := As) (rest := rest) (n := ky) (nL := nL) (host := "MeanSafe") ⟨hx, hb, hml, hown, hts⟩ hMM ⟨va_cnB ky hts (zT_code w1) rfl rfl rfl (I.1.2.1 own index y w2) (hts _ w5) w6 ⟨?_, ?_⟩, w8, hts _ w3⟩ hpre rfl hn (hL.1.1.trans hml) rfl ?_ hdg ⟨?_, ?_⟩) hle hsl hS hn'.1 hs.1 (by omega) (by omega) hL (fun v M' hv => by obtain ⟨rfl, hp⟩ := hv; exact kk M' hp)
  · show h + 1 ≤ R.frames
    omega
  · show 8 + (ny + 11) + 40 * h ≤ R.locals
    omega
  · exact lv_room hr
  · omega
  · omega
end ZMAKE3
theorem gX5_21 : zFl2 RX5 21 5 3 (.array .int) := ⟨RX5, TX5, 4, tyX5, rfl, by decide, q1_51, rfl, inZ5, rfl, tyX5_ok, nmX5, by decide +kernel⟩
theorem gX6_11 : zFl2 RX6 11 6 0 (.array (.object "MeanSafe$Text")) := ⟨RX6, TX6, 2, tyX6, rfl, by decide, q1_63, rfl, inZ6, rfl, tyX6_ok, nmX6, by decide +kernel⟩
theorem gX6_17 : zFl2 RX6 17 6 1 (.array .int) := ⟨RX6, TX6, 2, tyX6, rfl, by decide, q1_66, rfl, inZ6, rfl, tyX6_ok, nmX6, by decide +kernel⟩
theorem gX8_50 : zFl2 RX8 50 8 0 (.object "MeanSafe$Texts") := ⟨RX8, TX8, 12, tyX8, rfl, by decide, q1_117, rfl, inZ8, rfl, tyX8_ok, nmX8, by decide +kernel⟩
theorem gX8_11 : zFl2 RX8 11 8 1 (.array (.object "MeanSafe$Person")) := ⟨RX8, TX8, 12, tyX8, rfl, by decide, q1_118, rfl, inZ8, rfl, tyX8_ok, nmX8, by decide +kernel⟩
theorem gX8_46 : zFl2 RX8 46 8 11 (.array .int) := ⟨RX8, TX8, 12, tyX8, rfl, by decide, q1_138, rfl, inZ8, rfl, tyX8_ok, nmX8, by decide +kernel⟩
theorem gX7_11 : zFl2 RX7 11 7 0 (.array (.object "MeanSafe$World")) := ⟨RX7, TX7, 4, tyX7, rfl, by decide, q1_175, rfl, inZ7, rfl, tyX7_ok, nmX7, by decide +kernel⟩
theorem gX7_19 : zFl2 RX7 19 7 1 (.array (.array .int)) := ⟨RX7, TX7, 4, tyX7, rfl, by decide, q1_176, rfl, inZ7, rfl, tyX7_ok, nmX7, by decide +kernel⟩
theorem gX7_22 : zFl2 RX7 22 7 2 (.array .int) := ⟨RX7, TX7, 4, tyX7, rfl, by decide, q1_177, rfl, inZ7, rfl, tyX7_ok, nmX7, by decide +kernel⟩
theorem gX7_26 : zFl2 RX7 26 7 3 (.array .int) := ⟨RX7, TX7, 4, tyX7, rfl, by decide, q1_178, rfl, inZ7, rfl, tyX7_ok, nmX7, by decide +kernel⟩
theorem gX4_9 : zFl2 RX4 9 4 0 (.array .int) := ⟨RX4, TX4, 2, tyX4, rfl, by decide, q1_195, rfl, inZ4, rfl, tyX4_ok, nmX4, by decide +kernel⟩
theorem gX1_41 : zFl2 RX1 41 1 0 (.object "MeanSafe$Tape") := ⟨RX1, TX1, 9, tyX1, rfl, by decide, q1_212, rfl, inZ1, rfl, tyX1_ok, nmX1, by decide +kernel⟩
theorem gX1_12 : zFl2 RX1 12 1 1 (.object "MeanSafe$Text") := ⟨RX1, TX1, 9, tyX1, rfl, by decide, q1_213, rfl, inZ1, rfl, tyX1_ok, nmX1, by decide +kernel⟩
theorem gX2_18 : zFl2 RX2 18 2 2 (.array .int) := ⟨RX2, TX2, 3, tyX2, rfl, by decide, q2_16, rfl, inZ2, rfl, tyX2_ok, nmX2, by decide +kernel⟩
theorem gX3_18 : zFl2 RX3 18 3 1 (.object "MeanSafe$Person") := ⟨RX3, TX3, 4, tyX3, rfl, by decide, q2_37, rfl, inZ3, rfl, tyX3_ok, nmX3, by decide +kernel⟩
theorem gX3_25 : zFl2 RX3 25 3 2 (.object "MeanSafe$Sheet") := ⟨RX3, TX3, 4, tyX3, rfl, by decide, q2_39, rfl, inZ3, rfl, tyX3_ok, nmX3, by decide +kernel⟩
theorem gX9_12 : zFl2 RX9 12 9 0 (.object "MeanSafe$Texts") := ⟨RX9, TX9, 11, tyX9, rfl, by decide, q2_52, rfl, inZ9, rfl, tyX9_ok, nmX9, by decide +kernel⟩
theorem gX9_21 : zFl2 RX9 21 9 1 (.object "MeanSafe$World") := ⟨RX9, TX9, 11, tyX9, rfl, by decide, q2_53, rfl, inZ9, rfl, tyX9_ok, nmX9, by decide +kernel⟩
theorem gX9_25 : zFl2 RX9 25 9 2 (.object "MeanSafe$World") := ⟨RX9, TX9, 11, tyX9, rfl, by decide, q2_54, rfl, inZ9, rfl, tyX9_ok, nmX9, by decide +kernel⟩
theorem gX9_31 : zFl2 RX9 31 9 3 (.object "MeanSafe$Thought") := ⟨RX9, TX9, 11, tyX9, rfl, by decide, q2_55, rfl, inZ9, rfl, tyX9_ok, nmX9, by decide +kernel⟩
theorem gX9_38 : zFl2 RX9 38 9 4 (.object "MeanSafe$Tape") := ⟨RX9, TX9, 11, tyX9, rfl, by decide, q2_56, rfl, inZ9, rfl, tyX9_ok, nmX9, by decide +kernel⟩
theorem gX9_47 : zFl2 RX9 47 9 5 (.object "MeanSafe$Reader") := ⟨RX9, TX9, 11, tyX9, rfl, by decide, q2_57, rfl, inZ9, rfl, tyX9_ok, nmX9, by decide +kernel⟩
theorem gX9_53 : zFl2 RX9 53 9 6 (.array (.object "MeanSafe$Sheet")) := ⟨RX9, TX9, 11, tyX9, rfl, by decide, q2_58, rfl, inZ9, rfl, tyX9_ok, nmX9, by decide +kernel⟩
theorem gX9_59 : zFl2 RX9 59 9 7 (.array (.object "MeanSafe$Slot")) := ⟨RX9, TX9, 11, tyX9, rfl, by decide, q2_59, rfl, inZ9, rfl, tyX9_ok, nmX9, by decide +kernel⟩
theorem gX9_63 : zFl2 RX9 63 9 8 (.array .int) := ⟨RX9, TX9, 11, tyX9, rfl, by decide, q2_60, rfl, inZ9, rfl, tyX9_ok, nmX9, by decide +kernel⟩
theorem gX10_9 : zFl2 RX10 9 10 0 (.array .int) := ⟨RX10, TX10, 34, tyX10, rfl, by decide, q4_176, rfl, inZ10, rfl, tyX10_ok, nmX10, by decide +kernel⟩
theorem gX10_13 : zFl2 RX10 13 10 1 (.array .int) := ⟨RX10, TX10, 34, tyX10, rfl, by decide, q4_177, rfl, inZ10, rfl, tyX10_ok, nmX10, by decide +kernel⟩
theorem gX10_16 : zFl2 RX10 16 10 2 (.array .int) := ⟨RX10, TX10, 34, tyX10, rfl, by decide, q4_178, rfl, inZ10, rfl, tyX10_ok, nmX10, by decide +kernel⟩
theorem gX10_19 : zFl2 RX10 19 10 4 (.array .int) := ⟨RX10, TX10, 34, tyX10, rfl, by decide, q4_180, rfl, inZ10, rfl, tyX10_ok, nmX10, by decide +kernel⟩
theorem gX10_22 : zFl2 RX10 22 10 5 (.array .int) := ⟨RX10, TX10, 34, tyX10, rfl, by decide, q4_181, rfl, inZ10, rfl, tyX10_ok, nmX10, by decide +kernel⟩
theorem gX10_25 : zFl2 RX10 25 10 6 (.array .int) := ⟨RX10, TX10, 34, tyX10, rfl, by decide, q4_182, rfl, inZ10, rfl, tyX10_ok, nmX10, by decide +kernel⟩
theorem gX10_28 : zFl2 RX10 28 10 14 (.array .char) := ⟨RX10, TX10, 34, tyX10, rfl, by decide, q4_190, rfl, inZ10, rfl, tyX10_ok, nmX10, by decide +kernel⟩
theorem gX10_32 : zFl2 RX10 32 10 15 (.array .int) := ⟨RX10, TX10, 34, tyX10, rfl, by decide, q4_191, rfl, inZ10, rfl, tyX10_ok, nmX10, by decide +kernel⟩
theorem gX10_35 : zFl2 RX10 35 10 16 (.array .int) := ⟨RX10, TX10, 34, tyX10, rfl, by decide, q4_192, rfl, inZ10, rfl, tyX10_ok, nmX10, by decide +kernel⟩
theorem gX10_38 : zFl2 RX10 38 10 19 (.array .int) := ⟨RX10, TX10, 34, tyX10, rfl, by decide, q4_195, rfl, inZ10, rfl, tyX10_ok, nmX10, by decide +kernel⟩
theorem gX10_41 : zFl2 RX10 41 10 21 (.array .boolean) := ⟨RX10, TX10, 34, tyX10, rfl, by decide, q4_197, rfl, inZ10, rfl, tyX10_ok, nmX10, by decide +kernel⟩
theorem gX10_45 : zFl2 RX10 45 10 22 (.array .int) := ⟨RX10, TX10, 34, tyX10, rfl, by decide, q4_198, rfl, inZ10, rfl, tyX10_ok, nmX10, by decide +kernel⟩
theorem gX10_48 : zFl2 RX10 48 10 23 (.array .int) := ⟨RX10, TX10, 34, tyX10, rfl, by decide, q4_199, rfl, inZ10, rfl, tyX10_ok, nmX10, by decide +kernel⟩
theorem gX10_51 : zFl2 RX10 51 10 24 (.array .int) := ⟨RX10, TX10, 34, tyX10, rfl, by decide, q4_200, rfl, inZ10, rfl, tyX10_ok, nmX10, by decide +kernel⟩
theorem gX10_54 : zFl2 RX10 54 10 25 (.array .int) := ⟨RX10, TX10, 34, tyX10, rfl, by decide, q4_201, rfl, inZ10, rfl, tyX10_ok, nmX10, by decide +kernel⟩
theorem gX10_57 : zFl2 RX10 57 10 26 (.array .int) := ⟨RX10, TX10, 34, tyX10, rfl, by decide, q4_202, rfl, inZ10, rfl, tyX10_ok, nmX10, by decide +kernel⟩
theorem gX10_60 : zFl2 RX10 60 10 27 (.array .int) := ⟨RX10, TX10, 34, tyX10, rfl, by decide, q4_203, rfl, inZ10, rfl, tyX10_ok, nmX10, by decide +kernel⟩
theorem gX10_63 : zFl2 RX10 63 10 28 (.array .int) := ⟨RX10, TX10, 34, tyX10, rfl, by decide, q4_204, rfl, inZ10, rfl, tyX10_ok, nmX10, by decide +kernel⟩
theorem gX10_66 : zFl2 RX10 66 10 29 (.array .int) := ⟨RX10, TX10, 34, tyX10, rfl, by decide, q4_205, rfl, inZ10, rfl, tyX10_ok, nmX10, by decide +kernel⟩
theorem gX10_69 : zFl2 RX10 69 10 30 (.array .int) := ⟨RX10, TX10, 34, tyX10, rfl, by decide, q4_206, rfl, inZ10, rfl, tyX10_ok, nmX10, by decide +kernel⟩
theorem gX10_72 : zFl2 RX10 72 10 31 (.array .int) := ⟨RX10, TX10, 34, tyX10, rfl, by decide, q4_207, rfl, inZ10, rfl, tyX10_ok, nmX10, by decide +kernel⟩
theorem gX10_75 : zFl2 RX10 75 10 32 (.array .int) := ⟨RX10, TX10, 34, tyX10, rfl, by decide, q4_208, rfl, inZ10, rfl, tyX10_ok, nmX10, by decide +kernel⟩
theorem zdf {fl : List (Option (Option Nat))} {b j : Nat} {x : Option (Option Nat)} (h : fl[j]? = some x) : zfv b (fun _ => 0) j x = vp_V (fl.mapIdx (zfv b (fun _ => 0))) j := by
  unfold vp_V
  simp [List.getElem?_mapIdx, h]
theorem wL_7 : zNw RL 7 9 [some none, some none, some none, some none, some none, some none, some none, some none, some none, none, none] := ⟨RX9, TX9, 11, tyX9, rfl, q1_20, q1_21, q1_1, inZ9, tyX9_ok, rfl, fun b j hj => match j, hj with
  | 0, _ => zdf (x := some none) rfl
  | 1, _ => zdf (x := some none) rfl
  | 2, _ => zdf (x := some none) rfl
  | 3, _ => zdf (x := some none) rfl
  | 4, _ => zdf (x := some none) rfl
  | 5, _ => zdf (x := some none) rfl
  | 6, _ => zdf (x := some none) rfl
  | 7, _ => zdf (x := some none) rfl
  | 8, _ => zdf (x := some none) rfl
  | 9, _ => zdf (x := none) rfl
  | 10, _ => zdf (x := none) rfl
  | n + 11, h => absurd h (by omega)⟩
theorem wX9_9 : zNw RX9 9 6 [some none, some none] := ⟨RX6, TX6, 2, tyX6, rfl, q1_28, q1_29, q1_2, inZ6, tyX6_ok, rfl, fun b j hj => match j, hj with
  | 0, _ => zdf (x := some none) rfl
  | 1, _ => zdf (x := some none) rfl
  | n + 2, h => absurd h (by omega)⟩
theorem wX6_9 : zNw RX6 9 5 [none, none, none, some none] := ⟨RX5, TX5, 4, tyX5, rfl, q1_34, q1_36, q1_3, inZ5, tyX5_ok, rfl, fun b j hj => match j, hj with
  | 0, _ => zdf (x := none) rfl
  | 1, _ => zdf (x := none) rfl
  | 2, _ => zdf (x := none) rfl
  | 3, _ => zdf (x := some none) rfl
  | n + 4, h => absurd h (by omega)⟩
theorem wX9_16 : zNw RX9 16 8 [some none, some none, none, none, none, none, none, none, none, none, none, some none] := ⟨RX8, TX8, 12, tyX8, rfl, q1_72, q1_73, q1_4, inZ8, tyX8_ok, rfl, fun b j hj => match j, hj with
  | 0, _ => zdf (x := some none) rfl
  | 1, _ => zdf (x := some none) rfl
  | 2, _ => zdf (x := none) rfl
  | 3, _ => zdf (x := none) rfl
  | 4, _ => zdf (x := none) rfl
  | 5, _ => zdf (x := none) rfl
  | 6, _ => zdf (x := none) rfl
  | 7, _ => zdf (x := none) rfl
  | 8, _ => zdf (x := none) rfl
  | 9, _ => zdf (x := none) rfl
  | 10, _ => zdf (x := none) rfl
  | 11, _ => zdf (x := some none) rfl
  | n + 12, h => absurd h (by omega)⟩
theorem wX8_9 : zNw RX8 9 0 [none, none, none, none, none, none, none] := ⟨RX0, TX0, 7, tyX0, rfl, q1_78, q1_80, q1_5, inZ0, tyX0_ok, rfl, fun b j hj => match j, hj with
  | 0, _ => zdf (x := none) rfl
  | 1, _ => zdf (x := none) rfl
  | 2, _ => zdf (x := none) rfl
  | 3, _ => zdf (x := none) rfl
  | 4, _ => zdf (x := none) rfl
  | 5, _ => zdf (x := none) rfl
  | 6, _ => zdf (x := none) rfl
  | n + 7, h => absurd h (by omega)⟩
theorem wX9_28 : zNw RX9 28 7 [some none, some none, some none, some none] := ⟨RX7, TX7, 4, tyX7, rfl, q1_164, q1_165, q1_6, inZ7, tyX7_ok, rfl, fun b j hj => match j, hj with
  | 0, _ => zdf (x := some none) rfl
  | 1, _ => zdf (x := some none) rfl
  | 2, _ => zdf (x := some none) rfl
  | 3, _ => zdf (x := some none) rfl
  | n + 4, h => absurd h (by omega)⟩
theorem wX7_9 : zNw RX7 9 8 [some none, some none, none, none, none, none, none, none, none, none, none, some none] := ⟨RX8, TX8, 12, tyX8, rfl, q1_170, q1_73, q1_4, inZ8, tyX8_ok, rfl, fun b j hj => match j, hj with
  | 0, _ => zdf (x := some none) rfl
  | 1, _ => zdf (x := some none) rfl
  | 2, _ => zdf (x := none) rfl
  | 3, _ => zdf (x := none) rfl
  | 4, _ => zdf (x := none) rfl
  | 5, _ => zdf (x := none) rfl
  | 6, _ => zdf (x := none) rfl
  | 7, _ => zdf (x := none) rfl
  | 8, _ => zdf (x := none) rfl
  | 9, _ => zdf (x := none) rfl
  | 10, _ => zdf (x := none) rfl
  | 11, _ => zdf (x := some none) rfl
  | n + 12, h => absurd h (by omega)⟩
theorem wX9_35 : zNw RX9 35 4 [some none, none] := ⟨RX4, TX4, 2, tyX4, rfl, q1_189, q1_190, q1_7, inZ4, tyX4_ok, rfl, fun b j hj => match j, hj with
  | 0, _ => zdf (x := some none) rfl
  | 1, _ => zdf (x := none) rfl
  | n + 2, h => absurd h (by omega)⟩
theorem wX9_42 : zNw RX9 42 1 [some none, some none, none, none, none, none, none, none, none] := ⟨RX1, TX1, 9, tyX1, rfl, q1_204, q1_205, q1_8, inZ1, tyX1_ok, rfl, fun b j hj => match j, hj with
  | 0, _ => zdf (x := some none) rfl
  | 1, _ => zdf (x := some none) rfl
  | 2, _ => zdf (x := none) rfl
  | 3, _ => zdf (x := none) rfl
  | 4, _ => zdf (x := none) rfl
  | 5, _ => zdf (x := none) rfl
  | 6, _ => zdf (x := none) rfl
  | 7, _ => zdf (x := none) rfl
  | 8, _ => zdf (x := none) rfl
  | n + 9, h => absurd h (by omega)⟩
theorem wX1_9 : zNw RX1 9 5 [none, none, none, some none] := ⟨RX5, TX5, 4, tyX5, rfl, q1_210, q1_36, q1_3, inZ5, tyX5_ok, rfl, fun b j hj => match j, hj with
  | 0, _ => zdf (x := none) rfl
  | 1, _ => zdf (x := none) rfl
  | 2, _ => zdf (x := none) rfl
  | 3, _ => zdf (x := some none) rfl
  | n + 4, h => absurd h (by omega)⟩
theorem wX9_51 : zNw RX9 51 2 [none, none, some none] := ⟨RX2, TX2, 3, tyX2, rfl, q2_2, q2_6, q1_9, inZ2, tyX2_ok, rfl, fun b j hj => match j, hj with
  | 0, _ => zdf (x := none) rfl
  | 1, _ => zdf (x := none) rfl
  | 2, _ => zdf (x := some none) rfl
  | n + 3, h => absurd h (by omega)⟩
theorem wX9_57 : zNw RX9 57 3 [none, some none, some none, none] := ⟨RX3, TX3, 4, tyX3, rfl, q2_4, q2_26, q1_10, inZ3, tyX3_ok, rfl, fun b j hj => match j, hj with
  | 0, _ => zdf (x := none) rfl
  | 1, _ => zdf (x := some none) rfl
  | 2, _ => zdf (x := some none) rfl
  | 3, _ => zdf (x := none) rfl
  | n + 4, h => absurd h (by omega)⟩
theorem wX3_15 : zNw RX3 15 0 [none, none, none, none, none, none, none] := ⟨RX0, TX0, 7, tyX0, rfl, q2_31, q1_80, q1_5, inZ0, tyX0_ok, rfl, fun b j hj => match j, hj with
  | 0, _ => zdf (x := none) rfl
  | 1, _ => zdf (x := none) rfl
  | 2, _ => zdf (x := none) rfl
  | 3, _ => zdf (x := none) rfl
  | 4, _ => zdf (x := none) rfl
  | 5, _ => zdf (x := none) rfl
  | 6, _ => zdf (x := none) rfl
  | n + 7, h => absurd h (by omega)⟩
theorem wX3_22 : zNw RX3 22 2 [none, none, some none] := ⟨RX2, TX2, 3, tyX2, rfl, q2_33, q2_6, q1_9, inZ2, tyX2_ok, rfl, fun b j hj => match j, hj with
  | 0, _ => zdf (x := none) rfl
  | 1, _ => zdf (x := none) rfl
  | 2, _ => zdf (x := some none) rfl
  | n + 3, h => absurd h (by omega)⟩
theorem wL_10 : zNw RL 10 10 [some none, some none, some none, none, some none, some none, some none, none, none, none, none, none, none, none, some none, some none, some none, none, none, some none, none, some none, some none, some none, some none, some none, some none, some none, some none, some none, some none, some none, some none, none] := ⟨RX10, TX10, 34, tyX10, rfl, q4_170, q4_171, q1_11, inZ10, tyX10_ok, rfl, fun b j hj => match j, hj with
  | 0, _ => zdf (x := some none) rfl
  | 1, _ => zdf (x := some none) rfl
  | 2, _ => zdf (x := some none) rfl
  | 3, _ => zdf (x := none) rfl
  | 4, _ => zdf (x := some none) rfl
  | 5, _ => zdf (x := some none) rfl
  | 6, _ => zdf (x := some none) rfl
  | 7, _ => zdf (x := none) rfl
  | 8, _ => zdf (x := none) rfl
  | 9, _ => zdf (x := none) rfl
  | 10, _ => zdf (x := none) rfl
  | 11, _ => zdf (x := none) rfl
  | 12, _ => zdf (x := none) rfl
  | 13, _ => zdf (x := none) rfl
  | 14, _ => zdf (x := some none) rfl
  | 15, _ => zdf (x := some none) rfl
  | 16, _ => zdf (x := some none) rfl
  | 17, _ => zdf (x := none) rfl
  | 18, _ => zdf (x := none) rfl
  | 19, _ => zdf (x := some none) rfl
  | 20, _ => zdf (x := none) rfl
  | 21, _ => zdf (x := some none) rfl
  | 22, _ => zdf (x := some none) rfl
  | 23, _ => zdf (x := some none) rfl
  | 24, _ => zdf (x := some none) rfl
  | 25, _ => zdf (x := some none) rfl
  | 26, _ => zdf (x := some none) rfl
  | 27, _ => zdf (x := some none) rfl
  | 28, _ => zdf (x := some none) rfl
  | 29, _ => zdf (x := some none) rfl
  | 30, _ => zdf (x := some none) rfl
  | 31, _ => zdf (x := some none) rfl
  | 32, _ => zdf (x := some none) rfl
  | 33, _ => zdf (x := none) rfl
  | n + 34, h => absurd h (by omega)⟩
theorem jX1_11 : zCN RX1 11 yX5_init cX5_init 1 0 := ⟨q1_39, (by decide), q1_38, q1_3, ⟨by decide, by decide, by decide +kernel⟩, by decide, rfl⟩
theorem jX3_17 : zCN RX3 17 yX0_init cX0_init 1 0 := ⟨q1_83, (by decide), q1_82, q1_5, ⟨by decide, by decide, by decide +kernel⟩, by decide, rfl⟩
theorem jX3_24 : zCN RX3 24 yX2_init cX2_init 1 0 := ⟨q2_9, (by decide), q2_8, q1_9, ⟨by decide, by decide, by decide +kernel⟩, by decide, rfl⟩
theorem jX6_21 : zCN RX6 21 yX5_init cX5_init 1 0 := ⟨q1_39, (by decide), q1_38, q1_3, ⟨by decide, by decide, by decide +kernel⟩, by decide, rfl⟩
theorem jX7_29 : zCI RX7 29 yX8_init cX8_init 3 1 := ⟨q1_76, q1_174, q1_75, q1_4, ⟨by decide, by decide, by decide +kernel⟩, by decide, rfl⟩
theorem jX8_54 : zCN RX8 54 yX0_init cX0_init 1 0 := ⟨q1_83, (by decide), q1_82, q1_5, ⟨by decide, by decide, by decide +kernel⟩, by decide, rfl⟩
theorem jX9_11 : zCI RX9 11 yX6_init cX6_init 2 0 := ⟨q1_32, q1_30, q1_31, q1_2, ⟨by decide, by decide, by decide +kernel⟩, by decide, rfl⟩
theorem jX9_18 : zCI RX9 18 yX8_init cX8_init 3 1 := ⟨q1_76, q1_74, q1_75, q1_4, ⟨by decide, by decide, by decide +kernel⟩, by decide, rfl⟩
theorem jX9_30 : zCI RX9 30 yX7_init cX7_init 3 1 := ⟨q1_168, q1_166, q1_167, q1_6, ⟨by decide, by decide, by decide +kernel⟩, by decide, rfl⟩
theorem jX9_37 : zCN RX9 37 yX4_init cX4_init 1 0 := ⟨q1_193, (by decide), q1_192, q1_7, ⟨by decide, by decide, by decide +kernel⟩, by decide, rfl⟩
theorem jX9_44 : zCI RX9 44 yX1_init cX1_init 2 1 := ⟨q1_208, q1_206, q1_207, q1_8, ⟨by decide, by decide, by decide +kernel⟩, by decide, rfl⟩
theorem jX9_75 : zCN RX9 75 yX2_init cX2_init 1 0 := ⟨q2_9, (by decide), q2_8, q1_9, ⟨by decide, by decide, by decide +kernel⟩, by decide, rfl⟩
theorem jX9_76 : zCN RX9 76 yX3_init cX3_init 1 0 := ⟨q2_29, (by decide), q2_28, q1_10, ⟨by decide, by decide, by decide +kernel⟩, by decide, rfl⟩
theorem jL_9 : zCI RL 9 yX9_init cX9_init 2 0 := ⟨q1_24, q1_22, q1_23, q1_1, ⟨by decide, by decide, by decide +kernel⟩, by decide, rfl⟩
theorem jL_12 : zCI RL 12 yX10_init cX10_init 1 0 := ⟨q4_174, q4_172, q4_173, q1_11, ⟨by decide, by decide, by decide +kernel⟩, by decide, rfl⟩
