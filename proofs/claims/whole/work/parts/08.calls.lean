/-! CALLS -/
/-- what the tables say of a call's site -/
def zCV (own : String) (index : Nat) (y : MethodName) (cc : ByteArray) (nL : Nat) (ret : Option FieldType) (n : Nat) : Prop := Cond.code y cc nL ret ∈ zT ∧ Cond.methodLink own index y ∈ zT ∧ Cond.instanceMethod y ∈ zT ∧ Cond.selects y.cls y y ∈ zT ∧ Cond.initialized y.cls ∈ zT ∧ (y.cls ≠ "java/lang/invoke/MethodHandle" ∧ y.cls ≠ "java/lang/invoke/VarHandle" ∧ (parseMethodDescriptor y.desc).map (fun d => d.parameters.length) = some n) ∧ nL ≤ 21
def zCS (own : String) (index : Nat) (y : MethodName) (cc : ByteArray) (nL : Nat) (ret : Option FieldType) (n : Nat) : Prop := Cond.code y cc nL ret ∈ zT ∧ Cond.methodLink own index y ∈ zT ∧ Cond.static y ∈ zT ∧ Cond.initialized y.cls ∈ zT ∧ (y.cls ≠ "java/lang/invoke/MethodHandle" ∧ y.cls ≠ "java/lang/invoke/VarHandle" ∧ (parseMethodDescriptor y.desc).map (fun d => d.parameters.length) = some n) ∧ nL ≤ 21
section ZCALL
variable {X : zX} {l : Launch} {G : zG} {b : Nat} {cc : ByteArray} {nL : Nat} {own : String} {d : Nat} {sh sh' : List zS} {M : zM} {pc : Nat} {L : List (Option Value)} {st rest : List Value}
variable {y : MethodName} {cy : ByteArray} {ny ky index h : Nat} {ret : Option FieldType} {As : List Value} {post : Option Value → zM → Prop}
/-- behind a call -/
theorem zcall {p : Program} {e : Env} {R : Room} {s : State} {m : MethodId} {args : Array Value} {below : List Frame} {meth : Method} {c : Code} {Q : State → Prop} {n0 s0 : Nat} {H : Heap} {locs : List Loc} {ls : Array Slot} {av : Array Value}
    (hr : va_Run p l e R s m args below meth c H locs (sh.length - n0) (zsl sh - s0) (sh'.length - sh.length) (zsl sh' - zsl sh) (F0 m pc ls st) rest (zQ G b sh' post av) (fun q => b ≤ q)) (hle : sh.length ≤ sh'.length) (hsl : zsl sh ≤ zsl sh') (hS : va_S (fun q => b ≤ q) s.heap H locs) (hn : n0 ≤ sh.length) (hs : s0 ≤ zsl sh) (hn' : sh'.length - n0 ≤ R.cells) (hs' : zsl sh' - s0 ≤ R.slots) (hL : zLs ls c.maxLocals L)
    (kk : ∀ r M', post r M' → zW (p, l, e, R, s, m, args, below, meth, c, Q, n0, s0, G, b) sh' M' (pc + 3) L (r.toList ++ rest)) : W p l e R s m args below meth c H locs (sh.length - n0) (zsl sh - s0) Q (F0 m pc ls st) := by
  intro T hT Xs
  obtain ⟨v, st₀, t, T', L', h0, X', hL', e1, e2, ⟨r, M', hv, hp, hP, hz, hN, hF⟩, go⟩ := hr T hT Xs
  cases hv
  have hz1 : H.size ≤ T'.heap.size := by rw [e1, ← h0]; exact hF.1
  have hS' : va_S (fun q => b ≤ q) s.heap T'.heap (locs ++ L') := by
    refine ⟨Nat.le_trans hS.1 hz1, fun q h1 h2 => ?_, fun q hq => ?_⟩
    · rw [e1, hF.2 q (by rw [h0]; exact Nat.lt_of_lt_of_le h1 hS.1) h2, h0]
      exact hS.2.1 q h1 h2
    · rcases List.mem_append.mp hq with h | h
      · exact hS.2.2 q h
      · exact hL' q h
  have K := kk v M' hp T'.heap (locs ++ L') ls (by rw [e1]; exact hP) (fun h => by rw [e1]; exact hz h) hS' hN ⟨Nat.le_trans hn hle, hn'⟩ ⟨Nat.le_trans hs hsl, hs'⟩ hL
  have ec : (sh.length - n0) + (sh'.length - sh.length) = sh'.length - n0 := by omega
  have es : (zsl sh - s0) + (zsl sh' - zsl sh) = zsl sh' - s0 := by omega
  rw [ec, es] at X'
  obtain ⟨t2, a1, b1⟩ := K T' rfl X'
  exact ⟨t2, go t2 a1, b1⟩
theorem zpre {s : State} {H : Heap} {locs : List Loc} {av : List Value} (hAm : zAmb G b s) (hbz : b ≤ s.heap.size) (hP : va_P G.1 vwCl (zws sh b G.2.1 M) H) (hz : sh.length < 262 → H.size = b + sh.length) (hS : va_S (fun q => b ≤ q) s.heap H locs) (hN : zND sh) : PreS s H (zP G b sh M av) av := by
  refine ⟨zP.blind, fun U hU hW => ⟨rfl, hAm.go hW (fun q h1 h2 => by rw [hU]; exact hS.2.1 q h1 h2), by rw [hU]; exact hP, fun h => by rw [hU]; exact hz h, ?_, hN⟩⟩
  rw [hU]
  exact Nat.le_trans hbz hS.1
theorem z_callV (C : zOK X l G b cc nL own d) {k ci : Nat} {q : Nat × Nat × Nat} {fl : List (Option (Option Nat))} {T : u_T} {N : Nat} (hdg : decode cc pc = .ok (.invokevirtual index, 3)) (hw : zCV own index y cy ny ret ky) (hM : zMet l G b y cy ny ret h sh sh (.ref (b + k) :: As) M post) (hd : h + 1 ≤ d) (hsh : sh[k]? = some (q, .inl (ci, fl))) (hci : vwCl[ci]? = some (y.cls, T, N)) (hn : As.length = ky) (hst : st = As.reverse ++ .ref (b + k) :: rest) (hr : (rest.map fun v => v.category).sum ≤ 8) (kk : ∀ r M', post r M' → zW X sh M' (pc + 3) L (r.toList ++ rest)) : zW X sh M pc L st := by
  obtain ⟨p, l', e, R, s, m, args, below, meth, c, Q, n0, s0, G', b'⟩ := X
  obtain ⟨rfl, rfl, rfl, hx, hb, hml, hown, hts, hAm, hbz, hd1, hd2⟩ := C
  obtain ⟨w1, w2, w3, w4, w5, w6, w7⟩ := hw
  obtain ⟨hle, hsl, hMM⟩ := hM
  subst hst
  intro H locs ls hP hz hS hN hn' hs hL
  have hpre := zpre (av := .ref (b' + k) :: As) hAm hbz hP hz hS hN
  have hrec := va_recv hAm.1 hP hci (zws_get hsh)
  refine zcall (va_runV (C := y.cls) (As := As) (rest := rest) (n := ky) (nL := nL) ⟨hx, hb, hml, hown, hts⟩ hMM ⟨callB_of ky hts (zT_code w1) rfl rfl rfl (hts _ w5) (hts _ w2) w6 ⟨?_, ?_⟩, hts _ w3, hts _ w4⟩ ⟨hpre.1, hrec, hpre.2⟩ rfl hn (hL.1.1.trans hml) rfl ?_ hdg ⟨?_, ?_⟩) hle hsl hS hn'.1 hs.1 hn'.2 hs.2 hL kk
  · show h + 1 ≤ R.frames
    omega
  · show 8 + (ny + 11) + 40 * h ≤ R.locals
    omega
  · exact lv_room hr
  · rw [Nat.sub_self]; exact hn'.2
  · rw [Nat.sub_self]; exact hs.2
theorem z_callS (C : zOK X l G b cc nL own d) (hdg : decode cc pc = .ok (.invokestatic index, 3)) (hw : zCS own index y cy ny ret ky) (hM : zMet l G b y cy ny ret h sh sh As M post) (hd : h + 1 ≤ d) (hn : As.length = ky) (hst : st = As.reverse ++ rest) (hr : (rest.map fun v => v.category).sum ≤ 8) (kk : ∀ r M', post r M' → zW X sh M' (pc + 3) L (r.toList ++ rest)) : zW X sh M pc L st := by
  obtain ⟨p, l', e, R, s, m, args, below, meth, c, Q, n0, s0, G', b'⟩ := X
  obtain ⟨rfl, rfl, rfl, hx, hb, hml, hown, hts, hAm, hbz, hd1, hd2⟩ := C
  obtain ⟨w1, w2, w3, w5, w6, w7⟩ := hw
  obtain ⟨hle, hsl, hMM⟩ := hM
  subst hst
  intro H locs ls hP hz hS hN hn' hs hL
  have hpre := zpre (av := As) hAm hbz hP hz hS hN
  refine zcall (va_runS (As := As) (rest := rest) (n := ky) (nL := nL) ⟨hx, hb, hml, hown, hts⟩ hMM ⟨callB_of ky hts (zT_code w1) rfl rfl rfl (hts _ w5) (hts _ w2) w6 ⟨?_, ?_⟩, hts _ w3⟩ hpre rfl hn (hL.1.1.trans hml) rfl ?_ hdg ⟨?_, ?_⟩) hle hsl hS hn'.1 hs.1 hn'.2 hs.2 hL kk
  · show h + 1 ≤ R.frames
    omega
  · show 8 + (ny + 11) + 40 * h ≤ R.locals
    omega
  · exact lv_room hr
  · rw [Nat.sub_self]; exact hn'.2
  · rw [Nat.sub_self]; exact hs.2
theorem z_callVi (C : zOK X l G b cc nL own d) {k ci : Nat} {q : Nat × Nat × Nat} {fl : List (Option (Option Nat))} {T : u_T} {N : Nat} {p : Int32 → zM → Prop} (hdg : decode cc pc = .ok (.invokevirtual index, 3)) (hw : zCV own index y cy ny ret ky) (hM : zMet l G b y cy ny ret h sh sh (.ref (b + k) :: As) M (zI p)) (hd : h + 1 ≤ d) (hsh : sh[k]? = some (q, .inl (ci, fl))) (hci : vwCl[ci]? = some (y.cls, T, N)) (hn : As.length = ky) (hst : st = As.reverse ++ .ref (b + k) :: rest) (hr : (rest.map fun v => v.category).sum ≤ 8) (kk : ∀ v M', p v M' → zW X sh M' (pc + 3) L (.int v :: rest)) : zW X sh M pc L st :=
  z_callV C hdg hw hM hd hsh hci hn hst hr (fun r M' h => by obtain ⟨v, rfl, hp⟩ := h; exact kk v M' hp)
theorem z_callVv (C : zOK X l G b cc nL own d) {k ci : Nat} {q : Nat × Nat × Nat} {fl : List (Option (Option Nat))} {T : u_T} {N : Nat} {p : zM → Prop} (hdg : decode cc pc = .ok (.invokevirtual index, 3)) (hw : zCV own index y cy ny ret ky) (hM : zMet l G b y cy ny ret h sh sh (.ref (b + k) :: As) M (zV p)) (hd : h + 1 ≤ d) (hsh : sh[k]? = some (q, .inl (ci, fl))) (hci : vwCl[ci]? = some (y.cls, T, N)) (hn : As.length = ky) (hst : st = As.reverse ++ .ref (b + k) :: rest) (hr : (rest.map fun v => v.category).sum ≤ 8) (kk : ∀ M', p M' → zW X sh M' (pc + 3) L rest) : zW X sh M pc L st :=
  z_callV C hdg hw hM hd hsh hci hn hst hr (fun r M' h => by obtain ⟨rfl, hp⟩ := h; exact kk M' hp)
theorem z_callVr (C : zOK X l G b cc nL own d) {k ci : Nat} {q : Nat × Nat × Nat} {fl : List (Option (Option Nat))} {T : u_T} {N : Nat} {p : Nat → zM → Prop} (hdg : decode cc pc = .ok (.invokevirtual index, 3)) (hw : zCV own index y cy ny ret ky) (hM : zMet l G b y cy ny ret h sh sh (.ref (b + k) :: As) M (zR b p)) (hd : h + 1 ≤ d) (hsh : sh[k]? = some (q, .inl (ci, fl))) (hci : vwCl[ci]? = some (y.cls, T, N)) (hn : As.length = ky) (hst : st = As.reverse ++ .ref (b + k) :: rest) (hr : (rest.map fun v => v.category).sum ≤ 8) (kk : ∀ v M', p v M' → zW X sh M' (pc + 3) L (.ref (b + v) :: rest)) : zW X sh M pc L st :=
  z_callV C hdg hw hM hd hsh hci hn hst hr (fun r M' h => by obtain ⟨v, rfl, hp⟩ := h; exact kk v M' hp)
theorem z_callSi (C : zOK X l G b cc nL own d) {p : Int32 → zM → Prop} (hdg : decode cc pc = .ok (.invokestatic index, 3)) (hw : zCS own index y cy ny ret ky) (hM : zMet l G b y cy ny ret h sh sh As M (zI p)) (hd : h + 1 ≤ d) (hn : As.length = ky) (hst : st = As.reverse ++ rest) (hr : (rest.map fun v => v.category).sum ≤ 8) (kk : ∀ v M', p v M' → zW X sh M' (pc + 3) L (.int v :: rest)) : zW X sh M pc L st :=
  z_callS C hdg hw hM hd hn hst hr (fun r M' h => by obtain ⟨v, rfl, hp⟩ := h; exact kk v M' hp)
theorem z_callSv (C : zOK X l G b cc nL own d) {p : zM → Prop} (hdg : decode cc pc = .ok (.invokestatic index, 3)) (hw : zCS own index y cy ny ret ky) (hM : zMet l G b y cy ny ret h sh sh As M (zV p)) (hd : h + 1 ≤ d) (hn : As.length = ky) (hst : st = As.reverse ++ rest) (hr : (rest.map fun v => v.category).sum ≤ 8) (kk : ∀ M', p M' → zW X sh M' (pc + 3) L rest) : zW X sh M pc L st :=
  z_callS C hdg hw hM hd hn hst hr (fun r M' h => by obtain ⟨rfl, hp⟩ := h; exact kk M' hp)
/-- held, from a person: a nest mate's static -/
theorem z_callHeld (C : zOK X l G b cc nL RX0 d) {p : Int32 → zM → Prop} (hdg : decode cc pc = .ok (.invokestatic 44, 3)) (w1 : Cond.code yX9_held cy ny ret ∈ zT) (w3 : Cond.static yX9_held ∈ zT) (w5 : Cond.initialized RX9 ∈ zT) (w6 : ny ≤ 21) {x : Int32} (hM : zMet l G b yX9_held cy ny ret h sh sh [.int x] M (zI p)) (hd : h + 1 ≤ d) (hst : st = .int x :: rest) (hr : (rest.map fun v => v.category).sum ≤ 8) (kk : ∀ v M', p v M' → zW X sh M' (pc + 3) L (.int v :: rest)) : zW X sh M pc L st := by
  obtain ⟨q, l', e, R, s, m, args, below, meth, c, Q, n0, s0, G', b'⟩ := X
  obtain ⟨rfl, rfl, rfl, hx, hb, hml, hown, hts, hAm, hbz, hd1, hd2⟩ := C
  obtain ⟨hle, hsl, hMM⟩ := hM
  subst hst
  intro H locs ls hP hz hS hN hn' hs hL
  have hpre := zpre (av := [.int x]) hAm hbz hP hz hS hN
  refine zcall (va_runSN (As := [.int x]) (rest := rest) (n := 1) (nL := nL) (host := "MeanSafe") ⟨hx, hb, hml, hown, hts⟩ hMM ⟨va_cnB 1 hts (zT_code w1) rfl rfl rfl hAm.2.1 (hts _ w5) (by decide) ⟨?_, ?_⟩, hts _ w3, trivial⟩ hpre rfl rfl (hL.1.1.trans hml) rfl ?_ hdg ⟨?_, ?_⟩) hle hsl hS hn'.1 hs.1 hn'.2 hs.2 hL (fun r M' h => by obtain ⟨v, rfl, hp⟩ := h; exact kk v M' hp)
  · show h + 1 ≤ R.frames
    omega
  · show 8 + (ny + 11) + 40 * h ≤ R.locals
    omega
  · exact lv_room hr
  · rw [Nat.sub_self]; exact hn'.2
  · rw [Nat.sub_self]; exact hs.2
theorem z_max (C : zOK X l G b cc nL own d) (hd : 1 ≤ d) (w1 : Cond.methodLink own index Lib.Math.max.name ∈ zT) (w2 : Cond.static Lib.Math.max.name ∈ zT) (w3 : Cond.initialized "java/lang/Math" ∈ zT) (w4 : Cond.code Lib.Math.max.name Lib.Math.max.code 2 (some .int) ∈ zT) {x y : Int32} (hdg : decode cc pc = .ok (.invokestatic index, 3)) (hr : (st.map fun v => v.category).sum ≤ 8) (kk : zW X sh M (pc + 3) L (.int (if x < y then y else x) :: st)) : zW X sh M pc L (.int y :: .int x :: st) := by
  obtain ⟨q, l', e, R, s, m, args, below, meth, c, Q, n0, s0, G', b'⟩ := X
  obtain ⟨rfl, rfl, rfl, hx, hb, hml, hown, hts, hAm, hbz, hd1, hd2⟩ := C
  intro H locs ls hP hz hS hN hn hs hL
  exact va_mmax hx hb hL.1.1.symm hown (hts _ w1) (hts _ w2) (hts _ w3) (hts _ w4) (by omega) (by omega) hn.2 hs.2 hdg (kk H locs ls hP hz hS hN hn hs hL)
theorem z_min (C : zOK X l G b cc nL own d) (hd : 1 ≤ d) (w1 : Cond.methodLink own index Lib.Math.min.name ∈ zT) (w2 : Cond.static Lib.Math.min.name ∈ zT) (w3 : Cond.initialized "java/lang/Math" ∈ zT) (w4 : Cond.code Lib.Math.min.name Lib.Math.min.code 2 (some .int) ∈ zT) {x y : Int32} (hdg : decode cc pc = .ok (.invokestatic index, 3)) (hr : (st.map fun v => v.category).sum ≤ 8) (kk : zW X sh M (pc + 3) L (.int (if y < x then y else x) :: st)) : zW X sh M pc L (.int y :: .int x :: st) := by
  obtain ⟨q, l', e, R, s, m, args, below, meth, c, Q, n0, s0, G', b'⟩ := X
  obtain ⟨rfl, rfl, rfl, hx, hb, hml, hown, hts, hAm, hbz, hd1, hd2⟩ := C
  intro H locs ls hP hz hS hN hn hs hL
  exact va_mmin hx hb hL.1.1.symm hown (hts _ w1) (hts _ w2) (hts _ w3) (hts _ w4) (by omega) (by omega) hn.2 hs.2 hdg (kk H locs ls hP hz hS hN hn hs hL)
/-- System.arraycopy between two int arrays of the picture, or within one -/
def zcp (M : zM) (a i j a' i' j' sp dp n : Nat) : zM := fun x y z f => if x = a' ∧ y = i' ∧ z = j' ∧ dp ≤ f ∧ f < dp + n then M a i j (sp + (f - dp)) else M x y z f
theorem z_copy (C : zOK X l G b cc nL own d) (hd : 1 ≤ d) (hlen : 262 ≤ sh.length) (w1 : Cond.methodLink own index arraycopyName ∈ zT) (w2 : Cond.native arraycopyName ∈ zT) (w3 : Cond.static arraycopyName ∈ zT) (w4 : Cond.initialized "java/lang/System" ∈ zT) {k0 k1 a i j a' i' j' n0 n1 : Nat} {sp dp n : Int32} (hdg : decode cc pc = .ok (.invokestatic index, 3)) (hs0 : sh[k0]? = some ((a, i, j), .inr (.inl (0, n0)))) (hs1 : sh[k1]? = some ((a', i', j'), .inr (.inl (0, n1)))) (h1 : ¬ sp < 0) (h2 : ¬ dp < 0) (h3 : ¬ n < 0) (h4 : sp.toNatClampNeg + n.toNatClampNeg ≤ n0) (h5 : dp.toNatClampNeg + n.toNatClampNeg ≤ n1) (hr : (st.map fun v => v.category).sum ≤ 8)
    (kk : zW X sh (zcp M a i j a' i' j' sp.toNatClampNeg dp.toNatClampNeg n.toNatClampNeg) (pc + 3) L st) : zW X sh M pc L (.int n :: .int dp :: .ref (b + k1) :: .int sp :: .ref (b + k0) :: st) := by
  obtain ⟨q, l', e, R, s, m, args, below, meth, c, Q, m0, s0, G', b'⟩ := X
  obtain ⟨rfl, rfl, rfl, hx, hb, hml, hown, hts, hAm, hbz, hd1, hd2⟩ := C
  intro H locs ls hP hz hS hN hn hs hL
  refine va_copyi hx hb hL.1.1.symm hown (hts _ w1) (hts _ w2) (hts _ w3) (hts _ w4) hAm.1 hP (zws_D sh b' G'.2.1 M) hS k0 k1 0 0 (zws_get hs0) (zws_get hs1) rfl rfl rfl h1 h2 h3 h4 h5 (fun _ _ => rfl) (by omega) ?_ hdg (fun H1 locs1 hP1 _ hS1 => ?_)
  · have : nativeFrameWords "java/lang/System" "arraycopy" 5 ≤ 20 := by decide
    omega
  · refine kk H1 locs1 ls ?_ (fun h => absurd h (by omega)) hS1 hN hn hs hL
    have w9 : (zws sh b' G'.2.1 M).set k1 (b' + k1, zE b' G'.2.1 (zcp M a i j a' i' j' sp.toNatClampNeg dp.toNatClampNeg n.toNatClampNeg) ((a', i', j'), .inr (.inl (0, n1)))) = zws sh b' G'.2.1 (zcp M a i j a' i' j' sp.toNatClampNeg dp.toNatClampNeg n.toNatClampNeg) := by
      refine zws_set hN hs1 (fun x hx => ?_)
      funext f
      obtain ⟨x1, x2, x3⟩ := x
      simp only [zat, zcp]
      rw [if_neg]
      rintro ⟨rfl, rfl, rfl, -⟩
      exact hx rfl
    rw [← w9]
    have e9 : va_cpy (zat M (a, i, j)) (zat M (a', i', j')) sp.toNatClampNeg dp.toNatClampNeg n.toNatClampNeg = zat (zcp M a i j a' i' j' sp.toNatClampNeg dp.toNatClampNeg n.toNatClampNeg) (a', i', j') := by
      funext f
      simp [va_cpy, zat, zcp]
    rw [e9] at hP1
    exact hP1
end ZCALL
