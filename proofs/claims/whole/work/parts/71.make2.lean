/-! MAKING: more rows -/
theorem qObj : Cond.code objectInit ⟨#[0xb1]⟩ 1 none ∈ zT := zT_in (in_1 (List.mem_of_getElem? (i := 27) (by decide +kernel))) rfl
/-- a final field of the class's own -/
def zFl2 (own : String) (index ci f : Nat) (ty : FieldType) : Prop := ∃ (Cn : String) (T : u_T) (N : Nat) (ty0 : Nat → FieldType), vwCl[ci]? = some (Cn, T, N) ∧ f < N ∧ Cond.fieldLink own index own (T f).2.1 (T f).2.2.1 ∈ zT ∧ (T f).1 = own ∧ (∀ w ∈ u_ws Cn T N, w ∈ zT) ∧ (T f).2.2.2 = true ∧ (∀ k, k < N → parseFieldDescriptor (T k).2.2.1 = some (ty0 k)) ∧ (∀ a, a < N → ∀ b, b < N → a ≠ b → (T a).2.1 ≠ (T b).2.1) ∧ parseFieldDescriptor (T f).2.2.1 = some ty
theorem zws_setE {sh : List zS} {b : Nat} {tc : Nat → ClassId} {M : zM} {k : Nat} {x : zS} (hk : k < sh.length) : (zws sh b tc M).set k (b + k, zE b tc M x) = zws (sh.set k x) b tc M := by
  apply List.ext_getElem?
  intro j
  by_cases e : j = k
  · subst e
    rw [List.getElem?_set_self (by rw [zws_len]; exact hk), zws_get (List.getElem?_set_self hk)]
  · rw [List.getElem?_set_ne (Ne.symm e)]
    simp only [zws, List.getElem?_mapIdx, List.getElem?_set_ne (Ne.symm e)]
theorem zND_set {sh : List zS} (h : zND sh) {k : Nat} {x y : zS} (hk : sh[k]? = some x) (e : y.1 = x.1) : zND (sh.set k y) := by
  have hl := (List.getElem?_eq_some_iff.mp hk).1
  have key : ∀ (i : Nat) (z : zS), (sh.set k y)[i]? = some z → ∃ z', sh[i]? = some z' ∧ z'.1 = z.1 := by
    intro i z hz
    by_cases q : i = k
    · subst q
      rw [List.getElem?_set_self hl] at hz
      cases hz
      exact ⟨x, hk, e.symm⟩
    · rw [List.getElem?_set_ne (Ne.symm q)] at hz
      exact ⟨z, hz, rfl⟩
  intro i j z w hi hj q
  obtain ⟨z', h1, h2⟩ := key i z hi
  obtain ⟨w', h3, h4⟩ := key j w hj
  exact h i j z' w' h1 h3 (h2.trans (q.trans h4.symm))
theorem zsl_set {y : zS} : ∀ {sh : List zS} {k : Nat} {x : zS}, sh[k]? = some x → zsz y = zsz x → zsl (sh.set k y) = zsl sh
  | [], _, _, h, _ => by cases h
  | z :: sh, 0, x, h, e => by
    cases h
    show zsz y + _ = zsz z + _
    rw [e]
  | z :: sh, k + 1, x, h, e => by
    show zsz z + zsl (sh.set k y) = zsz z + zsl sh
    rw [zsl_set (sh := sh) (k := k) (x := x) h e]
theorem zg {sh0 r : List zS} {j : Nat} {x : zS} (h : r[j]? = some x) : (sh0 ++ r)[sh0.length + j]? = some x := by
  rw [List.getElem?_append_right (Nat.le_add_right _ _), Nat.add_sub_cancel_left]
  exact h
theorem zgs {sh0 r : List zS} {j : Nat} {x : zS} : (sh0 ++ r).set (sh0.length + j) x = sh0 ++ r.set j x := by
  rw [List.set_append_right _ _ (Nat.le_add_right _ _), Nat.add_sub_cancel_left]
section ZMAKE2
variable {X : zX} {l : Launch} {G : zG} {b : Nat} {cc : ByteArray} {nL : Nat} {own : String} {d : Nat} {sh0 r : List zS} {M : zM} {pc : Nat} {L : List (Option Value)} {st : List Value} {kc ks : Nat}
theorem z_obj (C : zOK X l G b cc nL own d) (hd : 1 ≤ d) {sh : List zS} {index a : Nat} (hdg : decode cc pc = .ok (.invokespecial index, 3)) (hw : Cond.methodLink own index objectInit ∈ zT) (hr : (st.map fun v => v.category).sum ≤ 8) (kk : zW X sh M (pc + 3) L st) : zW X sh M pc L (.ref a :: st) := by
  obtain ⟨p, l', e, R, s, m, args, below, meth, c, Q, n0, s0, G', b'⟩ := X
  obtain ⟨rfl, rfl, rfl, hx, hb, hml, hown, hts, hAm, hbz, hd1, hd2⟩ := C
  intro H locs ls hP hz hS hN hn hs hL
  have hro : 2 * (F0 m pc ls st).monitorRoom + (st.map fun v => v.category).sum ≤ 8 := lv_room hr
  exact W.objInit hx hb hown (hts _ hw) (hts _ q1_26) (hts _ qObj) rfl hL.1.1 rfl hdg (by omega) (by have : 2 * (F0 m pc ls (.ref a :: st)).monitorRoom = 2 * (F0 m pc ls st).monitorRoom := rfl; omega) (kk H locs ls hP hz hS hN hn hs hL)
theorem z_newa (C : zOK X l G b cc nL own d) (A2 : zAl2 X sh0 kc ks) {atype : ArrayType} {t N : Nat} {ty : FieldType} (q : Nat × Nat × Nat) {n : Int32} {r' : List zS} (hdg : decode cc pc = .ok (.newarray atype, 2)) (hw : Cond.arrayClass (newarray.typeOf atype) ∈ zT) (hty : newarray.typeOf atype = ty) (ht : (zty G.2.1)[t]? = some (G.2.1 t, ty)) (hra : ∀ U c, va_RA U c ty → U.vm.findClass ("[" ++ ty.toString) = some c) (hdv : defaultValue ty = .int 0) (hn0 : ¬ n < 0) (hN0 : n.toNatClampNeg = N) (hby : N * componentBytes ty ≤ 536870912) (hlen : (sh0 ++ r).length < 262) (hfr : ∀ x ∈ sh0 ++ r, x.1 ≠ q) (h1 : r.length + 1 ≤ kc) (h2 : zsl r + N ≤ ks) (hr : r ++ [(q, .inr (.inl (t, N)))] = r') (kk : zW X (sh0 ++ r') (zclr M q) (pc + 2) L (.ref (b + (sh0.length + r.length)) :: st)) : zW X (sh0 ++ r) M pc L (.int n :: st) := by
  subst hr
  subst hty
  obtain ⟨p, l', e, R, s, m, args, below, meth, c, Q, n0, s0, G', b'⟩ := X
  obtain ⟨rfl, rfl, rfl, hx, hb, hml, hown, hts, hAm, hbz, hd1, hd2⟩ := C
  obtain ⟨a1, a2⟩ := A2
  intro H locs ls hP hz hS hN hn hs hL
  have hzz := hz hlen
  have ln : (sh0 ++ r).length = sh0.length + r.length := List.length_append
  have sn : zsl (sh0 ++ r) = zsl sh0 + zsl r := zsl_app _ _
  have ln2 : (sh0 ++ (r ++ [((q, .inr (.inl (t, N))) : zS)])).length = (sh0 ++ r).length + 1 := by rw [← List.append_assoc, List.length_append]; rfl
  have sn2 : zsl (sh0 ++ (r ++ [((q, .inr (.inl (t, N))) : zS)])) = zsl (sh0 ++ r) + N := by
    rw [← List.append_assoc, zsl_app (sh0 ++ r)]
    rfl
  refine va_newaK hx hb (hts _ hw) rfl hdg rfl hn0 hN0 hby (by omega) (by omega) hzz fun H1 cA e1 z1 o1 hAr hNm => ?_
  obtain rfl : G'.2.1 t = cA := Option.some.inj ((hra s _ (hAm.1.2 t _ ht).2).symm.trans hNm)
  have K := kk H1 locs ls (by
    rw [← List.append_assoc]
    refine zpush hP hzz o1 hfr ?_
    show H1[b' + (sh0 ++ r).length]? = some (vp_cell _ _)
    rw [e1, vp_cell_i, zat_clr_self, hdv]) (fun _ => by rw [z1, ln2]; omega) ⟨by have := hS.1; omega, fun x g1 g2 => (o1 x (by have := hS.1; omega)).trans (hS.2.1 x g1 g2), hS.2.2⟩ (by rw [← List.append_assoc]; exact zND_push hN hfr) ⟨by omega, by omega⟩ ⟨by omega, by omega⟩ hL
  rw [show (sh0 ++ r).length - n0 + 1 = (sh0 ++ (r ++ [((q, .inr (.inl (t, N))) : zS)])).length - n0 by omega, show zsl (sh0 ++ r) - s0 + N = zsl (sh0 ++ (r ++ [((q, .inr (.inl (t, N))) : zS)])) - s0 by omega, ln]
  exact K
theorem z_anew (C : zOK X l G b cc nL own d) (I : zIn X) (A2 : zAl2 X sh0 kc ks) {index t N : Nat} {Cn : String} (q : Nat × Nat × Nat) {n : Int32} {rs : List (Option Nat)} {r' : List zS} (hdg : decode cc pc = .ok (.anewarray index, 3)) (hw : Cond.classLink own index Cn ∈ zT) (hao : Cn ∈ zAO) (ht : (zty G.2.1)[t]? = some (G.2.1 t, .object Cn)) (hn0 : ¬ n < 0) (hN0 : n.toNatClampNeg = N) (hby : N * 4 ≤ 536870912) (hrl : rs.length = N) (hrs : ∀ k, rs.getD k none = none) (hlen : (sh0 ++ r).length < 262) (hfr : ∀ x ∈ sh0 ++ r, x.1 ≠ q) (h1 : r.length + 1 ≤ kc) (h2 : zsl r + N ≤ ks) (hr : r ++ [(q, .inr (.inr (t, rs)))] = r') (kk : zW X (sh0 ++ r') (zclr M q) (pc + 3) L (.ref (b + (sh0.length + r.length)) :: st)) : zW X (sh0 ++ r) M pc L (.int n :: st) := by
  subst hr
  subst hN0
  obtain ⟨p, l', e, R, s, m, args, below, meth, c, Q, n0, s0, G', b'⟩ := X
  obtain ⟨rfl, rfl, rfl, hx, hb, hml, hown, hts, hAm, hbz, hd1, hd2⟩ := C
  obtain ⟨a1, a2⟩ := A2
  intro H locs ls hP hz hS hN hn hs hL
  have hzz := hz hlen
  have ln : (sh0 ++ r).length = sh0.length + r.length := List.length_append
  have sn : zsl (sh0 ++ r) = zsl sh0 + zsl r := zsl_app _ _
  have ln2 : (sh0 ++ (r ++ [((q, .inr (.inr (t, rs))) : zS)])).length = (sh0 ++ r).length + 1 := by rw [← List.append_assoc, List.length_append]; rfl
  have sn2 : zsl (sh0 ++ (r ++ [((q, .inr (.inr (t, rs))) : zS)])) = zsl (sh0 ++ r) + n.toNatClampNeg := by
    rw [← List.append_assoc, zsl_app (sh0 ++ r)]
    show _ + (rs.length + 0) = _
    rw [hrl]
    rfl
  refine W.anew hx hb hown (hts _ hw) (va_AO.use (I.1.2.2 Cn hao)) rfl hdg rfl hn0 hby (by omega) (by omega) fun cA kA comp f1 f2 f3 f4 => ?_
  obtain ⟨kA', comp', g1, g2, g3, g4⟩ := (hAm.1.2 t _ ht).2
  obtain rfl : G'.2.1 t = cA := Option.some.inj (g4.symm.trans f1)
  generalize hH1 : H.push ({ cls := G'.2.1 t, slots := Array.replicate n.toNatClampNeg .null, vm := .none } : Cell) = H1
  have z1 : H1.size = H.size + 1 := by rw [← hH1, Array.size_push]
  have e1 : H1[H.size]? = some (arrV (G'.2.1 t) n.toNatClampNeg (fun _ => .null)) := by rw [← hH1, Array.getElem?_push_size, ← arrV_new]
  have o1 : ∀ q : Nat, q < b' + (sh0 ++ r).length → H1[q]? = H[q]? := fun q hq => by rw [← hH1, Array.getElem?_push, if_neg (by omega)]
  rw [hzz] at z1 e1
  have K := kk H1 locs ls (by
    rw [← List.append_assoc]
    refine zpush hP hzz o1 hfr ?_
    show H1[b' + (sh0 ++ r).length]? = some (vp_cell _ _)
    rw [e1, vp_cell_q, hrl]
    congr 2
    funext k
    rw [hrs k]
    rfl) (fun _ => by rw [z1, ln2]; omega) ⟨by have := hS.1; omega, fun x g1 g2 => (o1 x (by have := hS.1; omega)).trans (hS.2.1 x g1 g2), hS.2.2⟩ (by rw [← List.append_assoc]; exact zND_push hN hfr) ⟨by omega, by omega⟩ ⟨by omega, by omega⟩ hL
  rw [hzz, show (sh0 ++ r).length - n0 + 1 = (sh0 ++ (r ++ [((q, .inr (.inr (t, rs))) : zS)])).length - n0 by omega, show zsl (sh0 ++ r) - s0 + n.toNatClampNeg = zsl (sh0 ++ (r ++ [((q, .inr (.inr (t, rs))) : zS)])) - s0 by omega, ln]
  exact K
theorem z_putR (C : zOK X l G b cc nL own d) (I : zIn X) {index ci f k v : Nat} {ty : FieldType} {q : Nat × Nat × Nat} {fl : List (Option (Option Nat))} {r' : List zS} (hdg : decode cc pc = .ok (.putfield index, 3)) (hf : zFl2 own index ci f ty) (hsh : r[k]? = some (q, .inl (ci, fl))) (hl : f < fl.length) (hnr : narrow ty (.ref (b + v)) = .ref (b + v)) (hft : fits ty (.ref (b + v)) = true) (hr : r.set k (q, .inl (ci, fl.set f (some (some v)))) = r') (kk : zW X (sh0 ++ r') M (pc + 3) L st) : zW X (sh0 ++ r) M pc L (.ref (b + v) :: .ref (b + (sh0.length + k)) :: st) := by
  subst hr
  obtain ⟨p, l', e, R, s, m, args, below, meth, c, Q, n0, s0, G', b'⟩ := X
  obtain ⟨rfl, rfl, rfl, hx, hb, -, hown, hts, hAm, -⟩ := C
  obtain ⟨Cn, T, N, ty0, h1, h2, h3, h4, h5, h6, h7, h8, h9⟩ := hf
  intro H locs ls hP hz hS hN hn hs hL
  have hsh2 : (sh0 ++ r)[sh0.length + k]? = some (q, .inl (ci, fl)) := zg hsh
  have hkl := (List.getElem?_eq_some_iff.mp hsh2).1
  have hK := hAm.1
  have hD := zws_D (sh0 ++ r) b' G'.2.1 M
  have he := zws_get (b := b') (tc := G'.2.1) (M := M) hsh2
  have hap := va_apart (own := own) hts h5 ty0 h7 h8 hK h1
  obtain ⟨r0, g1, cell, q1, q2, q3, q4⟩ := hP _ _ he
  have hr0 : r0 = (Cn, T, N) := Option.some.inj (g1.symm.trans h1)
  subst hr0
  obtain ⟨hSl, hfc, kC, hkC, hkind⟩ := hK.1 ci _ h1
  obtain ⟨cf, kf, fi, fd, hi, hsl⟩ := hSl f h2
  have hlay := hts _ (h5 _ (u_in_lay h2))
  unfold u_lay at hlay
  rw [if_pos h6] at hlay
  have hst := (u_facts hfc hkC (u_lays hts h5 h2) hi).1
  have hcf : m.cls = cf := by
    obtain ⟨_, _, c', _, _, _, -, -, hf', -, -, -, hown2, -⟩ := Cond.laysFinal_spec hlay
    have e1 : c' = cf := by have := hi.symm.trans hf'; simp at this; exact this.1.symm
    rw [h4] at hown2
    rw [← e1]
    exact Option.some.inj (hown.symm.trans hown2)
  have h10 := u_fits hfc hkC hkind (Or.inr hlay) hi h9 hnr hft
  have hsame : s.fieldFound? own (T f).2.1 (T f).2.2.1 = some (cf, kf, fi, fd) := by rw [← h4]; exact hi
  refine W.putFinK hx hb hown (hts _ h3) hsame hst hcf I.2 (by rw [q2]; exact h10) q1 q3 (by rw [hsl]; exact k2_hasslot (q4 f h2)) rfl rfl hdg fun H' e1 e2 e3 => ?_
  rw [hsl] at e1 ⊢
  have hP1 := hP.set (e := .inr (ci, (fl.mapIdx (zfv b' (zat M q))).set f (.ref (b' + v)))) (H1 := H') hD he ⟨_, h1, t_OB.to (V := updV (vp_V (fl.mapIdx (zfv b' (zat M q)))) f (.ref (b' + v))) ⟨_, e1, q2, q3, t_set q4 hap h2 (.ref (b' + v))⟩ (fun j _ => vp_updV_set (by simpa using hl) (.ref (b' + v)) j)⟩ e3
  have hfs : (fl.mapIdx (zfv b' (zat M q))).set f (.ref (b' + v)) = (fl.set f (some (some v))).mapIdx (zfv b' (zat M q)) := by
    apply List.ext_getElem?
    intro j
    by_cases ej : j = f
    · subst ej
      rw [List.getElem?_set_self (by simpa using hl), List.getElem?_mapIdx, List.getElem?_set_self hl]
      rfl
    · rw [List.getElem?_set_ne (Ne.symm ej), List.getElem?_mapIdx, List.getElem?_mapIdx, List.getElem?_set_ne (Ne.symm ej)]
  rw [hfs] at hP1
  have w1 := zws_setE (b := b') (tc := G'.2.1) (M := M) (x := (q, .inl (ci, fl.set f (some (some v))))) hkl
  have hP2 : va_P G'.1 vwCl (zws (sh0 ++ r.set k (q, .inl (ci, fl.set f (some (some v))))) b' G'.2.1 M) H' := by
    rw [← zgs, ← w1]
    exact hP1
  have ln : (sh0 ++ r.set k ((q, .inl (ci, fl.set f (some (some v)))) : zS)).length = (sh0 ++ r).length := by rw [List.length_append, List.length_append, List.length_set]
  have sn : zsl (sh0 ++ r.set k ((q, .inl (ci, fl.set f (some (some v)))) : zS)) = zsl (sh0 ++ r) := by
    rw [← zgs]
    exact zsl_set hsh2 (by show (fl.set f _).length = fl.length; rw [List.length_set])
  have K := kk H' (locs ++ [⟨b' + (sh0.length + k), G'.1.2 ci f⟩]) ls hP2 (fun h => by rw [e2, ln]; rw [ln] at h; exact hz h) (hS.put e2 e3 (hD.2 _ _ he)) (by rw [← zgs]; exact zND_set hN hsh2 rfl) (by rw [ln]; exact hn) (by rw [sn]; exact hs) hL
  rw [ln, sn] at K
  exact K
theorem z_aast (C : zOK X l G b cc nL own d) {t k v k2 ci i : Nat} {q q2 : Nat × Nat × Nat} {rs : List (Option Nat)} {fl : List (Option (Option Nat))} {Cn : String} {T : u_T} {N : Nat} {n : Int32} {r' : List zS} (hdg : decode cc pc = .ok (.aastore, 1)) (hsh : r[k]? = some (q, .inr (.inr (t, rs)))) (hv : r[k2]? = some (q2, .inl (ci, fl))) (hci : vwCl[ci]? = some (Cn, T, N)) (ht : (zty G.2.1)[t]? = some (G.2.1 t, .object Cn)) (hin : vp_in n rs.length) (hi : n.toNatClampNeg = i) (hv2 : v = sh0.length + k2) (hr : r.set k (q, .inr (.inr (t, rs.set i (some v)))) = r') (kk : zW X (sh0 ++ r') M (pc + 1) L st) : zW X (sh0 ++ r) M pc L (.ref (b + v) :: .int n :: .ref (b + (sh0.length + k)) :: st) := by
  subst hr
  subst hi
  subst hv2
  obtain ⟨p, l', e, R, s, m, args, below, meth, c, Q, n0, s0, G', b'⟩ := X
  obtain ⟨rfl, rfl, rfl, hx, hb, -, hown, hts, hAm, -⟩ := C
  intro H locs ls hP hz hS hN hn hs hL
  have hsh2 : (sh0 ++ r)[sh0.length + k]? = some (q, .inr (.inr (t, rs))) := zg hsh
  have hvv : (sh0 ++ r)[sh0.length + k2]? = some (q2, .inl (ci, fl)) := zg hv
  have hkl := (List.getElem?_eq_some_iff.mp hsh2).1
  have hK := hAm.1
  have hD := zws_D (sh0 ++ r) b' G'.2.1 M
  have he := zws_get (b := b') (tc := G'.2.1) (M := M) hsh2
  have hev := zws_get (b := b') (tc := G'.2.1) (M := M) hvv
  have hlt : n.toNatClampNeg < rs.length := Nat.not_le.mp fun z => hin (Or.inr z)
  have h0 : ¬ n < 0 := fun z => hin (Or.inl z)
  obtain ⟨r0, hr0, cellV, g1, g2, g3, -⟩ := hP _ _ hev
  have hcls := (hK.1 ci _ hci).2
  obtain ⟨kA, comp, k1, k2', k3, -⟩ := (hK.2 t _ ht).2
  have hcomp : comp = G'.1.1 ci := Option.some.inj (k3.symm.trans hcls.1)
  subst hcomp
  obtain ⟨kC, hkC, -⟩ := hcls.2
  refine W.aast hx hb (hP _ _ he) (fun z h => by cases h) (fun h => by cases h) k1 k2' rfl hkC ⟨h0, by show _ < (arrV _ _ _).slots.size; rw [arrV_size]; exact hlt⟩ g1 (fun z h => by rw [g3] at h; cases h) (by rw [g2]; exact hkC) (by rw [g2]; exact va_assign hcls) rfl rfl hdg fun H1 e1 e2 e3 => ?_
  have w1 := zws_setE (b := b') (tc := G'.2.1) (M := M) (x := (q, .inr (.inr (t, rs.set n.toNatClampNeg (some (sh0.length + k2)))))) hkl
  have hP2 : va_P G'.1 vwCl (zws (sh0 ++ r.set k (q, .inr (.inr (t, rs.set n.toNatClampNeg (some (sh0.length + k2)))))) b' G'.2.1 M) H1 := by
    rw [← zgs, ← w1]
    refine hP.set hD he ?_ e3
    show H1[b' + (sh0.length + k)]? = some (vp_cell _ _)
    rw [e1]
    show some ((arrV (G'.2.1 t) rs.length (fun j => va_rf ((rs.getD j none).map (fun r => b' + r)))).setSlot n.toNatClampNeg (.ref (b' + (sh0.length + k2)))) = some (arrV (G'.2.1 t) (rs.set n.toNatClampNeg (some (sh0.length + k2))).length (fun j => va_rf (((rs.set n.toNatClampNeg (some (sh0.length + k2))).getD j none).map (fun r => b' + r))))
    rw [arrV_store, List.length_set]
    congr 2
    funext z
    by_cases hz : z = n.toNatClampNeg
    · subst hz
      simp [updV, va_rf, List.getD_eq_getElem?_getD, List.getElem?_set_self hlt]
    · simp [updV, hz, List.getD_eq_getElem?_getD, List.getElem?_set_ne (Ne.symm hz)]
  have ln : (sh0 ++ r.set k ((q, .inr (.inr (t, rs.set n.toNatClampNeg (some (sh0.length + k2))))) : zS)).length = (sh0 ++ r).length := by rw [List.length_append, List.length_append, List.length_set]
  have sn : zsl (sh0 ++ r.set k ((q, .inr (.inr (t, rs.set n.toNatClampNeg (some (sh0.length + k2))))) : zS)) = zsl (sh0 ++ r) := by
    rw [← zgs]
    exact zsl_set hsh2 (by show (rs.set _ _).length = rs.length; rw [List.length_set])
  have K := kk H1 (locs ++ [⟨b' + (sh0.length + k), n.toNatClampNeg⟩]) ls hP2 (fun h => by rw [e2, ln]; rw [ln] at h; exact hz h) (hS.put e2 e3 (hD.2 _ _ he)) (by rw [← zgs]; exact zND_set hN hsh2 rfl) (by rw [ln]; exact hn) (by rw [sn]; exact hs) hL
  rw [ln, sn] at K
  exact K
end ZMAKE2
