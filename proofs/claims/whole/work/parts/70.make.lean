/-! MAKING: rows for constructors. A contract of a constructor also knows the nest's links -/
def zNl : List Cond := [.methodLinkNest RX1 11 yX5_init "MeanSafe", .methodLinkNest RX3 17 yX0_init "MeanSafe", .methodLinkNest RX3 24 yX2_init "MeanSafe", .methodLinkNest RX6 21 yX5_init "MeanSafe", .methodLinkNest RX8 54 yX0_init "MeanSafe", .methodLinkNest RX9 37 yX4_init "MeanSafe", .methodLinkNest RX9 75 yX2_init "MeanSafe", .methodLinkNest RX9 76 yX3_init "MeanSafe"]
def zAO : List String := [RX5, RX0, RX8, RX2, RX3]
def zAA (U : State) : Prop := ∃ (cA cI : ClassId) (kA : Class), U.vm.findClass "[[I" = some cA ∧ U.vm.classes[cA]? = some kA ∧ kA.kind = .array cI (.array .int) ∧ U.vm.findClass "[I" = some cI
theorem zAA.moved {u U : State} (hvm : u.vm.Alike U.vm) (h : zAA u) : zAA U := by
  obtain ⟨cA, cI, kA, h1, h2, h3, h4⟩ := h
  obtain ⟨k', h5, h6⟩ := hvm.2.2 _ _ h2
  exact ⟨cA, cI, k', by rw [hvm.findClass]; exact h1, h5, by rw [h6]; exact h3, by rw [hvm.findClass]; exact h4⟩
def zNst (U : State) : Prop := zAA U ∧ (∀ own index y, Cond.methodLinkNest own index y "MeanSafe" ∈ zNl → va_Nw (.methodLinkNest own index y "MeanSafe") U) ∧ ∀ C, C ∈ zAO → va_AO C U
theorem zNst.same {u U : State} (hv : u.vm = U.vm) (h : zNst u) : zNst U := ⟨h.1.moved (by rw [hv]; exact Vm.Alike.refl _), fun own index y hw => va_Nw.same rfl hv (h.2.1 own index y hw), fun C hC => (h.2.2 C hC).moved (by rw [hv]; exact Vm.Alike.refl _)⟩
theorem zNst.go {u U : State} (hW : u.WarmedH U.vm) (h : zNst u) : zNst U := ⟨h.1.moved hW.alike, fun own index y hw => va_Nw.warmM hW (h.2.1 own index y hw), fun C hC => (h.2.2 C hC).moved hW.alike⟩
def zP2 (G : zG) (b : Nat) (sh : List zS) (M : zM) (av : List Value) : Array Value → State → Prop := va_Pc av (fun U => (zNst U ∧ zAmb G b U) ∧ va_P G.1 vwCl (zws sh b G.2.1 M) U.heap ∧ (sh.length < 262 → U.heap.size = b + sh.length) ∧ b ≤ U.heap.size ∧ zND sh)
theorem zP2.blind {G : zG} {b : Nat} {sh : List zS} {M : zM} {av : List Value} : FrameBlind (zP2 G b sh M av) := by
  intro a U g mk h
  obtain ⟨h1, ⟨h0, h2⟩, h3, h4, h5, h6⟩ := h
  exact ⟨h1, ⟨h0.same (u := U) (U := U.calling g mk a) rfl, h2.same (u := U) (U := U.calling g mk a) rfl rfl⟩, h3, h4, h5, h6⟩
def zMk (l : Launch) (G : zG) (b : Nat) (y : MethodName) (cc : ByteArray) (nL : Nat) (h : Nat) (sh sh' : List zS) (av : List Value) (M : zM) (post : zM → Prop) : Prop :=
  sh.length ≤ sh'.length ∧ zsl sh ≤ zsl sh' ∧ Met l y (Cond.code y cc nL none :: zT) { frames := h, cells := sh'.length - sh.length, slots := zsl sh' - zsl sh, locals := 40 * h } (zP2 G b sh M av) (zQ G b sh' (zV post)) (sh'.length - sh.length) (zsl sh' - zsl sh) (fun q => b ≤ q)
def zIn (X : zX) : Prop := match X with
  | (_, _, _, _, s, _, _, _, meth, _, _, _, _, _, _) => zNst s ∧ meth.name = "<init>"
theorem zMk.of {l : Launch} {G : zG} {b : Nat} {y : MethodName} {cc : ByteArray} {nL : Nat} {h : Nat} {sh sh' : List zS} {av : List Value} {M : zM} {post : zM → Prop} {L0 : List (Option Value)}
    (hy : plainName y.cls = true) (hnm : y.name = "<init>") (hle : sh.length ≤ sh'.length) (hsl : zsl sh ≤ zsl sh') (hav : av.length ≤ nL) (hcat : ∀ v ∈ av, v.category = 1) (hL0 : av.map some ++ List.replicate (nL - av.length) none = L0)
    (body : ∀ X : zX, zOK X l G b cc nL y.cls h → zIn X → zAl X sh.length (zsl sh) (sh'.length - sh.length) (zsl sh' - zsl sh) → zRt X none sh' (zV post) → zW X sh M 0 L0 []) : zMk l G b y cc nL h sh sh' av M post := by
  refine ⟨hle, hsl, Met.ofW (cc := cc) (maxL := nL) (ret := none) hy rfl ?_⟩
  intro p e s m args below meth c s₁ B hml hv
  obtain ⟨rfl, ⟨hNs, hAm⟩, hP, hz, hbz, hN⟩ := hv
  have hts := atoms_spec (ws := Cond.code y cc nL none :: zT) B.pre
  have hin : meth.name = "<init>" := (name_of_methodNamed B.named B.method).1.trans hnm
  have K := body (p, l, e, (headSpec (Cond.code y cc nL none :: zT) { frames := h, cells := sh'.length - sh.length, slots := zsl sh' - zsl sh, locals := 40 * h }).room, s, m, av.toArray, below, meth, c, MQ below (zQ G b sh' (zV post)) av.toArray s (sh'.length - sh.length) (zsl sh' - zsl sh) (fun q => b ≤ q), sh.length, zsl sh, G, b)
    ⟨rfl, rfl, rfl, B.exec, B.bytes, hml, findClass_of_methodNamed B.named, fun w hw => hts w (List.mem_cons_of_mem _ hw), hAm, hbz, Nat.le_refl _, Nat.le_refl _⟩ ⟨hNs, hin⟩ ⟨rfl, rfl, Nat.le_refl _, Nat.le_refl _⟩ ⟨B.returns, B.notSynchronized, rfl⟩
  have hE := zLs.entry av hav hcat
  rw [hL0] at hE
  have KW := K s.heap [] _ hP hz va_S.rf hN ⟨Nat.le_refl _, by rw [Nat.sub_self]; exact Nat.zero_le _⟩ ⟨Nat.le_refl _, by rw [Nat.sub_self]; exact Nat.zero_le _⟩ (by rw [hml]; exact hE)
  rw [Nat.sub_self, Nat.sub_self] at KW
  rw [lg_entry_eq]
  exact KW
/-- room, counted from a part that stays -/
def zAl2 (X : zX) (sh0 : List zS) (kc ks : Nat) : Prop := match X with
  | (_, _, _, R, _, _, _, _, _, _, _, n0, s0, _, _) => sh0.length + kc ≤ n0 + R.cells ∧ zsl sh0 + ks ≤ s0 + R.slots
theorem zsl_app (r s : List zS) : zsl (r ++ s) = zsl r + zsl s := by
  unfold zsl
  rw [List.map_append, List.sum_append]
theorem zAl2.of {X : zX} {sh0 r r' : List zS} (h : zAl X (sh0 ++ r).length (zsl (sh0 ++ r)) ((sh0 ++ r').length - (sh0 ++ r).length) (zsl (sh0 ++ r') - zsl (sh0 ++ r))) (h1 : r.length ≤ r'.length) (h2 : zsl r ≤ zsl r') : zAl2 X sh0 r'.length (zsl r') := by
  obtain ⟨p, l', e, R, s, m, args, below, meth, c, Q, n0, s0, G', b'⟩ := X
  obtain ⟨rfl, rfl, h3, h4⟩ := h
  rw [List.length_append, List.length_append] at h3
  rw [zsl_app, zsl_app] at h4
  refine ⟨?_, ?_⟩
  · rw [List.length_append]; omega
  · rw [zsl_app]; omega
/-- a cell made -/
def zclr (M : zM) (q : Nat × Nat × Nat) : zM := fun a i j f => if a = q.1 ∧ i = q.2.1 ∧ j = q.2.2 then 0 else M a i j f
theorem zat_clr_self (M : zM) (q : Nat × Nat × Nat) : zat (zclr M q) q = fun _ => 0 := by
  funext f
  exact if_pos ⟨rfl, rfl, rfl⟩
theorem zat_clr_ne (M : zM) {q x : Nat × Nat × Nat} (h : x ≠ q) : zat (zclr M q) x = zat M x := by
  funext f
  refine if_neg (fun z => h ?_)
  obtain ⟨a, i, j⟩ := x
  obtain ⟨a', i', j'⟩ := q
  obtain ⟨rfl, rfl, rfl⟩ := z
  rfl
theorem zws_push {sh : List zS} {b : Nat} {tc : Nat → ClassId} {M : zM} {q : Nat × Nat × Nat} {Bd : zB} (hfr : ∀ x ∈ sh, x.1 ≠ q) : zws (sh ++ [(q, Bd)]) b tc (zclr M q) = zws sh b tc M ++ [(b + sh.length, zE b tc (zclr M q) (q, Bd))] := by
  unfold zws
  rw [List.mapIdx_concat]
  congr 1
  apply List.ext_getElem?
  intro j
  rw [List.getElem?_mapIdx, List.getElem?_mapIdx]
  cases hj : sh[j]? with
  | none => rfl
  | some y =>
    simp only [Option.map_some]
    rw [zE_congr (zat_clr_ne M (hfr y (List.mem_of_getElem? hj)))]
theorem zND_push {sh : List zS} (h : zND sh) {x : zS} (hfr : ∀ y ∈ sh, y.1 ≠ x.1) : zND (sh ++ [x]) := by
  intro i j y z hi hj e
  by_cases ci : i < sh.length
  · rw [List.getElem?_append_left ci] at hi
    by_cases cj : j < sh.length
    · rw [List.getElem?_append_left cj] at hj
      exact h i j y z hi hj e
    · rw [List.getElem?_append_right (by omega)] at hj
      have h1 : z = x := by
        have := List.mem_of_getElem? hj
        simpa using this
      exact absurd (e.trans (by rw [h1])) (hfr y (List.mem_of_getElem? hi))
  · rw [List.getElem?_append_right (by omega)] at hi
    have l1 := (List.getElem?_eq_some_iff.mp hi).1
    have h1 : y = x := by
      have := List.mem_of_getElem? hi
      simpa using this
    by_cases cj : j < sh.length
    · rw [List.getElem?_append_left cj] at hj
      exact absurd (e.symm.trans (by rw [h1])) (hfr z (List.mem_of_getElem? hj))
    · rw [List.getElem?_append_right (by omega)] at hj
      have l2 := (List.getElem?_eq_some_iff.mp hj).1
      simp only [List.length_singleton] at l1 l2
      omega
theorem zpush {G : zG} {b : Nat} {sh : List zS} {M : zM} {q : Nat × Nat × Nat} {Bd : zB} {H H1 : Heap} (hP : va_P G.1 vwCl (zws sh b G.2.1 M) H) (hz : H.size = b + sh.length) (o1 : ∀ q, q < b + sh.length → H1[q]? = H[q]?) (hfr : ∀ x ∈ sh, x.1 ≠ q) (hat : va_at G.1 vwCl (b + sh.length, zE b G.2.1 (zclr M q) (q, Bd)) H1) : va_P G.1 vwCl (zws (sh ++ [(q, Bd)]) b G.2.1 (zclr M q)) H1 := by
  rw [zws_push hfr]
  refine (hP.kept (fun k x hx => o1 x.1 (by rw [← hz]; exact (hP k x hx).lt))).app (fun k x hx => ?_)
  have hk : k < 1 := (List.getElem?_eq_some_iff.mp hx).1
  rw [show k = 0 by omega] at hx
  cases hx
  exact hat
/-- the cell that a class's 'new' makes -/
def zNw (own : String) (index ci : Nat) (fl : List (Option (Option Nat))) : Prop := ∃ (Cn : String) (T : u_T) (N : Nat) (ty : Nat → FieldType), vwCl[ci]? = some (Cn, T, N) ∧ Cond.classLink own index Cn ∈ zT ∧ Cond.instantiable Cn N ∈ zT ∧ Cond.initialized Cn ∈ zT ∧ (∀ w ∈ u_ws Cn T N, w ∈ zT) ∧ (∀ k, k < N → parseFieldDescriptor (T k).2.2.1 = some (ty k)) ∧ fl.length = N ∧ ∀ b j, j < N → defaultValue (ty j) = vp_V (fl.mapIdx (zfv b (fun _ => 0))) j
section ZMAKE
variable {X : zX} {l : Launch} {G : zG} {b : Nat} {cc : ByteArray} {nL : Nat} {own : String} {d : Nat} {sh0 r : List zS} {M : zM} {pc : Nat} {L : List (Option Value)} {st : List Value} {kc ks : Nat}
theorem z_new (C : zOK X l G b cc nL own d) (A2 : zAl2 X sh0 kc ks) {index ci : Nat} {fl : List (Option (Option Nat))} (q : Nat × Nat × Nat) {r' : List zS} (hdg : decode cc pc = .ok (.new index, 3)) (hw : zNw own index ci fl) (hlen : (sh0 ++ r).length < 262) (hfr : ∀ x ∈ sh0 ++ r, x.1 ≠ q) (h1 : r.length + 1 ≤ kc) (h2 : zsl r + fl.length ≤ ks) (hr : r ++ [(q, .inl (ci, fl))] = r') (kk : zW X (sh0 ++ r') (zclr M q) (pc + 3) L (.ref (b + (sh0.length + r.length)) :: st)) : zW X (sh0 ++ r) M pc L st := by
  subst hr
  obtain ⟨p, l', e, R, s, m, args, below, meth, c, Q, n0, s0, G', b'⟩ := X
  obtain ⟨rfl, rfl, rfl, hx, hb, hml, hown, hts, hAm, hbz, hd1, hd2⟩ := C
  obtain ⟨Cn, T, N, ty, w1, w2, w3, w4, w5, w6, w7, w8⟩ := hw
  obtain ⟨a1, a2⟩ := A2
  intro H locs ls hP hz hS hN hn hs hL
  have hzz := hz hlen
  have hKn := hAm.1.1 ci _ w1
  have ln : (sh0 ++ r).length = sh0.length + r.length := List.length_append
  have sn : zsl (sh0 ++ r) = zsl sh0 + zsl r := zsl_app _ _
  have ln2 : (sh0 ++ (r ++ [((q, .inl (ci, fl)) : zS)])).length = (sh0 ++ r).length + 1 := by rw [← List.append_assoc, List.length_append]; rfl
  have sn2 : zsl (sh0 ++ (r ++ [((q, .inl (ci, fl)) : zS)])) = zsl (sh0 ++ r) + N := by
    rw [← List.append_assoc, zsl_app (sh0 ++ r)]
    show _ + (fl.length + 0) = _
    rw [w7]
    rfl
  refine W.newcK hx hb hown (hts _ w2) (hts _ w3) (hts _ w4) rfl hdg (by omega) (by omega) hKn.2.1 hzz fun H1 kC hkC e1 z1 o1 => ?_
  have K := kk H1 locs ls (by
    rw [← List.append_assoc]
    refine zpush hP hzz o1 hfr ⟨_, w1, (u_born ty hts w5 hKn hkC e1 w6).to (fun j hj => ?_)⟩
    rw [zat_clr_self]
    exact w8 b' j hj) (fun _ => by rw [z1, ln2]; omega) ⟨by have := hS.1; omega, fun x g1 g2 => (o1 x (by have := hS.1; omega)).trans (hS.2.1 x g1 g2), hS.2.2⟩ (by rw [← List.append_assoc]; exact zND_push hN hfr) ⟨by omega, by omega⟩ ⟨by omega, by omega⟩ hL
  rw [show (sh0 ++ r).length - n0 + 1 = (sh0 ++ (r ++ [((q, .inl (ci, fl)) : zS)])).length - n0 by omega, show zsl (sh0 ++ r) - s0 + N = zsl (sh0 ++ (r ++ [((q, .inl (ci, fl)) : zS)])) - s0 by omega, ln]
  exact K
end ZMAKE
