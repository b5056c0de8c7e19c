/-! MAKING: several cells at once -/
def zclrs (M : zM) : List zS → zM
  | [] => M
  | x :: xs => zclrs (zclr M x.1) xs
theorem zpush2 {G : zG} {b : Nat} {sh : List zS} {M : zM} {q : Nat × Nat × Nat} {Bd : zB} {H1 : Heap} (hP : va_P G.1 vwCl (zws sh b G.2.1 M) H1) (hfr : ∀ x ∈ sh, x.1 ≠ q) (hat : va_at G.1 vwCl (b + sh.length, zE b G.2.1 (zclr M q) (q, Bd)) H1) : va_P G.1 vwCl (zws (sh ++ [(q, Bd)]) b G.2.1 (zclr M q)) H1 := by
  rw [zws_push hfr]
  refine hP.app (fun k x hx => ?_)
  have hk : k < 1 := (List.getElem?_eq_some_iff.mp hx).1
  rw [show k = 0 by omega] at hx
  cases hx
  exact hat
theorem zpushs {G : zG} {b : Nat} {H1 : Heap} : ∀ (xs sh : List zS) (M : zM), va_P G.1 vwCl (zws sh b G.2.1 M) H1 → zND sh → (∀ x ∈ xs, ∀ y ∈ sh, y.1 ≠ x.1) → xs.Pairwise (fun x y => x.1 ≠ y.1) → (∀ i x, xs[i]? = some x → ∀ M' : zM, zat M' x.1 = (fun _ => 0) → va_at G.1 vwCl (b + (sh.length + i), zE b G.2.1 M' x) H1) → va_P G.1 vwCl (zws (sh ++ xs) b G.2.1 (zclrs M xs)) H1 ∧ zND (sh ++ xs)
  | [], sh, M, hP, hN, _, _, _ => by
    rw [List.append_nil]
    exact ⟨hP, hN⟩
  | (q, Bd) :: xs, sh, M, hP, hN, hd, hp, ha => by
    have hf : ∀ y ∈ sh, y.1 ≠ q := hd _ List.mem_cons_self
    have h1 := zpush2 (Bd := Bd) hP hf (ha 0 _ rfl _ (zat_clr_self M q))
    obtain ⟨p1, p2⟩ := List.pairwise_cons.mp hp
    have h2 := zpushs xs (sh ++ [(q, Bd)]) (zclr M q) h1 (zND_push hN hf) (fun x hx y hy => by
      rcases List.mem_append.mp hy with h | h
      · exact hd x (List.mem_cons_of_mem _ hx) y h
      · obtain rfl : y = (q, Bd) := by simpa using h
        exact p1 x hx) p2 (fun i y hy M' hz => by
      have h3 := ha (i + 1) y hy M' hz
      rw [List.length_append, List.length_singleton, Nat.add_assoc, Nat.add_comm 1 i]
      exact h3)
    rw [show sh ++ (q, Bd) :: xs = sh ++ [(q, Bd)] ++ xs by simp]
    exact h2
section ZMULTI
variable {X : zX} {l : Launch} {G : zG} {b : Nat} {cc : ByteArray} {nL : Nat} {own : String} {d : Nat} {sh0 r : List zS} {M : zM} {pc : Nat} {L : List (Option Value)} {st : List Value} {kc ks : Nat}
/-- the cells of an array of arrays of ints -/
theorem z_multi (C : zOK X l G b cc nL own d) (I : zIn X) (A2 : zAl2 X sh0 kc ks) {index N K : Nat} {n k : Int32} (q : Nat × Nat × Nat) {rs : List (Option Nat)} {xs r' : List zS} (hdg : decode cc pc = .ok (.multianewarray index 2, 4)) (hw : Cond.classLink own index "[[I" ∈ zT) (hn0 : ¬ n < 0) (hk0 : ¬ k < 0) (hN0 : n.toNatClampNeg = N) (hK0 : k.toNatClampNeg = K) (hb1 : N * 4 ≤ 536870912) (hb2 : K * 4 ≤ 536870912) (hrl : rs.length = N) (hrs : ∀ j, j < N → rs.getD j none = some (sh0.length + r.length + 1 + j)) (hxl : xs.length = N) (hxs : ∀ (j : Nat) (x : zS), xs[j]? = some x → x.2 = .inr (.inl (0, K))) (hlen : (sh0 ++ r).length + N < 262) (hfr : ∀ x ∈ (q, .inr (.inr (6, rs))) :: xs, ∀ y ∈ sh0 ++ r, y.1 ≠ x.1) (hpw : ((q, .inr (.inr (6, rs))) :: xs).Pairwise (fun x y => x.1 ≠ y.1)) (h1 : r.length + 1 + N ≤ kc) (h2 : zsl r + N + N * K ≤ ks) (hzx : zsl xs = N * K) (hr : r ++ (q, .inr (.inr (6, rs))) :: xs = r') (kk : zW X (sh0 ++ r') (zclrs M ((q, .inr (.inr (6, rs))) :: xs)) (pc + 4) L (.ref (b + (sh0.length + r.length)) :: st)) : zW X (sh0 ++ r) M pc L (.int k :: .int n :: st) := by
  subst hr
  subst hN0
  subst hK0
  obtain ⟨p, l', e, R, s, m, args, below, meth, c, Q, n0, s0, G', b'⟩ := X
  obtain ⟨rfl, rfl, rfl, hx, hb, hml, hown, hts, hAm, hbz, hd1, hd2⟩ := C
  obtain ⟨a1, a2⟩ := A2
  intro H locs ls hP hz hS hN hn hs hL
  have hzz := hz (by omega)
  have ln : (sh0 ++ r).length = sh0.length + r.length := List.length_append
  have sn : zsl (sh0 ++ r) = zsl sh0 + zsl r := zsl_app _ _
  have ln2 : (sh0 ++ (r ++ (q, .inr (.inr (6, rs))) :: xs)).length = (sh0 ++ r).length + 1 + n.toNatClampNeg := by
    rw [← List.append_assoc, List.length_append, List.length_cons, hxl]
    omega
  have sn2 : zsl (sh0 ++ (r ++ (q, .inr (.inr (6, rs))) :: xs)) = zsl (sh0 ++ r) + n.toNatClampNeg + n.toNatClampNeg * k.toNatClampNeg := by
    rw [← List.append_assoc, zsl_app (sh0 ++ r)]
    show _ + (rs.length + zsl xs) = _
    rw [hrl, hzx]
    omega
  obtain ⟨cA, cI, kA, g1, g2, g3, g4⟩ := I.1.1
  obtain rfl : G'.2.1 6 = cA := Option.some.inj ((show s.vm.findClass "[[I" = some (G'.2.1 6) from (hAm.1.2 6 _ rfl).2).symm.trans g1)
  obtain rfl : G'.2.1 0 = cI := Option.some.inj ((show s.vm.findClass "[I" = some (G'.2.1 0) from (hAm.1.2 0 _ rfl).2).symm.trans g4)
  refine W.mt hx hb hown (hts _ hw) (hts _ q1_62) g1 g2 g3 g4 rfl hdg rfl hn0 hk0 hb1 hb2 (by omega) (by omega) fun H1 e1 e2 z1 o1 => ?_
  rw [hzz] at e1 e2 z1 o1
  have hP1 : va_P G'.1 vwCl (zws (sh0 ++ r) b' G'.2.1 M) H1 := hP.kept (fun j x hx => o1 x.1 (by rw [← hzz]; exact (hP j x hx).lt))
  obtain ⟨hP2, hN2⟩ := zpushs ((q, .inr (.inr (6, rs))) :: xs) (sh0 ++ r) M hP1 hN hfr hpw (fun i x hi M' hz0 => by
    cases i with
    | zero =>
      cases hi
      show H1[b' + ((sh0 ++ r).length + 0)]? = some (vp_cell _ _)
      rw [Nat.add_zero, e1, vp_cell_q]
      show some (mtC _ _ _ _) = some (arrV _ rs.length _)
      unfold mtC
      rw [hrl]
      congr 1
      unfold arrV
      congr 2
      funext j
      show (if j.1 < n.toNatClampNeg then Value.ref (b' + (sh0 ++ r).length + 1 + j.1) else Value.null) = va_rf (Option.map (fun r => b' + r) (rs.getD j.1 none))
      rw [if_pos j.2, hrs j.1 j.2]
      show Value.ref _ = Value.ref (b' + (sh0.length + r.length + 1 + j.1))
      rw [ln]
      exact congrArg Value.ref (show b' + (sh0.length + r.length) + 1 + j.1 = b' + (sh0.length + r.length + 1 + j.1) by omega)
    | succ i =>
      have hi' : xs[i]? = some x := hi
      have hil := (List.getElem?_eq_some_iff.mp hi').1
      obtain ⟨xq, xb⟩ := x
      obtain rfl : xb = .inr (.inl (0, k.toNatClampNeg)) := hxs i _ hi'
      show H1[b' + ((sh0 ++ r).length + (i + 1))]? = some (vp_cell _ _)
      rw [vp_cell_i, hz0]
      have h5 := e2 i (by omega)
      rw [show b' + ((sh0 ++ r).length + (i + 1)) = b' + (sh0 ++ r).length + 1 + i by omega]
      exact h5)
  have K := kk H1 locs ls (by rw [← List.append_assoc]; exact hP2) (fun _ => by rw [z1, ln2]; omega) ⟨by have := hS.1; omega, fun x g1 g2 => (o1 x (by have := hS.1; omega)).trans (hS.2.1 x g1 g2), hS.2.2⟩ (by rw [← List.append_assoc]; exact hN2) ⟨by omega, by omega⟩ ⟨by omega, by omega⟩ hL
  rw [hzz, show (sh0 ++ r).length - n0 + 1 + n.toNatClampNeg = (sh0 ++ (r ++ (q, .inr (.inr (6, rs))) :: xs)).length - n0 by omega, show zsl (sh0 ++ r) - s0 + n.toNatClampNeg + n.toNatClampNeg * k.toNatClampNeg = zsl (sh0 ++ (r ++ (q, .inr (.inr (6, rs))) :: xs)) - s0 by omega, ln]
  exact K
end ZMULTI
