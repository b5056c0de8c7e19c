/-! MAKING: rows over a shape as a whole -/
theorem zxs_all {xs : List zS} {K : Nat} (h : ∀ x ∈ xs, x.2 = .inr (.inl (0, K))) (j : Nat) (x : zS) (hj : xs[j]? = some x) : x.2 = .inr (.inl (0, K)) := h x (List.mem_of_getElem? hj)
theorem clrs_ne {a i j f : Nat} : ∀ {xs : List zS} {M : zM}, (∀ x ∈ xs, ¬ (a = x.1.1 ∧ i = x.1.2.1 ∧ j = x.1.2.2)) → zclrs M xs a i j f = M a i j f
  | [], _, _ => rfl
  | x :: xs, M, h => by
    rw [zclrs, clrs_ne (fun y hy => h y (List.mem_cons_of_mem _ hy)), zcl_ne (h x List.mem_cons_self)]
def zDB : DecidableEq zB := fun x y => match x, y with
  | .inl a, .inl c => if h : a = c then isTrue (by rw [h]) else isFalse (fun q => h (Sum.inl.inj q))
  | .inr (.inl a), .inr (.inl c) => if h : a = c then isTrue (by rw [h]) else isFalse (fun q => h (Sum.inl.inj (Sum.inr.inj q)))
  | .inr (.inr a), .inr (.inr c) => if h : a = c then isTrue (by rw [h]) else isFalse (fun q => h (Sum.inr.inj (Sum.inr.inj q)))
  | .inl _, .inr _ => isFalse (fun q => by cases q)
  | .inr _, .inl _ => isFalse (fun q => by cases q)
  | .inr (.inl _), .inr (.inr _) => isFalse (fun q => by cases q)
  | .inr (.inr _), .inr (.inl _) => isFalse (fun q => by cases q)
def zDS : DecidableEq zS := letI : DecidableEq zB := zDB; inferInstance
def zDO : DecidableEq (Option zS) := letI : DecidableEq zS := zDS; inferInstance
def zDL : DecidableEq (List zS) := letI : DecidableEq zS := zDS; inferInstance
theorem zgt {S : List zS} {k : Nat} {x : zS} (h : @decide _ (zDO (S[k]?) (some x)) = true) : S[k]? = some x := @of_decide_eq_true _ (zDO _ _) h
theorem zeL {S S' : List zS} (h : @decide _ (zDL S S') = true) : S = S' := @of_decide_eq_true _ (zDL _ _) h
section ZCL
variable {X : zX} {l : Launch} {G : zG} {b : Nat} {cc : ByteArray} {nL : Nat} {own : String} {d : Nat} {S : List zS} {M : zM} {pc : Nat} {L : List (Option Value)} {st rest : List Value} {kc ks : Nat}
theorem c_new {index ci : Nat} {fl : List (Option (Option Nat))} (q : Nat × Nat × Nat) (n : Nat) (S' : List zS) (C : zOK X l G b cc nL own d) (A2 : zAl2 X [] kc ks) (hdg : decode cc pc = .ok (.new index, 3)) (hw : zNw own index ci fl) (hn : S.length = n) (hlen : n < 262) (hfr : ∀ x ∈ S, x.1 ≠ q) (h1 : n + 1 ≤ kc) (h2 : zsl S + fl.length ≤ ks) (hr : S ++ [(q, .inl (ci, fl))] = S') (kk : zW X S' (zclr M q) (pc + 3) L (.ref (b + n) :: st)) : zW X S M pc L st := by
  subst hn
  refine z_new (sh0 := []) (r := S) C A2 q hdg hw hlen hfr h1 h2 hr ?_
  rw [List.length_nil, Nat.zero_add]
  exact kk
theorem c_newa {atype : ArrayType} {t N : Nat} {ty : FieldType} (q : Nat × Nat × Nat) (m : Nat) (S' : List zS) {n : Int32} (C : zOK X l G b cc nL own d) (A2 : zAl2 X [] kc ks) (hdg : decode cc pc = .ok (.newarray atype, 2)) (hw : Cond.arrayClass (newarray.typeOf atype) ∈ zT) (hty : newarray.typeOf atype = ty) (ht : (zty G.2.1)[t]? = some (G.2.1 t, ty)) (hra : ∀ U c, va_RA U c ty → U.vm.findClass ("[" ++ ty.toString) = some c) (hdv : defaultValue ty = .int 0) (hn0 : ¬ n < 0) (hN0 : n.toNatClampNeg = N) (hby : N * componentBytes ty ≤ 536870912) (hn : S.length = m) (hlen : m < 262) (hfr : ∀ x ∈ S, x.1 ≠ q) (h1 : m + 1 ≤ kc) (h2 : zsl S + N ≤ ks) (hr : S ++ [(q, .inr (.inl (t, N)))] = S') (kk : zW X S' (zclr M q) (pc + 2) L (.ref (b + m) :: st)) : zW X S M pc L (.int n :: st) := by
  subst hn
  refine z_newa (sh0 := []) (r := S) C A2 q hdg hw hty ht hra hdv hn0 hN0 hby hlen hfr h1 h2 hr ?_
  rw [List.length_nil, Nat.zero_add]
  exact kk
theorem c_anew {index t N : Nat} {Cn : String} {rs : List (Option Nat)} (q : Nat × Nat × Nat) (m : Nat) (S' : List zS) {n : Int32} (C : zOK X l G b cc nL own d) (I : zIn X) (A2 : zAl2 X [] kc ks) (hdg : decode cc pc = .ok (.anewarray index, 3)) (hw : Cond.classLink own index Cn ∈ zT) (hao : Cn ∈ zAO) (ht : (zty G.2.1)[t]? = some (G.2.1 t, .object Cn)) (hn0 : ¬ n < 0) (hN0 : n.toNatClampNeg = N) (hby : N * 4 ≤ 536870912) (hrl : rs.length = N) (hrs : ∀ k, rs.getD k none = none) (hn : S.length = m) (hlen : m < 262) (hfr : ∀ x ∈ S, x.1 ≠ q) (h1 : m + 1 ≤ kc) (h2 : zsl S + N ≤ ks) (hr : S ++ [(q, .inr (.inr (t, rs)))] = S') (kk : zW X S' (zclr M q) (pc + 3) L (.ref (b + m) :: st)) : zW X S M pc L (.int n :: st) := by
  subst hn
  refine z_anew (sh0 := []) (r := S) C I A2 q hdg hw hao ht hn0 hN0 hby hrl hrs hlen hfr h1 h2 hr ?_
  rw [List.length_nil, Nat.zero_add]
  exact kk
theorem c_putR {index ci f k v : Nat} {ty : FieldType} {q : Nat × Nat × Nat} {fl : List (Option (Option Nat))} (S' : List zS) (C : zOK X l G b cc nL own d) (I : zIn X) (hdg : decode cc pc = .ok (.putfield index, 3)) (hf : zFl2 own index ci f ty) (hsh : S[k]? = some (q, .inl (ci, fl))) (hl : f < fl.length) (hnr : narrow ty (.ref (b + v)) = .ref (b + v)) (hft : fits ty (.ref (b + v)) = true) (hr : S.set k (q, .inl (ci, fl.set f (some (some v)))) = S') (kk : zW X S' M (pc + 3) L st) : zW X S M pc L (.ref (b + v) :: .ref (b + k) :: st) := by
  have K := z_putR (sh0 := []) (r := S) (r' := S') (st := st) (v := v) (k := k) (M := M) (L := L) C I hdg hf hsh hl hnr hft hr kk
  rw [List.length_nil, Nat.zero_add] at K
  exact K
theorem c_aast {t k k2 ci i : Nat} {q q2 : Nat × Nat × Nat} {rs : List (Option Nat)} {fl : List (Option (Option Nat))} {Cn : String} {T : u_T} {N : Nat} {n : Int32} (S' : List zS) (C : zOK X l G b cc nL own d) (hdg : decode cc pc = .ok (.aastore, 1)) (hsh : S[k]? = some (q, .inr (.inr (t, rs)))) (hv : S[k2]? = some (q2, .inl (ci, fl))) (hci : vwCl[ci]? = some (Cn, T, N)) (ht : (zty G.2.1)[t]? = some (G.2.1 t, .object Cn)) (hin : vp_in n rs.length) (hi : n.toNatClampNeg = i) (hr : S.set k (q, .inr (.inr (t, rs.set i (some k2)))) = S') (kk : zW X S' M (pc + 1) L st) : zW X S M pc L (.ref (b + k2) :: .int n :: .ref (b + k) :: st) := by
  have K := z_aast (sh0 := []) (r := S) (r' := S') (st := st) (v := k2) (k := k) (k2 := k2) (M := M) (L := L) C hdg hsh hv hci ht hin hi (Nat.zero_add _).symm hr kk
  rw [List.length_nil, Nat.zero_add] at K
  exact K
theorem c_multi {index N K : Nat} {n k : Int32} {rs : List (Option Nat)} {xs : List zS} (q : Nat × Nat × Nat) (m : Nat) (S' : List zS) (C : zOK X l G b cc nL own d) (I : zIn X) (A2 : zAl2 X [] kc ks) (hdg : decode cc pc = .ok (.multianewarray index 2, 4)) (hw : Cond.classLink own index "[[I" ∈ zT) (hn0 : ¬ n < 0) (hk0 : ¬ k < 0) (hN0 : n.toNatClampNeg = N) (hK0 : k.toNatClampNeg = K) (hb1 : N * 4 ≤ 536870912) (hb2 : K * 4 ≤ 536870912) (hrl : rs.length = N) (hrs : ∀ j, j < N → rs.getD j none = some (m + 1 + j)) (hxl : xs.length = N) (hxs : ∀ (j : Nat) (x : zS), xs[j]? = some x → x.2 = .inr (.inl (0, K))) (hn : S.length = m) (hlen : m + N < 262) (hfr : ∀ x ∈ (q, .inr (.inr (6, rs))) :: xs, ∀ y ∈ S, y.1 ≠ x.1) (hpw : ((q, .inr (.inr (6, rs))) :: xs).Pairwise (fun x y => x.1 ≠ y.1)) (h1 : m + 1 + N ≤ kc) (h2 : zsl S + N + N * K ≤ ks) (hzx : zsl xs = N * K) (hr : S ++ (q, .inr (.inr (6, rs))) :: xs = S') (kk : zW X S' (zclrs M ((q, .inr (.inr (6, rs))) :: xs)) (pc + 4) L (.ref (b + m) :: st)) : zW X S M pc L (.int k :: .int n :: st) := by
  subst hn
  refine z_multi (sh0 := []) (r := S) C I A2 q hdg hw hn0 hk0 hN0 hK0 hb1 hb2 hrl (fun j hj => by rw [List.length_nil, Nat.zero_add]; exact hrs j hj) hxl hxs hlen hfr hpw h1 h2 hzx hr ?_
  rw [List.length_nil, Nat.zero_add]
  exact kk
variable {y : MethodName} {cy : ByteArray} {ny ky index h a : Nat} {As : List Value} {post : zM → Prop} {S1 S2 : List zS}
theorem c_callI (S' : List zS) (C : zOK X l G b cc nL own d) (I : zIn X) (A2 : zAl2 X [] kc ks) (hdg : decode cc pc = .ok (.invokespecial index, 3)) (hw : zCI own index y cy ny ky) (hM : zMk l G b y cy ny h S1 S2 (.ref a :: As) M post) (hs1 : S1 = S) (he : S2 = S') (h1 : S'.length ≤ kc) (h2 : zsl S' ≤ ks) (hd : h + 1 ≤ d) (hn : As.length = ky) (hst : st = As.reverse ++ .ref a :: rest) (hr : (rest.map fun v => v.category).sum ≤ 8) (kk : ∀ M', post M' → zW X S' M' (pc + 3) L rest) : zW X S M pc L st :=
  z_callI (sh0 := []) (r := S) (r' := S') C I A2 hdg hw hM hs1 he h1 h2 hd hn hst hr kk
theorem c_callN (S' : List zS) (C : zOK X l G b cc nL own d) (I : zIn X) (A2 : zAl2 X [] kc ks) (hdg : decode cc pc = .ok (.invokespecial index, 3)) (hw : zCN own index y cy ny ky) (hM : zMk l G b y cy ny h S1 S2 (.ref a :: As) M post) (hs1 : S1 = S) (he : S2 = S') (h1 : S'.length ≤ kc) (h2 : zsl S' ≤ ks) (hd : h + 1 ≤ d) (hn : As.length = ky) (hst : st = As.reverse ++ .ref a :: rest) (hr : (rest.map fun v => v.category).sum ≤ 8) (kk : ∀ M', post M' → zW X S' M' (pc + 3) L rest) : zW X S M pc L st :=
  z_callN (sh0 := []) (r := S) (r' := S') C I A2 hdg hw hM hs1 he h1 h2 hd hn hst hr kk
end ZCL
