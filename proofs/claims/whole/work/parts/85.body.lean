/-! THE LAW: from its entry to its loop -/
def zNsX (X : zX) : Prop := match X with
  | (_, _, _, _, s, _, _, _, _, _, _, _, _, _, _) => zNst s
section ZLAW2
variable {X : zX} {l : Launch} {G : zG} {b : Nat} {cc : ByteArray} {nL : Nat} {own : String} {d : Nat} {M : zM} {pc : Nat} {L : List (Option Value)} {st rest : List Value} {kc ks : Nat}
variable {y : MethodName} {cy : ByteArray} {ny ky index h a : Nat} {As : List Value} {post : zM → Prop} {S S1 S2 : List zS}
theorem c_callL (S' : List zS) (C : zOK X l G b cc nL own d) (Ns : zNsX X) (A2 : zAl2 X [] kc ks) (hdg : decode cc pc = .ok (.invokespecial index, 3)) (hw : zCI own index y cy ny ky) (hM : zMk l G b y cy ny h S1 S2 (.ref a :: As) M post) (hs1 : S1 = S) (he : S2 = S') (h1 : S'.length ≤ kc) (h2 : zsl S' ≤ ks) (hd : h + 1 ≤ d) (hn : As.length = ky) (hst : st = As.reverse ++ .ref a :: rest) (hr : (rest.map fun v => v.category).sum ≤ 8) (kk : ∀ M', post M' → zW X S' M' (pc + 3) L rest) : zW X S M pc L st := by
  subst he
  subst hs1
  obtain ⟨p, l', e, R, s, m, args, below, meth, c, Q, n0, s0, G', b'⟩ := X
  obtain ⟨rfl, rfl, rfl, hx, hb, hml, hown, hts, hAm, hbz, hd1, hd2⟩ := C
  obtain ⟨w1, w2, w3, w5, w6, w7, w8⟩ := hw
  obtain ⟨hle, hsl, hMM⟩ := hM
  obtain ⟨a1, a2⟩ := A2
  have hNs : zNst s := Ns
  subst hst
  rw [List.length_nil, Nat.zero_add] at a1
  rw [show zsl [] = 0 from rfl, Nat.zero_add] at a2
  intro H locs ls hP hz hS hN hn' hs hL
  have hpre := zpre2 (av := .ref a :: As) hNs hAm hbz hP hz hS hN
  refine zcall (va_runI (As := As) (rest := rest) (n := ky) (nL := nL) ⟨hx, hb, hml, hown, hts⟩ hMM ⟨callB_of ky hts (zT_code w1) rfl rfl rfl (hts _ w5) (hts _ w2) w6 ⟨?_, ?_⟩, w8, hts _ w3⟩ hpre rfl hn (hL.1.1.trans hml) rfl ?_ hdg ⟨?_, ?_⟩) hle hsl hS hn'.1 hs.1 (by omega) (by omega) hL (fun v M' hv => by obtain ⟨rfl, hp⟩ := hv; exact kk M' hp)
  · show h + 1 ≤ R.frames
    omega
  · show 8 + (ny + 11) + 40 * h ≤ R.locals
    omega
  · exact lv_room hr
  · omega
  · omega
end ZLAW2
def sM1 : List zS := sA50 ++ [((30, 0, 0), .inl (10, [some none, some none, some none, none, some none, some none, some none, none, none, none, none, none, none, none, some none, some none, some none, none, none, some none, none, some none, some none, some none, some none, some none, some none, some none, some none, some none, some none, some none, some none, none]))]
set_option maxHeartbeats 1600000 in
set_option maxRecDepth 100000 in
theorem lw_body {X : zX} {l : Launch} {G : zG} {b : Nat} {M : zM} {sc L : Nat} {xs : Nat → Int32} (C : zOK X l G b cL_law 4 RL 2048) (Ns : zNsX X) (A2 : zAl2 X [] 262 9753) (Sc : zScr X sc L xs) (hL : L ≤ 3072) (fin : ∀ M Lc, zW X zshL M 1355 Lc [.int 1]) : zW X [] M 0 [some (.ref sc), none, none, none] [] := by
  refine c_new (pc := 0) (S := []) (0, 0, 0) 0 sA0 C A2 dL_law_0 wL_7 rfl (by decide) (fun x hx => absurd hx List.not_mem_nil) (by decide) (by decide +kernel) rfl ?_
  refine z_dup (pc := 3) C dL_law_3 rfl ?_
  refine c_callL (pc := 4) (S := sA0) sA50 C Ns A2 dL_law_4 jL_9 mX9_init rfl rfl (by decide +kernel) (by decide +kernel) (by decide) rfl rfl (Nat.le_of_ble_eq_true rfl) (fun M1 h1 => ?_)
  refine z_astore_n (pc := 7) (L' := [some (.ref sc), some (.ref (b + 0)), none, none]) C 1 dL_law_7 rfl (by decide) rfl ?_
  refine c_new (pc := 8) (S := sA50) (30, 0, 0) 239 sM1 C A2 dL_law_8 wL_10 MSN_len (by decide) (by decide +kernel) (by decide) (by decide +kernel) rfl ?_
  refine z_dup (pc := 11) C dL_law_11 rfl ?_
  refine c_callL (pc := 12) (S := sM1) zshL C Ns A2 dL_law_12 jL_12 (mX10_init (sh0 := sA50) (n := 239) MSN_len.symm (by rw [MSN_len]; decide) MSN_fresh) rfl MSN_shape (by decide +kernel) (by decide +kernel) (by decide) rfl rfl (Nat.le_of_ble_eq_true rfl) (fun M2 h2 => ?_)
  refine z_astore_n (pc := 15) (L' := [some (.ref sc), some (.ref (b + 0)), some (.ref (b + 239)), none]) C 2 dL_law_15 rfl (by decide) rfl ?_
  refine z_iconst (pc := 16) (v := 0) C dL_law_16 rfl ?_
  refine z_istore_n (pc := 17) (L' := lwL b sc 0) C 3 dL_law_17 rfl (by decide) rfl ?_
  have k : ∀ a i j f, a < 30 → M2 a i j f = M1 a i j f := fun a i j f ha => (h2.2 a i j f (by omega)).trans (zcl_ne (by show ¬ (a = 30 ∧ i = 0 ∧ j = 0); omega))
  have k30 : ∀ f, M2 30 0 0 f = 0 := fun f => (h2.2 30 0 0 f (by omega)).trans zcl_s
  obtain ⟨c9, c10, ⟨w2, w3, w4, w5, w6, w7, w8, w9, w10, v0, v1, v2⟩, ht, hs, hl⟩ := h1
  refine lw_loop C Sc hL fin (L + 1) 0 M2 (Nat.zero_le _) (by omega) (Rel0 ((k 0 0 0 9 (by decide)).trans c9) ((k 0 0 0 10 (by decide)).trans c10) ⟨(k 5 0 0 2 (by decide)).trans w2, (k 5 0 0 3 (by decide)).trans w3, (k 5 0 0 4 (by decide)).trans w4, (k 5 0 0 5 (by decide)).trans w5, (k 5 0 0 6 (by decide)).trans w6, (k 5 0 0 7 (by decide)).trans w7, (k 5 0 0 8 (by decide)).trans w8, (k 5 0 0 9 (by decide)).trans w9, (k 5 0 0 10 (by decide)).trans w10, (k 6 0 0 0 (by decide)).trans v0, (k 6 0 0 1 (by decide)).trans v1, (k 6 0 0 2 (by decide)).trans v2⟩ ((k 19 0 0 1 (by decide)).trans ht) (fun s h => ⟨(k 3 s 0 0 (by decide)).trans (hs s h).1, (k 3 s 0 1 (by decide)).trans (hs s h).2.1, fun q => (k 4 s 0 q (by decide)).trans ((hs s h).2.2 q)⟩) (fun s h => (k 25 s 0 0 (by decide)).trans (hl s h)) h2.1 (k30 3) (k30 7) (k30 33))
