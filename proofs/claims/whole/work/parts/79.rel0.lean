/-! THE FIRST RELATION -/
theorem Rel0 {M : zM} (c9 : M 0 0 0 9 = 0) (c10 : M 0 0 0 10 = 0) (hw : wIn M 0) (ht : M 19 0 0 1 = 0) (hs : ∀ s, s < 4 → M 3 s 0 0 = -1 ∧ M 3 s 0 1 = 0 ∧ ∀ k, M 4 s 0 k = 0) (hl : ∀ s, s < 5 → M 25 s 0 0 = 0) (hg : gIn M) (h3 : M 30 0 0 3 = 0) (h7 : M 30 0 0 7 = 0) (h33 : M 30 0 0 33 = 0) : Rel M := by
  obtain ⟨w2, w3, w4, w5, w6, w7, w8, w9, w10, v0, v1, v2⟩ := hw
  obtain ⟨⟨g0, g1, g2, g3, g4, g5, g6, g7, g8⟩, k37, k38, k44, k45, k46, k47⟩ := hg
  have z0 : (0 : Int32).toInt = 0 := rfl
  refine ⟨0, 0, fun _ => 0, fun _ => 0, ⟨?_, ?_, ⟨by decide, fun t ht => absurd ht (Nat.not_lt_zero _)⟩, fun t ht => absurd ht (Nat.not_lt_zero _), w10, fun k hk => ?_, ?_⟩, Or.inl ⟨c10, h3⟩, ⟨0, by decide, ht, h7, fun k hk => absurd hk (Nat.not_lt_zero _)⟩, fun s hs4 => ?_, fun s hs5 => ?_, ⟨0, by decide, c9, h33, fun k hk => absurd hk (Nat.not_lt_zero _)⟩, k37, k38⟩
  · refine ⟨w2, by decide, fun i hi => absurd hi (Nat.not_lt_zero _), ?_, ?_, ?_, ?_, ?_⟩
    · show 0 ≤ (M 5 0 0 3).toInt ∧ (M 5 0 0 3).toInt ≤ 99
      rw [w3]; decide
    · show 0 ≤ (M 5 0 0 4).toInt ∧ (M 5 0 0 4).toInt ≤ 2
      rw [w4]; decide
    · show -5 ≤ (M 5 0 0 5).toInt ∧ (M 5 0 0 5).toInt ≤ 5
      rw [w5]; decide
    · show 0 ≤ (M 5 0 0 6).toInt ∧ (M 5 0 0 6).toInt ≤ 99
      rw [w6]; decide
    · exact Or.inl w7
  · refine ⟨fun k h1 h2 => ?_, fun i f hi => absurd hi (Nat.not_lt_zero _)⟩
    rcases (show k = 2 ∨ k = 3 ∨ k = 4 ∨ k = 5 ∨ k = 6 ∨ k = 7 ∨ k = 8 ∨ k = 9 ∨ k = 10 by omega) with rfl | rfl | rfl | rfl | rfl | rfl | rfl | rfl | rfl
    · exact w2.trans g1.symm
    · exact w3.trans g3.symm
    · exact w4.trans g4.symm
    · exact w5.trans g5.symm
    · exact w6.trans g6.symm
    · exact w7.trans g7.symm
    · exact w8.trans g2.symm
    · exact w9.trans g0.symm
    · exact w10.trans g8.symm
  · rcases (show k = 0 ∨ k = 1 ∨ k = 2 by omega) with rfl | rfl | rfl
    · exact v0
    · exact v1
    · exact v2
  · unfold tOK
    rw [w8]
    decide
  · obtain ⟨s1, s2, s3⟩ := hs s hs4
    refine ⟨s1.trans (k44 s hs4).symm, by rw [k44 s hs4]; unfold iin; decide, s2.trans (k45 s).symm, by rw [k45 s]; unfold iin; decide, fun k hk => (s3 k).trans (k46 _).symm⟩
  · have e0 := hl s hs5
    have e47 := k47 s
    refine ⟨e0.trans e47.symm, by rw [e47]; unfold iin; decide, fun q => ?_, fun q => ?_, fun q => ?_⟩
    · rw [e47] at q; exact absurd q (by decide)
    · rw [e47] at q; exact absurd q (by decide)
    · rw [e47] at q; exact absurd q (by decide)
