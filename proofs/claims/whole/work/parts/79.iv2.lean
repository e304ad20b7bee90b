/-! parse; the answers read the table for the programs that there are -/
section IVP
variable {S S1 S2 : mS} {L L1 L3 L2 : mL} {R R1 : mR} {T c N : NN} {d n B u : Nat} {UR SR : Nat → NN} {sf : Nat → Nat} {un : Nat → Nat} {f : Nat} {nm : Nat → List Nat}
theorem iv_parse_n {len : Nat} (h : IV S L R T c d n B u N UR SR sf un f nm) (hb : ¬ (yPh un len).1.1 = 0) (hC : cPr S S1 L L1 R1 un len T c d n B u N UR SR sf) (hL : LQ L1 L3) (hQ : rPr S1 S2 L3 L2 un len) : IV S2 L2 R1 T c d n B u N UR SR sf un 0 nm := by
  obtain ⟨-, hR, hT⟩ := h
  obtain ⟨c1, c2, c3, c4, c5, -⟩ := hC
  obtain ⟨⟨x, ph, c6⟩, c7⟩ := c5 hb
  obtain ⟨q1, q2, q3, q4, q5, q6, -⟩ := hQ
  obtain ⟨q7, q8, q9⟩ := q6 hb
  have e : ∀ k, 40 < k → ¬ (k = 46 ∨ k = 48) → S2 k 0 = S k 0 := fun k hk hn => (q7 k 0 (by omega) (by omega) (by omega)).trans (by rw [c3 k (by omega)])
  have e40 : ∀ j, j = 1 ∨ j = 26 ∨ j = 27 → S2 40 0 j = S 40 0 j := fun j hj => (q8 j hj).trans (by rw [c3 40 (by omega)])
  refine ⟨⟨x, ph, c6.hi (fun k i hk => q4 k i (Or.inl hk))⟩, hR.to (e 44 (by omega) (by omega)) (e40 1 (by omega)) (e40 27 (by omega)) (e 41 (by omega) (by omega)) (e 43 (by omega) (by omega)) (e 51 (by omega) (by omega)) (e 52 (by omega) (by omega)) (e 53 (by omega) (by omega)) ?_ ?_, ?_, ?_, ?_⟩
  · rw [q5 4 d (by omega), hL 4 d (by omega), c7]
  · rw [q9, hL 42 0 (by omega), c4 42 (by omega)]
  · rw [q4 0 0 (by omega), c1, q3]
  · exact ⟨by rw [q4 1 0 (by omega)]; exact c2, by omega, hT.2.1.2.2.1, fun j hj => absurd hj (Nat.not_lt_zero _)⟩
  · exact ⟨q2, by omega, hT.2.1.2.2.1, fun j hj => absurd hj (Nat.not_lt_zero _)⟩
theorem sA4_in {A : NN} (h : ∀ j, j < 4 → S2 43 0 j = A j) : ∀ k i j, mrg k j → S2 k i j = sA S2 43 A k i j := by
  intro k i j hj
  unfold sA
  split
  · rename_i e
    obtain ⟨rfl, rfl⟩ := e
    exact h j hj
  · rfl
theorem iv_parse_y {len : Nat} (h : IV S L R T c d n B u N UR SR sf un f nm) (hb : (yPh un len).1.1 = 0) (hC : cPr S S1 L L1 R1 un len T c d n B u N UR SR sf) (hL : LQ L1 L3) (hQ : rPr S1 S2 L3 L2 un len) : (∀ k i j, mrg k j → S2 k i j = sA S2 43 (yPh un len).2.c k i j) ∧ ∃ T', IV (sA S2 43 (yPh un len).2.c) L2 R1 T' (yPh un len).2.c (1 - d) (yPh un len).2.k B 0 (fBeg (nI (yPh un len).2.lim) (nI (yPh un len).2.pol)) UR SR (fun _ => 0) un 0 (yPh un len).2.nm := by
  obtain ⟨-, hR, hT⟩ := h
  obtain ⟨c1, c2, c3, c4, -, c5⟩ := hC
  obtain ⟨T', ⟨x, ph, c6⟩, c7, c8⟩ := c5 hb
  obtain ⟨q1, q2, q3, q4, q5, -, q6⟩ := hQ
  obtain ⟨q7, q8, q9, q10, q11, q12, q13⟩ := q6 hb
  have hD := yPh_ok hb
  have e : ∀ k i, k ≠ 43 → sA S2 43 (yPh un len).2.c k i = S2 k i := fun k i hk => sA_n _ _ hk
  refine ⟨sA4_in q9, T', ⟨x, ph, c6.hi (fun k i hk => (e k i (by omega)).trans (q4 k i (Or.inl hk)))⟩, ⟨by rw [e 44 0 (by omega)]; exact q10, by rw [e 40 0 (by omega)]; exact q7, by rw [e 40 0 (by omega)]; exact q11, ?_, sA_s _ _ _, hD.2.2.1, fun j hj => absurd hj (Nat.not_lt_zero _), fun s hs => ?_, fun j hj => ⟨hD.2.2.2.2.2 j hj, ?_, q13 j hj⟩⟩, ?_, ?_, ?_⟩
  · rw [e 41 0 (by omega)]
    exact fun p w hp hw => (c7 p w hp hw).trans (q8 p w hp hw).symm
  · rw [e 53 0 (by omega)]
    exact ⟨q12 s hs, fun z => absurd z (show ¬ (0 : Nat) = 1 by decide)⟩
  · rw [q5 4 (1 - d) (by omega), hL 4 _ (by omega)]
    exact c8 j hj
  · rw [e 0 0 (by omega), e 40 0 (by omega), q4 0 0 (by omega), c1, q3]
  · exact ⟨by rw [e 1 0 (by omega), q4 1 0 (by omega)]; exact c2, by omega, hT.2.1.2.2.1, fun j hj => absurd hj (Nat.not_lt_zero _)⟩
  · exact ⟨by rw [e 40 0 (by omega)]; exact q2, by omega, hT.2.1.2.2.1, fun j hj => absurd hj (Nat.not_lt_zero _)⟩
end IVP
theorem qSize_T {S : mS} {N T : NN} {n u w : Nat} (h44 : S 44 0 = N) (hu : S 40 0 27 = nI u) (hT : TE T (S 41 0) n) : qSize S n w = cSize N T n u w := by
  subst h44
  unfold qSize cSize
  split
  · rfl
  · rfl
  · exact (fAll_T hT).symm
  · rfl
  · rfl
  · rfl
  · rfl
  · rfl
  · rename_i h0 h1 h2 h3 h4 h5 h6 h7
    split <;> first | contradiction | exact hu
theorem qProg_T {N T U : NN} {n p w : Nat} (h : TE T U n) (hp : p < n) : qProg N T p w = qProg N U p w := by
  unfold qProg
  rw [fUses_T h hp]
theorem qFreed_T {N T U : NN} {n k : Nat} (h : TE T U n) : qFreed N T n k = qFreed N U n k := by
  unfold qFreed
  rw [fVic_T h]
  cases fVic N U n k with
  | none => rfl
  | some p => simp only [fAll_T h]
theorem qWhy_T {N T U c : NN} {n p : Nat} (h : TE T U n) (hp : p < n) : qWhy N T c n p = qWhy N U c n p := by
  unfold qWhy
  rw [fShowR_T h hp, fPgs_T h hp]
theorem qTrims_T {N T U c : NN} {n p : Nat} (h : TE T U n) (hp : p < n) : qTrims N T c n p = qTrims N U c n p := by
  unfold qTrims
  rw [fShowR_T h hp]
theorem qState_T {N T U c : NN} {n s p : Nat} (h : TE T U n) (hp : s < n) : qState N T c n s p = qState N U c n s p := by
  unfold qState
  rw [fShowR_T h hp]
theorem qW1_T {N T U c : NN} {n p : Nat} (h : TE T U n) (hp : p < n) : qW1 N T c n p = qW1 N U c n p := by
  unfold qW1
  rw [fShowR_T h hp]
theorem qWaits_T {N T U c : NN} {n a b d : Nat} {pol : Int32} (h : TE T U n) (ha : a < n) (hb : b < n) (hd : d < n) : qWaits N T c n pol a b d = qWaits N U c n pol a b d := by
  unfold qWaits
  simp only [fShowR_T h ha, fShowR_T h hb, qW1_T h ha, qW1_T h hb, qW1_T h hd]
