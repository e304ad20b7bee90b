/-! WHAT HOLDS BETWEEN THE CALLS: the class's world and the reference's -/
def RV (S : mS) (L : mL) (T c : NN) (d n u : Nat) (N : NN) (UR SR : Nat → NN) (sf : Nat → Nat) (nm : Nat → List Nat) : Prop :=
  S 44 0 = N ∧ S 40 0 1 = nI n ∧ S 40 0 27 = nI u ∧ TE T (S 41 0) n ∧ S 43 0 = c ∧ cO c ∧ (∀ j, j < u → ∀ w, w < 438 → S 51 0 (438 * j + w) = UR j w) ∧ (∀ s, s < 2 → S 53 0 s = nI (sf s) ∧ (sf s = 1 → ∀ w, w < 438 → S 52 0 (438 * s + w) = SR s w)) ∧ ∀ j, j < n → nOK (nm j) ∧ L 4 d j = lN (e32 (nm j)) ∧ L 42 0 j = lN (e256 (nm j))
def TV (S : mS) (un : Nat → Nat) (f : Nat) : Prop := S 0 0 1 = S 40 0 15 ∧ cT S un f ∧ rTx S un f
def IV (S : mS) (L : mL) (R : mR) (T c : NN) (d n B u : Nat) (N : NN) (UR SR : Nat → NN) (sf : Nat → Nat) (un : Nat → Nat) (f : Nat) (nm : Nat → List Nat) : Prop :=
  (∃ x ph, CS S R T c d n B x u ph N UR SR sf) ∧ RV S L T c d n u N UR SR sf nm ∧ TV S un f
def LQ (L L1 : mL) : Prop := ∀ k i, k ≠ 60 → L1 k i = L k i
theorem LQ.rf (L : mL) : LQ L L := fun _ _ _ => rfl
theorem LQ.of {L L1 : mL} (h : L = L1) : LQ L L1 := by subst h; exact LQ.rf _
theorem LQ.up {L L1 : mL} (h : LQ L L1) {j : Nat} {v : Int64} : LQ L (up3 L1 60 0 j v) := fun k i hk => by rw [up3_k _ hk]; exact h k i hk
theorem VR.hi {S S2 : mS} {R : mR} {T N : NN} {d n B w : Nat} (h : VR S R T d n B w N) (e : ∀ k i, k < 40 → S2 k i = S k i) : VR S2 R T d n B w N := h.off (fun k _ _ => e k w (by omega)) rfl rfl
theorem CS.hi {S S2 : mS} {R : mR} {T c N : NN} {d n B x u : Nat} {ph : Nat → Nat} {UR SR : Nat → NN} {sf : Nat → Nat} (h : CS S R T c d n B x u ph N UR SR sf) (e : ∀ k i, k < 40 → S2 k i = S k i) : CS S2 R T c d n B x u ph N UR SR sf := by
  obtain ⟨h1, h2, ⟨a1, a2, a3, ⟨a4, a5⟩, a6, a7, a8⟩, h4, h5, h6, h7, h8⟩ := h
  refine ⟨h1, h2, ⟨a1, a2, a3, ⟨by rw [e 3 d (by omega)]; exact a4, fun p w hp hw => by rw [e 6 _ (by omega)]; exact a5 p w hp hw⟩, ?_, a7, a8⟩, by rw [e 31 0 (by omega)]; exact h4, h5.hi e, fun j hj => (h6 j hj).hi e, fun s hs => ?_, h8⟩
  · unfold AC
    rw [e 3 d (by omega)]
    exact a6
  · obtain ⟨b1, b2, b3⟩ := h7 s hs
    exact ⟨by rw [e 34 0 (by omega)]; exact b1, b2, fun z => (b3 z).hi e⟩
theorem RV.to {S S2 : mS} {L L2 : mL} {T c N : NN} {d n u : Nat} {UR SR : Nat → NN} {sf : Nat → Nat} {nm : Nat → List Nat} (h : RV S L T c d n u N UR SR sf nm) (e44 : S2 44 0 = S 44 0) (e1 : S2 40 0 1 = S 40 0 1) (e27 : S2 40 0 27 = S 40 0 27) (e41 : S2 41 0 = S 41 0) (e43 : S2 43 0 = S 43 0) (e51 : S2 51 0 = S 51 0) (e52 : S2 52 0 = S 52 0) (e53 : S2 53 0 = S 53 0) (l4 : L2 4 d = L 4 d) (l42 : L2 42 0 = L 42 0) : RV S2 L2 T c d n u N UR SR sf nm := by
  unfold RV
  rw [e44, e1, e27, e41, e43, e51, e52, e53, l4, l42]
  exact h
theorem TV.to {S S2 : mS} {un : Nat → Nat} {f : Nat} (h : TV S un f) (e0 : S2 0 0 1 = S 0 0 1) (e15 : S2 40 0 15 = S 40 0 15) (e1 : S2 1 0 1 = S 1 0 1) (e2 : S2 2 0 = S 2 0) (e7 : S2 40 0 7 = S 40 0 7) (e45 : S2 45 0 = S 45 0) : TV S2 un f := by
  unfold TV cT rTx
  rw [e0, e15, e1, e2, e7, e45]
  exact h
section IVS
variable {S S1 S2 : mS} {L L1 : mL} {R R1 : mR} {T c N : NN} {d n B u : Nat} {UR SR : Nat → NN} {sf : Nat → Nat} {un : Nat → Nat} {f : Nat} {nm : Nat → List Nat}
/-- behind the class's call, its world apart: what it doesn't touch -/
theorem iv_fc (h : IV S L R T c d n B u N UR SR sf un f nm) (hF : FC S S1) (hL : LQ L L1) : RV S1 L1 T c d n u N UR SR sf nm ∧ TV S1 un f := by
  obtain ⟨-, h1, h2⟩ := h
  have e : ∀ k, k ≤ 6 ∨ 40 ≤ k → S1 k = S k := hF
  refine ⟨h1.to ?_ ?_ ?_ ?_ ?_ ?_ ?_ ?_ (hL 4 d (by omega)) (hL 42 0 (by omega)), h2.to ?_ ?_ ?_ ?_ ?_ ?_⟩ <;> rw [e _ (by omega)]
theorem rv_q {t : Nat} (h : RV S1 L1 T c d n u N UR SR sf nm) (hQ : rQ S1 S2 t) : RV S2 L1 T c d n u N UR SR sf nm := by
  have e : ∀ k, ¬ (k = 49 ∨ k = 50 ∨ k = 40) → S2 k 0 = S1 k 0 := fun k hk => by funext j; exact hQ.2 k 0 j (by omega)
  exact h.to (e _ (by omega)) (hQ.2 _ _ _ (by omega)) (hQ.2 _ _ _ (by omega)) (e _ (by omega)) (e _ (by omega)) (e _ (by omega)) (e _ (by omega)) (e _ (by omega)) rfl rfl
theorem tv_q {t : Nat} (h : TV S1 un f) (hQ : rQ S1 S2 t) : TV S2 un f := by
  have e : ∀ k, ¬ (k = 49 ∨ k = 50 ∨ k = 40) → S2 k 0 = S1 k 0 := fun k hk => by funext j; exact hQ.2 k 0 j (by omega)
  exact h.to (by rw [e 0 (by omega)]) (hQ.2 _ _ _ (by omega)) (by rw [e 1 (by omega)]) (e _ (by omega)) (hQ.2 _ _ _ (by omega)) (e _ (by omega))
theorem iv_q {t : Nat} (h : IV S L R T c d n B u N UR SR sf un f nm) (hC : CQ S S1 R1 T c d n B u N UR SR sf) (hL : LQ L L1) (hQ : rQ S1 S2 t) : IV S2 L1 R1 T c d n B u N UR SR sf un f nm := by
  obtain ⟨hF, x, ph, hC⟩ := hC
  obtain ⟨a, b⟩ := iv_fc h hF hL
  exact ⟨⟨x, ph, hC.hi (fun k i hk => by funext j; exact hQ.2 k i j (by omega))⟩, rv_q a hQ, tv_q b hQ⟩
theorem iv_c {B2 : Nat} {M : NN} (h : IV S L R T c d n B u N UR SR sf un f nm) (hu : u ≤ 10) (hC : CQ S S1 R1 T c d n B2 (uN u) M (pU UR N u) SR sf) (hL : LQ L L1) (hQ : rC S1 S2 M u) : IV S2 L1 R1 T c d n B2 (uN u) M (pU UR N u) SR sf un f nm := by
  obtain ⟨hF, x, ph, hC⟩ := hC
  obtain ⟨⟨r1, r2, r3, r4, r5, r6, r7, r8, r9⟩, b⟩ := iv_fc h hF hL
  obtain ⟨⟨q1, q2, q3, q4⟩, q5⟩ := hQ
  have e : ∀ k i, ¬ (k = 49 ∨ k = 50 ∨ k = 40 ∨ k = 44 ∨ k = 51) → S2 k i = S1 k i := fun k i hk => by funext j; exact q4 k i j (by omega)
  refine ⟨⟨x, ph, hC.hi (fun k i hk => e k i (by omega))⟩, ⟨q5, (q4 _ _ _ (by omega)).trans r2, q2, by rw [e 41 0 (by omega)]; exact r4, by rw [e 43 0 (by omega)]; exact r5, r6, fun j hj w hw => ?_, fun s hs => by rw [e 52 0 (by omega), e 53 0 (by omega)]; exact r8 s hs, r9⟩, b.to (by rw [e 0 0 (by omega)]) (q4 _ _ _ (by omega)) (by rw [e 1 0 (by omega)]) (e 2 0 (by omega)) (q4 _ _ _ (by omega)) (e 45 0 (by omega))⟩
  unfold pU
  by_cases hlt : j < (if u = 10 then 9 else u)
  · rw [if_pos hlt, q3.1 j w hw hlt]
    exact r7 _ (by split at hlt <;> simp_all <;> omega) w hw
  · have ej : j = (if u = 10 then 9 else u) := by
      unfold uN at hj
      split at hlt <;> simp_all <;> omega
    rw [if_neg hlt]
    have := q3.2 w hw
    rw [← ej] at this
    rw [this, r1]
/-- the row of now, under another name -/
theorem sA_in {A : NN} (h : ∀ j, j < 438 → S2 44 0 j = A j) : ∀ k i j, mrg k j → S2 k i j = sA S2 44 A k i j := by
  intro k i j hj
  unfold sA
  split
  · rename_i e
    obtain ⟨rfl, rfl⟩ := e
    exact h j hj
  · rfl
theorem iv_b {u2 : Nat} {A M : NN} (h : IV S L R T c d n B u N UR SR sf un f nm) (hC : CQ S S1 R1 T c d n B u2 M UR SR sf) (hL : LQ L L1) (hQ : rB S1 S2 A u2) (hA : ∀ w, w < 438 → A w = M w) (hu : u2 ≤ u) : (∀ k i j, mrg k j → S2 k i j = sA S2 44 M k i j) ∧ IV (sA S2 44 M) L1 R1 T c d n B u2 M UR SR sf un f nm := by
  obtain ⟨hF, x, ph, hC⟩ := hC
  obtain ⟨⟨r1, r2, r3, r4, r5, r6, r7, r8, r9⟩, b⟩ := iv_fc h hF hL
  obtain ⟨q1, q2, q3, q4⟩ := hQ
  have e : ∀ k i, ¬ (k = 40 ∨ k = 44) → sA S2 44 M k i = S1 k i := fun k i hk => by
    rw [sA_n _ _ (by omega)]
    funext j
    exact q4 k i j (by omega)
  have e40 : ∀ j, ¬ (j = 0 ∨ j = 27) → sA S2 44 M 40 0 j = S1 40 0 j := fun j hj => by
    rw [sA_n _ _ (by omega)]
    exact q4 40 0 j (by omega)
  refine ⟨sA_in (fun j hj => (q2 j hj).trans (hA j hj)), ⟨x, ph, hC.hi (fun k i hk => e k i (by omega))⟩, ⟨sA_s _ _ _, (e40 1 (by omega)).trans r2, by rw [sA_n _ _ (by omega)]; exact q3, by rw [e 41 0 (by omega)]; exact r4, by rw [e 43 0 (by omega)]; exact r5, r6, fun j hj w hw => by rw [e 51 0 (by omega)]; exact r7 j (by omega) w hw, fun s hs => by rw [e 52 0 (by omega), e 53 0 (by omega)]; exact r8 s hs, r9⟩, b.to (by rw [e 0 0 (by omega)]) (e40 15 (by omega)) (by rw [e 1 0 (by omega)]) (e 2 0 (by omega)) (e40 7 (by omega)) (e 45 0 (by omega))⟩
theorem iv_save {s : Nat} {W : NN} (hs : s < 2) (h : IV S L R T c d n B u N UR SR sf un f nm) (hC : CQ S S1 R1 T c d n B u N UR (fun i => if i = s then N else SR i) (fun i => if i = s then 1 else sf i)) (hL : LQ L L1) (hS : up3 (sA (up3 S1 40 0 0 (nI 0)) 52 W) 53 0 s (nI 1) = S2) (h1 : ∀ j, j < 438 → W (438 * s + j) = S1 44 0 j) (h2 : ∀ j, ¬ (438 * s ≤ j ∧ j < 438 * s + 438) → W j = S1 52 0 j) : IV S2 L1 R1 T c d n B u N UR (fun i => if i = s then N else SR i) (fun i => if i = s then 1 else sf i) un f nm := by
  subst hS
  obtain ⟨hF, x, ph, hC⟩ := hC
  obtain ⟨⟨r1, r2, r3, r4, r5, r6, r7, r8, r9⟩, b⟩ := iv_fc h hF hL
  have e : ∀ k i, ¬ (k = 40 ∨ k = 52 ∨ k = 53) → up3 (sA (up3 S1 40 0 0 (nI 0)) 52 W) 53 0 s (nI 1) k i = S1 k i := fun k i hk => by
    rw [up3_k _ (by omega), sA_n _ _ (by omega), up3_k _ (by omega)]
  have e40 : ∀ j, ¬ j = 0 → up3 (sA (up3 S1 40 0 0 (nI 0)) 52 W) 53 0 s (nI 1) 40 0 j = S1 40 0 j := fun j hj => by
    rw [up3_k _ (by omega), sA_n _ _ (by omega), up3_j _ hj]
  refine ⟨⟨x, ph, hC.hi (fun k i hk => e k i (by omega))⟩, ⟨by rw [e 44 0 (by omega)]; exact r1, (e40 1 (by omega)).trans r2, (e40 27 (by omega)).trans r3, by rw [e 41 0 (by omega)]; exact r4, by rw [e 43 0 (by omega)]; exact r5, r6, fun j hj w hw => by rw [e 51 0 (by omega)]; exact r7 j hj w hw, fun i hi => ?_, r9⟩, b.to (by rw [e 0 0 (by omega)]) (e40 15 (by omega)) (by rw [e 1 0 (by omega)]) (e 2 0 (by omega)) (e40 7 (by omega)) (e 45 0 (by omega))⟩
  have e52 : up3 (sA (up3 S1 40 0 0 (nI 0)) 52 W) 53 0 s (nI 1) 52 0 = W := by rw [up3_k _ (by omega), sA_s]
  have e53 : up3 (sA (up3 S1 40 0 0 (nI 0)) 52 W) 53 0 s (nI 1) 53 0 i = if i = s then nI 1 else S1 53 0 i := by
    rw [up3_at, sA_n _ _ (by omega), up3_k _ (by omega)]
    simp
  rw [e52, e53]
  by_cases ei : i = s
  · subst ei
    simp only [if_true]
    exact ⟨trivial, fun _ w hw => by rw [h1 w hw, r1]⟩
  · simp only [if_neg ei]
    exact ⟨(r8 i hi).1, fun z w hw => by rw [h2 _ (by omega)]; exact (r8 i hi).2 z w hw⟩
theorem iv_append {un2 : Nat → Nat} {f2 : Nat} (h : IV S L R T c d n B u N UR SR sf un f nm) (h1 : cT S1 un2 f2) (hF : TFr S S1) (h2 : rTx S2 un2 f2) (hG : TF S1 S2) : IV S2 L R T c d n B u N UR SR sf un2 f2 nm := by
  obtain ⟨⟨x, ph, hC⟩, hR, hT⟩ := h
  have e : ∀ k i, ¬ (k = 1 ∨ k = 2 ∨ k = 40 ∨ k = 45) → S2 k i = S k i := fun k i hk => (hG.1 k i (by omega) (by omega)).trans (hF k i (by omega) (by omega))
  have e40 : ∀ j, ¬ (j = 0 ∨ j = 7) → S2 40 0 j = S 40 0 j := fun j hj => (hG.2 j (by omega) (by omega)).trans (by rw [hF 40 0 (by omega) (by omega)])
  have e1 : ∀ k, k = 1 ∨ k = 2 → S2 k 0 = S1 k 0 := fun k hk => hG.1 k 0 (by omega) (by omega)
  refine ⟨⟨x, ph, ?_⟩, hR.to (e 44 0 (by omega)) (e40 1 (by omega)) (e40 27 (by omega)) (e 41 0 (by omega)) (e 43 0 (by omega)) (e 51 0 (by omega)) (e 52 0 (by omega)) (e 53 0 (by omega)) rfl rfl, ?_, ?_, h2⟩
  · obtain ⟨h1, h2, ⟨a1, a2, a3, ⟨a4, a5⟩, a6, a7, a8⟩, h4, h5, h6, h7, h8⟩ := hC
    have ev : ∀ w k, 12 ≤ k → k ≤ 30 → S2 k w = S k w := fun w k _ _ => e k w (by omega)
    refine ⟨h1, h2, ⟨a1, a2, a3, ⟨by rw [e 3 d (by omega)]; exact a4, fun p w hp hw => by rw [e 6 _ (by omega)]; exact a5 p w hp hw⟩, ?_, a7, a8⟩, by rw [e 31 0 (by omega)]; exact h4, h5.off (ev _) rfl rfl, fun j hj => (h6 j hj).off (ev _) rfl rfl, fun s hs => ?_, h8⟩
    · unfold AC
      rw [e 3 d (by omega)]
      exact a6
    · obtain ⟨b1, b2, b3⟩ := h7 s hs
      exact ⟨by rw [e 34 0 (by omega)]; exact b1, b2, fun z => (b3 z).off (ev _) rfl rfl⟩
  · rw [e 0 0 (by omega), e40 15 (by omega)]
    exact hT.1
  · exact h1.off (by rw [e1 1 (by omega)]) (e1 2 (by omega))
theorem iv_find {L2 : mL} (h : IV S L R T c d n B u N UR SR sf un f nm) (hS : up3 S 1 0 1 (nI 0) = S1) (hF : fFr S1 S2) (hL : LG L L2) : IV S2 L2 R T c d n B u N UR SR sf un 0 nm := by
  subst hS
  obtain ⟨⟨x, ph, hC⟩, hR, hT⟩ := h
  obtain ⟨f1, f2, f3, f4⟩ := hF
  have e : ∀ k i, ¬ (k = 1 ∨ k = 40) → S2 k i = S k i := fun k i hk => (f1 k i (by omega)).trans (congrFun (up3_k S (by omega)) i)
  have e40 : ∀ j, j = 1 ∨ j = 15 ∨ j = 27 → S2 40 0 j = S 40 0 j := fun j hj => (f2 j (by omega)).trans (by rw [up3_k _ (by omega)])
  have hT2 : cT (up3 S 1 0 1 (nI 0)) un 0 := ⟨up3_s _ _ _ _ _, by omega, hT.2.1.2.2.1, fun j hj => absurd hj (Nat.not_lt_zero _)⟩
  refine ⟨⟨x, ph, ?_⟩, hR.to (e 44 0 (by omega)) (e40 1 (by omega)) (e40 27 (by omega)) (e 41 0 (by omega)) (e 43 0 (by omega)) (e 51 0 (by omega)) (e 52 0 (by omega)) (e 53 0 (by omega)) (hL 4 d (by omega)) (hL 42 0 (by omega)), ?_, ?_, ?_⟩
  · obtain ⟨h1, h2, ⟨a1, a2, a3, ⟨a4, a5⟩, a6, a7, a8⟩, h4, h5, h6, h7, h8⟩ := hC
    have ev : ∀ w k, 12 ≤ k → k ≤ 30 → S2 k w = S k w := fun w k _ _ => e k w (by omega)
    refine ⟨h1, h2, ⟨a1, a2, a3, ⟨by rw [e 3 d (by omega)]; exact a4, fun p w hp hw => by rw [e 6 _ (by omega)]; exact a5 p w hp hw⟩, ?_, a7, a8⟩, by rw [e 31 0 (by omega)]; exact h4, h5.off (ev _) rfl rfl, fun j hj => (h6 j hj).off (ev _) rfl rfl, fun s hs => ?_, h8⟩
    · unfold AC
      rw [e 3 d (by omega)]
      exact a6
    · obtain ⟨b1, b2, b3⟩ := h7 s hs
      exact ⟨by rw [e 34 0 (by omega)]; exact b1, b2, fun z => (b3 z).off (ev _) rfl rfl⟩
  · rw [e 0 0 (by omega), e40 15 (by omega)]
    exact hT.1
  · exact hT2.off (by rw [f1 1 0 (by omega)]) (by rw [f1 2 0 (by omega)])
  · exact ⟨f4, by omega, hT.2.1.2.2.1, fun j hj => absurd hj (Nat.not_lt_zero _)⟩
end IVS
