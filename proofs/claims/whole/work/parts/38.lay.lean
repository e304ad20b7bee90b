/-- wI but for the program x -/
def wX (N : NN) (x : Nat) : Prop := ∀ p, p < 10 → (fo N p 0 = nI 1 → p ≠ x → fo N p 9 = nI 1) ∧ (fo N p 0 = nI 0 → fo N p 3 = nI 0)
theorem wI.x {N : NN} (h : wI N) (x : Nat) : wX N x := fun p hp => ⟨fun z _ => (h p hp).1 z, (h p hp).2⟩
theorem cI.row {N M : NN} (h : cI N) (e : ∀ p w, p < 10 → w < 3 → fo M p w = fo N p w) : cI M := fun p hp => by
  rw [e p 0 hp (by omega), e p 1 hp (by omega), e p 2 hp (by omega)]
  exact h p hp
theorem pI.row {N M : NN} {B : Nat} (h : pI N B) (e1 : M 1 = N 1) (e4 : M 4 = N 4) (e : ∀ p w, p < 10 → (w = 4 ∨ w = 5 ∨ w = 7 ∨ w = 8) → fo M p w = fo N p w) : pI M B := by
  obtain ⟨⟨t, t1, t2, t3, t4⟩, h2, h3⟩ := h
  exact ⟨⟨t, t1, e1.trans t2, fun p hp => by rw [e p 4 hp (by omega), e p 5 hp (by omega)]; exact t3 p hp, fun p hp => by rw [e p 8 hp (by omega)]; exact t4 p hp⟩, fun p hp => by rw [e p 7 hp (by omega), e p 8 hp (by omega)]; exact h2 p hp, by rw [e4]; exact h3⟩
theorem wX.row {N M : NN} {x : Nat} (h : wX N x) (e : ∀ p w, p < 10 → (w = 0 ∨ w = 3 ∨ w = 9) → fo M p w = fo N p w) : wX M x := fun p hp => by
  rw [e p 0 hp (by omega), e p 3 hp (by omega), e p 9 hp (by omega)]
  exact h p hp
theorem wI.row {N M : NN} (h : wI N) (e : ∀ p w, p < 10 → (w = 0 ∨ w = 3 ∨ w = 9) → fo M p w = fo N p w) : wI M := fun p hp => by
  rw [e p 0 hp (by omega), e p 3 hp (by omega), e p 9 hp (by omega)]
  exact h p hp
theorem pI.step {N : NN} {B p k : Nat} (h : pI N B) : pI (fStep N p k) B := h.row (fStep_lo (by omega)) (fStep_lo (by omega)) (fun q w hq hw => fStep_w hq (by omega) (by omega) (by omega) (by omega) (by omega) (by omega))
theorem wX.step {N : NN} {x p k : Nat} (h : wX N x) (hp : p < 10) (hk : 1 ≤ k) (hk6 : k ≤ 6) (hf : fCan N p k) : wX (fStep N p k) x := by
  intro q hq
  rw [(fStep_x hp hq hk hk6).1, fStep_w (w := 9) hq (by omega) (by omega) (by omega) (by omega) (by omega) (by omega)]
  by_cases e : q = p
  · subst e
    refine ⟨fun z => ?_, fun z => ?_⟩
    · refine (h q hq).1 ?_
      rw [fStep_fo hq (by omega)] at z
      rcases (show k ≤ 5 ∨ k = 6 by omega) with h5 | rfl
      · exfalso
        obtain ⟨s, s2, s5, es⟩ := fCan_2 hk h5 hf
        rcases (show k = 1 ∨ k = 2 ∨ k = 3 ∨ k = 4 ∨ k = 5 by omega) with rfl | rfl | rfl | rfl | rfl <;> simp [fStep0, fEmpty, fo_set] at z
        all_goals first | (rw [es] at z; have := (nI_eq (by omega) (by omega)).mp z; omega) | (have := (nI_eq (by omega) (by omega)).mp z; omega)
      · exact hf.1
    · by_cases e5 : k = 5
      · rw [if_pos ⟨e5, rfl⟩]
      · rw [if_neg (fun y => e5 y.1)]
        refine (h q hq).2 ?_
        rw [fStep_fo hq (by omega)] at z
        exfalso
        unfold fCan at hf
        rcases (show k = 1 ∨ k = 2 ∨ k = 3 ∨ k = 4 ∨ k = 6 by omega) with rfl | rfl | rfl | rfl | rfl <;> simp [fStep0, fo_set] at z hf
        all_goals first | (have := (nI_eq (by omega) (by omega)).mp z; omega) | (rcases hf.1 with y | y <;> rw [y] at z <;> have := (nI_eq (by omega) (by omega)).mp z <;> omega) | (rw [hf.1] at z; have := (nI_eq (by omega) (by omega)).mp z; omega)
  · rw [fStep_ne hq (by omega) e, if_neg (fun y => e y.2)]
    exact h q hq
theorem fMem_inv {N T : NN} {n B x : Nat} {q : Nat × NN} (hn : n ≤ 10) (hc : cI N) (hT : pI N B) (hw : wX N x) (h : fMem N T n = some q) : cI q.2 ∧ pI q.2 B ∧ wX q.2 x ∧ ∀ r w, r < 10 → w < 20 → w ≠ 0 → w ≠ 1 → w ≠ 2 → w ≠ 3 → w ≠ 15 → fo q.2 r w = fo N r w :=
  fMemF_ind (T := T) (n := n) (P := fun M => cI M ∧ pI M B ∧ wX M x ∧ ∀ r w, r < 10 → w < 20 → w ≠ 0 → w ≠ 1 → w ≠ 2 → w ≠ 3 → w ≠ 15 → fo M r w = fo N r w)
    (fun M p k hM hp h1 h6 hf => ⟨hM.1.step (by omega) h1 h6 hf, hM.2.1.step, hM.2.2.1.step (by omega) h1 h6 hf, fun r w hr hw a b c d e => (fStep_w hr hw a b c d e).trans (hM.2.2.2 r w hr hw a b c d e)⟩) 60 ⟨hc, hT, hw, fun _ _ _ _ _ _ _ _ _ => rfl⟩ h
theorem fHome_fo {N : NN} {n r w : Nat} (hI : rI N n) (hn : n ≤ 10) : fo (fHome N) r w = fo (fRests N) r w := by
  rcases hI.1 with e | ⟨q, hq, e⟩
  · rw [fHome_n e, fRests_n e]
  · rw [fHome_s (by omega) e, fRests_s (by omega) e]
    exact upd_n _ (by omega)
theorem fHome_j {N : NN} {n j : Nat} (hI : rI N n) (hn : n ≤ 10) (hj : j ≠ 2) : fHome N j = fRests N j := by
  rcases hI.1 with e | ⟨q, hq, e⟩
  · rw [fHome_n e, fRests_n e]
  · rw [fHome_s (by omega) e, fRests_s (by omega) e]
    exact upd_n _ hj
theorem fLay_j (N T : NN) {p j : Nat} (hp : p < 10) (h : (j < 6 ∧ j ≠ 2 ∧ j ≠ 3) ∨ 206 ≤ j) : fLay N T p j = fRests N j := by
  by_cases h0 : fo (fRests N) p 0 = nI 0
  · rw [fLay_a rfl h0, upd_n _ (by omega), upd_n _ (by omega), fset_out hp (by omega) (by omega), fset_out hp (by omega) (by omega), fset_out hp (by omega) (by omega), fset_out hp (by omega) (by omega)]
  · by_cases h5 : fo (fRests N) p 0 = nI 5
    · rw [fLay_b rfl h0 h5, upd_n _ (by omega), upd_n _ (by omega), fset_out hp (by omega) (by omega), fset_out hp (by omega) (by omega), fset_out hp (by omega) (by omega), fset_out hp (by omega) (by omega)]
    · rw [fLay_c rfl h0 h5, upd_n _ (by omega), upd_n _ (by omega), fset_out hp (by omega) (by omega)]
theorem fLay_o {N T : NN} {p r w : Nat} (hw : w < 20) (h3 : fo (fRests N) p 0 = nI 0 → fo (fRests N) p 3 = nI 0) : fo (fLay N T p) r w = if r = p ∧ w = 0 then nI 1 else if r = p ∧ (w = 1 ∨ w = 2) ∧ (fo (fRests N) p 0 = nI 0 ∨ fo (fRests N) p 0 = nI 5) then T (8 * p + (w - 1)) else fo (fRests N) r w := by
  have hu : ∀ (M : NN) (a b : Int32), fo (upd (upd M 2 a) 3 b) r w = fo M r w := fun M a b => by
    unfold fo
    rw [upd_n _ (by omega), upd_n _ (by omega)]
  by_cases h0 : fo (fRests N) p 0 = nI 0
  · rw [fLay_a rfl h0, hu, fo_set _ (by omega) hw, fo_set _ (by omega) hw, fo_set _ (by omega) hw, fo_set _ (by omega) hw]
    by_cases e : r = p
    · subst e
      by_cases e0 : w = 0
      · simp [e0]
      · by_cases e1 : w = 1
        · subst e1; simp [h0]
        · by_cases e2 : w = 2
          · subst e2; simp [h0]
          · by_cases e3 : w = 3
            · subst e3; simp [h3 h0]
            · simp [e0, e1, e2, e3]
    · simp [e]
  · by_cases h5 : fo (fRests N) p 0 = nI 5
    · rw [fLay_b rfl h0 h5, hu, fo_set _ (by omega) hw, fo_set _ (by omega) hw, fo_set _ (by omega) hw, fo_set _ (by omega) hw]
      by_cases e : r = p
      · subst e
        by_cases e0 : w = 0
        · simp [e0]
        · by_cases e1 : w = 1
          · subst e1; simp [h5]
          · by_cases e2 : w = 2
            · subst e2; simp [h5]
            · by_cases e3 : w = 3
              · subst e3; simp
              · simp [e0, e1, e2, e3]
      · simp [e]
    · rw [fLay_c rfl h0 h5, hu, fo_set _ (by omega) hw]
      by_cases e : r = p
      · by_cases e0 : w = 0
        · simp [e, e0]
        · simp [e, e0, h0, h5]
      · simp [e]
theorem rUp_k {S : mS} {r d p kk i : Nat} (h : ¬ (13 ≤ kk ∧ kk ≤ 15 ∧ i = r)) : rUp S r d p kk i = S kk i := by
  funext j
  unfold rUp
  split
  · rw [up3_at, if_neg (by omega), up3_at, if_neg (by omega), up3_at, if_neg (by omega)]
  · rw [up3_at, if_neg (by omega)]
def bUp (S : mS) (v d p : Nat) : mS := rUp (up3 (up3 S 25 v 7 (nI p)) 17 v 1 (nI p)) v d p
theorem bUp_k {S : mS} {v d p kk i : Nat} (h : ¬ ((13 ≤ kk ∧ kk ≤ 15 ∨ kk = 25 ∨ kk = 17) ∧ i = v)) : bUp S v d p kk i = S kk i := by
  unfold bUp
  rw [rUp_k (by omega)]
  funext j
  rw [up3_at, if_neg (by omega), up3_at, if_neg (by omega)]
theorem AB.bring {S : mS} {v n d p : Nat} {H M T : NN} (h : AB S v H n) (hp : p < 10) (hA : AT S d T n) (hj : ∀ j, (j < 6 ∧ j ≠ 2 ∧ j ≠ 3) ∨ 206 ≤ j → M j = H j) (h2 : M 2 = nI p) (h3 : M 3 = nI p) (ho : ∀ r w, r < 10 → w < 20 → fo M r w = if r = p ∧ w = 0 then nI 1 else if r = p ∧ (w = 1 ∨ w = 2) ∧ (fo H p 0 = nI 0 ∨ fo H p 0 = nI 5) then T (8 * p + (w - 1)) else fo H r w) : AB (bUp S v d p) v M n := by
  have ho2 : ∀ r w, r < 10 → 3 ≤ w → w < 20 → fo M r w = fo H r w := fun r w hr h3 hw => by rw [ho r w hr hw, if_neg (by omega), if_neg (by omega)]
  have hk : ∀ kk, kk ≠ 13 → kk ≠ 14 → kk ≠ 15 → kk ≠ 25 → kk ≠ 17 → bUp S v d p kk v = S kk v := fun kk a b c d e => bUp_k (by omega)
  refine ⟨⟨?_, fun q hq => ?_⟩, ?_, fun r hr => ?_, (h.2.2.2.1.off (fun kk a b => hk kk (by omega) (by omega) (by omega) (by omega) (by omega))).row (fun j hh => hj j (by omega)), ?_⟩
  · rw [hk 12 (by omega) (by omega) (by omega) (by omega) (by omega), hj 0 (by omega)]
    exact h.1.1
  · obtain ⟨a0, a1, a2, a3⟩ := h.1.2 q hq
    obtain ⟨p0, -, -, -⟩ := h.1.2 p hp
    rw [ho q 0 hq (by omega), ho q 1 hq (by omega), ho q 2 hq (by omega), ho2 q 6 hq (by omega) (by omega), hk 16 (by omega) (by omega) (by omega) (by omega) (by omega)]
    have e0 : up3 (up3 S 25 v 7 (nI p)) 17 v 1 (nI p) 13 v p = fo H p 0 := by rw [up3_k _ (by omega), up3_k _ (by omega)]; exact p0
    have e60 : up3 (up3 S 25 v 7 (nI p)) 17 v 1 (nI p) 6 (10 * d + p) 0 = T (8 * p) := by rw [up3_k _ (by omega), up3_k _ (by omega)]; exact hA.2 p 0 hp (by omega)
    have e61 : up3 (up3 S 25 v 7 (nI p)) 17 v 1 (nI p) 6 (10 * d + p) 1 = T (8 * p + 1) := by rw [up3_k _ (by omega), up3_k _ (by omega)]; exact hA.2 p 1 hp (by omega)
    have k13 : up3 (up3 S 25 v 7 (nI p)) 17 v 1 (nI p) 13 v q = S 13 v q := by rw [up3_k _ (by omega), up3_k _ (by omega)]
    have k14 : up3 (up3 S 25 v 7 (nI p)) 17 v 1 (nI p) 14 v q = S 14 v q := by rw [up3_k _ (by omega), up3_k _ (by omega)]
    have k15 : up3 (up3 S 25 v 7 (nI p)) 17 v 1 (nI p) 15 v q = S 15 v q := by rw [up3_k _ (by omega), up3_k _ (by omega)]
    unfold bUp rUp
    rw [e0, e60, e61]
    by_cases hc : fo H p 0 = nI 0 ∨ fo H p 0 = nI 5
    · rw [if_pos (show fo H p 0 = 0 ∨ fo H p 0 = nI 5 from hc)]
      by_cases e : q = p
      · subst e
        simp [up3_at, hc]
        exact a3
      · simp [up3_at, e]
        exact ⟨a0, a1, a2, a3⟩
    · rw [if_neg (show ¬ (fo H p 0 = 0 ∨ fo H p 0 = nI 5) from hc)]
      by_cases e : q = p
      · subst e
        simp [up3_at, hc]
        exact ⟨a1, a2, a3⟩
      · simp [up3_at, e]
        exact ⟨a0, a1, a2, a3⟩
  · obtain ⟨b1, b2, b3, b4, b5⟩ := h.2.1
    have k17 : ∀ j, bUp S v d p 17 v j = if j = 1 then nI p else S 17 v j := fun j => by
      unfold bUp
      rw [rUp_k (by omega), up3_at]
      by_cases e : j = 1
      · rw [if_pos ⟨rfl, rfl, e⟩, if_pos e]
      · rw [if_neg (fun z => e z.2.2), if_neg e, up3_k _ (by omega)]
    refine ⟨by rw [k17, if_neg (by omega)]; exact b1, by rw [k17, if_pos rfl, h3], ?_, ?_, ?_⟩
    · intro q hq
      rw [hk 19 (by omega) (by omega) (by omega) (by omega) (by omega), ho2 q 10 hq (by omega) (by omega)]
      exact b3 q hq
    · intro q t g hq hg ht hg4
      rw [ho2 q 10 hq (by omega) (by omega)] at hg
      rw [hk 20 (by omega) (by omega) (by omega) (by omega) (by omega), ho2 q (11 + t) hq (by omega) (by omega)]
      exact b4 q t g hq hg ht hg4
    · intro a b ha hb
      rw [hk 21 (by omega) (by omega) (by omega) (by omega) (by omega), b5 a b ha hb]
      exact (hj _ (by omega)).symm
  · rw [hk 18 (by omega) (by omega) (by omega) (by omega) (by omega), ho2 r 8 hr (by omega) (by omega), ho2 r 9 hr (by omega) (by omega), ho r 0 hr (by omega)]
    by_cases e : r = p
    · subst e
      rw [if_pos ⟨rfl, rfl⟩]
      rcases h.2.2.1 r hr with z | z
      · exact Or.inl z
      · exact Or.inr ⟨z.1, Or.inl rfl⟩
    · rw [if_neg (fun z => e z.1), if_neg (fun z => e z.1)]
      exact h.2.2.1 r hr
  · have hP := h.2.2.2.2
    have k25 : ∀ j, bUp S v d p 25 v j = if j = 7 then nI p else S 25 v j := fun j => by
      unfold bUp
      rw [rUp_k (by omega), up3_k _ (by omega), up3_at]
      by_cases e : j = 7
      · rw [if_pos ⟨rfl, rfl, e⟩, if_pos e]
      · rw [if_neg (fun z => e z.2.2), if_neg e]
    unfold AP
    rw [k25, k25, k25, if_neg (by omega), if_neg (by omega), if_pos rfl, hj 1 (by omega), hj 4 (by omega), h2, hk 26 (by omega) (by omega) (by omega) (by omega) (by omega), hk 27 (by omega) (by omega) (by omega) (by omega) (by omega), hk 28 (by omega) (by omega) (by omega) (by omega) (by omega), hk 29 (by omega) (by omega) (by omega) (by omega) (by omega), hk 30 (by omega) (by omega) (by omega) (by omega) (by omega)]
    refine ⟨hP.1, hP.2.1, rfl, fun q hq => ?_⟩
    obtain ⟨g3, g4, g5, g15, g30⟩ := hP.2.2.2 q hq
    rw [ho2 q 3 hq (by omega) (by omega), ho2 q 4 hq (by omega) (by omega), ho2 q 5 hq (by omega) (by omega), ho2 q 15 hq (by omega) (by omega)]
    exact ⟨g3, g4, g5, g15, fun t w hw ht hw5 => (g30 t w hw ht hw5).trans (hj _ (by omega)).symm⟩

