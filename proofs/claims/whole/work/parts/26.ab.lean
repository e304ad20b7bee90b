/-! THE CLASS'S OWN WORDS: a room, and what it says of the row -/
def AR (S : mS) (r : Nat) (N : NN) : Prop := S 12 r 1 = N 0 ∧ ∀ p, p < 10 → S 13 r p = fo N p 0 ∧ S 14 r p = fo N p 1 ∧ S 15 r p = fo N p 2 ∧ S 16 r p = fo N p 6
/-- a description d holds the told numbers T of n programs -/
def AT (S : mS) (d : Nat) (T : NN) (n : Nat) : Prop := S 3 d 6 = nI n ∧ ∀ p w, p < 10 → w < 8 → S 6 (10 * d + p) w = T (8 * p + w)
/-- zipped and saved programs have no cache, saved ones no pages -/
def cI (N : NN) : Prop := ∀ p, p < 10 → ((fo N p 0 = nI 4 ∨ fo N p 0 = nI 5) → fo N p 2 = nI 0) ∧ (fo N p 0 = nI 5 → fo N p 1 = nI 0)
def usesW (st pg ca ra sc : Int32) : Int32 := if st = nI 1 ∨ st = nI 2 ∨ st = nI 3 then pg + ca else if st = nI 4 then (pg * ra + nI 99) / nI 100 else if st = nI 5 then sc else nI 0
def rUses (S : mS) (r d p : Nat) : Int32 := usesW (S 13 r p) (S 14 r p) (S 15 r p) (S 6 (10 * d + p) 4) (S 6 (10 * d + p) 5)
def rAll (S : mS) (r d n : Nat) : Int32 := smI (rUses S r d) n
theorem rUses_eq {S : mS} {r d p n : Nat} {N T : NN} (hA : AR S r N) (hT : AT S d T n) (hp : p < 10) (hs : ∃ s, s ≤ 5 ∧ fo N p 0 = nI s) : rUses S r d p = fUses N T p := by
  obtain ⟨s, hs5, hs⟩ := hs
  obtain ⟨a0, a1, a2, -⟩ := hA.2 p hp
  unfold rUses fUses usesW
  rw [a0, a1, a2, hT.2 p 4 hp (by omega), hT.2 p 5 hp (by omega), hs]
  rcases (show s = 0 ∨ s = 1 ∨ s = 2 ∨ s = 3 ∨ s = 4 ∨ s = 5 by omega) with rfl | rfl | rfl | rfl | rfl | rfl <;> rfl
theorem rAll_eq {S : mS} {r d n : Nat} {N T : NN} (hA : AR S r N) (hT : AT S d T n) (hn : n ≤ 10) (hI : rI N n) : rAll S r d n = fAll N T n := smI_cong (fun k hk => rUses_eq hA hT (by omega) (hI.2.2.1 k (by omega)))
def rCan (S : mS) (r p k : Nat) : Prop :=
  if k = 1 then (S 13 r p = nI 2 ∨ S 13 r p = nI 3) ∧ 0 < S 15 r p
  else if k = 2 then S 13 r p = nI 3 ∧ S 16 r p = 0
  else if k = 3 then S 13 r p = nI 2 ∧ S 16 r p = 0
  else if k = 4 then S 13 r p = nI 4 ∧ S 16 r p = 0
  else if k = 5 then S 13 r p = nI 5 ∧ S 16 r p = 0
  else S 13 r p = nI 1 ∧ 0 < S 15 r p
theorem rCan_eq {S : mS} {r p k : Nat} {N : NN} (hA : AR S r N) (hp : p < 10) : rCan S r p k ↔ fCan N p k := by
  obtain ⟨a0, a1, a2, a3⟩ := hA.2 p hp
  unfold rCan fCan
  rw [a0, a2, a3]
/-- a trim step as the room does it -/
def rStep (S : mS) (r p k : Nat) : mS := match k with
  | 1 => up3 S 15 r p (nI 0)
  | 2 => up3 (up3 S 15 r p (nI 0)) 13 r p (nI 4)
  | 3 => up3 S 13 r p (nI 3)
  | 4 => up3 (up3 S 14 r p (nI 0)) 13 r p (nI 5)
  | 5 => up3 S 13 r p (nI 0)
  | _ => up3 S 15 r p (nI 0)
theorem up3_at {α : Type} (S : Nat → Nat → Nat → α) (k i j : Nat) (v : α) (k' i' j' : Nat) : up3 S k i j v k' i' j' = if k' = k ∧ i' = i ∧ j' = j then v else S k' i' j' := rfl
theorem AR.step {S : mS} {r p k : Nat} {N : NN} (hA : AR S r N) (hc : cI N) (hp : p < 10) (hk : 1 ≤ k) (hk6 : k ≤ 6) (hf : fCan N p k) : AR (rStep S r p k) r (fStep0 N p k) := by
  obtain ⟨c1, c2⟩ := hc p hp
  unfold fCan at hf
  rcases (show k = 1 ∨ k = 2 ∨ k = 3 ∨ k = 4 ∨ k = 5 ∨ k = 6 by omega) with rfl | rfl | rfl | rfl | rfl | rfl
  all_goals
    refine ⟨?_, fun q hq => ?_⟩
    · simp only [rStep, fStep0, fEmpty, up3_at, fset_lo _ (show (0 : Nat) < 6 by omega), if_true, if_false, hA.1, show ¬ (12 : Nat) = 15 by omega, show ¬ (12 : Nat) = 13 by omega, show ¬ (12 : Nat) = 14 by omega, false_and, show ¬ (1 : Nat) = 5 by omega, show ¬ (1 : Nat) = 3 by omega, show ¬ (2 : Nat) = 5 by omega, show ¬ (2 : Nat) = 3 by omega, show ¬ (3 : Nat) = 5 by omega, show ¬ (4 : Nat) = 5 by omega, show ¬ (4 : Nat) = 3 by omega, show ¬ (6 : Nat) = 5 by omega, show ¬ (6 : Nat) = 3 by omega]
    · obtain ⟨a0, a1, a2, a3⟩ := hA.2 q hq
      by_cases e : q = p
      · subst e
        simp [rStep, fStep0, fEmpty, up3_at, fo_set, a0, a1, a2, a3] at hf ⊢
        try simp [hf, c1, c2]
      · simp [rStep, fStep0, fEmpty, up3_at, fo_set, a0, a1, a2, a3, e]
theorem AR.wr {S : mS} {r k p : Nat} {N : NN} (hA : AR S r N) : AR S r (fWr N k p) := ⟨by rw [wr_lo (by omega)]; exact hA.1, fun q hq => by rw [fo_wr hq (by omega), fo_wr hq (by omega), fo_wr hq (by omega), fo_wr hq (by omega)]; exact hA.2 q hq⟩
theorem rStep_off {S : mS} {r p k : Nat} {k' i' : Nat} (h : ¬ (13 ≤ k' ∧ k' ≤ 15 ∧ i' = r)) : rStep S r p k k' i' = S k' i' := by
  funext j
  unfold rStep
  split <;> simp only [up3_at] <;> (repeat rw [if_neg (by omega)])
theorem AR.off {S S2 : mS} {r : Nat} {N : NN} (hA : AR S r N) (h : ∀ k, 12 ≤ k → k ≤ 16 → S2 k r = S k r) : AR S2 r N := by
  refine ⟨by rw [h 12 (by omega) (by omega)]; exact hA.1, fun q hq => ?_⟩
  rw [h 13 (by omega) (by omega), h 14 (by omega) (by omega), h 15 (by omega) (by omega), h 16 (by omega) (by omega)]
  exact hA.2 q hq
theorem AT.off {S S2 : mS} {d n : Nat} {T : NN} (hT : AT S d T n) (h : S2 3 d = S 3 d) (h6 : ∀ i, S2 6 i = S 6 i) : AT S2 d T n := ⟨by rw [h]; exact hT.1, fun p w hp hw => by rw [h6]; exact hT.2 p w hp hw⟩
def rUp (S : mS) (r d p : Nat) : mS := if S 13 r p = 0 ∨ S 13 r p = nI 5 then up3 (up3 (up3 S 14 r p (S 6 (10 * d + p) 0)) 15 r p (S 6 (10 * d + p) 1)) 13 r p (nI 1) else up3 S 13 r p (nI 1)
/-- room r is a copy of room q -/
def rCopy (S : mS) (q r : Nat) : mS := fun k i j => if 13 ≤ k ∧ k ≤ 16 ∧ i = r then S k q j else if k = 12 ∧ i = r ∧ j = 1 then S 12 q 1 else S k i j
theorem AR.copy {S : mS} {q r : Nat} {N : NN} (hA : AR S q N) : AR (rCopy S q r) r N := by
  refine ⟨?_, fun p hp => ?_⟩
  · unfold rCopy
    rw [if_neg (by omega), if_pos (by omega)]
    exact hA.1
  · unfold rCopy
    rw [if_pos (by omega), if_pos (by omega), if_pos (by omega), if_pos (by omega)]
    exact hA.2 p hp
theorem rCopy_off {S : mS} {q r k i : Nat} (h : ¬ (12 ≤ k ∧ k ≤ 16 ∧ i = r)) : rCopy S q r k i = S k i := by
  funext j
  unfold rCopy
  rw [if_neg (by omega), if_neg (by omega)]
def pC (S : mS) (q r n : Nat) : mS := fun k i j => if k = 16 ∧ i = r ∧ j < n then S 16 q j else S k i j
theorem pC_up {S : mS} {q r n : Nat} (h : q ≠ r) : up3 (pC S q r n) 16 r n (pC S q r n 16 q n) = pC S q r (n + 1) := by
  funext k i j
  simp only [up3, pC]
  by_cases h1 : k = 16 ∧ i = r ∧ j = n
  · rw [if_pos h1, if_neg (by omega), if_pos (by omega), h1.2.2]
  · rw [if_neg h1]
    by_cases h2 : k = 16 ∧ i = r ∧ j < n
    · rw [if_pos h2, if_pos (by omega)]
    · rw [if_neg h2, if_neg (by omega)]
theorem pC_0 (S : mS) (q r : Nat) : pC S q r 0 = S := by
  funext k i j
  unfold pC
  rw [if_neg (by omega)]
theorem pC_end {S : mS} {q r : Nat} (h : q ≠ r) : ∀ k i j, mrg k j → pC (mcp (mcp (mcp (up3 S 12 r 1 (S 12 q 1)) 13 q 0 13 r 0 10) 14 q 0 14 r 0 10) 15 q 0 15 r 0 10) q r 10 k i j = rCopy S q r k i j := by
  intro k i j hj
  simp only [pC, mcp, rCopy, up3, Nat.zero_add, Nat.zero_le, true_and, Nat.sub_zero]
  by_cases h13 : k = 13
  · subst h13
    have hj : j < 10 := hj
    by_cases hi : i = r
    · subst hi; simp [hj, h]
    · simp [hi]
  by_cases h14 : k = 14
  · subst h14
    have hj : j < 10 := hj
    by_cases hi : i = r
    · subst hi; simp [hj, h]
    · simp [hi]
  by_cases h15 : k = 15
  · subst h15
    have hj : j < 10 := hj
    by_cases hi : i = r
    · subst hi; simp [hj, h]
    · simp [hi]
  by_cases h16 : k = 16
  · subst h16
    have hj : j < 10 := hj
    by_cases hi : i = r
    · subst hi; simp [hj, h]
    · simp [hi]
  have hb : ¬ (13 ≤ k ∧ k ≤ 16 ∧ i = r) := by omega
  rw [if_neg (fun z => h16 z.1), if_neg (fun z => h15 z.1), if_neg (fun z => h14 z.1), if_neg (fun z => h13 z.1), if_neg hb]
