/-! the trims' own words: what their room, ranks and precious rows say of the row N -/
def TR (S : mS) (N T : NN) (n : Nat) : Prop := AR S 15 N ∧ (∀ p, p < n → (∃ s, 2 ≤ s ∧ s ≤ 5 ∧ fo N p 0 = nI s) → S 8 0 p = fRank N T n p) ∧ (∀ p, p < n → S 9 0 p = bI (fPrec N p)) ∧ S 7 0 3 = bI (N 4 = nI 1)
def FT (S S2 : mS) : Prop := ∀ k i, ¬ ((7 ≤ k ∧ k ≤ 11) ∨ (12 ≤ k ∧ k ≤ 16 ∧ i = 15)) → S2 k i = S k i
theorem FT.rf (S : mS) : FT S S := fun _ _ _ => rfl
theorem FT.tr {S S2 S3 : mS} (h : FT S S2) (h2 : FT S2 S3) : FT S S3 := fun k i hn => (h2 k i hn).trans (h k i hn)
theorem FT.up {S S2 : mS} (h : FT S S2) {k i j : Nat} {v : Int32} (hk : (7 ≤ k ∧ k ≤ 11) ∨ (12 ≤ k ∧ k ≤ 16 ∧ i = 15)) : FT S (up3 S2 k i j v) := fun k' i' hn => by
  have e : up3 S2 k i j v k' i' = S2 k' i' := by
    funext j'
    rw [up3_at, if_neg (fun z => hn (by rw [z.1, z.2.1]; exact hk))]
  rw [e]
  exact h k' i' hn
theorem fCan_2 {N : NN} {p k : Nat} (hk : 1 ≤ k) (hk5 : k ≤ 5) (h : fCan N p k) : ∃ s, 2 ≤ s ∧ s ≤ 5 ∧ fo N p 0 = nI s := by
  unfold fCan at h
  rcases (show k = 1 ∨ k = 2 ∨ k = 3 ∨ k = 4 ∨ k = 5 by omega) with rfl | rfl | rfl | rfl | rfl
  · rcases h.1 with e | e
    · exact ⟨2, by omega, by omega, e⟩
    · exact ⟨3, by omega, by omega, e⟩
  · exact ⟨3, by omega, by omega, h.1⟩
  · exact ⟨2, by omega, by omega, h.1⟩
  · exact ⟨4, by omega, by omega, h.1⟩
  · exact ⟨5, by omega, by omega, h.1⟩
theorem fCan_6 {N : NN} {p o n : Nat} (hI : rI N n) (hp : p < 10) (ho : o < 10) (h1 : fCan N p 6) (h2 : fCan N o 6) : p = o := by
  have e1 := (hI.2.2.2.1 p hp).mp h1.1
  have e2 := (hI.2.2.2.1 o ho).mp h2.1
  exact (nI_eq (by omega) (by omega)).mp (e1.symm.trans e2)
theorem fStep_fo {N : NN} {p k q w : Nat} (hq : q < 10) (hw : w < 20) : fo (fStep N p k) q w = fo (fStep0 N p k) q w := fo_wr hq hw
theorem fStep0_w {N : NN} {p k q w : Nat} (hw : w < 20) (h0 : w ≠ 0) (h1 : w ≠ 1) (h2 : w ≠ 2) (h3 : w ≠ 3) (h15 : w ≠ 15) : fo (fStep0 N p k) q w = fo N q w := by
  unfold fStep0 fEmpty
  repeat' split
  all_goals simp only [fo_set _ (show (0 : Nat) < 20 by omega) hw, fo_set _ (show (1 : Nat) < 20 by omega) hw, fo_set _ (show (2 : Nat) < 20 by omega) hw, fo_set _ (show (3 : Nat) < 20 by omega) hw, fo_set _ (show (15 : Nat) < 20 by omega) hw, h0, h1, h2, h3, h15, and_false, if_false]
theorem fStep_w {N : NN} {p k q w : Nat} (hq : q < 10) (hw : w < 20) (h0 : w ≠ 0) (h1 : w ≠ 1) (h2 : w ≠ 2) (h3 : w ≠ 3) (h15 : w ≠ 15) : fo (fStep N p k) q w = fo N q w := by rw [fStep_fo hq hw, fStep0_w hw h0 h1 h2 h3 h15]
theorem fStep_ne {N : NN} {p k q w : Nat} (hq : q < 10) (hw : w < 20) (h : q ≠ p) : fo (fStep N p k) q w = fo N q w := by rw [fStep_fo hq hw, fo_step0_ne h hw]
theorem fStep_fol {N : NN} {p k a b : Nat} (hp : p < 10) (ha : a < 10) (hb : b < 10) : fFol (fStep N p k) a b = fFol N a b := by
  unfold fFol fStep fWr
  rw [if_neg (by omega), if_neg (by omega), if_neg (by omega), if_neg (by omega), if_neg (by omega), if_neg (by omega)]
  unfold fStep0 fEmpty
  repeat' split
  all_goals simp only [fset_hi _ hp (show (0 : Nat) < 20 by omega) (show 206 ≤ 206 + 10 * a + b by omega), fset_hi _ hp (show (1 : Nat) < 20 by omega) (show 206 ≤ 206 + 10 * a + b by omega), fset_hi _ hp (show (2 : Nat) < 20 by omega) (show 206 ≤ 206 + 10 * a + b by omega), fset_hi _ hp (show (3 : Nat) < 20 by omega) (show 206 ≤ 206 + 10 * a + b by omega), fset_hi _ hp (show (15 : Nat) < 20 by omega) (show 206 ≤ 206 + 10 * a + b by omega)]
/-- two rows that agree in what a promise speaks of, but for states that aren't the shown one -/
theorem fExp_eq {N M : NN} {n p : Nat} (hn : n ≤ 10) (hp : p < 10) (hI : rI N n) (h3 : M 3 = N 3) (hf : ∀ a b, a < 10 → b < 10 → fFol M a b = fFol N a b) : fExp M n p ↔ fExp N n p := by
  rcases hI.2.1 with e | ⟨q, hq, e⟩
  · exact ⟨fun z => absurd (h3.trans e) z.1, fun z => absurd e z.1⟩
  · rw [fExp_iff (h3.trans e) (by omega), fExp_iff e (by omega), hf q p (by omega) hp, smI_cong (f := fFol M q) (g := fFol N q) (fun k hk => hf q k (by omega) (by omega))]
theorem fHabit_eq {N M : NN} {p : Nat} {g : Nat} (hg : fo N p 10 = nI g) (hg4 : g ≤ 4) (h : ∀ w, 10 ≤ w → w < 15 → fo M p w = fo N p w) : fHabit M p = fHabit N p := by
  unfold fHabit
  rw [h 10 (by omega) (by omega), hg, nI_clamp (by omega), smI_cong (f := fun k => fo M p (11 + k)) (g := fun k => fo N p (11 + k)) (fun k hk => h (11 + k) (by omega) (by omega))]
theorem fRank_step {N T : NN} {n p k q : Nat} (hI : rI N n) (hn : n ≤ 10) (hp : p < 10) (hq : q < n) (hne1 : ¬ fo N q 0 = nI 1) (hne2 : ¬ fo (fStep N p k) q 0 = nI 1) (hu : q ≠ p ∨ ¬ N 4 = nI 1) : fRank (fStep N p k) T n q = fRank N T n q := by
  have h4 : (fStep N p k) 4 = N 4 := fStep_lo (by omega)
  have h1 : (fStep N p k) 1 = N 1 := fStep_lo (by omega)
  have h3 : (fStep N p k) 3 = N 3 := fStep_lo (by omega)
  obtain ⟨g, hg4, hg⟩ := hI.2.2.2.2.1 q (by omega)
  have haw : fAway (fStep N p k) q = fAway N q := by
    unfold fAway
    rw [if_neg hne1, if_neg hne2, h1, fStep_w (by omega) (by omega) (by omega) (by omega) (by omega) (by omega) (by omega)]
  have hex : fExp (fStep N p k) n q ↔ fExp N n q := fExp_eq hn (by omega) hI h3 (fun a b ha hb => fStep_fol hp ha hb)
  have hha : fHabit (fStep N p k) q = fHabit N q := fHabit_eq hg hg4 (fun w h1 h2 => fStep_w (by omega) (by omega) (by omega) (by omega) (by omega) (by omega) (by omega))
  have h9 : fo (fStep N p k) q 9 = fo N q 9 := fStep_w (by omega) (by omega) (by omega) (by omega) (by omega) (by omega) (by omega)
  have hpr : fProm (fStep N p k) n q = fProm N n q := by
    by_cases hx : fExp N n q
    · rw [fProm_0 (Or.inr hx), fProm_0 (Or.inr (hex.mpr hx))]
    · have e1 : ¬ (fo N q 0 = nI 1 ∨ fExp N n q) := fun z => z.elim hne1 hx
      have e2 : ¬ (fo (fStep N p k) q 0 = nI 1 ∨ fExp (fStep N p k) n q) := fun z => z.elim hne2 (fun y => hx (hex.mp y))
      by_cases h0 : fo N q 9 = 0
      · rw [fProm_1 e1 h0, fProm_1 e2 (h9.trans h0)]
      · rw [fProm_2 e1 h0, fProm_2 e2 (by rw [h9]; exact h0), hha, haw]
  unfold fRank
  rw [h4, hpr, haw]
  by_cases e : N 4 = 0
  · rw [if_pos e, if_pos e]
  · rw [if_neg e, if_neg e]
    by_cases e2 : N 4 = nI 1
    · rw [if_pos e2, if_pos e2]
      rcases hu with hu | hu
      · unfold fUses
        rw [fStep_ne (by omega) (by omega) hu, fStep_ne (by omega) (by omega) hu, fStep_ne (by omega) (by omega) hu]
      · exact absurd e2 hu
    · rw [if_neg e2, if_neg e2]
theorem fPrec_step {N : NN} {p k q : Nat} (hq : q < 10) : fPrec (fStep N p k) q ↔ fPrec N q := by
  unfold fPrec
  rw [fStep_w hq (by omega) (by omega) (by omega) (by omega) (by omega) (by omega), fStep_w hq (by omega) (by omega) (by omega) (by omega) (by omega) (by omega), fStep_lo (by omega)]
theorem cI.step {N : NN} {p k : Nat} (h : cI N) (hp : p < 10) (hk : 1 ≤ k) (hk6 : k ≤ 6) (hf : fCan N p k) : cI (fStep N p k) := by
  intro q hq
  rw [fStep_fo hq (by omega), fStep_fo hq (by omega), fStep_fo hq (by omega)]
  obtain ⟨c1, c2⟩ := h q hq
  by_cases e : q = p
  · subst e
    unfold fCan at hf
    rcases (show k = 1 ∨ k = 2 ∨ k = 3 ∨ k = 4 ∨ k = 5 ∨ k = 6 by omega) with rfl | rfl | rfl | rfl | rfl | rfl
    all_goals
      simp [fStep0, fEmpty, fo_set] at hf ⊢
      try simp [hf, nI_eq]
      try (first | done | (rcases hf.1 with e | e <;> simp [e, nI_eq]))
  · rw [fo_step0_ne e (by omega), fo_step0_ne e (by omega), fo_step0_ne e (by omega)]
    exact ⟨c1, c2⟩
theorem smI_upd {f g : NN} {p : Nat} : ∀ {n : Nat}, p < n → (∀ k, k < n → k ≠ p → g k = f k) → smI g n = smI f n - (f p - g p)
  | 0, hp, _ => absurd hp (Nat.not_lt_zero _)
  | n + 1, hp, h => by
    show smI g n + g n = smI f n + f n - (f p - g p)
    by_cases e : p = n
    · subst e
      rw [smI_cong (f := g) (g := f) (fun k hk => h k (by omega) (by omega))]
      have : ∀ a b c : Int32, a + c = a + b - (b - c) := fun a b c => by
        rw [Int32.sub_eq_add_neg, Int32.sub_eq_add_neg, Int32.neg_add, Int32.sub_eq_add_neg, Int32.neg_neg]
        rw [Int32.add_assoc, ← Int32.add_assoc b, Int32.add_right_neg, Int32.zero_add]
      exact this _ _ _
    · rw [smI_upd (n := n) (by omega) (fun k hk hn => h k (by omega) hn), h n (by omega) (fun z => e z.symm)]
      have : ∀ a b c : Int32, a - c + b = a + b - c := fun a b c => by
        rw [Int32.sub_eq_add_neg, Int32.sub_eq_add_neg, Int32.add_assoc, Int32.add_assoc, Int32.add_comm (-c)]
      exact this _ _ _
theorem fAll_step {N T : NN} {n p k : Nat} (hn : n ≤ 10) (hp : p < n) : fAll (fStep N p k) T n = fAll N T n - (fUses N T p - fUses (fStep N p k) T p) := by
  unfold fAll
  refine smI_upd hp (fun q hq hne => ?_)
  unfold fUses
  rw [fStep_ne (by omega) (by omega) hne, fStep_ne (by omega) (by omega) hne, fStep_ne (by omega) (by omega) hne]
