/-! the spec reads the told numbers of the programs alone -/
def TE (T U : NN) (n : Nat) : Prop := ∀ p w, p < n → w < 8 → T (8 * p + w) = U (8 * p + w)
theorem fUses_T {N T U : NN} {n p : Nat} (h : TE T U n) (hp : p < n) : fUses N T p = fUses N U p := by
  unfold fUses
  rw [h p 4 hp (by omega), h p 5 hp (by omega)]
theorem fAll_T {N T U : NN} {n : Nat} (h : TE T U n) : fAll N T n = fAll N U n := smI_cong (fun _ hk => fUses_T h hk)
theorem fRank_T {N T U : NN} {n p : Nat} (h : TE T U n) (hp : p < n) : fRank N T n p = fRank N U n p := by
  unfold fRank
  rw [fUses_T h hp]
theorem fAhead_T {N T U : NN} {n p o k : Nat} (h : TE T U n) (hp : p < n) (ho : o < n) : fAhead N T n p o k ↔ fAhead N U n p o k := by
  unfold fAhead
  rw [fRank_T h hp, fRank_T h ho]
theorem fVicF_T {N T U : NN} {n k : Nat} (h : TE T U n) : ∀ p, p ≤ n → fVicF N T n k p = fVicF N U n k p
  | 0, _ => rfl
  | p + 1, hp => by
    have ih := fVicF_T h (N := N) (k := k) p (by omega)
    have e : (fCan N p k ∧ ∀ o, fVicF N T n k p = some o → fAhead N T n p o k) ↔ (fCan N p k ∧ ∀ o, fVicF N U n k p = some o → fAhead N U n p o k) := by
      rw [ih]
      constructor
      · exact fun z => ⟨z.1, fun o ho => (fAhead_T h (by omega) (by have := fVicF_lt ho; omega)).mp (z.2 o ho)⟩
      · exact fun z => ⟨z.1, fun o ho => (fAhead_T h (by omega) (by have := fVicF_lt ho; omega)).mpr (z.2 o ho)⟩
    rw [fVicF, fVicF]
    by_cases hc : fCan N p k ∧ ∀ o, fVicF N T n k p = some o → fAhead N T n p o k
    · rw [if_pos hc, if_pos (e.mp hc)]
    · rw [if_neg hc, if_neg (fun z => hc (e.mpr z)), ih]
theorem fVic_T {N T U : NN} {n k : Nat} (h : TE T U n) : fVic N T n k = fVic N U n k := fVicF_T h n (Nat.le_refl _)
theorem fKindF_T {N T U : NN} {n : Nat} (h : TE T U n) : ∀ m k, fKindF N T n m k = fKindF N U n m k
  | 0, _ => rfl
  | m + 1, k => by
    rw [fKindF, fKindF, fVic_T h, fKindF_T h m (k + 1)]
theorem fKind_T {N T U : NN} {n : Nat} (h : TE T U n) : fKind N T n = fKind N U n := fKindF_T h 6 1
theorem fMemF_T {T U : NN} {n : Nat} (h : TE T U n) : ∀ (f : Nat) (N : NN), fMemF T n f N = fMemF U n f N
  | 0, _ => rfl
  | f + 1, N => by
    rw [fMemF, fMemF, fAll_T h, fKind_T h]
    split
    · cases fKind N U n with
      | none => rfl
      | some q => 
        obtain ⟨k, p⟩ := q
        show (fMemF T n f (fStep N p k)).map _ = (fMemF U n f (fStep N p k)).map _
        rw [fMemF_T h f]
    · rfl
theorem fMem_T {N T U : NN} {n : Nat} (h : TE T U n) : fMem N T n = fMem N U n := fMemF_T h 60 N
theorem fLay_T {N T U : NN} {n p : Nat} (h : TE T U n) (hp : p < n) : fLay N T p = fLay N U p := by
  unfold fLay
  rw [show T (8 * p) = U (8 * p) from h p 0 hp (by omega), h p 1 hp (by omega)]
theorem fWait_T {N T U c : NN} {n p : Nat} (h : TE T U n) (hp : p < n) : fWait N T c p = fWait N U c p := by
  unfold fWait
  rw [show T (8 * p) = U (8 * p) from h p 0 hp (by omega)]
theorem fShow_T {N T U c : NN} {n p : Nat} (h : TE T U n) (hp : p < n) : fShow N T c n p = fShow N U c n p := by
  unfold fShow
  rw [fLay_T h hp, fMem_T h, fWait_T h hp, h p 6 hp (by omega)]
theorem fShowR_T {N T U c : NN} {n p : Nat} (h : TE T U n) (hp : p < n) : fShowR N T c n p = fShowR N U c n p := by
  unfold fShowR
  rw [fShow_T h hp, fWait_T h hp]
theorem fGets_T {N T U : NN} {n p : Nat} {x : Int32} (h : TE T U n) (hp : p < n) : fGets N T n p x = fGets N U n p x := by
  unfold fGets
  have hf : ∀ M, fMem M T n = fMem M U n := fun _ => fMem_T h
  simp only [h p 3 hp (by omega), hf]
theorem fDue_T {N T U : NN} {n p : Nat} (h : TE T U n) (hp : p < n) : fDue N T p ↔ fDue N U p := by
  unfold fDue
  rw [h p 7 hp (by omega)]
theorem fPassF_T {T U : NN} {n : Nat} {q0 : Nat × NN} (h : TE T U n) : ∀ p, p ≤ n → fPassF T n q0 p = fPassF U n q0 p
  | 0, _ => rfl
  | p + 1, hp => by
    have ih := fPassF_T h (q0 := q0) p (by omega)
    by_cases hd : fDue (fPassF T n q0 p).2 T p
    · have hd2 : fDue (fPassF U n q0 p).2 U p := by rw [← ih]; exact (fDue_T h (by omega)).mp hd
      rw [fPassF_y hd, fPassF_y hd2, ih, fGets_T h (by omega)]
    · have hd2 : ¬ fDue (fPassF U n q0 p).2 U p := by rw [← ih]; exact fun z => hd ((fDue_T h (by omega)).mpr z)
      rw [fPassF_n hd, fPassF_n hd2, ih]
theorem fPass0_T {N T U : NN} {n : Nat} (hI : rI N n) (hn : n ≤ 10) (h : TE T U n) : fPass0 N T n = fPass0 N U n := by
  rcases hI.tick.1 with e | ⟨q, hq, e⟩
  · rw [fPass0_n e, fPass0_n e]
  · rw [fPass0_s (by omega) e, fPass0_s (by omega) e, h q 2 hq (by omega), fGets_T h hq]
theorem fPass_T {N T U : NN} {n : Nat} (hI : rI N n) (hn : n ≤ 10) (h : TE T U n) : fPass N T n = fPass N U n := by
  unfold fPass
  rw [fPass0_T hI hn h, fPassF_T h n (Nat.le_refl _)]
theorem fPassN_T {N T U : NN} {n : Nat} (hI : rI N n) (hn : n ≤ 10) (h : TE T U n) : ∀ k, fPassN N T n k = fPassN N U n k
  | 0 => rfl
  | k + 1 => by
    have ih := fPassN_T hI hn h k
    rw [fPassN, fPassN, ih, fPass_T (hI.passN hn k) hn h]
theorem fPgs_T {N T U : NN} {n p : Nat} (h : TE T U n) (hp : p < n) : fPgs N T p = fPgs N U p := by
  unfold fPgs
  rw [show T (8 * p) = U (8 * p) from h p 0 hp (by omega)]
theorem tI_T {T U : NN} {n : Nat} (h : TE T U n) (ht : tI T n) : tI U n := fun p hp => by
  rw [← show T (8 * p) = U (8 * p) from h p 0 hp (by omega), ← h p 1 hp (by omega), ← h p 2 hp (by omega), ← h p 3 hp (by omega), ← h p 4 hp (by omega), ← h p 5 hp (by omega)]
  exact ht p hp
theorem JI_T {N T U : NN} {n B : Nat} (h : TE T U n) (hj : JI N T n B) : JI N U n B := by
  refine ⟨hj.1, fun p hp => ?_, ?_, hj.2.2.2⟩
  · rw [← h p 3 hp (by omega)]
    exact hj.2.1 p hp
  · rw [← fAll_T h]
    exact hj.2.2.1
theorem TE.symm {T U : NN} {n : Nat} (h : TE T U n) : TE U T n := fun p w hp hw => (h p w hp hw).symm
