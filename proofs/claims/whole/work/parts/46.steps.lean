/-! how many steps stand in the accounts -/
def fSt (N : NN) : Int32 := smI (fun k => N (378 + (k + 1))) 6
theorem smI_inc {f g : NN} {p : Nat} {x : Int32} : ∀ {n : Nat}, p < n → (∀ k, k < n → k ≠ p → g k = f k) → g p = f p + x → smI g n = smI f n + x
  | 0, hp, _, _ => absurd hp (Nat.not_lt_zero _)
  | n + 1, hp, h, hx => by
    by_cases e : p = n
    · subst e
      rw [smI, smI, smI_cong (f := g) (g := f) (fun k hk => h k (by omega) (by omega)), hx, Int32.add_assoc]
    · rw [smI, smI, smI_inc (n := n) (by omega) (fun k hk hn => h k (by omega) hn) hx, h n (by omega) (fun z => e z.symm), Int32.add_assoc, Int32.add_comm x, ← Int32.add_assoc]
theorem fSt_row {N M : NN} (h : ∀ j, 378 ≤ j → j < 388 → M j = N j) : fSt M = fSt N := smI_cong (fun k hk => h _ (by omega) (by omega))
theorem fSt_wr {N : NN} {k p : Nat} (hk : 1 ≤ k) (hk6 : k ≤ 6) : fSt (fWr N k p) = fSt N + nI 1 := by
  refine smI_inc (p := k - 1) (by omega) (fun j hj hn => ?_) ?_
  · show fWr N k p (378 + (j + 1)) = N (378 + (j + 1))
    unfold fWr
    rw [if_neg (by omega), if_neg (by omega), if_neg (by omega), if_neg (by omega), if_neg (by omega), if_neg (by omega)]
  · show fWr N k p (378 + (k - 1 + 1)) = N (378 + (k - 1 + 1)) + nI 1
    unfold fWr
    rw [if_neg (by omega), if_neg (by omega), if_neg (by omega), if_neg (by omega), if_neg (by omega), if_pos (by omega)]
theorem fSt_wn {N : NN} {k p : Nat} (hk : 7 ≤ k) : fSt (fWr N k p) = fSt N := smI_cong (fun j hj => by
  show fWr N k p (378 + (j + 1)) = N (378 + (j + 1))
  unfold fWr
  rw [if_neg (by omega), if_neg (by omega), if_neg (by omega), if_neg (by omega), if_neg (by omega), if_neg (by omega)])
theorem fSt_step {N : NN} {k p : Nat} (hp : p < 10) (hk : 1 ≤ k) (hk6 : k ≤ 6) : fSt (fStep N p k) = fSt N + nI 1 := by
  unfold fStep
  rw [fSt_wr hk hk6, fSt_row (fun j h1 _ => fStep0_out hp (by omega))]
theorem fSt_memF {T : NN} {n : Nat} (hn : n ≤ 10) : ∀ (f : Nat) {N : NN} {q : Nat × NN}, fMemF T n f N = some q → fSt q.2 = fSt N + nI q.1
  | 0, _, _, h => by cases h
  | f + 1, N, q, h => by
    by_cases hm : N 0 < fAll N T n
    · cases hk : fKind N T n with
      | none => rw [fMemF_n hm hk] at h; cases h
      | some kp =>
        obtain ⟨k, p⟩ := kp
        rw [fMemF_s hm hk] at h
        obtain ⟨g1, g2, g3⟩ := fKindF_some hk
        cases hr : fMemF T n f (fStep N p k) with
        | none => rw [hr] at h; cases h
        | some r =>
          rw [hr] at h
          cases h
          show fSt r.2 = fSt N + nI (r.1 + 1)
          have hp := fVic_lt g3
          rw [fSt_memF hn f hr, fSt_step (by omega) g1 (by omega), Int32.add_assoc, nI_add, Nat.add_comm]
    · rw [fMemF_0 hm] at h
      cases h
      show fSt N = fSt N + 0
      rw [Int32.add_zero]
theorem fSt_mem {N T : NN} {n : Nat} {q : Nat × NN} (hn : n ≤ 10) (h : fMem N T n = some q) : fSt q.2 = fSt N + nI q.1 := fSt_memF hn 60 h
theorem fSt_rests {N : NN} {n : Nat} (hI : rI N n) (hn : n ≤ 10) : fSt (fRests N) = fSt N := fSt_row (fun j h1 _ => fRests_j hI hn (by omega))
theorem fSt_lay {N T : NN} {n p : Nat} (hI : rI N n) (hn : n ≤ 10) (hp : p < 10) : fSt (fLay N T p) = fSt N := (fSt_row (fun j h1 _ => fLay_j N T hp (by omega))).trans (fSt_rests hI hn)
theorem fSt_hab {N : NN} {n p g : Nat} {b : Int32} (hn : n ≤ 10) (hp : p < 10) (hb : b = -1 ∨ ∃ q, q < n ∧ b = nI q) (hg : fo N p 10 = nI g) (hg4 : g ≤ 4) : fSt (fHab N p b) = fSt N := by
  refine fSt_row (fun j h1 h2 => ?_)
  have h0 : fset (fGap N p) p 9 (nI 1) j = N j := by rw [fset_out hp (by omega) (by omega), fGap_out hp hg hg4 (by omega)]
  rcases hb with e | ⟨q, hq, e⟩
  · rw [fHab_n (Or.inl e), h0]
  · subst e
    by_cases e : q = p
    · rw [fHab_n (Or.inr (congrArg nI e)), h0]
    · rw [fHab_y (by omega) (by omega) e, ← h0]
      exact upd_n _ (by omega)
theorem fSt_comp {N : NN} {p : Nat} (hp : p < 10) : fSt (fComp N p) = fSt N := by
  have e2 : fComp N p = fWr (fset (fset N p 4 (fo N p 4 + nI 1)) p 5 (N 1)) 8 p := by
    show fWr (fset (fset N p 4 (fo N p 4 + nI 1)) p 5 (fset N p 4 (fo N p 4 + nI 1) 1)) 8 p = _
    rw [show fset N p 4 (fo N p 4 + nI 1) 1 = N 1 from fset_lo _ (by omega)]
  rw [e2, fSt_wn (by omega)]
  exact fSt_row (fun j h1 h2 => by rw [fset_out hp (by omega) (by omega), fset_out hp (by omega) (by omega)])
theorem fSt_show {N T c : NN} {n p : Nat} {q : Nat × NN} (hI : rI N n) (hn : n ≤ 10) (hp : p < n) (hq : fShow N T c n p = some q) : fSt q.2 = fSt N + nI q.1 := by
  cases hm : fMem (fLay N T p) T n with
  | none => rw [fShow_n2 hm] at hq; cases hq
  | some kM =>
    obtain ⟨m, M⟩ := kM
    rw [fShow_s2 hm] at hq
    cases hq
    have hok := fMem_ok hn (hI.lay hn hp) hm
    obtain ⟨g, hg4, hg⟩ := hok.2.1.2.2.2.2.1 p (by omega)
    have h1 : fSt (fWr (fHab M p (N 3)) 7 p) = fSt N + nI m := by rw [fSt_wn (by omega), fSt_hab hn (by omega) hI.2.1 hg hg4, fSt_mem hn hm, fSt_lay hI hn (by omega)]
    show fSt (if T (8 * p + 6) < fWait N T c p then fComp (fWr (fHab M p (N 3)) 7 p) p else fWr (fHab M p (N 3)) 7 p) = _
    split
    · rw [fSt_comp (by omega), h1]
    · exact h1
theorem fSt_gets {N T : NN} {n p : Nat} {x : Int32} (hn : n ≤ 10) (hp : p < 10) : fSt (fGets N T n p x).2 = fSt N + nI (fGets N T n p x).1 := by
  by_cases hq : 0 < (if x < T (8 * p + 3) - fo N p 1 then x else T (8 * p + 3) - fo N p 1)
  · cases hm : fMem (fset N p 1 (fo N p 1 + (if x < T (8 * p + 3) - fo N p 1 then x else T (8 * p + 3) - fo N p 1))) T n with
    | none =>
      rw [fGets_n rfl hq hm, fSt_wn (by omega)]
      exact (Int32.add_zero _).symm
    | some q =>
      rw [fGets_s rfl hq hm, fSt_mem hn hm, fSt_row (fun j h1 h2 => fset_out hp (by omega) (by omega))]
  · rw [fGets_0 rfl hq]
    exact (Int32.add_zero _).symm
theorem fSt_pass0 {N T : NN} {n : Nat} (hI : rI N n) (hn : n ≤ 10) : fSt (fPass0 N T n).2 = fSt N + nI (fPass0 N T n).1 := by
  have ht : fSt (fTick N) = fSt N := fSt_row (fun j h1 h2 => upd_n _ (by omega))
  rcases hI.tick.1 with e | ⟨q, hq, e⟩
  · rw [fPass0_n e, ht]
    exact (Int32.add_zero _).symm
  · rw [fPass0_s (by omega) e, fSt_gets hn (by omega), ht]
theorem fSt_passF {T : NN} {n : Nat} {q0 : Nat × NN} {a : Int32} (hn : n ≤ 10) (h : fSt q0.2 = a + nI q0.1) : ∀ p, p ≤ n → fSt (fPassF T n q0 p).2 = a + nI (fPassF T n q0 p).1
  | 0, _ => h
  | p + 1, hp => by
    have ih := fSt_passF (T := T) hn h p (by omega)
    by_cases hd : fDue (fPassF T n q0 p).2 T p
    · rw [fPassF_y hd]
      show fSt (fGets (fPassF T n q0 p).2 T n p (nI 1)).2 = _
      rw [fSt_gets hn (by omega), ih, Int32.add_assoc, nI_add]
    · rw [fPassF_n hd, ih]
theorem fSt_pass {N T : NN} {n : Nat} (hI : rI N n) (hn : n ≤ 10) : fSt (fPass N T n).2 = fSt N + nI (fPass N T n).1 := fSt_passF hn (fSt_pass0 hI hn) n (Nat.le_refl _)
theorem fSt_passN {N T : NN} {n : Nat} (hI : rI N n) (hn : n ≤ 10) : ∀ k, fSt (fPassN N T n k).2 = fSt N + nI (fPassN N T n k).1
  | 0 => (Int32.add_zero _).symm
  | k + 1 => by
    rw [fPassN]
    show fSt (fPass (fPassN N T n k).2 T n).2 = _
    rw [fSt_pass (hI.passN hn k) hn, fSt_passN hI hn k, Int32.add_assoc, nI_add]
theorem i_sub (a b : Int32) : a + b - a = b := by
  rw [Int32.add_comm, Int32.add_sub_cancel]
/-- the class's own count of steps -/
theorem AJ.st6 {S : mS} {v : Nat} {N : NN} (h : AJ S v N) : smI (fun k => S 24 v (k + 1)) 6 = fSt N := by
  obtain ⟨x, kk, x1, x2, x3, x4, x5, x6, x7⟩ := h
  exact smI_cong (fun k hk => x7 (k + 1) (by omega))
