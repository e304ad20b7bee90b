/-! what lies beyond an array's end doesn't matter; potentials of trim steps; the row's invariant under its moves -/
def mrg (k j : Nat) : Prop := match msh k with | .inl q => j < q.2 | .inr _ => True
theorem arrV_ext {cI : ClassId} {N : Nat} {f g : Nat → Value} (h : ∀ j, j < N → f j = g j) : arrV cI N f = arrV cI N g := by
  unfold arrV
  congr 1
  apply congrArg
  funext j
  exact h j.val j.isLt
theorem mat.ext {G : mG} {ad : mA} {S S' : mS} {L : mL} {R : mR} {k i : Nat} {H : Heap} (h : ∀ j, mrg k j → S k i j = S' k i j) (hm : mat G ad S L R k i H) : mat G ad S' L R k i H := by
  unfold mat at hm ⊢
  unfold mrg at h
  cases hs : msh k with
  | inl q =>
    rw [hs] at hm h
    simp only at hm h ⊢
    rw [hm]
    congr 1
    obtain ⟨t, len⟩ := q
    unfold mcell
    have e : arrV (G.2 t) len (fun j => .int (S k i j)) = arrV (G.2 t) len (fun j => .int (S' k i j)) := arrV_ext (fun j hj => by rw [h j hj])
    match t with
    | 0 => exact e
    | 1 => exact e
    | 2 => exact e
    | 3 => rfl
    | 4 => rfl
    | 5 => rfl
    | n + 6 => exact e
  | inr ci =>
    rw [hs] at hm h
    simp only at hm h ⊢
    have e : mval ad S L R ci k i = mval ad S' L R ci k i := by
      funext j
      unfold mval
      rw [h j trivial]
    rw [← e]
    exact hm
theorem z_ext {X : mX} {nL : Nat} {ad : mA} {dm : mD} {S : mS} {L : mL} {R : mR} {ce sl pc : Nat} {lv : List (Nat × Value)} {st : List Value} (S' : mS) (h : ∀ k i j, mrg k j → S k i j = S' k i j) (k : Z X nL ad dm S' L R ce sl pc lv st) : Z X nL ad dm S L R ce sl pc lv st := by
  obtain ⟨p, l, e, Rm, s, m, args, below, meth, c, Q, G, A⟩ := X
  intro H locs ls h1 h2 h3
  exact k H locs ls ⟨h1.1, h1.2.1, fun k i hd => (h1.2.2 k i hd).ext (fun j hj => h k i j hj)⟩ h2 h3
theorem up3_up3 {α : Type} (S : Nat → Nat → Nat → α) (k i j : Nat) (v w : α) : up3 (up3 S k i j v) k i j w = up3 S k i j w := by
  funext k' i' j'
  simp only [up3]
  split <;> rfl
theorem up3_sA (S : mS) {kd k : Nat} (h : k ≠ kd) (A : NN) (i j : Nat) (v : Int32) : up3 (sA S kd A) k i j v = sA (up3 S k i j v) kd A := by
  funext k' i' j'
  simp only [up3, sA]
  by_cases h1 : k' = k ∧ i' = i ∧ j' = j
  · rw [if_pos h1, if_neg (fun q => h (h1.1.symm.trans q.1)), if_pos h1]
  · rw [if_neg h1, if_neg h1]
theorem sA_44_49 (S : mS) (A B : NN) : sA (sA S 44 A) 49 B = sA (sA S 49 B) 44 A := sA_comm S (by decide) A B
theorem sA_44_50 (S : mS) (A B : NN) : sA (sA S 44 A) 50 B = sA (sA S 50 B) 44 A := sA_comm S (by decide) A B
theorem sA_44_51 (S : mS) (A B : NN) : sA (sA S 44 A) 51 B = sA (sA S 51 B) 44 A := sA_comm S (by decide) A B
theorem sA_44_52 (S : mS) (A B : NN) : sA (sA S 44 A) 52 B = sA (sA S 52 B) 44 A := sA_comm S (by decide) A B
theorem sA_49_50 (S : mS) (A B : NN) : sA (sA S 49 A) 50 B = sA (sA S 50 B) 49 A := sA_comm S (by decide) A B
theorem sA_49_51 (S : mS) (A B : NN) : sA (sA S 49 A) 51 B = sA (sA S 51 B) 49 A := sA_comm S (by decide) A B
theorem sA_50_51 (S : mS) (A B : NN) : sA (sA S 50 A) 51 B = sA (sA S 51 B) 50 A := sA_comm S (by decide) A B
def phi (st ca : Int32) : Nat := (if st = nI 5 then 1 else if st = nI 4 then 2 else if st = nI 3 then 3 else if st = nI 2 then 4 else 0) + (if (st = nI 1 ∨ st = nI 2 ∨ st = nI 3) ∧ 0 < ca then 1 else 0)
def Phi (N : NN) : Nat → Nat
  | 0 => 0
  | n + 1 => Phi N n + phi (fo N n 0) (fo N n 2)
theorem phi_le (st ca : Int32) : phi st ca ≤ 5 := by
  unfold phi
  repeat' split
  all_goals omega
theorem Phi_le (N : NN) : ∀ n, Phi N n ≤ 5 * n
  | 0 => Nat.le_refl _
  | n + 1 => by
    have h1 := Phi_le N n
    have h2 := phi_le (fo N n 0) (fo N n 2)
    show Phi N n + _ ≤ _
    omega
theorem Phi_eq {N M : NN} : ∀ {n : Nat}, (∀ q, q < n → fo M q 0 = fo N q 0 ∧ fo M q 2 = fo N q 2) → Phi M n = Phi N n
  | 0, _ => rfl
  | n + 1, h => by
    have h1 := h n (Nat.lt_succ_self _)
    show Phi M n + phi _ _ = Phi N n + phi _ _
    rw [h1.1, h1.2, Phi_eq (fun q hq => h q (Nat.lt_succ_of_lt hq))]
theorem Phi_lt {N M : NN} {p : Nat} : ∀ {n : Nat}, p < n → (∀ q, q < n → q ≠ p → fo M q 0 = fo N q 0 ∧ fo M q 2 = fo N q 2) → phi (fo M p 0) (fo M p 2) < phi (fo N p 0) (fo N p 2) → Phi M n < Phi N n
  | 0, hp, _, _ => absurd hp (Nat.not_lt_zero _)
  | n + 1, hp, h, hl => by
    show Phi M n + phi _ _ < Phi N n + phi _ _
    by_cases e : p = n
    · subst e
      rw [Phi_eq (N := N) (M := M) (n := p) (fun q hq => h q (Nat.lt_succ_of_lt hq) (Nat.ne_of_lt hq))]
      omega
    · have h1 := Phi_lt (n := n) (by omega) (fun q hq hn => h q (Nat.lt_succ_of_lt hq) hn) hl
      have h2 := h n (Nat.lt_succ_self _) (fun q => e q.symm)
      rw [h2.1, h2.2]
      omega
theorem wr_lo {N : NN} {k p j : Nat} (h : j < 5) : fWr N k p j = N j := by
  unfold fWr
  rw [if_neg (by omega), if_neg (by omega), if_neg (by omega), if_neg (by omega), if_neg (by omega), if_neg (by omega)]
theorem fo_wr {N : NN} {k p q w : Nat} (hq : q < 10) (hw : w < 20) : fo (fWr N k p) q w = fo N q w := by
  unfold fo fWr
  rw [if_neg (by omega), if_neg (by omega), if_neg (by omega), if_neg (by omega), if_neg (by omega), if_neg (by omega)]
theorem wr_5 {N : NN} {k p m : Nat} (hm : m ≤ 24) (h : N 5 = nI m) : fWr N k p 5 = nI (if m < 24 then m + 1 else m) := by
  unfold fWr
  rw [if_neg (by omega), if_neg (by omega), if_neg (by omega), if_neg (by omega), if_pos rfl, h]
  by_cases h1 : m < 24
  · rw [if_pos h1, if_pos ((nI_ltI (by omega) (by decide)).mpr h1), nI_add]
  · rw [if_neg h1, if_neg (fun z => h1 ((nI_ltI (by omega) (by decide)).mp z)), nI_add]
    rfl
theorem rI.wr {N : NN} {n k p : Nat} (h : rI N n) : rI (fWr N k p) n := by
  obtain ⟨a1, a2, a3, a4, a5, a6, a7, a8, m, hm, a9⟩ := h
  refine ⟨by rw [wr_lo (by omega)]; exact a1, by rw [wr_lo (by omega)]; exact a2, fun q hq => by rw [fo_wr hq (by omega)]; exact a3 q hq, fun q hq => by rw [fo_wr hq (by omega), wr_lo (by omega)]; exact a4 q hq, fun q hq => by rw [fo_wr hq (by omega)]; exact a5 q hq, fun q hq => by rw [fo_wr hq (by omega)]; exact a6 q hq, fun q hq => by rw [fo_wr hq (by omega)]; exact a7 q hq, fun q hq => by rw [fo_wr hq (by omega)]; exact a8 q hq, ?_⟩
  exact ⟨_, by split <;> omega, wr_5 hm a9⟩
theorem fo_set (N : NN) {p w q x : Nat} {v : Int32} (hw : w < 20) (hx : x < 20) : fo (fset N p w v) q x = if q = p ∧ x = w then v else fo N q x := by
  by_cases h : q = p ∧ x = w
  · rw [if_pos h, h.1, h.2, fo_set_s]
  · rw [if_neg h]
    by_cases h1 : q = p
    · exact fo_set_w N (fun z => h ⟨h1, z⟩) hw hx
    · exact fo_set_p N h1 hw hx
theorem rI.set {N : NN} {n p w : Nat} {v : Int32} (h : rI N n) (hw : w < 20) (h0 : w = 0 → (∃ s, s ≤ 5 ∧ v = nI s) ∧ (v = nI 1 ↔ N 2 = nI p)) (h10 : w = 10 → ∃ g, g ≤ 4 ∧ v = nI g) (h15 : w = 15 → ∃ g, g ≤ 5 ∧ v = nI g) (h6 : w = 6 → v = 0 ∨ v = 1) (h9 : w = 9 → v = 0 ∨ v = 1) : rI (fset N p w v) n := by
  obtain ⟨a1, a2, a3, a4, a5, a6, a7, a8, a9⟩ := h
  refine ⟨by rw [fset_lo _ (by omega)]; exact a1, by rw [fset_lo _ (by omega)]; exact a2, fun q hq => ?_, fun q hq => ?_, fun q hq => ?_, fun q hq => ?_, fun q hq => ?_, fun q hq => ?_, by rw [fset_lo _ (by omega)]; exact a9⟩
  · rw [fo_set _ hw (by omega)]
    split
    · rename_i e; exact (h0 e.2.symm).1
    · exact a3 q hq
  · rw [fo_set _ hw (by omega), fset_lo _ (by omega)]
    split
    · rename_i e; rw [e.1]; exact (h0 e.2.symm).2
    · exact a4 q hq
  · rw [fo_set _ hw (by omega)]
    split
    · rename_i e; exact h10 e.2.symm
    · exact a5 q hq
  · rw [fo_set _ hw (by omega)]
    split
    · rename_i e; exact h15 e.2.symm
    · exact a6 q hq
  · rw [fo_set _ hw (by omega)]
    split
    · rename_i e; exact h6 e.2.symm
    · exact a7 q hq
  · rw [fo_set _ hw (by omega)]
    split
    · rename_i e; exact h9 e.2.symm
    · exact a8 q hq
theorem nI_2e {a b : Nat} (ha : a ≤ 5) (hb : b ≤ 5) : nI a = nI b ↔ a = b := nI_eq (by omega) (by omega)
theorem fo_step0_ne {N : NN} {p k q w : Nat} (h : q ≠ p) (hw : w < 20) : fo (fStep0 N p k) q w = fo N q w := by
  unfold fStep0 fEmpty
  repeat' split
  all_goals simp only [fo_set_p _ h (show (0 : Nat) < 20 by omega) hw, fo_set_p _ h (show (1 : Nat) < 20 by omega) hw, fo_set_p _ h (show (2 : Nat) < 20 by omega) hw, fo_set_p _ h (show (3 : Nat) < 20 by omega) hw, fo_set_p _ h (show (15 : Nat) < 20 by omega) hw]
theorem Phi_step {N : NN} {n p k : Nat} (hp : p < n) (hn : n ≤ 10) (hk : 1 ≤ k) (hk6 : k ≤ 6) (hc : fCan N p k) : Phi (fStep N p k) n < Phi N n := by
  refine Phi_lt hp (fun q hq hne => ⟨?_, ?_⟩) ?_
  · unfold fStep
    rw [fo_wr (by omega) (by omega), fo_step0_ne hne (by omega)]
  · unfold fStep
    rw [fo_wr (by omega) (by omega), fo_step0_ne hne (by omega)]
  · unfold fStep
    rw [fo_wr (by omega) (by omega), fo_wr (by omega) (by omega)]
    unfold fCan at hc
    unfold fStep0 fEmpty
    rcases (show k = 1 ∨ k = 2 ∨ k = 3 ∨ k = 4 ∨ k = 5 ∨ k = 6 by omega) with rfl | rfl | rfl | rfl | rfl | rfl
    · simp only [if_true, if_false, show ¬ (1 : Nat) = 5 by omega, show ¬ (1 : Nat) = 3 by omega, show ¬ (1 : Nat) = 2 by omega, show ¬ (1 : Nat) = 4 by omega, fo_set_s, fo_set_w _ (show (0 : Nat) ≠ 1 by omega) (show (1 : Nat) < 20 by omega) (show (0 : Nat) < 20 by omega), fo_set_w _ (show (2 : Nat) ≠ 1 by omega) (show (1 : Nat) < 20 by omega) (show (2 : Nat) < 20 by omega), fo_set_w _ (show (2 : Nat) ≠ 0 by omega) (show (0 : Nat) < 20 by omega) (show (2 : Nat) < 20 by omega)] at hc ⊢
      rcases hc.1 with e | e
      · rw [e]; simp [phi, nI_eq, hc.2]; decide
      · rw [e]; simp [phi, nI_eq, hc.2]; decide
    · simp only [if_true, if_false, show ¬ (2 : Nat) = 1 by omega, show ¬ (2 : Nat) = 5 by omega, show ¬ (2 : Nat) = 3 by omega, show ¬ (2 : Nat) = 4 by omega, fo_set_s, fo_set_w _ (show (0 : Nat) ≠ 1 by omega) (show (1 : Nat) < 20 by omega) (show (0 : Nat) < 20 by omega), fo_set_w _ (show (2 : Nat) ≠ 1 by omega) (show (1 : Nat) < 20 by omega) (show (2 : Nat) < 20 by omega), fo_set_w _ (show (2 : Nat) ≠ 0 by omega) (show (0 : Nat) < 20 by omega) (show (2 : Nat) < 20 by omega)] at hc ⊢
      rw [hc.1]; simp [phi, nI_eq]
      try (split <;> omega)
    · simp only [if_true, if_false, show ¬ (3 : Nat) = 1 by omega, show ¬ (3 : Nat) = 5 by omega, show ¬ (3 : Nat) = 2 by omega, show ¬ (3 : Nat) = 4 by omega, fo_set_s, fo_set_w _ (show (2 : Nat) ≠ 0 by omega) (show (0 : Nat) < 20 by omega) (show (2 : Nat) < 20 by omega)] at hc ⊢
      rw [hc.1]; simp [phi, nI_eq]
    · simp only [if_true, if_false, show ¬ (4 : Nat) = 1 by omega, show ¬ (4 : Nat) = 5 by omega, show ¬ (4 : Nat) = 2 by omega, show ¬ (4 : Nat) = 3 by omega, fo_set_s, fo_set_w _ (show (0 : Nat) ≠ 1 by omega) (show (1 : Nat) < 20 by omega) (show (0 : Nat) < 20 by omega), fo_set_w _ (show (2 : Nat) ≠ 1 by omega) (show (1 : Nat) < 20 by omega) (show (2 : Nat) < 20 by omega), fo_set_w _ (show (2 : Nat) ≠ 0 by omega) (show (0 : Nat) < 20 by omega) (show (2 : Nat) < 20 by omega)] at hc ⊢
      rw [hc.1]; simp [phi, nI_eq]
    · simp only [if_true, if_false, show ¬ (5 : Nat) = 1 by omega, show ¬ (5 : Nat) = 4 by omega, show ¬ (5 : Nat) = 2 by omega, show ¬ (5 : Nat) = 3 by omega, fo_set_s, fo_set_w _ (show (0 : Nat) ≠ 1 by omega) (show (1 : Nat) < 20 by omega) (show (0 : Nat) < 20 by omega), fo_set_w _ (show (2 : Nat) ≠ 1 by omega) (show (1 : Nat) < 20 by omega) (show (2 : Nat) < 20 by omega), fo_set_w _ (show (2 : Nat) ≠ 0 by omega) (show (0 : Nat) < 20 by omega) (show (2 : Nat) < 20 by omega), fo_set_w _ (show (0 : Nat) ≠ 2 by omega) (show (2 : Nat) < 20 by omega) (show (0 : Nat) < 20 by omega), fo_set_w _ (show (0 : Nat) ≠ 3 by omega) (show (3 : Nat) < 20 by omega) (show (0 : Nat) < 20 by omega), fo_set_w _ (show (2 : Nat) ≠ 3 by omega) (show (3 : Nat) < 20 by omega) (show (2 : Nat) < 20 by omega), fo_set_w _ (show (0 : Nat) ≠ 15 by omega) (show (15 : Nat) < 20 by omega) (show (0 : Nat) < 20 by omega), fo_set_w _ (show (2 : Nat) ≠ 15 by omega) (show (15 : Nat) < 20 by omega) (show (2 : Nat) < 20 by omega)] at hc ⊢
      rw [hc.1]; simp [phi, nI_eq]
    · simp only [if_true, if_false, show ¬ (6 : Nat) = 1 by omega, show ¬ (6 : Nat) = 5 by omega, show ¬ (6 : Nat) = 3 by omega, show ¬ (6 : Nat) = 2 by omega, show ¬ (6 : Nat) = 4 by omega, fo_set_s, fo_set_w _ (show (0 : Nat) ≠ 1 by omega) (show (1 : Nat) < 20 by omega) (show (0 : Nat) < 20 by omega), fo_set_w _ (show (2 : Nat) ≠ 1 by omega) (show (1 : Nat) < 20 by omega) (show (2 : Nat) < 20 by omega), fo_set_w _ (show (2 : Nat) ≠ 0 by omega) (show (0 : Nat) < 20 by omega) (show (2 : Nat) < 20 by omega)] at hc ⊢
      rw [hc.1]; simp [phi, nI_eq, hc.2]; try decide
