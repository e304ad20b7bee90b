/-! THE INVARIANT of a phone's row, and that every change keeps it -/
/-- what a text tells of the programs -/
def tI (T : NN) (n : Nat) : Prop := ∀ p, p < n → ∃ b c w g r s, T (8 * p) = nI b ∧ T (8 * p + 1) = nI c ∧ T (8 * p + 2) = nI w ∧ T (8 * p + 3) = nI g ∧ T (8 * p + 4) = nI r ∧ T (8 * p + 5) = nI s ∧ b ≤ g ∧ g ≤ 999 ∧ c ≤ 200 ∧ w ≤ 20 ∧ r ≤ 100 ∧ s ≤ 400
def gI (N T : NN) (n : Nat) : Prop := ∀ p, p < n → ∃ a c g, fo N p 1 = nI a ∧ fo N p 2 = nI c ∧ T (8 * p + 3) = nI g ∧ a ≤ g ∧ g ≤ 999 ∧ c ≤ 200
def lI (N : NN) : Prop := ∃ x, x ≤ 2000 ∧ N 0 = nI x
def JI (N T : NN) (n B : Nat) : Prop := kI N n B ∧ gI N T n ∧ ¬ N 0 < fAll N T n ∧ lI N
theorem gI.row {N M T : NN} {n : Nat} (h : gI N T n) (e : ∀ p w, p < n → w = 1 ∨ w = 2 → fo M p w = fo N p w) : gI M T n := fun p hp => by
  rw [e p 1 hp (Or.inl rfl), e p 2 hp (Or.inr rfl)]
  exact h p hp
theorem gI.step {N T : NN} {n p k : Nat} (h : gI N T n) (hn : n ≤ 10) : gI (fStep N p k) T n := fun q hq => by
  obtain ⟨a, c, g, h1, h2, h3, h4, h5, h6⟩ := h q hq
  by_cases e : q = p
  · subst e
    rw [fStep_fo (by omega) (by omega), fStep_fo (by omega) (by omega)]
    unfold fStep0 fEmpty
    by_cases e5 : k = 5
    · refine ⟨0, 0, g, ?_, ?_, h3, by omega, h5, by omega⟩
      · simp [e5, fo_set]
      · simp [e5, fo_set]
    · by_cases e3 : k = 3
      · refine ⟨a, c, g, ?_, ?_, h3, h4, h5, h6⟩
        · simp [e3, fo_set, h1]
        · simp [e3, fo_set, h2]
      · by_cases e4 : k = 4
        · refine ⟨0, 0, g, ?_, ?_, h3, by omega, h5, by omega⟩
          · simp [e4, fo_set]
          · simp [e4, fo_set]
        · refine ⟨a, 0, g, ?_, ?_, h3, h4, h5, by omega⟩
          · simp [e5, e3, e4, fo_set, h1]
          · simp [e5, e3, e4, fo_set]
  · rw [fStep_ne (by omega) (by omega) e, fStep_ne (by omega) (by omega) e]
    exact ⟨a, c, g, h1, h2, h3, h4, h5, h6⟩
theorem fUses_row {N M T : NN} {p : Nat} (e : ∀ w, w < 3 → fo M p w = fo N p w) : fUses M T p = fUses N T p := by
  unfold fUses
  rw [e 0 (by omega), e 1 (by omega), e 2 (by omega)]
theorem fAll_row {N M T : NN} {n : Nat} (e : ∀ p w, p < n → w < 3 → fo M p w = fo N p w) : fAll M T n = fAll N T n := smI_cong (fun k hk => fUses_row (fun w hw => e k w hk hw))
theorem fUses_N {N T : NN} {n p : Nat} (hg : gI N T n) (hT : tI T n) (hp : p < n) : ∃ u, u ≤ 1199 ∧ fUses N T p = nI u := by
  obtain ⟨a, c, g, h1, h2, h3, h4, h5, h6⟩ := hg p hp
  obtain ⟨b', c', w', g', r', s', t1, t2, t3, t4, t5, t6, t7, t8, t9, t10, t11, t12⟩ := hT p hp
  unfold fUses
  rw [h1, h2, t5, t6]
  split
  · exact ⟨0, by omega, rfl⟩
  · split
    · have hm : a * r' ≤ 999 * 100 := Nat.mul_le_mul (by omega) t11
      refine ⟨(a * r' + 99) / 100, by omega, ?_⟩
      rw [pk_mul, nI_add, pk_div (by omega) (by omega) (by omega)]
    · split
      · exact ⟨s', by omega, rfl⟩
      · exact ⟨a + c, by omega, nI_add a c⟩
theorem smI_N {f : NN} : ∀ {n : Nat}, (∀ k, k < n → ∃ u, u ≤ 1199 ∧ f k = nI u) → ∃ x, x ≤ 1199 * n ∧ smI f n = nI x
  | 0, _ => ⟨0, by omega, rfl⟩
  | n + 1, h => by
    obtain ⟨x, hx, ex⟩ := smI_N (n := n) (fun k hk => h k (by omega))
    obtain ⟨u, hu, eu⟩ := h n (by omega)
    exact ⟨x + u, by omega, by rw [smI, ex, eu, nI_add]⟩
/-- one of the terms goes down -/
theorem smI_dn {f g : NN} : ∀ {n : Nat}, n ≤ 10 → (∀ k, k < n → ∃ u w, u ≤ w ∧ w ≤ 1199 ∧ g k = nI u ∧ f k = nI w) → ∃ x y, x ≤ y ∧ y ≤ 1199 * n ∧ smI g n = nI x ∧ smI f n = nI y
  | 0, _, _ => ⟨0, 0, by omega, by omega, rfl, rfl⟩
  | n + 1, hn, h => by
    obtain ⟨x, y, hx, hy, ex, ey⟩ := smI_dn (n := n) (by omega) (fun k hk => h k (by omega))
    obtain ⟨u, w, hu, hw, eu, ew⟩ := h n (by omega)
    exact ⟨x + u, y + w, by omega, by omega, by rw [smI, ex, eu, nI_add], by rw [smI, ey, ew, nI_add]⟩
theorem fMemF_end {T : NN} {n : Nat} : ∀ (f : Nat) {N : NN} {q : Nat × NN}, fMemF T n f N = some q → ¬ q.2 0 < fAll q.2 T n
  | 0, _, _, h => by cases h
  | f + 1, N, q, h => by
    by_cases hm : N 0 < fAll N T n
    · cases hk : fKind N T n with
      | none => rw [fMemF_n hm hk] at h; cases h
      | some kp =>
        obtain ⟨k, p⟩ := kp
        rw [fMemF_s hm hk] at h
        cases hr : fMemF T n f (fStep N p k) with
        | none => rw [hr] at h; cases h
        | some r =>
          rw [hr] at h
          cases h
          show ¬ r.2 0 < fAll r.2 T n
          exact fMemF_end f hr
    · rw [fMemF_0 hm] at h
      cases h
      exact hm
theorem fMem_end {N T : NN} {n : Nat} {q : Nat × NN} (h : fMem N T n = some q) : ¬ q.2 0 < fAll q.2 T n := fMemF_end 60 h
theorem fMem_g {N T : NN} {n : Nat} {q : Nat × NN} (hn : n ≤ 10) (hg : gI N T n) (h : fMem N T n = some q) : gI q.2 T n :=
  fMemF_ind (T := T) (n := n) (P := fun M => gI M T n) (fun _ _ _ hM _ _ _ _ => hM.step hn) 60 hg h
theorem wX.wI {N : NN} (h : wX N 10) : wI N := fun p hp => ⟨fun z => (h p hp).1 z (by omega), (h p hp).2⟩
/-- memory is made in a row that has all but room -/
theorem JI.mem {N T : NN} {n B : Nat} {q : Nat × NN} (hn : n ≤ 10) (hk : kI N n B) (hg : gI N T n) (hl : lI N) (h : fMem N T n = some q) : JI q.2 T n B := by
  have ok := fMem_ok hn hk.1 h
  have iv := fMem_inv hn hk.2.1 hk.2.2.1 (hk.2.2.2.x 10) h
  refine ⟨⟨ok.2.1, iv.1, iv.2.1, iv.2.2.1.wI⟩, fMem_g hn hg h, fMem_end h, ?_⟩
  unfold lI
  rw [ok.2.2 0 (by omega)]
  exact hl
theorem kI.row {N M : NN} {n B : Nat} (h : kI N n B) (hr : rI M n) (e1 : M 1 = N 1) (e4 : M 4 = N 4) (e : ∀ p w, p < 10 → w < 10 → w ≠ 6 → fo M p w = fo N p w) : kI M n B :=
  ⟨hr, h.2.1.row (fun p w hp hw => e p w hp (by omega) (by omega)), h.2.2.1.row e1 e4 (fun p w hp hw => e p w hp (by omega) (by omega)), h.2.2.2.row (fun p w hp hw => e p w hp (by omega) (by omega))⟩
theorem JI.row {N M T : NN} {n B : Nat} (h : JI N T n B) (hn : n ≤ 10) (hr : rI M n) (e0 : M 0 = N 0) (e1 : M 1 = N 1) (e4 : M 4 = N 4) (e : ∀ p w, p < 10 → w < 10 → w ≠ 6 → fo M p w = fo N p w) : JI M T n B := by
  refine ⟨h.1.row hr e1 e4 e, h.2.1.row (fun p w hp hw => e p w (by omega) (by omega) (by omega)), ?_, ?_⟩
  · rw [e0, fAll_row (N := N) (fun p w hp hw => e p w (by omega) (by omega) (by omega))]
    exact h.2.2.1
  · unfold lI
    rw [e0]
    exact h.2.2.2
theorem JI.wr {N T : NN} {n B k p : Nat} (h : JI N T n B) (hn : n ≤ 10) : JI (fWr N k p) T n B :=
  h.row hn h.1.1.wr (wr_lo (by omega)) (wr_lo (by omega)) (wr_lo (by omega)) (fun q w hq hw _ => fo_wr hq (by omega))
theorem JI.gets {N T : NN} {n p B w : Nat} (h : JI N T n B) (hn : n ≤ 10) (hp : p < n) (h5 : ¬ fo N p 0 = nI 5) (hw : w ≤ 20) : JI (fGets N T n p (nI w)).2 T n B := by
  obtain ⟨a, c, g, g1, g2, g3, g4, g5, g6⟩ := h.2.1 p hp
  by_cases hq : 0 < (if nI w < T (8 * p + 3) - fo N p 1 then nI w else T (8 * p + 3) - fo N p 1)
  · cases hm : fMem (fset N p 1 (fo N p 1 + (if nI w < T (8 * p + 3) - fo N p 1 then nI w else T (8 * p + 3) - fo N p 1))) T n with
    | none =>
      rw [fGets_n rfl hq hm]
      exact h.wr hn
    | some q =>
      rw [fGets_s rfl hq hm]
      have hx : ∃ m, m ≤ g - a ∧ (if nI w < T (8 * p + 3) - fo N p 1 then nI w else T (8 * p + 3) - fo N p 1) = nI m := by
        rw [g1, g3, pk_sub g4]
        split
        · rename_i z
          exact ⟨w, by have := (nI_ltI (by omega) (by omega)).mp z; omega, rfl⟩
        · exact ⟨g - a, Nat.le_refl _, rfl⟩
      obtain ⟨m, hm1, hm2⟩ := hx
      rw [hm2, g1, nI_add] at hm
      have hr : rI (fset N p 1 (nI (a + m))) n := rI.set h.1.1 (by omega) (fun z => by omega) (fun z => by omega) (fun z => by omega) (fun z => by omega) (fun z => by omega)
      have e : ∀ r x, x < 20 → x ≠ 1 → fo (fset N p 1 (nI (a + m))) r x = fo N r x := fun r x hx hx1 => fo_set_w _ hx1 (by omega) hx
      refine JI.mem hn ⟨hr, fun r hr10 => ?_, h.1.2.2.1.row (fset_lo _ (by omega)) (fset_lo _ (by omega)) (fun r x hr10 hx => e r x (by omega) (by omega)), h.1.2.2.2.row (fun r x hr10 hx => e r x (by omega) (by omega))⟩ (fun r hrn => ?_) ?_ hm
      · rw [e r 0 (by omega) (by omega), e r 2 (by omega) (by omega), fo_set _ (by omega) (by omega)]
        obtain ⟨z1, z2⟩ := h.1.2.1 r hr10
        refine ⟨z1, fun z => ?_⟩
        by_cases e1 : r = p
        · subst e1
          exact absurd z h5
        · rw [if_neg (fun y => e1 y.1)]
          exact z2 z
      · rw [e r 2 (by omega) (by omega), fo_set _ (by omega) (by omega)]
        by_cases e1 : r = p
        · subst e1
          rw [if_pos ⟨rfl, rfl⟩]
          exact ⟨a + m, c, g, rfl, g2, g3, by omega, g5, g6⟩
        · rw [if_neg (fun y => e1 y.1)]
          exact h.2.1 r hrn
      · unfold lI
        rw [fset_lo _ (by omega)]
        exact h.2.2.2
  · rw [fGets_0 rfl hq]
    exact h
theorem kI.tick {N : NN} {n B : Nat} (h : kI N n B) : kI (fTick N) n (B + 1) := by
  have e : ∀ p w, fo (fTick N) p w = fo N p w := fun p w => fo_upd_lo N (by omega)
  refine ⟨h.1.tick, h.2.1.row (fun p w _ _ => e p w), ?_, h.2.2.2.row (fun p w _ _ => e p w)⟩
  obtain ⟨⟨t, t1, t2, t3, t4⟩, h2, h3⟩ := h.2.2.1
  refine ⟨⟨t + 1, by omega, ?_, fun p hp => ?_, fun p hp => ?_⟩, fun p hp => ?_, ?_⟩
  · show upd N 1 (N 1 + nI 1) 1 = _
    rw [upd_s, t2, nI_add]
  · rw [e, e]
    rcases t3 p hp with z | ⟨s, z1, z2⟩
    · exact Or.inl z
    · exact Or.inr ⟨s, by omega, z2⟩
  · rw [e]
    obtain ⟨s, z1, z2⟩ := t4 p hp
    exact ⟨s, by omega, z2⟩
  · rw [e, e]
    exact h2 p hp
  · rw [show fTick N 4 = N 4 from upd_n N (by omega)]
    exact h3
theorem kI.up {N : NN} {n B C : Nat} (h : kI N n B) (hB : B ≤ C) : kI N n C := by
  obtain ⟨h1, h2, ⟨⟨t, t1, t2⟩, h3⟩, h4⟩ := h
  exact ⟨h1, h2, ⟨⟨t, by omega, t2⟩, h3⟩, h4⟩
theorem JI.up {N T : NN} {n B C : Nat} (h : JI N T n B) (hB : B ≤ C) : JI N T n C := ⟨h.1.up hB, h.2⟩
theorem JI.tick {N T : NN} {n B : Nat} (h : JI N T n B) : JI (fTick N) T n (B + 1) := by
  have e : ∀ p w, fo (fTick N) p w = fo N p w := fun p w => fo_upd_lo N (by omega)
  have e0 : fTick N 0 = N 0 := upd_n N (by omega)
  refine ⟨h.1.tick, h.2.1.row (fun p w _ _ => e p w), ?_, ?_⟩
  · rw [e0, fAll_row (N := N) (fun p w _ _ => e p w)]
    exact h.2.2.1
  · unfold lI
    rw [e0]
    exact h.2.2.2
theorem JI.pass0 {N T : NN} {n B : Nat} (h : JI N T n B) (hn : n ≤ 10) (hT : tI T n) : JI (fPass0 N T n).2 T n (B + 1) := by
  have ht := h.tick
  rcases ht.1.1.1 with e | ⟨q, hq, e⟩
  · rw [fPass0_n e]
    exact ht
  · rw [fPass0_s (by omega) e]
    obtain ⟨b', c', w', g', r', s', t1, t2, t3, t4, t5, t6, t7, t8, t9, t10, t11, t12⟩ := hT q hq
    rw [t3]
    have h1 := (ht.1.1.2.2.2.1 q (by omega)).mpr e
    exact ht.gets hn hq (by rw [h1]; decide) t10
theorem JI.passF {T : NN} {n B : Nat} {q0 : Nat × NN} (h : JI q0.2 T n B) (hn : n ≤ 10) : ∀ p, p ≤ n → JI (fPassF T n q0 p).2 T n B
  | 0, _ => h
  | p + 1, hp => by
    have ih := JI.passF h hn p (by omega)
    by_cases hd : fDue (fPassF T n q0 p).2 T p
    · rw [fPassF_y hd]
      exact ih.gets hn (by omega) (by rw [hd.1]; decide) (by omega)
    · rw [fPassF_n hd]
      exact ih
theorem JI.pass {N T : NN} {n B : Nat} (h : JI N T n B) (hn : n ≤ 10) (hT : tI T n) : JI (fPass N T n).2 T n (B + 1) := JI.passF (h.pass0 hn hT) hn n (Nat.le_refl _)
theorem JI.passN {N T : NN} {n B : Nat} (h : JI N T n B) (hn : n ≤ 10) (hT : tI T n) : ∀ k, JI (fPassN N T n k).2 T n (B + k)
  | 0 => h
  | k + 1 => (JI.passN h hn hT k).pass hn hT
theorem gI.lay {N T : NN} {n p : Nat} (h : gI N T n) (hT : tI T n) (hI : rI N n) (hn : n ≤ 10) (hW : wI N) (hp : p < n) : gI (fLay N T p) T n := fun r hr => by
  have eR : ∀ w, w = 1 ∨ w = 2 → fo (fRests N) r w = fo N r w := fun w hw => by rw [fRests_fo hI hn (by omega) (by omega) (by omega) (by omega), if_neg (by omega)]
  rw [fLay_r hI hn hW (by omega) (show (1 : Nat) < 20 by omega), fLay_r hI hn hW (by omega) (show (2 : Nat) < 20 by omega), eR 1 (Or.inl rfl), eR 2 (Or.inr rfl)]
  rw [if_neg (show ¬ (r = p ∧ (1 : Nat) = 0) by omega), if_neg (show ¬ (r = p ∧ (2 : Nat) = 0) by omega)]
  by_cases e : r = p ∧ (fo (fRests N) p 0 = nI 0 ∨ fo (fRests N) p 0 = nI 5)
  · obtain ⟨rfl, e2⟩ := e
    rw [if_pos ⟨rfl, Or.inl rfl, e2⟩, if_pos ⟨rfl, Or.inr rfl, e2⟩]
    obtain ⟨b', c', w', g', r', s', t1, t2, t3, t4, t5, t6, t7, t8, t9, t10, t11, t12⟩ := hT r hr
    exact ⟨b', c', g', t1, t2, t4, t7, t8, t9⟩
  · rw [if_neg (fun z => e ⟨z.1, z.2.2⟩), if_neg (fun z => e ⟨z.1, z.2.2⟩)]
    exact h r hr
theorem JI.comp {N T : NN} {n B p : Nat} (h : JI N T n B) (hn : n ≤ 10) (hp : p < 10) : JI (fComp N p) T n B := by
  have e2 : fComp N p = fWr (fset (fset N p 4 (fo N p 4 + nI 1)) p 5 (N 1)) 8 p := by
    show fWr (fset (fset N p 4 (fo N p 4 + nI 1)) p 5 (fset N p 4 (fo N p 4 + nI 1) 1)) 8 p = _
    rw [show fset N p 4 (fo N p 4 + nI 1) 1 = N 1 from fset_lo _ (by omega)]
  have ho : ∀ q w, q < 10 → w < 3 → fo (fComp N p) q w = fo N q w := fun q w hq hw => by
    rw [e2, fo_wr hq (by omega), fo_set_w _ (by omega) (by omega) (by omega), fo_set_w _ (by omega) (by omega) (by omega)]
  have h0 : fComp N p 0 = N 0 := by rw [e2, wr_lo (by omega), fset_lo _ (by omega), fset_lo _ (by omega)]
  refine ⟨h.1.comp hp, h.2.1.row (fun q w hq hw => ho q w (by omega) (by omega)), ?_, ?_⟩
  · rw [h0, fAll_row (N := N) (fun q w hq hw => ho q w (by omega) hw)]
    exact h.2.2.1
  · unfold lI
    rw [h0]
    exact h.2.2.2
theorem JI.show {N T c : NN} {n p B : Nat} {q : Nat × NN} (h : JI N T n B) (hT : tI T n) (hn : n ≤ 10) (hp : p < n) (hq : fShow N T c n p = some q) : JI q.2 T n B := by
  have hk := h.1
  cases hm : fMem (fLay N T p) T n with
  | none => rw [fShow_n2 hm] at hq; cases hq
  | some kM =>
    obtain ⟨m, M⟩ := kM
    have hK := hk.show hn hp hq
    rw [fShow_s2 hm] at hq
    cases hq
    have hok := fMem_ok hn (hk.1.lay hn hp) hm
    have hin := fMem_inv hn (hk.2.1.lay hk.1 hn hk.2.2.2 (by omega)) (hk.2.2.1.lay hk.1 hn hk.2.2.2 (by omega)) (wX.lay hk.1 hn hk.2.2.2 (by omega)) hm
    have hgM := fMem_g hn (h.2.1.lay hT hk.1 hn hk.2.2.2 hp) hm
    have hend := fMem_end hm
    obtain ⟨g, hg4, hg⟩ := hok.2.1.2.2.2.2.1 p (by omega)
    have ho : ∀ r w, r < 10 → w < 3 → fo (fHab M p (N 3)) r w = fo M r w := fun r w hr hw => by rw [fHab_o hn (by omega) hk.1.2.1 hg hg4 hr (by omega) (by omega), if_neg (by omega)]
    have h0 : fHab M p (N 3) 0 = M 0 := fHab_lo hn (by omega) hk.1.2.1 hg hg4 (by omega)
    have hM0 : M 0 = N 0 := (hok.2.2 0 (by omega)).trans ((fLay_j N T (by omega) (by omega)).trans (by
      rcases hk.1.1 with e | ⟨q, hq, e⟩
      · rw [fRests_n e]
      · rw [fRests_s (by omega) e]; unfold fRest; rw [fset_lo _ (by omega), fset_lo _ (by omega), fset_lo _ (by omega)]))
    have h1 : JI (fWr (fHab M p (N 3)) 7 p) T n B := by
      refine JI.wr ⟨kI.hab hok.2.1 hin.1 hin.2.1 hin.2.2.1 hn (by omega) hk.1.2.1, hgM.row (fun q w hq hw => ho q w (by omega) (by omega)), ?_, ?_⟩ hn
      · rw [h0, fAll_row (N := M) (fun q w hq hw => ho q w (by omega) hw)]
        exact hend
      · unfold lI
        rw [h0, hM0]
        exact h.2.2.2
    show JI (if T (8 * p + 6) < fWait N T c p then fComp (fWr (fHab M p (N 3)) 7 p) p else fWr (fHab M p (N 3)) 7 p) T n B
    split
    · exact h1.comp hn (by omega)
    · exact h1
theorem fHome_o {N : NN} {n r w : Nat} (hI : rI N n) (hn : n ≤ 10) (hr : r < 10) (hw : w < 20) (h7 : w ≠ 7) (h8 : w ≠ 8) : fo (fHome N) r w = if w = 0 ∧ N 2 = nI r then nI 2 else fo N r w := (fHome_fo hI hn).trans (fRests_fo hI hn hr hw h7 h8)
theorem fHome_2 {N : NN} : fHome N 2 = -1 := by
  unfold fHome
  split
  · assumption
  · exact upd_s _ _ _
theorem fRests_j {N : NN} {n j : Nat} (hI : rI N n) (hn : n ≤ 10) (hj : j < 6 ∨ 206 ≤ j) : fRests N j = N j := by
  rcases hI.1 with e | ⟨q, hq, e⟩
  · rw [fRests_n e]
  · rw [fRests_s (by omega) e]
    unfold fRest
    rw [fset_out (by omega) (by omega) hj, fset_out (by omega) (by omega) hj, fset_out (by omega) (by omega) hj]
theorem rI.home {N : NN} {n : Nat} (hI : rI N n) (hn : n ≤ 10) : rI (fHome N) n := by
  have e : ∀ r w, r < 10 → 9 ≤ w → w < 20 → fo (fHome N) r w = fo N r w := fun r w hr h9 hw => by rw [fHome_o hI hn hr hw (by omega) (by omega), if_neg (by omega)]
  have e6 : ∀ r, r < 10 → fo (fHome N) r 6 = fo N r 6 := fun r hr => by rw [fHome_o hI hn hr (by omega) (by omega) (by omega), if_neg (by omega)]
  refine ⟨Or.inl fHome_2, by rw [fHome_j hI hn (by omega), fRests_j hI hn (by omega)]; exact hI.2.1, fun r hr => ?_, fun r hr => ?_, fun r hr => by rw [e r 10 hr (by omega) (by omega)]; exact hI.2.2.2.2.1 r hr, fun r hr => by rw [e r 15 hr (by omega) (by omega)]; exact hI.2.2.2.2.2.1 r hr, fun r hr => by rw [e6 r hr]; exact hI.2.2.2.2.2.2.1 r hr, fun r hr => by rw [e r 9 hr (by omega) (by omega)]; exact hI.2.2.2.2.2.2.2.1 r hr, by rw [fHome_j hI hn (by omega), fRests_j hI hn (by omega)]; exact hI.2.2.2.2.2.2.2.2⟩
  · rw [fHome_o hI hn hr (by omega) (by omega) (by omega)]
    split
    · exact ⟨2, by omega, rfl⟩
    · exact hI.2.2.1 r hr
  · rw [fHome_o hI hn hr (by omega) (by omega) (by omega), fHome_2]
    constructor
    · intro z
      split at z
      · exact absurd z (by decide)
      · rename_i y
        exact absurd ⟨rfl, (hI.2.2.2.1 r hr).mp z⟩ y
    · intro z
      exact absurd z.symm (nI_m1 (by omega))
theorem JI.home {N T : NN} {n B : Nat} (h : JI N T n B) (hn : n ≤ 10) : JI (fHome N) T n B := by
  have hI := h.1.1
  have e0 : fHome N 0 = N 0 := (fHome_j hI hn (by omega)).trans (fRests_j hI hn (by omega))
  refine ⟨⟨hI.home hn, fun r hr => ?_, ?_, fun r hr => ?_⟩, fun r hr => ?_, ?_, ?_⟩
  · rw [fHome_fo hI hn, fHome_fo hI hn, fHome_fo hI hn]
    exact h.1.2.1.rests hI hn r hr
  · exact (h.1.2.2.1.rests hI hn).row (fHome_j hI hn (by omega)) (fHome_j hI hn (by omega)) (fun p w hp hw => fHome_fo hI hn)
  · rw [fHome_fo hI hn, fHome_fo hI hn, fHome_fo hI hn]
    exact h.1.2.2.2.rests hI hn r hr
  · rw [fHome_o hI hn (by omega) (by omega) (by omega) (by omega), fHome_o hI hn (by omega) (by omega) (by omega) (by omega), if_neg (by omega), if_neg (by omega)]
    exact h.2.1 r hr
  · rw [e0, show fAll (fHome N) T n = fAll N T n from smI_cong (fun k hk => by
      unfold fUses
      rw [fHome_o hI hn (by omega) (by omega) (by omega) (by omega), fHome_o hI hn (by omega) (by omega) (by omega) (by omega), fHome_o hI hn (by omega) (by omega) (by omega) (by omega), if_neg (show ¬ ((1 : Nat) = 0 ∧ N 2 = nI k) by omega), if_neg (show ¬ ((2 : Nat) = 0 ∧ N 2 = nI k) by omega)]
      by_cases e : N 2 = nI k
      · have h1 := (hI.2.2.2.1 k (by omega)).mpr e
        have h2 : (if (0 : Nat) = 0 ∧ N 2 = nI k then nI 2 else fo N k 0) = nI 2 := if_pos ⟨rfl, e⟩
        rw [h2, h1]
        rfl
      · have h2 : (if (0 : Nat) = 0 ∧ N 2 = nI k then nI 2 else fo N k 0) = fo N k 0 := if_neg (fun z => e z.2)
        rw [h2])]
    exact h.2.2.1
  · unfold lI
    rw [e0]
    exact h.2.2.2
theorem JI.take {N T : NN} {n B p : Nat} {x : Int32} (h : JI N T n B) (hn : n ≤ 10) (hp : p < 10) (hc : ¬ fo N p 0 = nI 0) : JI (fTake N p x) T n B := by
  have e : ∀ r w, w < 20 → w ≠ 3 → fo (fTake N p x) r w = fo N r w := fun r w hw h3 => fo_set_w _ h3 (by omega) hw
  have el : ∀ j, j < 6 → fTake N p x j = N j := fun j hj => fset_lo _ hj
  refine ⟨⟨rI.set h.1.1 (by omega) (fun z => by omega) (fun z => by omega) (fun z => by omega) (fun z => by omega) (fun z => by omega), h.1.2.1.row (fun r w hr hw => e r w (by omega) (by omega)), h.1.2.2.1.row (el 1 (by omega)) (el 4 (by omega)) (fun r w hr hw => e r w (by omega) (by omega)), fun r hr => ?_⟩, h.2.1.row (fun r w hr hw => e r w (by omega) (by omega)), ?_, ?_⟩
  · rw [e r 0 (by omega) (by omega), e r 9 (by omega) (by omega)]
    refine ⟨(h.1.2.2.2 r hr).1, fun z => ?_⟩
    unfold fTake
    rw [fo_set _ (by omega) (by omega)]
    by_cases e1 : r = p
    · subst e1
      exact absurd z hc
    · rw [if_neg (fun y => e1 y.1)]
      exact (h.1.2.2.2 r hr).2 z
  · rw [el 0 (by omega), fAll_row (N := N) (fun r w hr hw => e r w (by omega) (by omega))]
    exact h.2.2.1
  · unfold lI
    rw [el 0 (by omega)]
    exact h.2.2.2
theorem JI.set {N T : NN} {n B p w : Nat} {v : Int32} (h : JI N T n B) (hn : n ≤ 10) (hw : w < 20) (hw0 : w = 6 ∨ 10 ≤ w) (h10 : w = 10 → ∃ g, g ≤ 4 ∧ v = nI g) (h15 : w = 15 → ∃ g, g ≤ 5 ∧ v = nI g) (h6 : w = 6 → v = 0 ∨ v = 1) : JI (fset N p w v) T n B :=
  h.row hn (rI.set h.1.1 hw (fun z => by clear h10 h15 h6; omega) h10 h15 h6 (fun z => by clear h10 h15 h6; omega)) (fset_lo _ (by decide)) (fset_lo _ (by decide)) (fset_lo _ (by decide)) (fun r x hr hx hx6 => fo_set_w _ (by clear h10 h15 h6; omega) hw (by clear h10 h15 h6; omega))
theorem rI.rw {N M : NN} {n : Nat} (h : rI N n) (el : ∀ j, j < 6 → M j = N j) (eo : ∀ r w, r < 10 → w < 20 → fo M r w = fo N r w) : rI M n := by
  obtain ⟨a1, a2, a3, a4, a5, a6, a7, a8, a9⟩ := h
  exact ⟨by rw [el 2 (by omega)]; exact a1, by rw [el 3 (by omega)]; exact a2, fun q hq => by rw [eo q 0 hq (by omega)]; exact a3 q hq, fun q hq => by rw [eo q 0 hq (by omega), el 2 (by omega)]; exact a4 q hq, fun q hq => by rw [eo q 10 hq (by omega)]; exact a5 q hq, fun q hq => by rw [eo q 15 hq (by omega)]; exact a6 q hq, fun q hq => by rw [eo q 6 hq (by omega)]; exact a7 q hq, fun q hq => by rw [eo q 9 hq (by omega)]; exact a8 q hq, by rw [el 5 (by omega)]; exact a9⟩
theorem JI.rw {N M T : NN} {n B : Nat} (h : JI N T n B) (hn : n ≤ 10) (el : ∀ j, j < 6 → M j = N j) (eo : ∀ r w, r < 10 → w < 20 → fo M r w = fo N r w) : JI M T n B :=
  h.row hn (h.1.1.rw el eo) (el 0 (by omega)) (el 1 (by omega)) (el 4 (by omega)) (fun r w hr hw _ => eo r w hr (by omega))
theorem JI.leave {N T : NN} {n B p w : Nat} (h : JI N T n B) (hn : n ≤ 10) (hp : p < 10) (hw : w ≤ 6) : JI (fLeave N p w) T n B :=
  (h.set (p := p) (w := 15) (v := nI (w - 1)) hn (by omega) (by omega) (fun z => by omega) (fun _ => ⟨w - 1, by omega, rfl⟩) (fun z => by omega)).rw hn (fun j hj => by unfold fLeave fLv; rw [if_neg (by omega)]) (fun r x hr hx => fLv_fo hr hx)
theorem JI.put {N T : NN} {n B p w : Nat} {x : Int32} (h : JI N T n B) (hn : n ≤ 10) (hp : p < 10) (hw : w < 5) : JI (fPut N p w x) T n B :=
  (h.rw (M := upd N (388 + 5 * p + w) x) hn (fun j hj => upd_n _ (by omega)) (fun r y hr hy => upd_n _ (by omega))).set hn (by omega) (by omega) (fun z => by omega) (fun _ => ⟨w + 1, by omega, rfl⟩) (fun z => by omega)
theorem JI.send {N T : NN} {n B p w : Nat} {x : Int32} (h : JI N T n B) (hn : n ≤ 10) (hp : p < 10) (hw : w ≤ 5) : JI (fSend N p w x) T n B := by
  unfold fSend
  split
  · rename_i e
    exact h.take hn hp (by rw [e]; decide)
  · split
    · exact h
    · split
      · exact (h.leave hn hp (by omega)).put hn hp (by omega)
      · exact h.put hn hp (by omega)
theorem fEmpty_o {N : NN} {p r w : Nat} (hw : w < 20) : fo (fEmpty N p) r w = if r = p ∧ (w = 0 ∨ w = 1 ∨ w = 2 ∨ w = 3 ∨ w = 15) then nI 0 else fo N r w := by
  unfold fEmpty
  rw [fo_set _ (by omega) hw, fo_set _ (by omega) hw, fo_set _ (by omega) hw, fo_set _ (by omega) hw, fo_set _ (by omega) hw]
  by_cases e : r = p
  · by_cases e0 : w = 0
    · simp [e, e0]
    · by_cases e1 : w = 1
      · simp [e, e1]
      · by_cases e2 : w = 2
        · simp [e, e2]
        · by_cases e3 : w = 3
          · simp [e, e3]
          · by_cases e15 : w = 15
            · simp [e, e15]
            · simp [e, e0, e1, e2, e3, e15]
  · simp [e]
theorem fEmpty_l {N : NN} {p j : Nat} (hp : p < 10) (hj : j < 6 ∨ 206 ≤ j) : fEmpty N p j = N j := by
  unfold fEmpty
  rw [fset_out hp (by omega) hj, fset_out hp (by omega) hj, fset_out hp (by omega) hj, fset_out hp (by omega) hj, fset_out hp (by omega) hj]
theorem JI.empty {N T : NN} {n B p : Nat} (h : JI N T n B) (hn : n ≤ 10) (hT : tI T n) (hp : p < n) (h1 : ¬ fo N p 0 = nI 1) : JI (fEmpty N p) T n B := by
  have hI := h.1.1
  have el : ∀ j, j < 6 ∨ 206 ≤ j → fEmpty N p j = N j := fun j hj => fEmpty_l (by omega) hj
  have e : ∀ r w, w < 20 → ¬ (w = 0 ∨ w = 1 ∨ w = 2 ∨ w = 3 ∨ w = 15) → fo (fEmpty N p) r w = fo N r w := fun r w hw hn => by rw [fEmpty_o hw, if_neg (fun z => hn z.2)]
  have e2 : N 2 ≠ nI p := fun z => h1 ((hI.2.2.2.1 p (by omega)).mpr z)
  refine ⟨⟨⟨by rw [el 2 (by omega)]; exact hI.1, by rw [el 3 (by omega)]; exact hI.2.1, fun r hr => ?_, fun r hr => ?_, fun r hr => by rw [e r 10 (by omega) (by omega)]; exact hI.2.2.2.2.1 r hr, fun r hr => ?_, fun r hr => by rw [e r 6 (by omega) (by omega)]; exact hI.2.2.2.2.2.2.1 r hr, fun r hr => by rw [e r 9 (by omega) (by omega)]; exact hI.2.2.2.2.2.2.2.1 r hr, by rw [el 5 (by omega)]; exact hI.2.2.2.2.2.2.2.2⟩, fun r hr => ?_, h.1.2.2.1.row (el 1 (by omega)) (el 4 (by omega)) (fun r w hr hw => e r w (by omega) (by omega)), fun r hr => ?_⟩, fun r hr => ?_, ?_, ?_⟩
  · rw [fEmpty_o (by omega)]
    split
    · exact ⟨0, by omega, rfl⟩
    · exact hI.2.2.1 r hr
  · rw [fEmpty_o (by omega), el 2 (by omega)]
    by_cases e1 : r = p
    · subst e1
      rw [if_pos ⟨rfl, Or.inl rfl⟩]
      exact ⟨fun z => absurd z (by decide), fun z => absurd z e2⟩
    · rw [if_neg (fun z => e1 z.1)]
      exact hI.2.2.2.1 r hr
  · rw [fEmpty_o (by omega)]
    split
    · exact ⟨0, by omega, rfl⟩
    · exact hI.2.2.2.2.2.1 r hr
  · rw [fEmpty_o (by omega), fEmpty_o (by omega), fEmpty_o (by omega)]
    by_cases e1 : r = p
    · rw [if_pos ⟨e1, by omega⟩, if_pos ⟨e1, by omega⟩, if_pos ⟨e1, by omega⟩]
      exact ⟨fun _ => rfl, fun _ => rfl⟩
    · rw [if_neg (fun z => e1 z.1), if_neg (fun z => e1 z.1), if_neg (fun z => e1 z.1)]
      exact h.1.2.1 r hr
  · rw [e r 9 (by omega) (by omega), fEmpty_o (by omega), fEmpty_o (by omega)]
    by_cases e1 : r = p
    · rw [if_pos ⟨e1, by omega⟩, if_pos ⟨e1, by omega⟩]
      exact ⟨fun z => absurd z (by decide), fun _ => rfl⟩
    · rw [if_neg (fun z => e1 z.1), if_neg (fun z => e1 z.1)]
      exact h.1.2.2.2 r hr
  · rw [fEmpty_o (by omega), fEmpty_o (by omega)]
    obtain ⟨a, c, g, g1, g2, g3, g4, g5, g6⟩ := h.2.1 r hr
    by_cases e1 : r = p
    · rw [if_pos ⟨e1, by omega⟩, if_pos ⟨e1, by omega⟩]
      exact ⟨0, 0, g, rfl, rfl, g3, by omega, g5, by omega⟩
    · rw [if_neg (fun z => e1 z.1), if_neg (fun z => e1 z.1)]
      exact ⟨a, c, g, g1, g2, g3, g4, g5, g6⟩
  · rw [el 0 (by omega)]
    obtain ⟨x, y, hxy, hy, ex, ey⟩ := smI_dn (f := fUses N T) (g := fUses (fEmpty N p) T) hn (fun k hk => by
      obtain ⟨u, hu, eu⟩ := fUses_N h.2.1 hT hk
      by_cases e1 : k = p
      · refine ⟨0, u, by omega, hu, ?_, eu⟩
        unfold fUses
        have hz : fo (fEmpty N p) k 0 = nI 0 := by rw [fEmpty_o (by omega), if_pos ⟨e1, Or.inl rfl⟩]
        rw [hz, if_pos rfl]
      · refine ⟨u, u, by omega, hu, ?_, eu⟩
        rw [← eu]
        exact fUses_row (fun w hw => by rw [fEmpty_o (by omega), if_neg (fun z => e1 z.1)]))
    obtain ⟨l, hl, el⟩ := h.2.2.2
    have h3 := h.2.2.1
    unfold fAll at h3 ⊢
    rw [ex, el, nI_ltI (by omega) (by omega)]
    rw [ey, el, nI_ltI (by omega) (by omega)] at h3
    omega
  · unfold lI
    rw [el 0 (by omega)]
    exact h.2.2.2
theorem JI.shut {N T : NN} {n B p : Nat} (h : JI N T n B) (hn : n ≤ 10) (hT : tI T n) (hp : p < n) : JI (fShut N p) T n B := by
  unfold fShut
  by_cases e : N 2 = nI p
  · rw [if_pos e]
    have hh := h.home hn
    have eh : fHome N = upd (fRest N p) 2 (-1) := fHome_s (by omega) e
    rw [← eh]
    refine hh.empty hn hT hp ?_
    rw [fHome_o h.1.1 hn (by omega) (by omega) (by omega) (by omega), if_pos ⟨rfl, e⟩]
    decide
  · rw [if_neg e]
    exact h.empty hn hT hp (fun z => e ((h.1.1.2.2.2.1 p (by omega)).mp z))
theorem JI.step {N T : NN} {n B p k : Nat} (h : JI N T n B) (hn : n ≤ 10) (hp : p < n) (hk : 1 ≤ k) (hk6 : k ≤ 6) (hf : fCan N p k) (ho : ¬ fStep N p k 0 < fAll (fStep N p k) T n) : JI (fStep N p k) T n B := by
  refine ⟨⟨h.1.1.step (by omega) hk hk6 hf, h.1.2.1.step (by omega) hk hk6 hf, h.1.2.2.1.step, ((h.1.2.2.2.x 10).step (by omega) hk hk6 hf).wI⟩, h.2.1.step hn, ho, ?_⟩
  unfold lI
  rw [fStep_lo (by omega)]
  exact h.2.2.2
theorem kI.lim {N : NN} {n B : Nat} {x : Int32} (h : kI N n B) : kI (upd N 0 x) n B :=
  h.row (h.1.updx (Or.inl rfl)) (upd_n _ (by omega)) (upd_n _ (by omega)) (fun p w _ _ _ => fo_upd_lo N (by omega))
theorem JI.lim {N T : NN} {n B w : Nat} {q : Nat × NN} (h : JI N T n B) (hn : n ≤ 10) (hw : w ≤ 2000) (hm : fMem (upd N 0 (nI w)) T n = some q) : JI q.2 T n B :=
  JI.mem hn h.1.lim (h.2.1.row (fun p w _ _ => fo_upd_lo N (by omega))) ⟨w, hw, upd_s _ _ _⟩ hm
theorem JI.pol {N T : NN} {n B w : Nat} (h : JI N T n B) (hn : n ≤ 10) (hw : w ≤ 2) : JI (upd N 4 (nI w)) T n B := by
  have e : ∀ p x, fo (upd N 4 (nI w)) p x = fo N p x := fun p x => fo_upd_lo N (by omega)
  refine ⟨⟨h.1.1.updx (Or.inr (Or.inr (Or.inl rfl))), h.1.2.1.row (fun p x _ _ => e p x), ?_, h.1.2.2.2.row (fun p x _ _ => e p x)⟩, h.2.1.row (fun p x _ _ => e p x), ?_, ?_⟩
  · obtain ⟨h1, h2, h3⟩ := h.1.2.2.1
    unfold pI
    rw [upd_n N (show (1 : Nat) ≠ 4 by omega), upd_s]
    simp only [e]
    exact ⟨h1, h2, ⟨w, by omega, rfl⟩⟩
  · rw [upd_n _ (by omega), fAll_row (N := N) (fun p x _ _ => e p x)]
    exact h.2.2.1
  · unfold lI
    rw [upd_n _ (by omega)]
    exact h.2.2.2
