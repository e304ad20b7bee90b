/-! moves of the class's world: rows of one phone, the history, the slots -/
theorem AB.pol {S : mS} {v n : Nat} {N : NN} {x : Int32} (h : AB S v N n) : AB (up3 S 25 v 6 x) v (upd N 4 x) n := by
  have ho : ∀ q w, fo (upd N 4 x) q w = fo N q w := fun q w => fo_upd_lo N (by omega)
  have hl : ∀ j, j ≠ 4 → upd N 4 x j = N j := fun j hj => upd_n N hj
  have hk : ∀ kk, kk ≠ 25 → up3 S 25 v 6 x kk v = S kk v := fun kk a => by rw [up3_k _ a]
  refine ⟨(h.1.row (hl 0 (by omega)) (fun q w _ _ => ho q w)).off (fun kk a b => hk kk (by omega)), (h.2.1.row (hl 3 (by omega)) (fun q w hq a b => ho q w) (fun a b ha hb => hl _ (by omega))).off (fun kk a b => hk kk (by omega)), (h.2.2.1.row (fun q w hq hw => ho q w)).off (hk 18 (by omega)), (h.2.2.2.1.row (fun j hj => hl j (by omega))).off (fun kk a b => hk kk (by omega)), ?_⟩
  have hP := h.2.2.2.2
  unfold AP
  rw [hk 26 (by omega), hk 27 (by omega), hk 28 (by omega), hk 29 (by omega), hk 30 (by omega), hl 1 (by omega), hl 2 (by omega)]
  refine ⟨(up3_j _ (by omega)).trans hP.1, (up3_s _ _ _ _ _).trans (upd_s _ _ _).symm, (up3_j _ (by omega)).trans hP.2.2.1, fun q hq => ?_⟩
  rw [ho q 3, ho q 4, ho q 5, ho q 15]
  obtain ⟨g3, g4, g5, g15, g30⟩ := hP.2.2.2 q hq
  exact ⟨g3, g4, g5, g15, fun t w hw ht hw5 => (g30 t w hw ht hw5).trans (hl _ (by omega)).symm⟩
theorem AB.lim {S : mS} {v n : Nat} {N : NN} {x : Int32} (h : AB S v N n) : AB (up3 S 12 v 1 x) v (upd N 0 x) n := by
  have ho : ∀ q w, fo (upd N 0 x) q w = fo N q w := fun q w => fo_upd_lo N (by omega)
  have hl : ∀ j, j ≠ 0 → upd N 0 x j = N j := fun j hj => upd_n N hj
  have hk : ∀ kk, kk ≠ 12 → up3 S 12 v 1 x kk v = S kk v := fun kk a => by rw [up3_k _ a]
  refine ⟨⟨?_, fun q hq => ?_⟩, (h.2.1.row (hl 3 (by omega)) (fun q w hq a b => ho q w) (fun a b ha hb => hl _ (by omega))).off (fun kk a b => hk kk (by omega)), (h.2.2.1.row (fun q w hq hw => ho q w)).off (hk 18 (by omega)), (h.2.2.2.1.row (fun j hj => hl j (by omega))).off (fun kk a b => hk kk (by omega)), (h.2.2.2.2.row (hl 1 (by omega)) (hl 4 (by omega)) (hl 2 (by omega)) (fun q w hq hw => ho q w) (fun j hj => hl j (by omega))).off (fun kk a b => hk kk (by omega))⟩
  · rw [up3_s, upd_s]
  · rw [hk 13 (by omega), hk 14 (by omega), hk 15 (by omega), hk 16 (by omega), ho, ho, ho, ho]
    exact h.1.2 q hq
theorem AB.set6 {S : mS} {v n p : Nat} {N : NN} {x : Int32} (h : AB S v N n) (hp : p < 10) : AB (up3 S 16 v p x) v (fset N p 6 x) n := by
  have ho : ∀ q w, w < 20 → w ≠ 6 → fo (fset N p 6 x) q w = fo N q w := fun q w hw h3 => fo_set_w _ h3 (by omega) hw
  have hl : ∀ j, j < 6 ∨ 206 ≤ j → (fset N p 6 x) j = N j := fun j hj => fset_out hp (by omega) hj
  have hk : ∀ kk, kk ≠ 16 → up3 S 16 v p x kk v = S kk v := fun kk a => by rw [up3_k _ a]
  refine ⟨⟨?_, fun q hq => ?_⟩, (h.2.1.row (hl 3 (by omega)) (fun q w hq a b => ho q w (by omega) (by omega)) (fun a b ha hb => hl _ (by omega))).off (fun kk a b => hk kk (by omega)), (h.2.2.1.row (fun q w hq hw => ho q w (by omega) (by omega))).off (hk 18 (by omega)), (h.2.2.2.1.row (fun j hj => hl j (by omega))).off (fun kk a b => hk kk (by omega)), (h.2.2.2.2.row (hl 1 (by omega)) (hl 4 (by omega)) (hl 2 (by omega)) (fun q w hq hw => ho q w (by omega) (by omega)) (fun j hj => hl j (by omega))).off (fun kk a b => hk kk (by omega))⟩
  · rw [hk 12 (by omega), hl 0 (by omega)]
    exact h.1.1
  · obtain ⟨a0, a1, a2, a3⟩ := h.1.2 q hq
    rw [hk 13 (by omega), hk 14 (by omega), hk 15 (by omega), ho q 0 (by omega) (by omega), ho q 1 (by omega) (by omega), ho q 2 (by omega) (by omega), fo_set _ (by omega) (by omega), up3_at]
    refine ⟨a0, a1, a2, ?_⟩
    by_cases e : q = p
    · rw [if_pos ⟨rfl, rfl, e⟩, if_pos ⟨e, rfl⟩]
    · rw [if_neg (fun z => e z.2.2), if_neg (fun z => e z.1)]
      exact a3
/-- the costs of a text -/
def cO (c : NN) : Prop := ∀ i, i < 4 → ∃ a, a ≤ 99 ∧ c i = nI a
theorem fWait_N {N T c : NN} {n p : Nat} (hc : cO c) (hT : tI T n) (hg : gI N T n) (hp : p < n) : ∃ w, w < 2 ^ 30 ∧ fWait N T c p = nI w := by
  obtain ⟨b', c', w', g', r', s', t1, t2, t3, t4, t5, t6, t7, t8, t9, t10, t11, t12⟩ := hT p hp
  obtain ⟨a, ca, g, g1, g2, g3, g4, g5, g6⟩ := hg p hp
  obtain ⟨c0, hc0, e0⟩ := hc 0 (by omega)
  obtain ⟨c1, hc1, e1⟩ := hc 1 (by omega)
  obtain ⟨c2, hc2, e2⟩ := hc 2 (by omega)
  obtain ⟨c3, hc3, e3⟩ := hc 3 (by omega)
  have m0 : c0 * b' ≤ 99 * 999 := Nat.mul_le_mul hc0 (by omega)
  have m1 : c1 * a ≤ 99 * 999 := Nat.mul_le_mul hc1 (by omega)
  have m2 : c2 * b' ≤ 99 * 999 := Nat.mul_le_mul hc2 (by omega)
  unfold fWait
  rw [e0, e1, e2, e3, t1, g1, pk_mul, pk_mul, pk_mul, nI_add]
  split
  · exact ⟨_, by omega, rfl⟩
  · split
    · exact ⟨_, by omega, rfl⟩
    · split
      · exact ⟨_, by omega, rfl⟩
      · split
        · exact ⟨_, by omega, rfl⟩
        · exact ⟨_, by omega, rfl⟩
/-- the outcome of a showing that is tried: refused or not -/
theorem fShowR_r {N T c : NN} {n p : Nat} (h1 : ¬ fo N p 0 = nI 1) (h : fShow N T c n p = none) : fShowR N T c n p = (-1, -1, N) := by
  unfold fShowR
  rw [if_neg h1, h]
theorem fShowR_y {N T c M : NN} {n p m : Nat} (h1 : ¬ fo N p 0 = nI 1) (h : fShow N T c n p = some (m, M)) : fShowR N T c n p = (fWait N T c p, nI m, M) := by
  unfold fShowR
  rw [if_neg h1, h]
theorem fWait_1 {N T c : NN} {p : Nat} (h : fo N p 0 = nI 1) : fWait N T c p = nI 0 := by
  unfold fWait
  rw [h]
  rfl
/-- what is shown keeps its pages while memory is made for it -/
theorem fMem_shown {N T : NN} {n p : Nat} {a : Int32} {q : Nat × NN} (hn : n ≤ 10) (hp : p < 10) (h0 : fo N p 0 = nI 1) (ha : fo N p 1 = a) (h : fMem N T n = some q) : fo q.2 p 0 = nI 1 ∧ fo q.2 p 1 = a :=
  fMemF_ind (T := T) (n := n) (P := fun M => fo M p 0 = nI 1 ∧ fo M p 1 = a)
    (fun M r k hM hr h1 h6 hf => by
      by_cases e : p = r
      · subst e
        have hk : k = 6 := by
          unfold fCan at hf
          rcases (show k = 1 ∨ k = 2 ∨ k = 3 ∨ k = 4 ∨ k = 5 ∨ k = 6 by omega) with rfl | rfl | rfl | rfl | rfl | rfl <;> simp [hM.1, nI_eq] at hf ⊢
        subst hk
        rw [fStep_fo hp (by omega), fStep_fo hp (by omega)]
        simp [fStep0, fo_set, hM.1, hM.2]
      · rw [fStep_ne hp (by omega) e, fStep_ne hp (by omega) e]
        exact hM) 60 ⟨h0, ha⟩ h
theorem smI_ge {f : NN} {p : Nat} {a : Nat} : ∀ {n : Nat}, p < n → (∀ k, k < n → ∃ u, u ≤ 1199 ∧ f k = nI u) → f p = nI a → a ≤ 1199 → ∃ x, a ≤ x ∧ x ≤ 1199 * n ∧ smI f n = nI x
  | 0, hp, _, _, _ => absurd hp (Nat.not_lt_zero _)
  | n + 1, hp, h, ha, ha2 => by
    by_cases e : p = n
    · subst e
      obtain ⟨x, hx, ex⟩ := smI_N (f := f) (n := p) (fun k hk => h k (by omega))
      exact ⟨x + a, by omega, by omega, by rw [smI, ex, ha, nI_add]⟩
    · obtain ⟨x, hx, hx2, ex⟩ := smI_ge (n := n) (by omega) (fun k hk => h k (by omega)) ha ha2
      obtain ⟨u, hu, eu⟩ := h n (by omega)
      exact ⟨x + u, by omega, by omega, by rw [smI, ex, eu, nI_add]⟩
/-- what can be shown has no more pages than there is memory -/
theorem fShow_fits {N T c M : NN} {n p m B : Nat} (hJ : JI N T n B) (hT : tI T n) (hn : n ≤ 10) (hp : p < n) (h1 : ¬ fo N p 0 = nI 1) (h : fShow N T c n p = some (m, M)) : ¬ N 0 < fPgs N T p := by
  have hI := hJ.1.1
  cases hm : fMem (fLay N T p) T n with
  | none => rw [fShow_n2 hm] at h; cases h
  | some kM =>
    obtain ⟨m', M'⟩ := kM
    have hg := hJ.2.1.lay hT hI hn hJ.1.2.2.2 hp
    have hM := fMem_g hn hg hm
    have hend := fMem_end hm
    have hok := fMem_ok hn (hI.lay hn hp) hm
    have h0 : fo (fLay N T p) p 0 = nI 1 := by rw [fLay_r hI hn hJ.1.2.2.2 (by omega) (by omega), if_pos ⟨rfl, rfl⟩]
    have hst : ¬ N 2 = nI p := fun z => h1 ((hI.2.2.2.1 p (by omega)).mpr z)
    have hr0 : fo (fRests N) p 0 = fo N p 0 := by rw [fRests_fo hI hn (by omega) (by omega) (by omega) (by omega), if_neg (fun z => hst z.2)]
    have hr1 : fo (fRests N) p 1 = fo N p 1 := by rw [fRests_fo hI hn (by omega) (by omega) (by omega) (by omega), if_neg (by omega)]
    have ha : fo (fLay N T p) p 1 = fPgs N T p := by
      rw [fLay_r hI hn hJ.1.2.2.2 (by omega) (by omega), if_neg (by omega), hr0, hr1]
      unfold fPgs
      by_cases e : fo N p 0 = nI 0 ∨ fo N p 0 = nI 5
      · rw [if_pos ⟨rfl, Or.inl rfl, e⟩, if_pos e]
        rfl
      · rw [if_neg (fun z => e z.2.2), if_neg e]
    have hs := fMem_shown hn (by omega) h0 ha hm
    obtain ⟨a, ca, g, g1, g2, g3, g4, g5, g6⟩ := hM p hp
    have hu : fUses M' T p = nI (a + ca) := by
      unfold fUses
      rw [hs.1, g1, g2, ← nI_add]
      rfl
    obtain ⟨x, hx, hx2, ex⟩ := smI_ge (f := fUses M' T) hp (fun k hk => fUses_N hM hT hk) hu (by omega)
    have e0 : M' 0 = N 0 := (hok.2.2 0 (by omega)).trans ((fLay_j N T (by omega) (by omega)).trans (fRests_j hI hn (by omega)))
    obtain ⟨l, hl, el⟩ := hJ.2.2.2
    change ¬ M' 0 < fAll M' T n at hend
    unfold fAll at hend
    rw [e0, ex, el, nI_ltI (by omega) (by omega)] at hend
    rw [← hs.2, show fo M' p 1 = nI a from g1, el, nI_ltI (by omega) (by omega)]
    omega
theorem CS.swap {S : mS} {R : mR} {T c N : NN} {d n B x u : Nat} {ph : Nat → Nat} {UR SR : Nat → NN} {sf : Nat → Nat} (h : CS S R T c d n B x u ph N UR SR sf) :
    CS S (up3 (up3 R 0 0 6 (some (25, ph 2))) 0 0 7 (some (25, ph 1))) T c d n B x u (fun i => if i = 1 then ph 2 else if i = 2 then ph 1 else ph i) N UR SR sf := by
  obtain ⟨hR, hP, hD, hX, hN, hU, hS, hB⟩ := h
  have hv : ∀ {w : Nat} {Q : NN}, VR S R T d n B w Q → VR S (up3 (up3 R 0 0 6 (some (25, ph 2))) 0 0 7 (some (25, ph 1))) T d n B w Q := fun hq =>
    hq.off (fun k a b => rfl) (by rw [up3_k _ (by omega), up3_k _ (by omega)]) (by rw [up3_k _ (by omega), up3_k _ (by omega)])
  refine ⟨(hR.up rfl).up rfl, ⟨fun i hi => ?_, fun i j hi hj e => ?_, ?_, ?_, ?_, fun i hi => ?_, fun i hi => ?_⟩, hD.off (FC.rf S) ?_ ?_, hX, ?_, fun j hj => ?_, fun s hs => ?_, hB⟩
  · show (if i = 1 then ph 2 else if i = 2 then ph 1 else ph i) < 15
    split
    · exact hP.1 2 (by omega)
    · split
      · exact hP.1 1 (by omega)
      · exact hP.1 i hi
  · have e3 : ∀ i, (if i = 1 then ph 2 else if i = 2 then ph 1 else ph i) = ph (if i = 1 then 2 else if i = 2 then 1 else i) := fun i => by
      by_cases h1 : i = 1
      · rw [if_pos h1, if_pos h1]
      · rw [if_neg h1, if_neg h1]
        by_cases h2 : i = 2
        · rw [if_pos h2, if_pos h2]
        · rw [if_neg h2, if_neg h2]
    change (if i = 1 then ph 2 else if i = 2 then ph 1 else ph i) = (if j = 1 then ph 2 else if j = 2 then ph 1 else ph j) at e
    rw [e3, e3] at e
    have e2 := hP.2.1 _ _ (by split <;> (try split) <;> omega) (by split <;> (try split) <;> omega) e
    clear hv hU hS hN
    repeat' (split at e2)
    all_goals omega
  · rw [up3_j _ (by omega), up3_j _ (by omega)]; exact hP.2.2.1
  · rw [up3_j _ (by omega), up3_s]; rfl
  · rw [up3_s]; rfl
  · rw [up3_k _ (by omega), up3_k _ (by omega)]
    show R 32 0 i = some (25, if 3 + i = 1 then ph 2 else if 3 + i = 2 then ph 1 else ph (3 + i))
    rw [if_neg (by omega), if_neg (by omega)]
    exact hP.2.2.2.2.2.1 i hi
  · rw [up3_k _ (by omega), up3_k _ (by omega)]
    show R 33 0 i = some (25, if 13 + i = 1 then ph 2 else if 13 + i = 2 then ph 1 else ph (13 + i))
    rw [if_neg (by omega), if_neg (by omega)]
    exact hP.2.2.2.2.2.2 i hi
  · rw [up3_j _ (by omega), up3_j _ (by omega)]
  · rw [up3_j _ (by omega), up3_j _ (by omega)]
  · exact hv hN
  · show VR _ _ T d n B (if _ then _ else if _ then _ else _) _
    rw [if_neg (by omega), if_neg (by omega)]
    exact hv (hU j hj)
  · obtain ⟨a, b, c'⟩ := hS s hs
    refine ⟨a, b, fun z => ?_⟩
    show VR _ _ T d n B (if _ then _ else if _ then _ else _) _
    rw [if_neg (by omega), if_neg (by omega)]
    exact hv (c' z)
theorem CS.upB {S : mS} {R : mR} {T c N : NN} {d n B C x u : Nat} {ph : Nat → Nat} {UR SR : Nat → NN} {sf : Nat → Nat} (h : CS S R T c d n B x u ph N UR SR sf) (hB : B ≤ C) (hC : C < 2147000000) : CS S R T c d n C x u ph N UR SR sf :=
  ⟨h.1, h.2.1, h.2.2.1, h.2.2.2.1, h.2.2.2.2.1.up hB, fun j hj => (h.2.2.2.2.2.1 j hj).up hB, fun s hs => ⟨(h.2.2.2.2.2.2.1 s hs).1, (h.2.2.2.2.2.2.1 s hs).2.1, fun z => ((h.2.2.2.2.2.2.1 s hs).2.2 z).up hB⟩, hC⟩
/-- the phone of the latest change comes back -/
theorem CS.undo {S : mS} {R : mR} {T c N : NN} {d n B x u : Nat} {ph : Nat → Nat} {UR SR : Nat → NN} {sf : Nat → Nat} (h : CS S R T c d n B x (u + 1) ph N UR SR sf) :
    CS (up3 (up3 S 31 0 1 (nI ((x + 9) % 10))) 31 0 2 (nI u)) (up3 (up3 R 32 0 ((x + 9) % 10) (some (25, ph 0))) 0 0 5 (some (25, ph (3 + (x + 9) % 10)))) T c d n B ((x + 9) % 10) u (fun i => if i = 0 then ph (3 + (x + 9) % 10) else if i = 3 + (x + 9) % 10 then ph 0 else ph i) (UR u) UR SR sf := by
  obtain ⟨hR, hP, hD, ⟨hx, hx10, hu, hu10⟩, hN, hU, hS, hB⟩ := h
  have hy : (x + 9) % 10 < 10 := Nat.mod_lt _ (by omega)
  generalize hye : (x + 9) % 10 = y at hy ⊢
  have hv : ∀ {w : Nat} {Q : NN}, VR S R T d n B w Q → VR (up3 (up3 S 31 0 1 (nI y)) 31 0 2 (nI u)) (up3 (up3 R 32 0 y (some (25, ph 0))) 0 0 5 (some (25, ph (3 + y)))) T d n B w Q := fun hq =>
    hq.off (fun k a b => by rw [up3_k _ (by omega), up3_k _ (by omega)]) (by rw [up3_k _ (by omega), up3_k _ (by omega)]) (by rw [up3_k _ (by omega), up3_k _ (by omega)])
  refine ⟨(hR.up rfl).up rfl, ⟨fun i hi => ?_, fun i j hi hj e => ?_, ?_, ?_, ?_, fun i hi => ?_, fun i hi => ?_⟩, hD.off (((FC.rf S).up (by omega)).up (by omega)) ?_ ?_, ⟨?_, hy, ?_, by omega⟩, ?_, fun j hj => ?_, fun s hs => ?_, hB⟩
  · show (if i = 0 then ph (3 + y) else if i = 3 + y then ph 0 else ph i) < 15
    split
    · exact hP.1 _ (by omega)
    · split
      · exact hP.1 0 (by omega)
      · exact hP.1 i hi
  · have e3 : ∀ i, (if i = 0 then ph (3 + y) else if i = 3 + y then ph 0 else ph i) = ph (if i = 0 then 3 + y else if i = 3 + y then 0 else i) := fun i => by
      by_cases h1 : i = 0
      · rw [if_pos h1, if_pos h1]
      · rw [if_neg h1, if_neg h1]
        by_cases h2 : i = 3 + y
        · rw [if_pos h2, if_pos h2]
        · rw [if_neg h2, if_neg h2]
    change (if i = 0 then ph (3 + y) else if i = 3 + y then ph 0 else ph i) = (if j = 0 then ph (3 + y) else if j = 3 + y then ph 0 else ph j) at e
    rw [e3, e3] at e
    have e2 := hP.2.1 _ _ (by split <;> (try split) <;> omega) (by split <;> (try split) <;> omega) e
    clear hv hU hS hN
    repeat' (split at e2)
    all_goals omega
  · rw [up3_s]; rfl
  · rw [up3_j _ (by omega), up3_k _ (by omega)]
    show R 0 0 6 = some (25, if 1 = 0 then ph (3 + y) else if 1 = 3 + y then ph 0 else ph 1)
    rw [if_neg (by omega), if_neg (by omega)]
    exact hP.2.2.2.1
  · rw [up3_j _ (by omega), up3_k _ (by omega)]
    show R 0 0 7 = some (25, if 2 = 0 then ph (3 + y) else if 2 = 3 + y then ph 0 else ph 2)
    rw [if_neg (by omega), if_neg (by omega)]
    exact hP.2.2.2.2.1
  · rw [up3_k _ (by omega), up3_at]
    show _ = some (25, if 3 + i = 0 then ph (3 + y) else if 3 + i = 3 + y then ph 0 else ph (3 + i))
    rw [if_neg (show ¬ 3 + i = 0 by omega)]
    by_cases e : i = y
    · rw [if_pos ⟨rfl, rfl, e⟩, if_pos (by omega)]
    · rw [if_neg (fun z => e z.2.2), if_neg (by omega)]
      exact hP.2.2.2.2.2.1 i hi
  · rw [up3_k _ (by omega), up3_k _ (by omega)]
    show R 33 0 i = some (25, if 13 + i = 0 then ph (3 + y) else if 13 + i = 3 + y then ph 0 else ph (13 + i))
    rw [if_neg (by omega), if_neg (by omega)]
    exact hP.2.2.2.2.2.2 i hi
  · rw [up3_j _ (by omega), up3_k _ (by omega)]
  · rw [up3_j _ (by omega), up3_k _ (by omega)]
  · rw [up3_j _ (by omega), up3_s]
  · rw [up3_s]
  · show VR _ _ T d n B (if 0 = 0 then ph (3 + y) else _) _
    rw [if_pos rfl]
    have := hU u (by omega)
    rw [show (x + 10 - (u + 1) + u) % 10 = y by omega] at this
    exact hv this
  · show VR _ _ T d n B (if 3 + (y + 10 - u + j) % 10 = 0 then _ else if 3 + (y + 10 - u + j) % 10 = 3 + y then ph 0 else ph (3 + (y + 10 - u + j) % 10)) _
    rw [if_neg (by omega), if_neg (by omega)]
    have := hU j (by omega)
    rw [show (x + 10 - (u + 1) + j) % 10 = (y + 10 - u + j) % 10 by omega] at this
    exact hv this
  · obtain ⟨a, b, c'⟩ := hS s hs
    rw [up3_k _ (by omega), up3_k _ (by omega)]
    refine ⟨a, b, fun z => ?_⟩
    show VR _ _ T d n B (if 13 + s = 0 then _ else if 13 + s = 3 + y then ph 0 else ph (13 + s)) _
    rw [if_neg (by omega), if_neg (by omega)]
    exact hv (c' z)
/-- a slot is filled -/
theorem CS.save {S S2 : mS} {R R2 : mR} {T c N : NN} {d n B x u s : Nat} {ph : Nat → Nat} {UR SR : Nat → NN} {sf : Nat → Nat} (h : CS S R T c d n B x u ph N UR SR sf) (hs : s < 2) (hB2 : AB S2 (ph (13 + s)) N n) (hF : FP S S2 (ph (13 + s))) (hR : RX R R2 (ph (13 + s))) (h1 : R2 25 (ph (13 + s)) 1 = some (3, d)) (h2 : R2 12 (ph (13 + s)) 0 = some (3, d)) :
    CS (up3 S2 34 0 s (nI 1)) R2 T c d n B x u ph N UR (fun i => if i = s then N else SR i) (fun i => if i = s then 1 else sf i) := by
  have e0 := fun k i j (hk : k = 0 ∨ k = 32 ∨ k = 33) => hR.2 k i j (by omega)
  have hF4 : ∀ k i, ¬ (12 ≤ k ∧ k ≤ 30 ∧ i = ph (13 + s)) → k ≠ 34 → up3 S2 34 0 s (nI 1) k i = S k i := fun k i hn h4 => by rw [up3_k _ h4]; exact hF k i hn
  have hv : ∀ {t : Nat} {Q : NN}, t < 15 → t ≠ 13 + s → VR S R T d n B (ph t) Q → VR (up3 S2 34 0 s (nI 1)) R2 T d n B (ph t) Q := fun {t} {Q} ht hne hq => by
    have hnp := h.ne ht (show 13 + s < 15 by omega) hne
    have hp := h.ph ht
    exact hq.off (fun k a b => hF4 k _ (by omega) (by omega)) (hR.2 25 _ 1 (by omega)) (hR.2 12 _ 0 (by omega))
  refine ⟨hR.1, h.2.1.off e0, h.2.2.1.off (fun k hk => by funext i; exact hF4 k i (by omega) (by omega)) (e0 0 0 2 (by omega)) (e0 0 0 3 (by omega)), by rw [hF4 31 0 (by omega) (by omega)]; exact h.2.2.2.1, hv (by omega) (by omega) h.2.2.2.2.1, fun j hj => hv (by omega) (by omega) (h.2.2.2.2.2.1 j hj), fun t ht => ?_, h.2.2.2.2.2.2.2⟩
  show up3 S2 34 0 s (nI 1) 34 0 t = nI (if t = s then 1 else sf t) ∧ (if t = s then 1 else sf t) ≤ 1 ∧ ((if t = s then 1 else sf t) = 1 → VR _ R2 T d n B (ph (13 + t)) (if t = s then N else SR t))
  by_cases e : t = s
  · subst e
    rw [if_pos rfl, if_pos rfl, up3_s]
    exact ⟨rfl, by omega, fun _ => ⟨hB2.off (fun k a b => by rw [up3_k _ (by omega)]), h1, h2, h.2.2.2.2.1.2.2.2⟩⟩
  · rw [if_neg e, if_neg e, up3_j _ e]
    obtain ⟨a, b, c'⟩ := h.2.2.2.2.2.2.1 t ht
    exact ⟨by rw [hF 34 0 (by omega)]; exact a, b, fun z => hv (by omega) (by omega) (c' z)⟩
/-- a slot's row comes back, with nothing that can be undone -/
theorem CS.restore {S S2 : mS} {R R2 : mR} {T c N : NN} {d n B x u s : Nat} {ph : Nat → Nat} {UR SR : Nat → NN} {sf : Nat → Nat} (h : CS S R T c d n B x u ph N UR SR sf) (hs : s < 2) (hf : sf s = 1) (hB2 : AB S2 (ph 0) (SR s) n) (hF : FP S S2 (ph 0)) (hR : RX R R2 (ph 0)) (h1 : R2 25 (ph 0) 1 = some (3, d)) (h2 : R2 12 (ph 0) 0 = some (3, d)) :
    CS (up3 S2 31 0 2 (nI 0)) R2 T c d n B x 0 ph (SR s) UR SR sf := by
  have e0 := fun k i j (hk : k = 0 ∨ k = 32 ∨ k = 33) => hR.2 k i j (by omega)
  have hF4 : ∀ k i, ¬ (12 ≤ k ∧ k ≤ 30 ∧ i = ph 0) → k ≠ 31 → up3 S2 31 0 2 (nI 0) k i = S k i := fun k i hn h4 => by rw [up3_k _ h4]; exact hF k i hn
  have hv : ∀ {t : Nat} {Q : NN}, t < 15 → t ≠ 0 → VR S R T d n B (ph t) Q → VR (up3 S2 31 0 2 (nI 0)) R2 T d n B (ph t) Q := fun {t} {Q} ht hne hq => by
    have hnp := h.ne ht (show 0 < 15 by omega) hne
    have hp := h.ph ht
    exact hq.off (fun k a b => hF4 k _ (by omega) (by omega)) (hR.2 25 _ 1 (by omega)) (hR.2 12 _ 0 (by omega))
  obtain ⟨hx, hx10, hu, hu10⟩ := h.2.2.2.1
  refine ⟨hR.1, h.2.1.off e0, h.2.2.1.off (fun k hk => by funext i; exact hF4 k i (by omega) (by omega)) (e0 0 0 2 (by omega)) (e0 0 0 3 (by omega)), ⟨by rw [up3_j _ (by omega), hF 31 0 (by omega)]; exact hx, hx10, up3_s _ _ _ _ _, by omega⟩, ⟨hB2.off (fun k a b => by rw [up3_k _ (by omega)]), h1, h2, ((h.2.2.2.2.2.2.1 s hs).2.2 hf).2.2.2⟩, fun j hj => absurd hj (Nat.not_lt_zero _), fun t ht => ?_, h.2.2.2.2.2.2.2⟩
  obtain ⟨a, b, c'⟩ := h.2.2.2.2.2.2.1 t ht
  exact ⟨by rw [hF4 34 0 (by omega) (by omega)]; exact a, b, fun z => hv (by omega) (by omega) (c' z)⟩
