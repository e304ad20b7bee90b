def kI (N : NN) (n B : Nat) : Prop := rI N n ∧ cI N ∧ pI N B ∧ wI N
theorem cI.rests {N : NN} {n : Nat} (h : cI N) (hI : rI N n) (hn : n ≤ 10) : cI (fRests N) := by
  intro r hr
  rw [fRests_fo hI hn hr (by omega) (by omega) (by omega), fRests_fo hI hn hr (by omega) (by omega) (by omega), fRests_fo hI hn hr (by omega) (by omega) (by omega)]
  by_cases e : N 2 = nI r
  · rw [if_pos ⟨rfl, e⟩]
    exact ⟨fun z => z.elim (fun y => absurd y (by decide)) (fun y => absurd y (by decide)), fun y => absurd y (by decide)⟩
  · rw [if_neg (fun z => e z.2), if_neg (fun z => e z.2), if_neg (fun z => e z.2)]
    exact h r hr
theorem pI.rests {N : NN} {n B : Nat} (h : pI N B) (hI : rI N n) (hn : n ≤ 10) : pI (fRests N) B := by
  rcases hI.1 with e | ⟨q, hq, e⟩
  · rw [fRests_n e]
    exact h
  · rw [fRests_s (by omega) e]
    obtain ⟨⟨t, t1, t2, t3, t4⟩, h2, h3⟩ := h
    have hl : ∀ j, j < 6 → fRest N q j = N j := fun j hj => by
      unfold fRest
      rw [fset_lo _ hj, fset_lo _ hj, fset_lo _ hj]
    refine ⟨⟨t, t1, (hl 1 (by omega)).trans t2, fun p hp => ?_, fun p hp => ?_⟩, fun p hp => ?_, by rw [hl 4 (by omega)]; exact h3⟩
    · rw [fo_rest N (by omega), fo_rest N (by omega), if_neg (by omega), if_neg (by omega), if_neg (by omega), if_neg (by omega)]
      exact t3 p hp
    · rw [fo_rest N (by omega), if_neg (by omega)]
      by_cases e1 : p = q
      · rw [if_pos (by omega)]
        exact ⟨t, Nat.le_refl _, t2⟩
      · rw [if_neg (fun z => e1 z.1)]
        exact t4 p hp
    · rw [fo_rest N (by omega), fo_rest N (by omega), if_neg (show ¬ (p = q ∧ (7 : Nat) = 0) by omega), if_neg (show ¬ (p = q ∧ (8 : Nat) = 0) by omega)]
      by_cases e1 : p = q
      · rw [if_pos (show p = q ∧ ((7 : Nat) = 7 ∨ (7 : Nat) = 8) by omega), if_pos (show p = q ∧ ((8 : Nat) = 7 ∨ (8 : Nat) = 8) by omega)]
      · rw [if_neg (fun z => e1 z.1), if_neg (fun z => e1 z.1)]
        exact h2 p hp
theorem wI.rests {N : NN} {n : Nat} (h : wI N) (hI : rI N n) (hn : n ≤ 10) : wI (fRests N) := by
  intro r hr
  rw [fRests_fo hI hn hr (by omega) (by omega) (by omega), fRests_fo hI hn hr (by omega) (by omega) (by omega), fRests_fo hI hn hr (by omega) (by omega) (by omega)]
  rw [if_neg (show ¬ ((9 : Nat) = 0 ∧ N 2 = nI r) by omega), if_neg (show ¬ ((3 : Nat) = 0 ∧ N 2 = nI r) by omega)]
  by_cases e : N 2 = nI r
  · rw [if_pos ⟨rfl, e⟩]
    exact ⟨fun z => absurd z (by decide), fun z => absurd z (by decide)⟩
  · rw [if_neg (fun z => e z.2)]
    exact h r hr
theorem fLay_r {N T : NN} {n p r w : Nat} (hI : rI N n) (hn : n ≤ 10) (hW : wI N) (hp : p < 10) (hw : w < 20) : fo (fLay N T p) r w = if r = p ∧ w = 0 then nI 1 else if r = p ∧ (w = 1 ∨ w = 2) ∧ (fo (fRests N) p 0 = nI 0 ∨ fo (fRests N) p 0 = nI 5) then T (8 * p + (w - 1)) else fo (fRests N) r w := fLay_o hw (((hW.rests hI hn) p hp).2)
theorem cI.lay {N T : NN} {n p : Nat} (h : cI N) (hI : rI N n) (hn : n ≤ 10) (hW : wI N) (hp : p < 10) : cI (fLay N T p) := by
  intro r hr
  rw [fLay_r hI hn hW hp (by omega), fLay_r hI hn hW hp (by omega), fLay_r hI hn hW hp (by omega)]
  by_cases e : r = p
  · rw [if_pos ⟨e, rfl⟩]
    exact ⟨fun z => z.elim (fun y => absurd y (by decide)) (fun y => absurd y (by decide)), fun y => absurd y (by decide)⟩
  · rw [if_neg (fun z => e z.1), if_neg (fun z => e z.1), if_neg (fun z => e z.1), if_neg (fun z => e z.1), if_neg (fun z => e z.1), if_neg (fun z => e z.1)]
    exact h.rests hI hn r hr
theorem pI.lay {N T : NN} {n p B : Nat} (h : pI N B) (hI : rI N n) (hn : n ≤ 10) (hW : wI N) (hp : p < 10) : pI (fLay N T p) B :=
  (h.rests hI hn).row (fLay_j N T hp (by omega)) (fLay_j N T hp (by omega)) (fun q w hq hw => by rw [fLay_r hI hn hW hp (by omega), if_neg (by omega), if_neg (by omega)])
theorem wX.lay {N T : NN} {n p : Nat} (hI : rI N n) (hn : n ≤ 10) (hW : wI N) (hp : p < 10) : wX (fLay N T p) p := by
  intro r hr
  rw [fLay_r hI hn hW hp (by omega), fLay_r hI hn hW hp (by omega), fLay_r hI hn hW hp (by omega), if_neg (show ¬ (r = p ∧ (9 : Nat) = 0) by omega), if_neg (show ¬ (r = p ∧ (3 : Nat) = 0) by omega), if_neg (show ¬ (r = p ∧ ((9 : Nat) = 1 ∨ (9 : Nat) = 2) ∧ (fo (fRests N) p 0 = nI 0 ∨ fo (fRests N) p 0 = nI 5)) by omega), if_neg (show ¬ (r = p ∧ ((3 : Nat) = 1 ∨ (3 : Nat) = 2) ∧ (fo (fRests N) p 0 = nI 0 ∨ fo (fRests N) p 0 = nI 5)) by omega)]
  by_cases e : r = p
  · rw [if_pos ⟨e, rfl⟩]
    exact ⟨fun _ y => absurd e y, fun z => absurd z (by decide)⟩
  · rw [if_neg (fun z => e z.1), if_neg (fun z => e z.1)]
    exact ⟨fun z _ => (hW.rests hI hn r hr).1 z, (hW.rests hI hn r hr).2⟩
theorem fGap_w {N : NN} {p g r w : Nat} (hg : fo N p 10 = nI g) (hg4 : g ≤ 4) (hw : w < 20) (hx : w < 10 ∨ 15 ≤ w) : fo (fGap N p) r w = fo N r w := by
  by_cases h9 : fo N p 9 = nI 1
  · rw [fGap_fo h9 hg hg4 hw, if_neg (by omega), if_neg (by split <;> omega), if_neg (by omega)]
  · unfold fGap
    rw [if_neg h9]
theorem fHab_o {N : NN} {n p g r w : Nat} {b : Int32} (hn : n ≤ 10) (hp : p < 10) (hb : b = -1 ∨ ∃ q, q < n ∧ b = nI q) (hg : fo N p 10 = nI g) (hg4 : g ≤ 4) (hr : r < 10) (hw : w < 20) (hx : w < 10 ∨ 15 ≤ w) : fo (fHab N p b) r w = if r = p ∧ w = 9 then nI 1 else fo N r w := by
  have h0 : fo (fset (fGap N p) p 9 (nI 1)) r w = if r = p ∧ w = 9 then nI 1 else fo N r w := by rw [fo_set _ (by omega) hw, fGap_w hg hg4 hw hx]
  rcases hb with e | ⟨q, hq, e⟩
  · rw [fHab_n (Or.inl e), h0]
  · subst e
    by_cases e : q = p
    · rw [fHab_n (Or.inr (congrArg nI e)), h0]
    · rw [fHab_y (by omega) (by omega) e, ← h0]
      exact upd_n _ (by omega)
theorem fHab_lo {N : NN} {n p g j : Nat} {b : Int32} (hn : n ≤ 10) (hp : p < 10) (hb : b = -1 ∨ ∃ q, q < n ∧ b = nI q) (hg : fo N p 10 = nI g) (hg4 : g ≤ 4) (hj : j < 6) : fHab N p b j = N j := by
  have h0 : fset (fGap N p) p 9 (nI 1) j = N j := by rw [fset_lo _ hj, fGap_out hp hg hg4 (Or.inl hj)]
  rcases hb with e | ⟨q, hq, e⟩
  · rw [fHab_n (Or.inl e), h0]
  · subst e
    by_cases e : q = p
    · rw [fHab_n (Or.inr (congrArg nI e)), h0]
    · rw [fHab_y (by omega) (by omega) e, ← h0]
      exact upd_n _ (by omega)
theorem kI.wr {N : NN} {n B k p : Nat} (h : kI N n B) : kI (fWr N k p) n B :=
  ⟨h.1.wr, h.2.1.row (fun q w hq hw => fo_wr hq (by omega)), h.2.2.1.row (wr_lo (by omega)) (wr_lo (by omega)) (fun q w hq hw => fo_wr hq (by omega)), h.2.2.2.row (fun q w hq hw => fo_wr hq (by omega))⟩
theorem kI.comp {N : NN} {n B p : Nat} (h : kI N n B) (hp : p < 10) : kI (fComp N p) n B := by
  have e2 : fComp N p = fWr (fset (fset N p 4 (fo N p 4 + nI 1)) p 5 (N 1)) 8 p := by
    show fWr (fset (fset N p 4 (fo N p 4 + nI 1)) p 5 (fset N p 4 (fo N p 4 + nI 1) 1)) 8 p = _
    rw [show fset N p 4 (fo N p 4 + nI 1) 1 = N 1 from fset_lo _ (by omega)]
  have ho : ∀ q w, w < 20 → w ≠ 4 → w ≠ 5 → fo (fset (fset N p 4 (fo N p 4 + nI 1)) p 5 (N 1)) q w = fo N q w := fun q w hw h4 h5 => by rw [fo_set_w _ h5 (by omega) hw, fo_set_w _ h4 (by omega) hw]
  have hl : ∀ j, j < 6 → (fset (fset N p 4 (fo N p 4 + nI 1)) p 5 (N 1)) j = N j := fun j hj => by rw [fset_lo _ hj, fset_lo _ hj]
  refine ⟨h.1.comp, ?_, ?_, ?_⟩
  · rw [e2]
    exact (h.2.1.row (M := fset (fset N p 4 (fo N p 4 + nI 1)) p 5 (N 1)) (fun q w hq hw => ho q w (by omega) (by omega) (by omega))).row (fun q w hq hw => fo_wr hq (by omega))
  · rw [e2]
    have h1 : pI (fset (fset N p 4 (fo N p 4 + nI 1)) p 5 (N 1)) B := by
      obtain ⟨⟨t, t1, t2, t3, t4⟩, h2, h3⟩ := h.2.2.1
      refine ⟨⟨t, t1, (hl 1 (by omega)).trans t2, fun q hq => ?_, fun q hq => by rw [ho q 8 (by omega) (by omega) (by omega)]; exact t4 q hq⟩, fun q hq => by rw [ho q 8 (by omega) (by omega) (by omega), ho q 7 (by omega) (by omega) (by omega)]; exact h2 q hq, by rw [hl 4 (by omega)]; exact h3⟩
      by_cases e : q = p
      · subst e
        right
        exact ⟨t, Nat.le_refl _, (fo_set_s _ _ _ _).trans t2⟩
      · rw [fo_set_p _ e (by omega) (by omega), fo_set_p _ e (by omega) (by omega), fo_set_p _ e (by omega) (by omega), fo_set_p _ e (by omega) (by omega)]
        exact t3 q hq
    exact h1.row (wr_lo (by omega)) (wr_lo (by omega)) (fun q w hq hw => fo_wr hq (by omega))
  · rw [e2]
    exact (h.2.2.2.row (M := fset (fset N p 4 (fo N p 4 + nI 1)) p 5 (N 1)) (fun q w hq hw => ho q w (by omega) (by omega) (by omega))).row (fun q w hq hw => fo_wr hq (by omega))
theorem kI.hab {N : NN} {n B p : Nat} {b : Int32} (hI : rI N n) (hc : cI N) (hT : pI N B) (hw : wX N p) (hn : n ≤ 10) (hp : p < 10) (hb : b = -1 ∨ ∃ q, q < n ∧ b = nI q) : kI (fHab N p b) n B := by
  obtain ⟨g, hg4, hg⟩ := hI.2.2.2.2.1 p hp
  have ho : ∀ r w, r < 10 → w < 9 → fo (fHab N p b) r w = fo N r w := fun r w hr hw => by rw [fHab_o hn hp hb hg hg4 hr (by omega) (by omega), if_neg (by omega)]
  refine ⟨hI.hab hp, hc.row (fun q w hq hw => ho q w hq (by omega)), hT.row (fHab_lo hn hp hb hg hg4 (by omega)) (fHab_lo hn hp hb hg hg4 (by omega)) (fun q w hq hw => ho q w hq (by omega)), fun r hr => ?_⟩
  rw [ho r 0 hr (by omega), ho r 3 hr (by omega), fHab_o hn hp hb hg hg4 hr (by omega) (by omega)]
  refine ⟨fun z => ?_, (hw r hr).2⟩
  by_cases e : r = p
  · rw [if_pos ⟨e, rfl⟩]
  · rw [if_neg (fun y => e y.1)]
    exact (hw r hr).1 z e
theorem fShow_n2 {N T c : NN} {n p : Nat} (h : fMem (fLay N T p) T n = none) : fShow N T c n p = none := by unfold fShow; rw [h]
theorem fShow_s2 {N T c M : NN} {n p m : Nat} (h : fMem (fLay N T p) T n = some (m, M)) : fShow N T c n p = some (m, if T (8 * p + 6) < fWait N T c p then fComp (fWr (fHab M p (N 3)) 7 p) p else fWr (fHab M p (N 3)) 7 p) := by unfold fShow; rw [h]
theorem kI.show {N T c : NN} {n p B : Nat} {q : Nat × NN} (h : kI N n B) (hn : n ≤ 10) (hp : p < n) (hq : fShow N T c n p = some q) : kI q.2 n B := by
  cases hm : fMem (fLay N T p) T n with
  | none => rw [fShow_n2 hm] at hq; cases hq
  | some kM =>
    obtain ⟨m, M⟩ := kM
    rw [fShow_s2 hm] at hq
    cases hq
    have hok := fMem_ok hn (h.1.lay hn hp) hm
    have hin := fMem_inv hn (h.2.1.lay h.1 hn h.2.2.2 (by omega)) (h.2.2.1.lay h.1 hn h.2.2.2 (by omega)) (wX.lay h.1 hn h.2.2.2 (by omega)) hm
    have h1 : kI (fWr (fHab M p (N 3)) 7 p) n B := (kI.hab hok.2.1 hin.1 hin.2.1 hin.2.2.1 hn (by omega) h.1.2.1).wr
    show kI (if T (8 * p + 6) < fWait N T c p then fComp (fWr (fHab M p (N 3)) 7 p) p else fWr (fHab M p (N 3)) 7 p) n B
    split
    · exact h1.comp (by omega)
    · exact h1

def rm_X4_bringUp : Room := { frames := 4, cells := 0, slots := 0, locals := 124 }
set_option maxHeartbeats 4000000 in
set_option maxRecDepth 100000 in
theorem c_X4_bringUp {l : Launch} {G : mG} {ad : mA} {S : mS} {L : mL} {R : mR} {N T c : NN} {n v d p B : Nat} (hR : mlk R) (hv : v < 15) (hd : d < 3) (hd1 : R 25 v 1 = some (3, d)) (hd2 : R 12 v 0 = some (3, d)) (hAT : AT S d T n) (hn10 : n ≤ 10) (hK : kI N n B) (hB : AB S v N n) (hC : AC S d c) (hB31 : B < 2147480000) (hp : p < n) : Ki l yX4_bringUp cX4_bringUp 4 .boolean rm_X4_bringUp G ad mdm [.ref (ad 25 v), .int (nI p)] S L R (fun r_ S2 L2 R2 => (if fo N p 0 = nI 1 then r_ = nI 1 ∧ AB S2 v N n else match fShow N T c n p with | some q => r_ = nI 1 ∧ AB S2 v q.2 n | none => r_ = nI 0) ∧ FV S S2 v ∧ L = L2 ∧ FR R R2) := by
  refine Ki.of RX4 (by decide) rfl (Nat.le_of_ble_eq_true rfl) ?_
  intro X hXl hXG C ret
  subst hXl; subst hXG
  change Z X 4 ad mdm S L R 0 0 0 [(0, _), (1, _)] []
  have hp10 : p < 10 := by omega
  have hdp : 10 * d + p < 30 := by omega
  have hI := hK.1
  have hW := hK.2.2.2
  obtain ⟨t, htB, ht, -, -⟩ := hK.2.2.1.1
  have hst0 := hI.2.2.2.1 p hp10
  refine z_iload_n C 0 1 1 dX4_bringUp_0 rfl rfl ?_
  refine z_aload_n C 1 0 0 dX4_bringUp_1 rfl rfl ?_
  refine z_getiv C 2 dX4_bringUp_2 gf_X4_75 rfl (by first | assumption | exact Nat.zero_lt_one | exact (show (15 : Nat) < 16 by decide) | exact Nat.lt_succ_of_lt (by assumption) | omega) hB.2.2.2.2.2.2.1 ?_
  first | with_reducible refine z_icmp_neN C 5 10 dX4_bringUp_5 (by decide) (by omega) (by omega) (fun h5 => ?_) (fun h5 => ?_) | refine z_icmp_ne C 5 10 dX4_bringUp_5 (by decide) (fun h5 => ?_) (fun h5 => ?_)
  · have hns : ¬ fo N p 0 = nI 1 := fun z => h5 (hst0.mp z).symm
    refine z_aload_n C 10 0 0 dX4_bringUp_10 rfl rfl ?_
    refine z_iload_n C 11 1 1 dX4_bringUp_11 rfl rfl ?_
    refine z_cVi0 C 12 dX4_bringUp_12 cv_X4_186 (c_X4_waitFor (N := N) (T := T) (c := c) (n := n) (d := d) hR hv hd hd1 hd2 hAT hn10 hI hB hC hp10) rfl ⟨by decide, rfl⟩ (by first | assumption | exact Nat.zero_lt_one | exact (show (15 : Nat) < 16 by decide) | exact Nat.lt_succ_of_lt (by assumption) | omega) rfl rfl (Nat.le_of_ble_eq_true rfl) ⟨by decide, by decide⟩ ⟨rfl, rfl⟩ ⟨by decide, by decide⟩ ?_
    intro r12 S12 L12 R12 p12
    obtain ⟨rfl, rfl, rfl, rfl⟩ := p12
    refine z_istore_n C 15 2 [(2, _), (0, _), (1, _)] dX4_bringUp_15 rfl (by decide) rfl ?_
    refine z_aload_n C 16 0 1 dX4_bringUp_16 rfl rfl ?_
    refine z_getr C 17 dX4_bringUp_17 gf_X4_12 rfl (by first | assumption | exact Nat.zero_lt_one | exact (show (15 : Nat) < 16 by decide) | exact Nat.lt_succ_of_lt (by assumption) | omega) (by first | exact hR _ _ _ _ rfl | exact hR2 _ _ _ _ rfl | assumption) ?_
    refine z_getiv C 20 dX4_bringUp_20 gf_X4_189 rfl (by first | assumption | exact Nat.zero_lt_one | exact (show (15 : Nat) < 16 by decide) | exact Nat.lt_succ_of_lt (by assumption) | omega) hB.2.1.2.1 ?_
    refine z_istore_n C 23 3 [(3, _), (2, _), (0, _), (1, _)] dX4_bringUp_23 rfl (by decide) rfl ?_
    refine z_aload_n C 24 0 2 dX4_bringUp_24 rfl rfl ?_
    refine z_cVv0 C 25 dX4_bringUp_25 cv_X4_192 (c_X4_letShownRest (N := N) (n := n) hR hv hI hB hn10 hW ht (by omega)) rfl ⟨by decide, rfl⟩ (by first | assumption | exact Nat.zero_lt_one | exact (show (15 : Nat) < 16 by decide) | exact Nat.lt_succ_of_lt (by assumption) | omega) rfl rfl (Nat.le_of_ble_eq_true rfl) ⟨by decide, by decide⟩ ⟨rfl, rfl⟩ ⟨by decide, by decide⟩ ?_
    intro S25 L25 R25 p25
    obtain ⟨hB9, hF9, rfl, rfl⟩ := p25
    refine z_aload_n C 28 0 2 dX4_bringUp_28 rfl rfl ?_
    refine z_iload_n C 29 1 3 dX4_bringUp_29 rfl rfl ?_
    refine z_puti C 30 dX4_bringUp_30 gf_X4_75 ⟨rfl, rfl⟩ rfl (by first | assumption | exact Nat.zero_lt_one | exact (show (15 : Nat) < 16 by decide) | exact Nat.lt_succ_of_lt (by assumption) | omega) ?_
    refine z_aload_n C 33 0 2 dX4_bringUp_33 rfl rfl ?_
    refine z_getr C 34 dX4_bringUp_34 gf_X4_12 rfl (by first | assumption | exact Nat.zero_lt_one | exact (show (15 : Nat) < 16 by decide) | exact Nat.lt_succ_of_lt (by assumption) | omega) (by first | exact hR _ _ _ _ rfl | exact hR2 _ _ _ _ rfl | assumption) ?_
    refine z_iload_n C 37 1 3 dX4_bringUp_37 rfl rfl ?_
    refine z_puti C 38 dX4_bringUp_38 gf_X4_189 ⟨rfl, rfl⟩ rfl (by first | assumption | exact Nat.zero_lt_one | exact (show (15 : Nat) < 16 by decide) | exact Nat.lt_succ_of_lt (by assumption) | omega) ?_
    refine z_aload_n C 41 0 2 dX4_bringUp_41 rfl rfl ?_
    refine z_getr C 42 dX4_bringUp_42 gf_X4_50 rfl (by first | assumption | exact Nat.zero_lt_one | exact (show (15 : Nat) < 16 by decide) | exact Nat.lt_succ_of_lt (by assumption) | omega) (by first | exact hR _ _ _ _ rfl | exact hR2 _ _ _ _ rfl | assumption) ?_
    refine z_iload_n C 45 1 3 dX4_bringUp_45 rfl rfl ?_
    refine z_cVv0 C 46 dX4_bringUp_46 cv_X4_195 (c_X6_bringUp (r := v) (d := d) hR (by omega) hd hd2 hp10) rfl ⟨by decide, rfl⟩ (by first | assumption | exact Nat.zero_lt_one | exact (show (15 : Nat) < 16 by decide) | exact Nat.lt_succ_of_lt (by assumption) | omega) rfl rfl (Nat.le_of_ble_eq_true rfl) ⟨by decide, by decide⟩ ⟨rfl, rfl⟩ ⟨by decide, by decide⟩ ?_
    intro S46 L46 R46 p46
    obtain ⟨rfl, rfl, rfl⟩ := p46
    refine z_mem (bUp S25 v d p) rfl ?_
    have hFB : FP S (bUp S25 v d p) v := hF9.tr (fun k i hn => bUp_k (by omega))
    have hBL : AB (bUp S25 v d p) v (fLay N T p) n := hB9.bring hp10 (hAT.fv hF9.fv) (fun j hj => (fLay_j N T hp10 hj).trans (fHome_j hI hn10 (by omega)).symm) (fLay_2 N T p) (fLay_3 N T p) (fun r w hr hw => by rw [fHome_fo hI hn10, fHome_fo hI hn10]; exact fLay_r hI hn10 hW hp10 hw)
    refine z_aload_n C 49 0 2 dX4_bringUp_49 rfl rfl ?_
    refine z_cVi0 C 50 dX4_bringUp_50 cv_X4_198 (c_X4_makeMemory (N := fLay N T p) (T := T) (n := n) (d := d) (B := B) hR hv hd hd1 hd2 (hAT.fv hFB.fv) hn10 (hI.lay hn10 hp) hBL (hK.2.1.lay hI hn10 hW hp10) (hK.2.2.1.lay hI hn10 hW hp10) hB31) rfl ⟨by decide, rfl⟩ (by first | assumption | exact Nat.zero_lt_one | exact (show (15 : Nat) < 16 by decide) | exact Nat.lt_succ_of_lt (by assumption) | omega) rfl rfl (Nat.le_of_ble_eq_true rfl) ⟨by decide, by decide⟩ ⟨rfl, rfl⟩ ⟨by decide, by decide⟩ ?_
    intro r50 S50 L50 R50 p50
    obtain ⟨hmm, hFV, rfl, hFR⟩ := p50
    have hor : (r50 = nI 0 ∧ fMem (fLay N T p) T n = none) ∨ (r50 = nI 1 ∧ ∃ m M, fMem (fLay N T p) T n = some (m, M) ∧ AB S50 v M n ∧ S50 18 v = bUp S25 v d p 18 v) := by
      cases hq : fMem (fLay N T p) T n with
      | none => rw [hq] at hmm; exact Or.inl ⟨hmm.1, rfl⟩
      | some q => rw [hq] at hmm; exact Or.inr ⟨hmm.1, q.1, q.2, rfl, hmm.2.1, hmm.2.2⟩
    have hR2 := hFR.1
    have hd12 : R50 25 v 1 = some (3, d) := (hFR.2 25 v 1 (by omega)).trans hd1
    first | with_reducible refine z_if_neB C 53 58 dX4_bringUp_53 (by decide) (fun h53 => ?_) (fun h53 => ?_) | with_reducible refine z_if_neN C 53 58 dX4_bringUp_53 (by decide) (by omega) (fun h53 => ?_) (fun h53 => ?_) | refine z_if_ne C 53 58 dX4_bringUp_53 (by decide) (fun h53 => ?_) (fun h53 => ?_)
    · obtain ⟨-, m, M, hfm, hBM, hU⟩ := hor.resolve_left (fun z => h53 z.1)
      have hok := fMem_ok hn10 (hI.lay hn10 hp) hfm
      have hin := fMem_inv hn10 (hK.2.1.lay hI hn10 hW hp10) (hK.2.2.1.lay hI hn10 hW hp10) (wX.lay hI hn10 hW hp10) hfm
      have hst : fo M p 0 = nI 1 := (hok.2.1.2.2.2.1 p hp10).mpr ((hok.2.2 2 (by omega)).trans (fLay_2 N T p))
      obtain ⟨g, hg4, hg⟩ := hok.2.1.2.2.2.2.1 p hp10
      have e89 : ∀ w, 8 ≤ w → w ≤ 9 → fo M p w = fo (fHome N) p w := fun w h8 h9 => by
        rw [fHome_fo hI hn10, hin.2.2.2 p w hp10 (by omega) (by omega) (by omega) (by omega) (by omega) (by omega), fLay_r hI hn10 hW hp10 (by omega), if_neg (by omega), if_neg (by omega)]
      have e18 : S50 18 v p = S25 18 v p := by rw [hU, bUp_k (by omega)]
      have hsu : (fo M p 9 = nI 1 ∧ S50 18 v p = fo M p 8 ∧ ∃ s, s < 2 ^ 31 ∧ fo M p 8 = nI s) ∨ (S50 18 v p = -1 ∧ fo M p 9 = nI 0) := by
        rw [e89 8 (by omega) (by omega), e89 9 (by omega) (by omega), e18]
        rcases hB9.2.2.1 p hp10 with z | ⟨z1, z2⟩
        · exact Or.inl z
        · refine Or.inr ⟨z1, (z2.resolve_left (fun y => ?_)).2⟩
          rw [fHome_fo hI hn10, fRests_fo hI hn10 hp10 (by omega) (by omega) (by omega), if_neg (fun x => hns (hst0.mpr x.2))] at y
          exact hns y
      refine z_aload_n C 58 0 2 dX4_bringUp_58 rfl rfl ?_
      refine z_getr C 59 dX4_bringUp_59 gf_X4_12 rfl (by first | assumption | exact Nat.zero_lt_one | exact (show (15 : Nat) < 16 by decide) | exact Nat.lt_succ_of_lt (by assumption) | omega) (by first | exact hR _ _ _ _ rfl | exact hR2 _ _ _ _ rfl | assumption) ?_
      refine z_iload_n C 62 1 3 dX4_bringUp_62 rfl rfl ?_
      refine z_iload_n C 63 3 0 dX4_bringUp_63 rfl rfl ?_
      refine z_aload_n C 64 0 2 dX4_bringUp_64 rfl rfl ?_
      refine z_getiv C 65 dX4_bringUp_65 gf_X4_65 rfl (by first | assumption | exact Nat.zero_lt_one | exact (show (15 : Nat) < 16 by decide) | exact Nat.lt_succ_of_lt (by assumption) | omega) hBM.2.2.2.2.1 ?_
      refine z_cVv0 C 68 dX4_bringUp_68 cv_X4_201 (c_X1_countShowing (N := M) (n := n) (g := g) hR2 hv hBM hn10 hp10 hg hg4 hst hsu hI.2.1) rfl ⟨by decide, rfl⟩ (by first | assumption | exact Nat.zero_lt_one | exact (show (15 : Nat) < 16 by decide) | exact Nat.lt_succ_of_lt (by assumption) | omega) rfl rfl (Nat.le_of_ble_eq_true rfl) ⟨by decide, by decide⟩ ⟨rfl, rfl⟩ ⟨by decide, by decide⟩ ?_
      intro S68 L68 R68 p68
      obtain ⟨hB68, hF68, rfl, rfl⟩ := p68
      refine z_aload_n C 71 0 2 dX4_bringUp_71 rfl rfl ?_
      refine z_getr C 72 dX4_bringUp_72 gf_X4_21 rfl (by first | assumption | exact Nat.zero_lt_one | exact (show (15 : Nat) < 16 by decide) | exact Nat.lt_succ_of_lt (by assumption) | omega) (by first | exact hR _ _ _ _ rfl | exact hR2 _ _ _ _ rfl | assumption) ?_
      refine z_bipush (v := nI 7) C 75 dX4_bringUp_75 (by decide +kernel) ?_
      refine z_iload_n C 77 1 3 dX4_bringUp_77 rfl rfl ?_
      refine z_aload_n C 78 0 2 dX4_bringUp_78 rfl rfl ?_
      refine z_getiv C 79 dX4_bringUp_79 gf_X4_65 rfl (by first | assumption | exact Nat.zero_lt_one | exact (show (15 : Nat) < 16 by decide) | exact Nat.lt_succ_of_lt (by assumption) | omega) hB68.2.2.2.2.1 ?_
      refine z_cVv0 C 82 dX4_bringUp_82 cv_X4_160 (c_X3_add (N := fHab M p (N 3)) hR2 hv hB68.2.2.2.1 (by omega)) rfl ⟨by decide, rfl⟩ (by first | assumption | exact Nat.zero_lt_one | exact (show (15 : Nat) < 16 by decide) | exact Nat.lt_succ_of_lt (by assumption) | omega) rfl rfl (Nat.le_of_ble_eq_true rfl) ⟨by decide, by decide⟩ ⟨rfl, rfl⟩ ⟨by decide, by decide⟩ ?_
      intro S82 L82 R82 p82
      obtain ⟨hJ2, hF2, rfl, rfl⟩ := p82
      have hB82 := hB68.wr (k := 7) (p := p) (by omega) hJ2 hF2
      have hFV82 : FV S S82 v := (((hFB.fv).tr hFV).tr hF68.fv).tr hB82.2.fv
      have hAT82 := hAT.fv hFV82
      refine z_iload_n C 85 2 1 dX4_bringUp_85 rfl rfl ?_
      refine z_aload_n C 86 0 2 dX4_bringUp_86 rfl rfl ?_
      refine z_getr C 87 dX4_bringUp_87 gf_X4_57 rfl (by first | assumption | exact Nat.zero_lt_one | exact (show (15 : Nat) < 16 by decide) | exact Nat.lt_succ_of_lt (by assumption) | omega) (by first | exact hR _ _ _ _ rfl | exact hR2 _ _ _ _ rfl | assumption) ?_
      refine z_getr C 90 dX4_bringUp_90 gf_X4_164 rfl (by first | assumption | exact Nat.zero_lt_one | exact (show (15 : Nat) < 16 by decide) | exact Nat.lt_succ_of_lt (by assumption) | omega) (by first | exact hR _ _ _ _ rfl | exact hR2 _ _ _ _ rfl | assumption) ?_
      refine z_iload_n C 93 1 3 dX4_bringUp_93 rfl rfl ?_
      refine z_aald4 C 94 dX4_bringUp_94 rfl (by first | assumption | exact Nat.zero_lt_one | exact (show (15 : Nat) < 16 by decide) | exact Nat.lt_succ_of_lt (by assumption) | omega) (by first | rfl | assumption) (by decide) (by first | assumption | omega) (by first | exact hR _ _ _ _ rfl | exact hR2 _ _ _ _ rfl | assumption) ?_
      refine z_bipush (v := nI 6) C 95 dX4_bringUp_95 (by decide +kernel) ?_
      refine z_iald C 97 dX4_bringUp_97 (by first | rfl | assumption) (by first | assumption | exact Nat.zero_lt_one | exact (show (15 : Nat) < 16 by decide) | exact Nat.lt_succ_of_lt (by assumption) | omega) (by first | rfl | assumption) (by first | decide | omega) (by first | assumption | omega) ?_
      rw [hAT82.2 p 6 hp10 (by decide)]
      first | with_reducible refine z_icmp_leN C 98 106 dX4_bringUp_98 (by decide) (by omega) (by omega) (fun h98 => ?_) (fun h98 => ?_) | refine z_icmp_le C 98 106 dX4_bringUp_98 (by decide) (fun h98 => ?_) (fun h98 => ?_)
      · refine z_iconst (v := nI 1) C 106 dX4_bringUp_106 (by decide) ?_
        exact ret 107 _ _ _ _ _ dX4_bringUp_107 (by first | rfl | exact bI_n | decide) ((by rw [if_neg hns, fShow_s2 hfm]; first | (rw [if_neg (Int32.not_lt.mpr h98)]; exact ⟨⟨rfl, hB82.1⟩, hFV82, rfl, hFR⟩) | (rw [if_pos (Int32.not_le.mp h98)]; exact ⟨⟨rfl, hB103⟩, hFV82.tr hF103.fv, rfl, hFR⟩)))
      · refine z_aload_n C 101 0 2 dX4_bringUp_101 rfl rfl ?_
        refine z_iload_n C 102 1 3 dX4_bringUp_102 rfl rfl ?_
        refine z_cVv0 C 103 dX4_bringUp_103 cv_X4_204 (c_X4_complain (N := fWr (fHab M p (N 3)) 7 p) (n := n) hR2 hv hB82.1 hp10) rfl ⟨by decide, rfl⟩ (by first | assumption | exact Nat.zero_lt_one | exact (show (15 : Nat) < 16 by decide) | exact Nat.lt_succ_of_lt (by assumption) | omega) rfl rfl (Nat.le_of_ble_eq_true rfl) ⟨by decide, by decide⟩ ⟨rfl, rfl⟩ ⟨by decide, by decide⟩ ?_
        intro S103 L103 R103 p103
        obtain ⟨hB103, hF103, rfl, rfl⟩ := p103
        refine z_iconst (v := nI 1) C 106 dX4_bringUp_106 (by decide) ?_
        exact ret 107 _ _ _ _ _ dX4_bringUp_107 (by first | rfl | exact bI_n | decide) ((by rw [if_neg hns, fShow_s2 hfm]; first | (rw [if_neg (Int32.not_lt.mpr h98)]; exact ⟨⟨rfl, hB82.1⟩, hFV82, rfl, hFR⟩) | (rw [if_pos (Int32.not_le.mp h98)]; exact ⟨⟨rfl, hB103⟩, hFV82.tr hF103.fv, rfl, hFR⟩)))
    · have hno := (hor.resolve_right (fun z => by rw [z.1] at h53; exact absurd h53 (by decide))).2
      refine z_iconst (v := nI 0) C 56 dX4_bringUp_56 (by decide) ?_
      exact ret 57 _ _ _ _ _ dX4_bringUp_57 (by first | rfl | exact bI_n | decide) (⟨(by rw [if_neg hns, fShow_n2 hno]), (hFB.fv).tr hFV, rfl, hFR⟩)
  · refine z_iconst (v := nI 1) C 8 dX4_bringUp_8 (by decide) ?_
    exact ret 9 _ _ _ _ _ dX4_bringUp_9 (by first | rfl | exact bI_n | decide) (⟨(by rw [if_pos (hst0.mpr h5.symm)]; exact ⟨rfl, hB⟩), FV.rf _ _, rfl, FR.rf hR⟩)
