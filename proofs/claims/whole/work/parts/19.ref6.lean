theorem fo_upd_lo (N : NN) {j r w : Nat} {v : Int32} (h : j < 6) : fo (upd N j v) r w = fo N r w := upd_n N (by omega)
theorem fo_upd_hi (N : NN) {j r w : Nat} {v : Int32} (h : 206 ≤ j) (hr : r < 10) (hw : w < 20) : fo (upd N j v) r w = fo N r w := upd_n N (by omega)
theorem rI.updx {N : NN} {n j : Nat} {v : Int32} (h : rI N n) (hj : j = 0 ∨ j = 1 ∨ j = 4 ∨ 206 ≤ j) : rI (upd N j v) n := by
  obtain ⟨a1, a2, a3, a4, a5, a6, a7, a8, a9⟩ := h
  have e : ∀ r w, r < 10 → w < 20 → fo (upd N j v) r w = fo N r w := fun r w hr hw => upd_n N (by omega)
  refine ⟨by rw [upd_n _ (by omega)]; exact a1, by rw [upd_n _ (by omega)]; exact a2, fun q hq => by rw [e q 0 hq (by omega)]; exact a3 q hq, fun q hq => by rw [e q 0 hq (by omega), upd_n _ (by omega)]; exact a4 q hq, fun q hq => by rw [e q 10 hq (by omega)]; exact a5 q hq, fun q hq => by rw [e q 15 hq (by omega)]; exact a6 q hq, fun q hq => by rw [e q 6 hq (by omega)]; exact a7 q hq, fun q hq => by rw [e q 9 hq (by omega)]; exact a8 q hq, by rw [upd_n _ (by omega)]; exact a9⟩
theorem fo_rest (N : NN) {q r w : Nat} (hw : w < 20) : fo (fRest N q) r w = if r = q ∧ w = 0 then nI 2 else if r = q ∧ (w = 7 ∨ w = 8) then N 1 else fo N r w := by
  unfold fRest
  rw [fo_set _ (by omega) hw, fo_set _ (by omega) hw, fo_set _ (by omega) hw]
  by_cases h1 : r = q ∧ w = 0
  · rw [if_neg (by omega), if_neg (by omega), if_pos h1, if_pos h1]
  · rw [if_neg h1]
    by_cases h2 : r = q ∧ w = 8
    · rw [if_pos h2, if_neg h1, if_pos (by omega)]
    · rw [if_neg h2]
      by_cases h3 : r = q ∧ w = 7
      · rw [if_pos h3, if_neg h1, if_pos (by omega)]
      · rw [if_neg h3, if_neg h1, if_neg (by omega)]
theorem fRests_fo {N : NN} {n r w : Nat} (h : rI N n) (hn : n ≤ 10) (hr : r < 10) (hw : w < 20) (h7 : w ≠ 7) (h8 : w ≠ 8) : fo (fRests N) r w = if w = 0 ∧ N 2 = nI r then nI 2 else fo N r w := by
  rcases h.1 with e | ⟨q, hq, e⟩
  · rw [fRests_n e, if_neg (fun z => nI_m1 (show r < 2 ^ 31 by omega) (z.2.symm.trans e))]
  · rw [fRests_s (by omega) e, fo_rest _ hw, e]
    by_cases h1 : r = q ∧ w = 0
    · rw [if_pos h1, if_pos ⟨h1.2, by rw [h1.1]⟩]
    · rw [if_neg h1, if_neg (by omega), if_neg (fun z => h1 ⟨((nI_eq (by omega) (by omega)).mp z.2).symm, z.1⟩)]
theorem fRests_lo {N : NN} {j : Nat} (h : j < 6) : fRests N j = N j := by
  unfold fRests
  split
  · rfl
  · unfold fRest
    rw [fset_lo _ h, fset_lo _ h, fset_lo _ h]
theorem fLay_2 (N T : NN) (p : Nat) : fLay N T p 2 = nI p := by
  unfold fLay
  try simp only
  rw [upd_n _ (by omega), upd_s]
theorem fLay_3 (N T : NN) (p : Nat) : fLay N T p 3 = nI p := by
  unfold fLay
  try simp only
  rw [upd_s]
theorem fLay_lo (N T : NN) {p j : Nat} (h : j < 6) (h2 : j ≠ 2) (h3 : j ≠ 3) : fLay N T p j = N j := by
  unfold fLay
  try simp only
  rw [upd_n _ h3, upd_n _ h2, fset_lo _ h]
  split
  · rw [fset_lo _ h, fset_lo _ h, fset_lo _ h, fRests_lo h]
  · rw [fRests_lo h]
theorem fLay_fo (N T : NN) {p r w : Nat} (hw : w < 20) (h1 : w ≠ 1) (h2 : w ≠ 2) (h3 : w ≠ 3) : fo (fLay N T p) r w = if r = p ∧ w = 0 then nI 1 else fo (fRests N) r w := by
  unfold fLay
  try simp only
  rw [fo_upd_lo _ (by omega), fo_upd_lo _ (by omega), fo_set _ (by omega) hw]
  by_cases h : r = p ∧ w = 0
  · rw [if_pos h, if_pos h]
  · rw [if_neg h, if_neg h]
    split
    · rw [fo_set_w _ h3 (by omega) hw, fo_set_w _ h2 (by omega) hw, fo_set_w _ h1 (by omega) hw]
    · rfl
theorem rI.lay {N T : NN} {n p : Nat} (h : rI N n) (hn : n ≤ 10) (hp : p < n) : rI (fLay N T p) n := by
  have hh := h
  obtain ⟨a1, a2, a3, a4, a5, a6, a7, a8, a9⟩ := h
  have e : ∀ r w, r < 10 → w < 20 → w ≠ 0 → w ≠ 1 → w ≠ 2 → w ≠ 3 → w ≠ 7 → w ≠ 8 → fo (fLay N T p) r w = fo N r w := fun r w hr hw h0 h1 h2 h3 h7 h8 => by
    rw [fLay_fo _ _ hw h1 h2 h3, if_neg (by omega), fRests_fo hh hn hr hw h7 h8, if_neg (by omega)]
  have e0 : ∀ r, r < 10 → fo (fLay N T p) r 0 = if r = p then nI 1 else if N 2 = nI r then nI 2 else fo N r 0 := fun r hr => by
    rw [fLay_fo _ _ (by omega) (by omega) (by omega) (by omega), fRests_fo hh hn hr (by omega) (by omega) (by omega)]
    by_cases h : r = p
    · rw [if_pos ⟨h, rfl⟩, if_pos h]
    · rw [if_neg (fun z => h z.1), if_neg h]
      by_cases h2 : N 2 = nI r
      · rw [if_pos ⟨rfl, h2⟩, if_pos h2]
      · rw [if_neg (fun z => h2 z.2), if_neg h2]
  refine ⟨Or.inr ⟨p, hp, fLay_2 N T p⟩, Or.inr ⟨p, hp, fLay_3 N T p⟩, fun q hq => ?_, fun q hq => ?_, fun q hq => by rw [e q 10 hq (by omega) (by omega) (by omega) (by omega) (by omega) (by omega) (by omega)]; exact a5 q hq, fun q hq => by rw [e q 15 hq (by omega) (by omega) (by omega) (by omega) (by omega) (by omega) (by omega)]; exact a6 q hq, fun q hq => by rw [e q 6 hq (by omega) (by omega) (by omega) (by omega) (by omega) (by omega) (by omega)]; exact a7 q hq, fun q hq => by rw [e q 9 hq (by omega) (by omega) (by omega) (by omega) (by omega) (by omega) (by omega)]; exact a8 q hq, by rw [fLay_lo _ _ (by omega) (by omega) (by omega)]; exact a9⟩
  · rw [e0 q hq]
    split
    · exact ⟨1, by omega, rfl⟩
    · split
      · exact ⟨2, by omega, rfl⟩
      · exact a3 q hq
  · rw [e0 q hq, fLay_2]
    by_cases h : q = p
    · rw [if_pos h, h]; simp
    · rw [if_neg h]
      have h1 : ¬ nI p = nI q := fun z => h ((nI_eq (by omega) (by omega)).mp z).symm
      by_cases h2 : N 2 = nI q
      · rw [if_pos h2]
        exact ⟨fun z => absurd z (by decide), fun z => absurd z h1⟩
      · rw [if_neg h2]
        exact ⟨fun z => absurd ((a4 q hq).mp z) h2, fun z => absurd z h1⟩
theorem rI.gap {N : NN} {n p : Nat} (h : rI N n) (hp : p < 10) : rI (fGap N p) n := by
  obtain ⟨g, hg4, hg⟩ := h.2.2.2.2.1 p hp
  by_cases h9 : fo N p 9 = nI 1
  · by_cases h4 : fo N p 10 = nI 4
    · have e3 : ∃ g, g ≤ 4 ∧ nI 3 = nI g := ⟨3, by omega, rfl⟩
      have h3 : rI (fset (gS N p 3) p 10 (nI 3)) n := by
        refine rI.set ?_ (by omega) (fun z => by omega) (fun _ => e3) (fun z => by omega) (fun z => by omega) (fun z => by omega)
        refine rI.set (rI.set (rI.set h ?_ ?_ ?_ ?_ ?_ ?_) ?_ ?_ ?_ ?_ ?_ ?_) ?_ ?_ ?_ ?_ ?_ ?_
        all_goals first | decide | (intro z; exact absurd z (by decide))
      rw [← fGap_c h9 h4]
      refine rI.set (rI.set h3 (by omega) (fun z => by omega) (fun z => by omega) (fun z => by omega) (fun z => by omega) (fun z => by omega)) (by omega) (fun z => by omega) (fun _ => ⟨4, by omega, ?_⟩) (fun z => by omega) (fun z => by omega) (fun z => by omega)
      rw [fo_set_w _ (show 10 ≠ 11 + 3 by omega) (by omega) (by omega), fo_set_s]
      rfl
    · have hg3 : g ≤ 3 := by
        rcases (show g ≤ 3 ∨ g = 4 by omega) with e | e
        · exact e
        · rw [e] at hg; exact absurd hg h4
      rw [← fGap_b h9 h4 hg hg3]
      refine rI.set (rI.set h (by omega) (fun z => by omega) (fun z => by omega) (fun z => by omega) (fun z => by omega) (fun z => by omega)) (by omega) (fun z => by omega) (fun _ => ⟨g + 1, by omega, ?_⟩) (fun z => by omega) (fun z => by omega) (fun z => by omega)
      rw [fo_set_w _ (show 10 ≠ 11 + g by omega) (by omega) (by omega), hg, nI_add]
  · rw [show fGap N p = N from if_neg h9]
    exact h
theorem rI.hab {N : NN} {n p : Nat} {b : Int32} (h : rI N n) (hp : p < 10) : rI (fHab N p b) n := by
  have h1 : rI (fset (fGap N p) p 9 (nI 1)) n := rI.set (h.gap hp) (by omega) (fun z => by omega) (fun z => by omega) (fun z => by omega) (fun z => by omega) (fun _ => Or.inr rfl)
  unfold fHab
  simp only
  split
  · exact h1.updx (Or.inr (Or.inr (Or.inr (by omega))))
  · exact h1
theorem rI.comp {N : NN} {n p : Nat} (h : rI N n) : rI (fComp N p) n := by
  unfold fComp
  refine rI.wr (rI.set (rI.set h ?_ ?_ ?_ ?_ ?_ ?_) ?_ ?_ ?_ ?_ ?_ ?_)
  all_goals first | omega | (intro z; omega)
noncomputable def fShowR (N T c : NN) (n p : Nat) : Int32 × Int32 × NN :=
  if fo N p 0 = nI 1 then (nI 0, nI 0, N) else match fShow N T c n p with
    | none => (-1, -1, N)
    | some q => (fWait N T c p, nI q.1, q.2)
theorem fShow_n {N T c : NN} {n p : Nat} (h : fMem (fLay N T p) T n = none) : fShow N T c n p = none := by unfold fShow; rw [h]
theorem fShow_s {N T c : NN} {n p : Nat} {q : Nat × NN} (h : fMem (fLay N T p) T n = some q) : fShow N T c n p = some (q.1, if T (8 * p + 6) < fWait N T c p then fComp (fWr (fHab q.2 p (N 3)) 7 p) p else fWr (fHab q.2 p (N 3)) 7 p) := by unfold fShow; rw [h]
theorem fShowR_0 {N T c : NN} {n p : Nat} (h : fo N p 0 = nI 1) : fShowR N T c n p = (nI 0, nI 0, N) := if_pos h
theorem fShowR_n {N T c : NN} {n p : Nat} (h0 : ¬ fo N p 0 = nI 1) (h : fMem (fLay N T p) T n = none) : fShowR N T c n p = (-1, -1, N) := by unfold fShowR; rw [if_neg h0, fShow_n h]
theorem fShowR_s {N T c : NN} {n p : Nat} {q : Nat × NN} (h0 : ¬ fo N p 0 = nI 1) (h : fMem (fLay N T p) T n = some q) : fShowR N T c n p = (fWait N T c p, nI q.1, if T (8 * p + 6) < fWait N T c p then fComp (fWr (fHab q.2 p (N 3)) 7 p) p else fWr (fHab q.2 p (N 3)) 7 p) := by unfold fShowR; rw [if_neg h0, fShow_s h]
theorem fMem_ok {N T : NN} {n : Nat} (hn : n ≤ 10) {q : Nat × NN} (hI : rI N n) (h : fMem N T n = some q) : q.1 ≤ 60 ∧ rI q.2 n ∧ (∀ j, j < 5 → q.2 j = N j) := fMemF_ok hn 60 hI h
theorem rI.showR {N T c : NN} {n p : Nat} (h : rI N n) (hn : n ≤ 10) (hp : p < n) : rI (fShowR N T c n p).2.2 n := by
  by_cases h0 : fo N p 0 = nI 1
  · rw [fShowR_0 h0]; exact h
  · cases hm : fMem (fLay N T p) T n with
    | none => rw [fShowR_n h0 hm]; exact h
    | some q =>
      rw [fShowR_s h0 hm]
      have h1 := (fMem_ok hn (h.lay hn hp) hm).2.1
      simp only
      split
      · exact ((h1.hab (by omega)).wr).comp
      · exact (h1.hab (by omega)).wr
theorem rI.gets {N T : NN} {n p : Nat} {more : Int32} (h : rI N n) (hn : n ≤ 10) : rI (fGets N T n p more).2 n := by
  by_cases hp : 0 < (if more < T (8 * p + 3) - fo N p 1 then more else T (8 * p + 3) - fo N p 1)
  · cases hm : fMem (fset N p 1 (fo N p 1 + (if more < T (8 * p + 3) - fo N p 1 then more else T (8 * p + 3) - fo N p 1))) T n with
    | none => rw [fGets_n rfl hp hm]; exact h.wr
    | some q =>
      rw [fGets_s rfl hp hm]
      exact (fMem_ok hn (rI.set h (by omega) (fun z => by omega) (fun z => by omega) (fun z => by omega) (fun z => by omega) (fun z => by omega)) hm).2.1
  · rw [fGets_0 rfl hp]; exact h
theorem sA_49_id (S : mS) (N : NN) (h : S 44 0 = N) : sA (sA S 49 (S 49 0)) 44 N = S := by rw [sA_id, ← h, sA_id]

def rm_X9_shows : Room := { frames := 7, cells := 0, slots := 0, locals := 158 }
set_option maxHeartbeats 4000000 in
set_option maxRecDepth 100000 in
theorem c_X9_shows {l : Launch} {G : mG} {ad : mA} {S : mS} {L : mL} {R : mR} {n p : Nat} (hR : mlk R) (hn : S 40 0 1 = nI n) (hn10 : n ≤ 10) (hI : rI (S 44 0) n) (hp : p < n) : Ki l yX9_shows cX9_shows 4 .int rm_X9_shows G ad mdm [.ref (ad 40 0), .int (nI p)] S L R (fun r_ S2 L2 R2 => r_ = (fShowR (S 44 0) (S 41 0) (S 43 0) n p).1 ∧ (∃ K, sA (sA (up3 S 40 0 26 (fShowR (S 44 0) (S 41 0) (S 43 0) n p).2.1) 49 K) 44 (fShowR (S 44 0) (S 41 0) (S 43 0) n p).2.2 = S2) ∧ L = L2 ∧ R = R2) := by
  refine Ki.of RX9 (by decide) rfl (Nat.le_of_ble_eq_true rfl) ?_
  intro X hXl hXG C ret
  subst hXl; subst hXG
  change Z X 4 ad mdm S L R 0 0 0 [(0, _), (1, _)] []
  refine z_aload_n C 0 0 0 dX9_shows_0 rfl rfl ?_
  refine z_iconst (v := nI 0) C 1 dX9_shows_1 (by decide) ?_
  refine z_puti C 2 dX9_shows_2 gf_X9_263 ⟨rfl, rfl⟩ rfl (by first | assumption | exact Nat.zero_lt_one | omega) ?_
  refine z_aload_n C 5 0 0 dX9_shows_5 rfl rfl ?_
  refine z_iload_n C 6 1 1 dX9_shows_6 rfl rfl ?_
  refine z_iconst (v := nI 0) C 7 dX9_shows_7 (by decide) ?_
  refine z_cVi0 C 8 dX9_shows_8 cv_X9_203 (c_X9_of hR (by first | assumption | omega) (by omega)) rfl ⟨by decide, rfl⟩ (by first | assumption | exact Nat.zero_lt_one | omega) rfl rfl (Nat.le_of_ble_eq_true rfl) ⟨by decide, by decide⟩ ⟨rfl, rfl⟩ ⟨by decide, by decide⟩ ?_
  intro r8 S8 L8 R8 p8
  obtain ⟨rfl, rfl, rfl, rfl⟩ := p8
  refine z_iconst (v := nI 1) C 11 dX9_shows_11 (by decide) ?_
  first | with_reducible refine z_icmp_neN C 12 17 dX9_shows_12 (by decide) (by omega) (by omega) (fun h12 => ?_) (fun h12 => ?_) | refine z_icmp_ne C 12 17 dX9_shows_12 (by decide) (fun h12 => ?_) (fun h12 => ?_)
  · have h12 : ¬ fo (S 44 0) p 0 = nI 1 := h12
    have hb3 : S 44 0 3 = -1 ∨ ∃ b, b < 10 ∧ S 44 0 3 = nI b := hI.2.1.elim Or.inl (fun ⟨b, h1, h2⟩ => Or.inr ⟨b, by omega, h2⟩)
    refine z_aload_n C 17 0 0 dX9_shows_17 rfl rfl ?_
    refine z_iload_n C 18 1 1 dX9_shows_18 rfl rfl ?_
    refine z_cVi0 C 19 dX9_shows_19 cv_X9_266 (c_X9_waitFor (n := n) hR hI (by omega)) rfl ⟨by decide, rfl⟩ (by first | assumption | exact Nat.zero_lt_one | omega) rfl rfl (Nat.le_of_ble_eq_true rfl) ⟨by decide, by decide⟩ ⟨rfl, rfl⟩ ⟨by decide, by decide⟩ ?_
    intro r19 S19 L19 R19 p19
    obtain ⟨rfl, rfl, rfl, rfl⟩ := p19
    refine z_istore_n C 22 2 [(2, _), (0, _), (1, _)] dX9_shows_22 rfl (by decide) rfl ?_
    refine z_aload_n C 23 0 1 dX9_shows_23 rfl rfl ?_
    refine z_getr C 24 dX9_shows_24 gf_X9_20 rfl (by first | assumption | exact Nat.zero_lt_one | omega) (by first | exact hR _ _ _ _ rfl | assumption) ?_
    refine z_iconst (v := nI 3) C 27 dX9_shows_27 (by decide) ?_
    refine z_iald C 28 dX9_shows_28 (by first | rfl | assumption) (by first | assumption | exact Nat.zero_lt_one | omega) (by first | rfl | assumption) (by decide) (by first | assumption | omega) ?_
    refine z_istore_n C 29 3 [(3, _), (2, _), (0, _), (1, _)] dX9_shows_29 rfl (by decide) rfl ?_
    refine z_aload_n C 30 0 2 dX9_shows_30 rfl rfl ?_
    refine z_getr C 31 dX9_shows_31 gf_X9_20 rfl (by first | assumption | exact Nat.zero_lt_one | omega) (by first | exact hR _ _ _ _ rfl | assumption) ?_
    refine z_aload_n C 34 0 2 dX9_shows_34 rfl rfl ?_
    refine z_getr C 35 dX9_shows_35 gf_X9_40 rfl (by first | assumption | exact Nat.zero_lt_one | omega) (by first | exact hR _ _ _ _ rfl | assumption) ?_
    refine z_cSv0 C 38 dX9_shows_38 cs_X9_269 (c_X9_puts (by rfl) (by rfl) (by first | assumption | exact Nat.zero_lt_one | omega) (by first | assumption | exact Nat.zero_lt_one | omega) (by decide)) rfl rfl (Nat.le_of_ble_eq_true rfl) ⟨by decide, by decide⟩ ⟨rfl, rfl⟩ ⟨by decide, by decide⟩ ?_
    intro S38 L38 R38 p38
    obtain ⟨rfl, rfl, rfl⟩ := p38
    refine z_aload_n C 41 0 2 dX9_shows_41 rfl rfl ?_
    refine z_iload_n C 42 1 3 dX9_shows_42 rfl rfl ?_
    refine z_cVv0 C 43 dX9_shows_43 cv_X9_273 (c_X9_laysShown (n := n) hR hI hn10 (by omega)) rfl ⟨by decide, rfl⟩ (by first | assumption | exact Nat.zero_lt_one | omega) rfl rfl (Nat.le_of_ble_eq_true rfl) ⟨by decide, by decide⟩ ⟨rfl, rfl⟩ ⟨by decide, by decide⟩ ?_
    intro S43 L43 R43 p43
    obtain ⟨rfl, rfl, rfl⟩ := p43
    refine z_aload_n C 46 0 2 dX9_shows_46 rfl rfl ?_
    refine z_aload_n C 47 0 2 dX9_shows_47 rfl rfl ?_
    refine z_cVi0 C 48 dX9_shows_48 cv_X9_276 (c_X9_memory (n := n) hR hn hn10 (hI.lay hn10 hp)) rfl ⟨by decide, rfl⟩ (by first | assumption | exact Nat.zero_lt_one | omega) rfl rfl (Nat.le_of_ble_eq_true rfl) ⟨by decide, by decide⟩ ⟨rfl, rfl⟩ ⟨by decide, by decide⟩ ?_
    intro r48 S48 L48 R48 p48
    obtain ⟨pm, rfl, rfl⟩ := p48
    have pm : (match fMem (fLay (S 44 0) (S 41 0) p) (S 41 0) n with | some q => r48 = nI q.1 ∧ sA _ 44 q.2 = S48 | none => r48 = -1 ∧ ∃ A, sA _ 44 A = S48) := pm
    refine z_puti C 51 dX9_shows_51 gf_X9_263 ⟨rfl, rfl⟩ rfl (by first | assumption | exact Nat.zero_lt_one | omega) ?_
    refine z_aload_n C 54 0 2 dX9_shows_54 rfl rfl ?_
    refine z_getiv C 55 dX9_shows_55 gf_X9_263 rfl (by first | assumption | exact Nat.zero_lt_one | omega) (up3_s _ _ _ _ _) ?_
    refine z_iconst (v := (-1)) C 58 dX9_shows_58 (by decide) ?_
    first | with_reducible refine z_icmp_neN C 59 75 dX9_shows_59 (by decide) (by omega) (by omega) (fun h59 => ?_) (fun h59 => ?_) | refine z_icmp_ne C 59 75 dX9_shows_59 (by decide) (fun h59 => ?_) (fun h59 => ?_)
    · rcases hfm : fMem (fLay (S 44 0) (S 41 0) p) (S 41 0) n with _ | q
      · rw [hfm] at pm; exact absurd pm.1 h59
      rw [hfm] at pm
      obtain ⟨rfl, rfl⟩ := pm
      have hq2 := fMem_ok hn10 (hI.lay hn10 hp) hfm
      refine z_aload_n C 75 0 2 dX9_shows_75 rfl rfl ?_
      refine z_iload_n C 76 1 3 dX9_shows_76 rfl rfl ?_
      refine z_iload_n C 77 3 0 dX9_shows_77 rfl rfl ?_
      refine z_cVv0 C 78 dX9_shows_78 cv_X9_279 (c_X9_countsHabits (n := n) hR hq2.2.1 (by omega) hb3) rfl ⟨by decide, rfl⟩ (by first | assumption | exact Nat.zero_lt_one | omega) rfl rfl (Nat.le_of_ble_eq_true rfl) ⟨by decide, by decide⟩ ⟨rfl, rfl⟩ ⟨by decide, by decide⟩ ?_
      intro S78 L78 R78 p78
      obtain ⟨rfl, rfl, rfl⟩ := p78
      refine z_aload_n C 81 0 2 dX9_shows_81 rfl rfl ?_
      refine z_bipush (v := nI 7) C 82 dX9_shows_82 (by decide +kernel) ?_
      refine z_iload_n C 84 1 3 dX9_shows_84 rfl rfl ?_
      refine z_cVv0 C 85 dX9_shows_85 cv_X9_247 (c_X9_writes hR (by first | assumption | omega) (by first | assumption | omega)) rfl ⟨by decide, rfl⟩ (by first | assumption | exact Nat.zero_lt_one | omega) rfl rfl (Nat.le_of_ble_eq_true rfl) ⟨by decide, by decide⟩ ⟨rfl, rfl⟩ ⟨by decide, by decide⟩ ?_
      intro S85 L85 R85 p85
      obtain ⟨rfl, rfl, rfl⟩ := p85
      refine z_iload_n C 88 2 1 dX9_shows_88 rfl rfl ?_
      refine z_aload_n C 89 0 2 dX9_shows_89 rfl rfl ?_
      refine z_iload_n C 90 1 3 dX9_shows_90 rfl rfl ?_
      refine z_bipush (v := nI 6) C 91 dX9_shows_91 (by decide +kernel) ?_
      refine z_cVi0 C 93 dX9_shows_93 cv_X9_207 (c_X9_toldOf hR (by first | assumption | omega) (by omega)) rfl ⟨by decide, rfl⟩ (by first | assumption | exact Nat.zero_lt_one | omega) rfl rfl (Nat.le_of_ble_eq_true rfl) ⟨by decide, by decide⟩ ⟨rfl, rfl⟩ ⟨by decide, by decide⟩ ?_
      intro r93 S93 L93 R93 p93
      obtain ⟨rfl, rfl, rfl, rfl⟩ := p93
      first | with_reducible refine z_icmp_leN C 96 132 dX9_shows_96 (by decide) (by omega) (by omega) (fun h96 => ?_) (fun h96 => ?_) | refine z_icmp_le C 96 132 dX9_shows_96 (by decide) (fun h96 => ?_) (fun h96 => ?_)
      · have h96 : fWait (S 44 0) (S 41 0) (S 43 0) p ≤ S 41 0 (8 * p + 6) := h96
        refine z_iload_n C 132 2 1 dX9_shows_132 rfl rfl ?_
        exact ret 133 _ _ _ _ _ dX9_shows_133 (by first | rfl | exact bI_n | decide) (⟨(by rw [fShowR_s h12 hfm]; rfl), ⟨S 44 0, (by rw [fShowR_s h12 hfm]; (first | rw [if_pos (Int32.not_le.mp h96)] | rw [if_neg (Int32.not_lt.mpr h96)]); simp only [up3_k _ (show (44 : Nat) ≠ 40 by decide), up3_k _ (show (41 : Nat) ≠ 40 by decide), up3_k _ (show (43 : Nat) ≠ 40 by decide), up3_k _ (show (49 : Nat) ≠ 40 by decide), sA_s, sA_n _ _ (show (41 : Nat) ≠ 44 by decide), sA_n _ _ (show (41 : Nat) ≠ 49 by decide), sA_n _ _ (show (43 : Nat) ≠ 44 by decide), sA_n _ _ (show (43 : Nat) ≠ 49 by decide), sA_n _ _ (show (44 : Nat) ≠ 49 by decide), sA_n _ _ (show (49 : Nat) ≠ 44 by decide), sA_n _ _ (show (40 : Nat) ≠ 44 by decide), sA_n _ _ (show (40 : Nat) ≠ 49 by decide), up3_sA _ (show (40 : Nat) ≠ 44 by decide), up3_sA _ (show (40 : Nat) ≠ 49 by decide), sA_44_49, sA_sA, up3_up3]; try rfl)⟩, rfl, rfl⟩)
      · have h96 : ¬ fWait (S 44 0) (S 41 0) (S 43 0) p ≤ S 41 0 (8 * p + 6) := h96
        refine z_aload_n C 99 0 2 dX9_shows_99 rfl rfl ?_
        refine z_iload_n C 100 1 3 dX9_shows_100 rfl rfl ?_
        refine z_iconst (v := nI 4) C 101 dX9_shows_101 (by decide) ?_
        refine z_aload_n C 102 0 2 dX9_shows_102 rfl rfl ?_
        refine z_iload_n C 103 1 3 dX9_shows_103 rfl rfl ?_
        refine z_iconst (v := nI 4) C 104 dX9_shows_104 (by decide) ?_
        refine z_cVi0 C 105 dX9_shows_105 cv_X9_203 (c_X9_of hR (by first | assumption | omega) (by omega)) rfl ⟨by decide, rfl⟩ (by first | assumption | exact Nat.zero_lt_one | omega) rfl rfl (Nat.le_of_ble_eq_true rfl) ⟨by decide, by decide⟩ ⟨rfl, rfl⟩ ⟨by decide, by decide⟩ ?_
        intro r105 S105 L105 R105 p105
        obtain ⟨rfl, rfl, rfl, rfl⟩ := p105
        refine z_iconst (v := nI 1) C 108 dX9_shows_108 (by decide) ?_
        first | with_reducible refine z_iaddN C 109 dX9_shows_109 ?_ | refine z_iadd C 109 dX9_shows_109 ?_
        refine z_cVv0 C 110 dX9_shows_110 cv_X9_240 (c_X9_sets hR (by first | assumption | omega) (by omega)) rfl ⟨by decide, rfl⟩ (by first | assumption | exact Nat.zero_lt_one | omega) rfl rfl (Nat.le_of_ble_eq_true rfl) ⟨by decide, by decide⟩ ⟨rfl, rfl⟩ ⟨by decide, by decide⟩ ?_
        intro S110 L110 R110 p110
        obtain ⟨rfl, rfl, rfl⟩ := p110
        refine z_aload_n C 113 0 2 dX9_shows_113 rfl rfl ?_
        refine z_iload_n C 114 1 3 dX9_shows_114 rfl rfl ?_
        refine z_iconst (v := nI 5) C 115 dX9_shows_115 (by decide) ?_
        refine z_aload_n C 116 0 2 dX9_shows_116 rfl rfl ?_
        refine z_getr C 117 dX9_shows_117 gf_X9_20 rfl (by first | assumption | exact Nat.zero_lt_one | omega) (by first | exact hR _ _ _ _ rfl | assumption) ?_
        refine z_iconst (v := nI 1) C 120 dX9_shows_120 (by decide) ?_
        refine z_iald C 121 dX9_shows_121 (by first | rfl | assumption) (by first | assumption | exact Nat.zero_lt_one | omega) (by first | rfl | assumption) (by decide) (by first | assumption | omega) ?_
        refine z_cVv0 C 122 dX9_shows_122 cv_X9_240 (c_X9_sets hR (by first | assumption | omega) (by omega)) rfl ⟨by decide, rfl⟩ (by first | assumption | exact Nat.zero_lt_one | omega) rfl rfl (Nat.le_of_ble_eq_true rfl) ⟨by decide, by decide⟩ ⟨rfl, rfl⟩ ⟨by decide, by decide⟩ ?_
        intro S122 L122 R122 p122
        obtain ⟨rfl, rfl, rfl⟩ := p122
        refine z_aload_n C 125 0 2 dX9_shows_125 rfl rfl ?_
        refine z_bipush (v := nI 8) C 126 dX9_shows_126 (by decide +kernel) ?_
        refine z_iload_n C 128 1 3 dX9_shows_128 rfl rfl ?_
        refine z_cVv0 C 129 dX9_shows_129 cv_X9_247 (c_X9_writes hR (by first | assumption | omega) (by first | assumption | omega)) rfl ⟨by decide, rfl⟩ (by first | assumption | exact Nat.zero_lt_one | omega) rfl rfl (Nat.le_of_ble_eq_true rfl) ⟨by decide, by decide⟩ ⟨rfl, rfl⟩ ⟨by decide, by decide⟩ ?_
        intro S129 L129 R129 p129
        obtain ⟨rfl, rfl, rfl⟩ := p129
        refine z_iload_n C 132 2 1 dX9_shows_132 rfl rfl ?_
        exact ret 133 _ _ _ _ _ dX9_shows_133 (by first | rfl | exact bI_n | decide) (⟨(by rw [fShowR_s h12 hfm]; rfl), ⟨S 44 0, (by rw [fShowR_s h12 hfm]; (first | rw [if_pos (Int32.not_le.mp h96)] | rw [if_neg (Int32.not_lt.mpr h96)]); simp only [up3_k _ (show (44 : Nat) ≠ 40 by decide), up3_k _ (show (41 : Nat) ≠ 40 by decide), up3_k _ (show (43 : Nat) ≠ 40 by decide), up3_k _ (show (49 : Nat) ≠ 40 by decide), sA_s, sA_n _ _ (show (41 : Nat) ≠ 44 by decide), sA_n _ _ (show (41 : Nat) ≠ 49 by decide), sA_n _ _ (show (43 : Nat) ≠ 44 by decide), sA_n _ _ (show (43 : Nat) ≠ 49 by decide), sA_n _ _ (show (44 : Nat) ≠ 49 by decide), sA_n _ _ (show (49 : Nat) ≠ 44 by decide), sA_n _ _ (show (40 : Nat) ≠ 44 by decide), sA_n _ _ (show (40 : Nat) ≠ 49 by decide), up3_sA _ (show (40 : Nat) ≠ 44 by decide), up3_sA _ (show (40 : Nat) ≠ 49 by decide), sA_44_49, sA_sA, up3_up3]; try rfl)⟩, rfl, rfl⟩)
    · rcases hfm : fMem (fLay (S 44 0) (S 41 0) p) (S 41 0) n with _ | q
      rotate_left
      · rw [hfm] at pm; exact absurd (pm.1.symm.trans h59) (nI_m1 (by have := (fMem_ok hn10 (hI.lay hn10 hp) hfm).1; omega))
      rw [hfm] at pm
      obtain ⟨rfl, A, rfl⟩ := pm
      refine z_aload_n C 62 0 2 dX9_shows_62 rfl rfl ?_
      refine z_getr C 63 dX9_shows_63 gf_X9_40 rfl (by first | assumption | exact Nat.zero_lt_one | omega) (by first | exact hR _ _ _ _ rfl | assumption) ?_
      refine z_aload_n C 66 0 2 dX9_shows_66 rfl rfl ?_
      refine z_getr C 67 dX9_shows_67 gf_X9_20 rfl (by first | assumption | exact Nat.zero_lt_one | omega) (by first | exact hR _ _ _ _ rfl | assumption) ?_
      refine z_cSv0 C 70 dX9_shows_70 cs_X9_269 (c_X9_puts (by rfl) (by rfl) (by first | assumption | exact Nat.zero_lt_one | omega) (by first | assumption | exact Nat.zero_lt_one | omega) (by decide)) rfl rfl (Nat.le_of_ble_eq_true rfl) ⟨by decide, by decide⟩ ⟨rfl, rfl⟩ ⟨by decide, by decide⟩ ?_
      intro S70 L70 R70 p70
      obtain ⟨rfl, rfl, rfl⟩ := p70
      refine z_iconst (v := (-1)) C 73 dX9_shows_73 (by decide) ?_
      exact ret 74 _ _ _ _ _ dX9_shows_74 (by first | rfl | exact bI_n | decide) (⟨(by rw [fShowR_n h12 hfm]), ⟨S 44 0, (by rw [fShowR_n h12 hfm]; simp only [up3_k _ (show (44 : Nat) ≠ 40 by decide), up3_k _ (show (41 : Nat) ≠ 40 by decide), up3_k _ (show (43 : Nat) ≠ 40 by decide), up3_k _ (show (49 : Nat) ≠ 40 by decide), sA_s, sA_n _ _ (show (41 : Nat) ≠ 44 by decide), sA_n _ _ (show (41 : Nat) ≠ 49 by decide), sA_n _ _ (show (43 : Nat) ≠ 44 by decide), sA_n _ _ (show (43 : Nat) ≠ 49 by decide), sA_n _ _ (show (44 : Nat) ≠ 49 by decide), sA_n _ _ (show (49 : Nat) ≠ 44 by decide), sA_n _ _ (show (40 : Nat) ≠ 44 by decide), sA_n _ _ (show (40 : Nat) ≠ 49 by decide), up3_sA _ (show (40 : Nat) ≠ 44 by decide), up3_sA _ (show (40 : Nat) ≠ 49 by decide), sA_44_49, sA_sA, up3_up3])⟩, rfl, rfl⟩)
  · have h12 : fo (S 44 0) p 0 = nI 1 := h12
    refine z_iconst (v := nI 0) C 15 dX9_shows_15 (by decide) ?_
    exact ret 16 _ _ _ _ _ dX9_shows_16 (by first | rfl | exact bI_n | decide) (⟨(by rw [fShowR_0 h12]), ⟨S 49 0, (by rw [fShowR_0 h12]; exact sA_49_id (up3 S 40 0 26 (nI 0)) _ rfl)⟩, rfl, rfl⟩)
