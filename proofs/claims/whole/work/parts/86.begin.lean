/-! THE START -/
theorem mat.extR {G : mG} {ad : mA} {S : mS} {L : mL} {R R' : mR} {k i : Nat} {H : Heap} (h : ∀ j, mrg k j → R k i j = R' k i j) (hm : mat G ad S L R k i H) : mat G ad S L R' k i H := by
  unfold mat at hm ⊢
  unfold mrg at h
  cases hs : msh k with
  | inl q =>
    rw [hs] at hm h
    simp only at hm h ⊢
    rw [hm]
    congr 1
    obtain ⟨t, len⟩ := q
    unfold mcell
    have e : arrV (G.2 t) len (fun j => va_rf (mrf ad (R k i j))) = arrV (G.2 t) len (fun j => va_rf (mrf ad (R' k i j))) := arrV_ext (fun j hj => by rw [h j hj])
    match t with
    | 0 => rfl
    | 1 => rfl
    | 2 => rfl
    | 3 => rfl
    | 4 => exact e
    | 5 => exact e
    | n + 6 => rfl
  | inr ci =>
    rw [hs] at hm h
    simp only at hm h ⊢
    have e : mval ad S L R ci k i = mval ad S L R' ci k i := by
      funext j
      unfold mval
      rw [h j trivial]
    rw [← e]
    exact hm
theorem z_extR {X : mX} {nL : Nat} {ad : mA} {dm : mD} {S : mS} {L : mL} {R : mR} {ce sl pc : Nat} {lv : List (Nat × Value)} {st : List Value} (R' : mR) (h : ∀ k i j, dm k i → mrg k j → R k i j = R' k i j) (k : Z X nL ad dm S L R' ce sl pc lv st) : Z X nL ad dm S L R ce sl pc lv st := by
  obtain ⟨p, l, e, Rm, s, m, args, below, meth, c, Q, G, A⟩ := X
  intro H locs ls h1 h2 h3
  exact k H locs ls ⟨h1.1, h1.2.1, fun k i hd => (h1.2.2 k i hd).extR (fun j hj => h k i j hd hj)⟩ h2 h3
theorem dN_all (b : Nat) : dN b (b + 356) = mdm := by
  funext k i
  refine propext ⟨fun q => q.1, fun q => ⟨q, ?_⟩⟩
  have := off_lt q
  omega
def rFix (R : mR) : mR := fun k i j => match mlf k i j with | some q => some q | none => R k i j
theorem rFix_lk (R : mR) : mlk (rFix R) := fun k i j q h => by
  unfold rFix
  rw [h]
theorem rFix_n {R : mR} {k i j : Nat} (h : mlf k i j = none) : rFix R k i j = R k i j := by
  unfold rFix
  rw [h]
theorem mlf_no {k i j : Nat} (h : ¬ (k ≤ 34 ∨ k = 40)) : mlf k i j = none := by
  unfold mlf
  split <;> first | rfl | omega
theorem M8.to {S S2 : mS} {R R2 : mR} (h : M8 S R) (e : ∀ k i, k ≤ 34 → S2 k i = S k i ∧ R2 k i = R k i) : M8 S2 R2 := by
  obtain ⟨h1, ⟨h2, h3, h4, h5, h6⟩, h7, h8, ⟨h9, h10⟩, h11, ⟨h12, h13, h14, h15, h16⟩, h17, ⟨h18, h19⟩, h20, h21, h22⟩ := h
  have eS : ∀ k i, k ≤ 34 → S2 k i = S k i := fun k i hk => (e k i hk).1
  have eR : ∀ k i, k ≤ 34 → R2 k i = R k i := fun k i hk => (e k i hk).2
  refine ⟨fun k i j q hk hm hj hq => by rw [eR k i hk]; exact h1 k i j q hk hm hj hq, ?_, fun i hi => by rw [eR 32 0 (by omega)]; exact h7 i hi, fun i hi => by rw [eR 33 0 (by omega)]; exact h8 i hi, ?_, h11.off (fun k a c => eS k 0 (by omega)), ?_, fun p w hp => by rw [eS 6 p (by omega)]; exact h17 p w hp, ?_, fun s => by rw [eS 34 0 (by omega)]; exact h20 s, by rw [eS 0 0 (by omega)]; exact h21, by rw [eS 1 0 (by omega)]; exact h22⟩
  · rw [eR 0 0 (by omega)]
    exact ⟨h2, h3, h4, h5, h6⟩
  · rw [eR 25 0 (by omega), eR 12 0 (by omega)]
    exact ⟨h9, h10⟩
  · rw [eS 3 0 (by omega)]
    exact ⟨h12, h13, h14, h15, h16⟩
  · rw [eS 31 0 (by omega)]
    exact ⟨h18, h19⟩
theorem M9.to {S S2 : mS} {R R2 : mR} (h : M9 S R) (e : ∀ k i, 40 ≤ k → k ≤ 53 → S2 k i = S k i ∧ R2 k i = R k i) : M9 S2 R2 := by
  unfold M9
  rw [(e 40 0 (by omega) (by omega)).1, (e 40 0 (by omega) (by omega)).2, (e 44 0 (by omega) (by omega)).1, (e 43 0 (by omega) (by omega)).1, (e 53 0 (by omega) (by omega)).1]
  exact h
theorem iv_start {S : mS} {L : mL} {R : mR} (h8 : M8 S R) (h9 : M9 S R) : (∀ k i j, mdm k i → mrg k j → R k i j = rFix R k i j) ∧ IVt S L (rFix R) 0 := by
  obtain ⟨h1, ⟨h2, h3, h4, h5, h6⟩, h7, h8, ⟨k1, k2⟩, h11, ⟨c0, c1, c2, c3, h16⟩, h17, ⟨h18, h19⟩, h20, h21, h22⟩ := h8
  obtain ⟨g1, g2, ⟨d0, d1, d2, d3⟩, g4, g5, g6, g7, g8⟩ := h9
  refine ⟨fun k i j hm hj => ?_, ?_⟩
  · cases e : mlf k i j with
    | none => exact (rFix_n e).symm
    | some q =>
      have e2 : rFix R k i j = some q := by unfold rFix; rw [e]
      rw [e2]
      by_cases hk : k ≤ 34
      · exact h1 k i j q hk hm hj e
      · by_cases h40 : k = 40
        · subst h40
          obtain rfl : i = 0 := Nat.lt_one_iff.mp hm
          exact g1 j q e
        · rw [mlf_no (by omega)] at e
          cases e
  · have hI0 : JI (fBeg (nI 100) (nI 0)) (fun _ => 0) 0 0 := JI_beg (fun p hp => absurd hp (Nat.not_lt_zero _)) (by omega) (by omega)
    refine ⟨fun _ => 0, S 43 0, fBeg (nI 100) (nI 0), 0, 0, 0, 0, fun _ _ => 0, fun _ _ => 0, fun _ => 0, fun _ => 0, 0, fun _ => [], ⟨⟨0, id, rFix_lk R, ⟨fun i hi => hi, fun i j _ _ e => e, ?_, ?_, ?_, fun i hi => ?_, fun i hi => ?_⟩, ⟨by omega, ?_, ?_, ⟨h16, fun p w hp hw => ?_⟩, ⟨c0.trans d0.symm, c1.trans d1.symm, c2.trans d2.symm, c3.trans d3.symm⟩, by omega, fun p hp => absurd hp (Nat.not_lt_zero _)⟩, ⟨h18, by omega, h19, by omega⟩, ⟨h11, ?_, ?_, hI0⟩, fun j hj => absurd hj (Nat.not_lt_zero _), fun s hs => ⟨h20 s, Nat.zero_le 1, fun z => absurd z (show ¬ (0 : Nat) = 1 by decide)⟩, by omega⟩, ⟨g2, g4, g5, fun p w hp => absurd hp (Nat.not_lt_zero _), rfl, ?_, fun j hj => absurd hj (Nat.not_lt_zero _), fun s hs => ⟨g6 s hs, fun z => absurd z (show ¬ (0 : Nat) = 1 by decide)⟩, fun j hj => absurd hj (Nat.not_lt_zero _)⟩, h21.trans g7.symm, ⟨h22, by omega, fun _ => (show (0 : Nat) < 256 by decide), fun j hj => absurd hj (Nat.not_lt_zero _)⟩, g8, by omega, fun _ => (show (0 : Nat) < 256 by decide), fun j hj => absurd hj (Nat.not_lt_zero _)⟩, by omega⟩
    · exact (rFix_n (R := R) (k := 0) (i := 0) (j := 5) rfl).trans h4
    · exact (rFix_n (R := R) (k := 0) (i := 0) (j := 6) rfl).trans h5
    · exact (rFix_n (R := R) (k := 0) (i := 0) (j := 7) rfl).trans h6
    · exact (rFix_n (R := R) (k := 32) (i := 0) (j := i) rfl).trans (h7 i hi)
    · exact (rFix_n (R := R) (k := 33) (i := 0) (j := i) rfl).trans (h8 i hi)
    · exact (rFix_n (R := R) (k := 0) (i := 0) (j := 2) rfl).trans h2
    · exact (rFix_n (R := R) (k := 0) (i := 0) (j := 3) rfl).trans h3
    · have := h17 p w hp
      rw [show 10 * 0 + p = p by omega]
      exact this
    · exact (rFix_n (R := R) (k := 25) (i := 0) (j := 1) rfl).trans k1
    · exact (rFix_n (R := R) (k := 12) (i := 0) (j := 0) rfl).trans k2
    · intro i hi
      rcases (show i = 0 ∨ i = 1 ∨ i = 2 ∨ i = 3 by omega) with rfl | rfl | rfl | rfl
      · exact ⟨10, by omega, d0⟩
      · exact ⟨2, by omega, d1⟩
      · exact ⟨5, by omega, d2⟩
      · exact ⟨20, by omega, d3⟩
set_option maxHeartbeats 4000000 in
set_option maxRecDepth 100000 in
theorem lw_begin {X : mX} {bs L0 : Nat} {xs : Nat → Int32} {S0 : mS} {L1 : mL} {R0 : mR} (C : mK X RL cL_law 7 room_1) (hS : LH X bs L0 xs) (hlf : X.2.1.stackTraces = false) (hret : ∀ (S : mS) (L : mL) (R : mR) (ce sl : Nat) (lv : List (Nat × Value)), ce ≤ 601024 → sl ≤ 7293034 → Z X 7 (aD (mSz X)) mdm S L R ce sl 2218 lv [.int (nI 1)]) : Z X 7 (aD (mSz X)) (dN (mSz X) (mSz X + 0)) S0 L1 R0 0 0 0 [(0, .ref bs)] [] := by
  generalize hb : mSz X = b at hret ⊢
  refine y_new C hb (Nat.le_refl b) 0 0 0 (ci := 8) dL_law_0 rfl (by decide) kl_L_8 ki_X8 wi_X8 Nat.zero_lt_one rfl ⟨by decide, by decide⟩ ?_
  refine z_dup C 3 dL_law_3 rfl ?_
  refine y_cI C hb (Nat.le_refl b) 4 (kd := 0) (i := 0) (As := []) dL_law_4 (⟨ln_L_114, wm_X8_init, wi_X8, wc_X8_init, rfl, by decide +kernel⟩ : mCi RL 114 yX8_init cX8_init 2 0) (c_X8_init (b := b) rfl) (by omega) rfl rfl (Nat.le_of_ble_eq_true rfl) ⟨by decide, by decide⟩ ⟨by decide, by decide⟩ ?_
  intro S2 L2 R2 hp
  obtain ⟨hF8, h8⟩ := hp
  refine z_astore_n C 7 1 [(1, _), (0, _)] dL_law_7 rfl (by decide) rfl ?_
  change Z X 7 (aD b) (dN b (b + 341)) S2 L2 R2 341 7255 8 _ _
  refine y_new C hb (Nat.le_refl b) 8 40 0 (ci := 9) dL_law_8 rfl (by decide) kl_L_115 ki_X9 wi_X9 Nat.zero_lt_one rfl ⟨by decide, by decide⟩ ?_
  refine gM (P := fun S' L' R' => M8 S' R' ∧ ∀ j, S' 40 0 j = 0) (Zp := fun S' L' R' => Z X 7 (aD b) (dN b (b + 342)) S' L' R' 342 7286 _ _ _) (S := z3 S2 0 40 0) (L := z3 L2 0 40 0) (R := z3 R2 none 40 0) ⟨h8.to (fun k i hk => ⟨z3_n _ (by omega), z3_n _ (by omega)⟩), fun j => congrFun (z3_s S2 0 40 0) j⟩ ?_
  intro S3 L3 R3 ⟨h8, hz0⟩
  refine z_dup C 11 dL_law_11 rfl ?_
  refine y_cI C hb (Nat.le_refl b) 12 (kd := 40) (i := 0) (As := []) dL_law_12 (⟨ln_L_117, wm_X9_init, wi_X9, wc_X9_init, rfl, by decide +kernel⟩ : mCi RL 117 yX9_init cX9_init 1 0) (c_X9_init (b := b) rfl hz0) (by omega) rfl rfl (Nat.le_of_ble_eq_true rfl) ⟨by decide, by decide⟩ ⟨by decide, by decide⟩ ?_
  intro S4 L4 R4 hp
  obtain ⟨hF9, h9⟩ := hp
  have h8 : M8 S4 R4 := h8.to (fun k i hk => ⟨(hF9.at (by omega)).1, (hF9.at (by omega)).2.2⟩)
  change Z X 7 (aD b) (dN b (b + 355)) S4 L4 R4 355 14746 _ _ _
  refine z_astore_n C 15 2 [(2, _), (1, _), (0, _)] dL_law_15 rfl (by decide) rfl ?_
  refine z_iconst (v := nI 1) C 16 dL_law_16 (by decide) ?_
  refine y_newa C hb (Nat.le_refl b) 17 60 0 (n := 1) (t := 3) dL_law_17 rfl (by decide) rfl aw_long rfl (by decide) Nat.zero_lt_one rfl ⟨by decide, by decide⟩ ?_
  refine z_astore_n C 19 3 [(3, _), (2, _), (1, _), (0, _)] dL_law_19 rfl (by decide) rfl ?_
  refine z_iconst (v := nI 0) C 20 dL_law_20 (by decide) ?_
  refine z_istore C 21 4 [(4, _), (3, _), (2, _), (1, _), (0, _)] dL_law_21 (by decide) rfl ?_
  refine z_sub [(4, _), (0, _), (1, _), (2, _), (3, _)] [0, 4, 3, 2, 1] rfl ?_
  change Z X 7 (aD b) (dN b (b + 356)) (z3 S4 0 60 0) (z3 L4 0 60 0) (z3 R4 none 60 0) (356 + 0) (14747 + 6 * 0) 23 [(4, .int (nI (6 * 0))), (0, .ref bs), (1, .ref (aD b 0 0)), (2, .ref (aD b 40 0)), (3, .ref (aD b 60 0))] []
  rw [dN_all]
  obtain ⟨e1, e2⟩ := iv_start (S := z3 S4 0 60 0) (L := z3 L4 0 60 0) (R := z3 R4 none 60 0) (h8.to (fun k i hk => ⟨z3_n _ (by omega), z3_n _ (by omega)⟩)) (h9.to (fun k i hk hk2 => ⟨z3_n _ (by omega), z3_n _ (by omega)⟩))
  exact z_extR _ e1 (lw_loop C hS hlf hret 514 0 _ _ _ (by omega) (by omega) e2)
