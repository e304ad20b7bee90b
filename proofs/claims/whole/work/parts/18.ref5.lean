theorem z_mem {X : mX} {nL : Nat} {ad : mA} {dm : mD} {S : mS} {L : mL} {R : mR} {ce sl pc : Nat} {lv : List (Nat × Value)} {st : List Value} (S' : mS) (h : S = S') (k : Z X nL ad dm S' L R ce sl pc lv st) : Z X nL ad dm S L R ce sl pc lv st := h ▸ k
theorem fRests_n {N : NN} (h : N 2 = -1) : fRests N = N := if_pos h
theorem fRests_s {N : NN} {q : Nat} (hq : q < 2 ^ 31) (h : N 2 = nI q) : fRests N = fRest N q := by
  unfold fRests
  rw [h, if_neg (nI_m1 hq), nI_clamp hq]
theorem fLay_a {N M T : NN} {p : Nat} (h : fRests N = M) (hw : fo M p 0 = nI 0) : fLay N T p = upd (upd (fset (fset (fset (fset M p 1 (T (8 * p))) p 2 (T (8 * p + 1))) p 3 (nI 0)) p 0 (nI 1)) 2 (nI p)) 3 (nI p) := by
  unfold fLay
  simp only [h, hw, true_or, if_true]
theorem fLay_b {N M T : NN} {p : Nat} (h : fRests N = M) (h0 : ¬ fo M p 0 = nI 0) (hw : fo M p 0 = nI 5) : fLay N T p = upd (upd (fset (fset (fset (fset M p 1 (T (8 * p))) p 2 (T (8 * p + 1))) p 3 (fo M p 3)) p 0 (nI 1)) 2 (nI p)) 3 (nI p) := by
  unfold fLay
  simp only [h]
  rw [if_pos (Or.inr hw), if_neg h0]
theorem fLay_c {N M T : NN} {p : Nat} (h : fRests N = M) (h0 : ¬ fo M p 0 = nI 0) (hw : ¬ fo M p 0 = nI 5) : fLay N T p = upd (upd (fset M p 0 (nI 1)) 2 (nI p)) 3 (nI p) := by
  unfold fLay
  simp only [h]
  rw [if_neg (fun z => z.elim h0 hw)]
def gS (N : NN) (p : Nat) : Nat → NN
  | 0 => N
  | k + 1 => fset (gS N p k) p (11 + k) (fo N p (12 + k))
theorem gS_fo (N : NN) (p : Nat) : ∀ (k w : Nat), 11 + k ≤ w → w < 20 → fo (gS N p k) p w = fo N p w
  | 0, _, _, _ => rfl
  | k + 1, w, h, hw => by
    show fo (fset (gS N p k) p (11 + k) _) p w = _
    rw [fo_set_w _ (show w ≠ 11 + k by omega) (by omega) hw]
    exact gS_fo N p k w (by omega) hw
theorem fGap_b {N : NN} {p g : Nat} (h9 : fo N p 9 = nI 1) (h4 : ¬ fo N p 10 = nI 4) (hg : fo N p 10 = nI g) (hg3 : g ≤ 3) : fset (fset N p (11 + g) (N 1 - fo N p 8)) p 10 (fo (fset N p (11 + g) (N 1 - fo N p 8)) p 10 + nI 1) = fGap N p := by
  unfold fGap
  rw [if_pos h9]
  simp only
  rw [if_neg h4, fo_set_w N (show 10 ≠ 11 + g by omega) (by omega) (by omega), hg, nI_clamp (by omega)]
theorem fGap_c {N : NN} {p : Nat} (h9 : fo N p 9 = nI 1) (h4 : fo N p 10 = nI 4) : fset (fset (fset (gS N p 3) p 10 (nI 3)) p (11 + 3) (fset (gS N p 3) p 10 (nI 3) 1 - fo (fset (gS N p 3) p 10 (nI 3)) p 8)) p 10 (fo (fset (fset (gS N p 3) p 10 (nI 3)) p (11 + 3) (fset (gS N p 3) p 10 (nI 3) 1 - fo (fset (gS N p 3) p 10 (nI 3)) p 8)) p 10 + nI 1) = fGap N p := by
  have e3 : gS N p 3 = fset (fset (fset N p 11 (fo N p 12)) p 12 (fo N p 13)) p 13 (fo N p 14) := rfl
  unfold fGap
  rw [e3, if_pos h9]
  simp only
  rw [if_pos h4, fo_set_w _ (show 10 ≠ 11 + 3 by omega) (by omega) (by omega), fo_set_s, nI_clamp (by omega)]
theorem fHab_y {N : NN} {p b : Nat} (hb : b < 2 ^ 31) (hp : p < 2 ^ 31) (h : ¬ b = p) : fHab N p (nI b) = upd (fset (fGap N p) p 9 (nI 1)) (206 + 10 * b + p) (fset (fGap N p) p 9 (nI 1) (206 + 10 * b + p) + nI 1) := by
  unfold fHab
  simp only
  rw [if_pos ⟨nI_m1 hb, fun z => h ((nI_eq hb hp).mp z)⟩, nI_clamp hb]
theorem fHab_n {N : NN} {p : Nat} {b : Int32} (h : b = -1 ∨ b = nI p) : fHab N p b = fset (fGap N p) p 9 (nI 1) := by
  unfold fHab
  simp only
  rw [if_neg (fun z => h.elim z.1 z.2)]
theorem puts_up {S : mS} {k0 k1 : Nat} (hne : k0 ≠ k1) (i : Nat) : up3 (sA S k1 (fun j => if j < i then S k0 0 j else S k1 0 j)) k1 0 i (sA S k1 (fun j => if j < i then S k0 0 j else S k1 0 j) k0 0 i) = sA S k1 (fun j => if j < i + 1 then S k0 0 j else S k1 0 j) := by
  rw [sA_up, sA_sA, sA_s, sA_n _ _ hne]
  congr 1
  funext j
  unfold upd
  by_cases h : j = i
  · rw [if_pos h, if_pos (by omega), h]
  · rw [if_neg h]
    by_cases h2 : j < i
    · show (if j < i then S k0 0 j else S k1 0 j) = _
      rw [if_pos h2, if_pos (by omega)]
    · show (if j < i then S k0 0 j else S k1 0 j) = _
      rw [if_neg h2, if_neg (by omega)]
theorem puts_end {S : mS} {k0 k1 : Nat} (h1 : msh k1 = .inl (0, 438)) : ∀ k i j, mrg k j → sA S k1 (fun j => if j < 438 then S k0 0 j else S k1 0 j) k i j = sA S k1 (S k0 0) k i j := by
  intro k i j hj
  simp only [sA]
  by_cases h : k = k1 ∧ i = 0
  · rw [if_pos h, if_pos h]
    unfold mrg at hj
    rw [h.1, h1] at hj
    rw [if_pos hj]
  · rw [if_neg h, if_neg h]
noncomputable def fGets (N T : NN) (n p : Nat) (more : Int32) : Nat × NN :=
  let room := T (8 * p + 3) - fo N p 1
  let pages := if more < room then more else room
  if 0 < pages then
    match fMem (fset N p 1 (fo N p 1 + pages)) T n with
    | some q => q
    | none => (0, fWr N 9 p)
  else (0, N)
theorem fGets_0 {N T : NN} {n p : Nat} {more pages : Int32} (hp : pages = if more < T (8 * p + 3) - fo N p 1 then more else T (8 * p + 3) - fo N p 1) (h : ¬ 0 < pages) : fGets N T n p more = (0, N) := by
  unfold fGets
  simp only [← hp]
  rw [if_neg h]
theorem fGets_n {N T : NN} {n p : Nat} {more pages : Int32} (hp : pages = if more < T (8 * p + 3) - fo N p 1 then more else T (8 * p + 3) - fo N p 1) (h : 0 < pages) (hm : fMem (fset N p 1 (fo N p 1 + pages)) T n = none) : fGets N T n p more = (0, fWr N 9 p) := by
  unfold fGets
  simp only [← hp]
  rw [if_pos h, hm]
theorem fGets_s {N T : NN} {n p : Nat} {more pages : Int32} {q : Nat × NN} (hp : pages = if more < T (8 * p + 3) - fo N p 1 then more else T (8 * p + 3) - fo N p 1) (h : 0 < pages) (hm : fMem (fset N p 1 (fo N p 1 + pages)) T n = some q) : fGets N T n p more = q := by
  unfold fGets
  simp only [← hp]
  rw [if_pos h, hm]

def rm_X9_laysShown : Room := { frames := 2, cells := 0, slots := 0, locals := 44 }
set_option maxHeartbeats 4000000 in
set_option maxRecDepth 100000 in
theorem c_X9_laysShown {l : Launch} {G : mG} {ad : mA} {S : mS} {L : mL} {R : mR} {n p : Nat} (hR : mlk R) (hI : rI (S 44 0) n) (hn10 : n ≤ 10) (hp : p < 10) : Kv l yX9_laysShown cX9_laysShown 3 rm_X9_laysShown G ad mdm [.ref (ad 40 0), .int (nI p)] S L R (fun S2 L2 R2 => sA S 44 (fLay (S 44 0) (S 41 0) p) = S2 ∧ L = L2 ∧ R = R2) := by
  refine Kv.of RX9 (by decide) rfl (Nat.le_of_ble_eq_true rfl) ?_
  intro X hXl hXG C ret
  subst hXl; subst hXG
  change Z X 3 ad mdm S L R 0 0 0 [(0, _), (1, _)] []
  refine z_aload_n C 0 0 0 dX9_laysShown_0 rfl rfl ?_
  refine z_getr C 1 dX9_laysShown_1 gf_X9_20 rfl (by first | assumption | exact Nat.zero_lt_one | omega) (by first | exact hR _ _ _ _ rfl | assumption) ?_
  refine z_iconst (v := nI 2) C 4 dX9_laysShown_4 (by decide) ?_
  refine z_iald C 5 dX9_laysShown_5 (by first | rfl | assumption) (by first | assumption | exact Nat.zero_lt_one | omega) (by first | rfl | assumption) (by decide) (by first | assumption | omega) ?_
  refine z_iconst (v := (-1)) C 6 dX9_laysShown_6 (by decide) ?_
  first | with_reducible refine z_icmp_eqN C 7 20 dX9_laysShown_7 (by decide) (by omega) (by omega) (fun h7 => ?_) (fun h7 => ?_) | refine z_icmp_eq C 7 20 dX9_laysShown_7 (by decide) (fun h7 => ?_) (fun h7 => ?_)
  · have hfr := fRests_n h7
    refine z_aload_n C 20 0 0 dX9_laysShown_20 rfl rfl ?_
    refine z_iload_n C 21 1 1 dX9_laysShown_21 rfl rfl ?_
    refine z_iconst (v := nI 0) C 22 dX9_laysShown_22 (by decide) ?_
    refine z_cVi0 C 23 dX9_laysShown_23 cv_X9_203 (c_X9_of hR (by first | assumption | omega) (by omega)) rfl ⟨by decide, rfl⟩ (by first | assumption | exact Nat.zero_lt_one | omega) rfl rfl (Nat.le_of_ble_eq_true rfl) ⟨by decide, by decide⟩ ⟨rfl, rfl⟩ ⟨by decide, by decide⟩ ?_
    intro r23 S23 L23 R23 p23
    obtain ⟨rfl, rfl, rfl, rfl⟩ := p23
    refine z_istore_n C 26 2 [(2, _), (0, _), (1, _)] dX9_laysShown_26 rfl (by decide) rfl ?_
    refine z_iload_n C 27 2 0 dX9_laysShown_27 rfl rfl ?_
    first | with_reducible refine z_if_eqB C 28 36 dX9_laysShown_28 (by decide) (fun h28 => ?_) (fun h28 => ?_) | with_reducible refine z_if_eqN C 28 36 dX9_laysShown_28 (by decide) (by omega) (fun h28 => ?_) (fun h28 => ?_) | refine z_if_eq C 28 36 dX9_laysShown_28 (by decide) (fun h28 => ?_) (fun h28 => ?_)
    · refine z_aload_n C 36 0 1 dX9_laysShown_36 rfl rfl ?_
      refine z_iload_n C 37 1 2 dX9_laysShown_37 rfl rfl ?_
      refine z_iconst (v := nI 1) C 38 dX9_laysShown_38 (by decide) ?_
      refine z_aload_n C 39 0 1 dX9_laysShown_39 rfl rfl ?_
      refine z_iload_n C 40 1 2 dX9_laysShown_40 rfl rfl ?_
      refine z_iconst (v := nI 0) C 41 dX9_laysShown_41 (by decide) ?_
      refine z_cVi0 C 42 dX9_laysShown_42 cv_X9_207 (c_X9_toldOf hR (by first | assumption | omega) (by omega)) rfl ⟨by decide, rfl⟩ (by first | assumption | exact Nat.zero_lt_one | omega) rfl rfl (Nat.le_of_ble_eq_true rfl) ⟨by decide, by decide⟩ ⟨rfl, rfl⟩ ⟨by decide, by decide⟩ ?_
      intro r42 S42 L42 R42 p42
      obtain ⟨rfl, rfl, rfl, rfl⟩ := p42
      refine z_cVv0 C 45 dX9_laysShown_45 cv_X9_240 (c_X9_sets hR (by first | assumption | omega) (by omega)) rfl ⟨by decide, rfl⟩ (by first | assumption | exact Nat.zero_lt_one | omega) rfl rfl (Nat.le_of_ble_eq_true rfl) ⟨by decide, by decide⟩ ⟨rfl, rfl⟩ ⟨by decide, by decide⟩ ?_
      intro S45 L45 R45 p45
      obtain ⟨rfl, rfl, rfl⟩ := p45
      refine z_aload_n C 48 0 1 dX9_laysShown_48 rfl rfl ?_
      refine z_iload_n C 49 1 2 dX9_laysShown_49 rfl rfl ?_
      refine z_iconst (v := nI 2) C 50 dX9_laysShown_50 (by decide) ?_
      refine z_aload_n C 51 0 1 dX9_laysShown_51 rfl rfl ?_
      refine z_iload_n C 52 1 2 dX9_laysShown_52 rfl rfl ?_
      refine z_iconst (v := nI 1) C 53 dX9_laysShown_53 (by decide) ?_
      refine z_cVi0 C 54 dX9_laysShown_54 cv_X9_207 (c_X9_toldOf hR (by first | assumption | omega) (by omega)) rfl ⟨by decide, rfl⟩ (by first | assumption | exact Nat.zero_lt_one | omega) rfl rfl (Nat.le_of_ble_eq_true rfl) ⟨by decide, by decide⟩ ⟨rfl, rfl⟩ ⟨by decide, by decide⟩ ?_
      intro r54 S54 L54 R54 p54
      obtain ⟨rfl, rfl, rfl, rfl⟩ := p54
      refine z_cVv0 C 57 dX9_laysShown_57 cv_X9_240 (c_X9_sets hR (by first | assumption | omega) (by omega)) rfl ⟨by decide, rfl⟩ (by first | assumption | exact Nat.zero_lt_one | omega) rfl rfl (Nat.le_of_ble_eq_true rfl) ⟨by decide, by decide⟩ ⟨rfl, rfl⟩ ⟨by decide, by decide⟩ ?_
      intro S57 L57 R57 p57
      obtain ⟨rfl, rfl, rfl⟩ := p57
      refine z_aload_n C 60 0 1 dX9_laysShown_60 rfl rfl ?_
      refine z_iload_n C 61 1 2 dX9_laysShown_61 rfl rfl ?_
      refine z_iconst (v := nI 3) C 62 dX9_laysShown_62 (by decide) ?_
      refine z_iload_n C 63 2 0 dX9_laysShown_63 rfl rfl ?_
      first | with_reducible refine z_if_neB C 64 71 dX9_laysShown_64 (by decide) (fun h64 => absurd h28 h64) (fun h64 => ?_) | with_reducible refine z_if_neN C 64 71 dX9_laysShown_64 (by decide) (by omega) (fun h64 => absurd h28 h64) (fun h64 => ?_) | refine z_if_ne C 64 71 dX9_laysShown_64 (by decide) (fun h64 => absurd h28 h64) (fun h64 => ?_)
      · refine z_iconst (v := nI 0) C 67 dX9_laysShown_67 (by decide) ?_
        refine z_goto C 68 77 dX9_laysShown_68 (by decide) ?_
        refine z_cVv0 C 77 dX9_laysShown_77 cv_X9_240 (c_X9_sets hR (by first | assumption | omega) (by omega)) rfl ⟨by decide, rfl⟩ (by first | assumption | exact Nat.zero_lt_one | omega) rfl rfl (Nat.le_of_ble_eq_true rfl) ⟨by decide, by decide⟩ ⟨rfl, rfl⟩ ⟨by decide, by decide⟩ ?_
        intro S77 L77 R77 p77
        obtain ⟨rfl, rfl, rfl⟩ := p77
        refine z_aload_n C 80 0 1 dX9_laysShown_80 rfl rfl ?_
        refine z_iload_n C 81 1 2 dX9_laysShown_81 rfl rfl ?_
        refine z_iconst (v := nI 0) C 82 dX9_laysShown_82 (by decide) ?_
        refine z_iconst (v := nI 1) C 83 dX9_laysShown_83 (by decide) ?_
        refine z_cVv0 C 84 dX9_laysShown_84 cv_X9_240 (c_X9_sets hR (by first | assumption | omega) (by omega)) rfl ⟨by decide, rfl⟩ (by first | assumption | exact Nat.zero_lt_one | omega) rfl rfl (Nat.le_of_ble_eq_true rfl) ⟨by decide, by decide⟩ ⟨rfl, rfl⟩ ⟨by decide, by decide⟩ ?_
        intro S84 L84 R84 p84
        obtain ⟨rfl, rfl, rfl⟩ := p84
        refine z_aload_n C 87 0 1 dX9_laysShown_87 rfl rfl ?_
        refine z_getr C 88 dX9_laysShown_88 gf_X9_20 rfl (by first | assumption | exact Nat.zero_lt_one | omega) (by first | exact hR _ _ _ _ rfl | assumption) ?_
        refine z_iconst (v := nI 2) C 91 dX9_laysShown_91 (by decide) ?_
        refine z_iload_n C 92 1 2 dX9_laysShown_92 rfl rfl ?_
        refine z_iast C 93 dX9_laysShown_93 (by first | rfl | assumption) (by first | assumption | exact Nat.zero_lt_one | omega)  (by first | rfl | assumption) (by decide) (by first | assumption | omega) ?_
        refine z_aload_n C 94 0 1 dX9_laysShown_94 rfl rfl ?_
        refine z_getr C 95 dX9_laysShown_95 gf_X9_20 rfl (by first | assumption | exact Nat.zero_lt_one | omega) (by first | exact hR _ _ _ _ rfl | assumption) ?_
        refine z_iconst (v := nI 3) C 98 dX9_laysShown_98 (by decide) ?_
        refine z_iload_n C 99 1 2 dX9_laysShown_99 rfl rfl ?_
        refine z_iast C 100 dX9_laysShown_100 (by first | rfl | assumption) (by first | assumption | exact Nat.zero_lt_one | omega)  (by first | rfl | assumption) (by decide) (by first | assumption | omega) ?_
        exact ret 101 _ _ _ _ dX9_laysShown_101 (⟨(by simp only [sA_up, sA_sA, sA_s]; first | (rw [fLay_a hfr (by first | exact h28 | simpa only [sA_s] using h28)]; rfl) | (rw [fLay_b hfr (by first | exact h28 | simpa only [sA_s] using h28) (by first | exact h33 | simpa only [sA_s] using h33)]; simp only [fo_set_w _ (show (3 : Nat) ≠ 1 by omega) (show (1 : Nat) < 20 by omega) (show (3 : Nat) < 20 by omega), fo_set_w _ (show (3 : Nat) ≠ 2 by omega) (show (2 : Nat) < 20 by omega) (show (3 : Nat) < 20 by omega)]; rfl) | (rw [fLay_c hfr (by first | exact h28 | simpa only [sA_s] using h28) (by first | exact h33 | simpa only [sA_s] using h33)])), rfl, rfl⟩)
    · refine z_iload_n C 31 2 0 dX9_laysShown_31 rfl rfl ?_
      refine z_iconst (v := nI 5) C 32 dX9_laysShown_32 (by decide) ?_
      first | with_reducible refine z_icmp_neN C 33 80 dX9_laysShown_33 (by decide) (by omega) (by omega) (fun h33 => ?_) (fun h33 => ?_) | refine z_icmp_ne C 33 80 dX9_laysShown_33 (by decide) (fun h33 => ?_) (fun h33 => ?_)
      · refine z_aload_n C 80 0 1 dX9_laysShown_80 rfl rfl ?_
        refine z_iload_n C 81 1 2 dX9_laysShown_81 rfl rfl ?_
        refine z_iconst (v := nI 0) C 82 dX9_laysShown_82 (by decide) ?_
        refine z_iconst (v := nI 1) C 83 dX9_laysShown_83 (by decide) ?_
        refine z_cVv0 C 84 dX9_laysShown_84 cv_X9_240 (c_X9_sets hR (by first | assumption | omega) (by omega)) rfl ⟨by decide, rfl⟩ (by first | assumption | exact Nat.zero_lt_one | omega) rfl rfl (Nat.le_of_ble_eq_true rfl) ⟨by decide, by decide⟩ ⟨rfl, rfl⟩ ⟨by decide, by decide⟩ ?_
        intro S84 L84 R84 p84
        obtain ⟨rfl, rfl, rfl⟩ := p84
        refine z_aload_n C 87 0 1 dX9_laysShown_87 rfl rfl ?_
        refine z_getr C 88 dX9_laysShown_88 gf_X9_20 rfl (by first | assumption | exact Nat.zero_lt_one | omega) (by first | exact hR _ _ _ _ rfl | assumption) ?_
        refine z_iconst (v := nI 2) C 91 dX9_laysShown_91 (by decide) ?_
        refine z_iload_n C 92 1 2 dX9_laysShown_92 rfl rfl ?_
        refine z_iast C 93 dX9_laysShown_93 (by first | rfl | assumption) (by first | assumption | exact Nat.zero_lt_one | omega)  (by first | rfl | assumption) (by decide) (by first | assumption | omega) ?_
        refine z_aload_n C 94 0 1 dX9_laysShown_94 rfl rfl ?_
        refine z_getr C 95 dX9_laysShown_95 gf_X9_20 rfl (by first | assumption | exact Nat.zero_lt_one | omega) (by first | exact hR _ _ _ _ rfl | assumption) ?_
        refine z_iconst (v := nI 3) C 98 dX9_laysShown_98 (by decide) ?_
        refine z_iload_n C 99 1 2 dX9_laysShown_99 rfl rfl ?_
        refine z_iast C 100 dX9_laysShown_100 (by first | rfl | assumption) (by first | assumption | exact Nat.zero_lt_one | omega)  (by first | rfl | assumption) (by decide) (by first | assumption | omega) ?_
        exact ret 101 _ _ _ _ dX9_laysShown_101 (⟨(by simp only [sA_up, sA_sA, sA_s]; first | (rw [fLay_a hfr (by first | exact h28 | simpa only [sA_s] using h28)]; rfl) | (rw [fLay_b hfr (by first | exact h28 | simpa only [sA_s] using h28) (by first | exact h33 | simpa only [sA_s] using h33)]; simp only [fo_set_w _ (show (3 : Nat) ≠ 1 by omega) (show (1 : Nat) < 20 by omega) (show (3 : Nat) < 20 by omega), fo_set_w _ (show (3 : Nat) ≠ 2 by omega) (show (2 : Nat) < 20 by omega) (show (3 : Nat) < 20 by omega)]; rfl) | (rw [fLay_c hfr (by first | exact h28 | simpa only [sA_s] using h28) (by first | exact h33 | simpa only [sA_s] using h33)])), rfl, rfl⟩)
      · refine z_aload_n C 36 0 1 dX9_laysShown_36 rfl rfl ?_
        refine z_iload_n C 37 1 2 dX9_laysShown_37 rfl rfl ?_
        refine z_iconst (v := nI 1) C 38 dX9_laysShown_38 (by decide) ?_
        refine z_aload_n C 39 0 1 dX9_laysShown_39 rfl rfl ?_
        refine z_iload_n C 40 1 2 dX9_laysShown_40 rfl rfl ?_
        refine z_iconst (v := nI 0) C 41 dX9_laysShown_41 (by decide) ?_
        refine z_cVi0 C 42 dX9_laysShown_42 cv_X9_207 (c_X9_toldOf hR (by first | assumption | omega) (by omega)) rfl ⟨by decide, rfl⟩ (by first | assumption | exact Nat.zero_lt_one | omega) rfl rfl (Nat.le_of_ble_eq_true rfl) ⟨by decide, by decide⟩ ⟨rfl, rfl⟩ ⟨by decide, by decide⟩ ?_
        intro r42 S42 L42 R42 p42
        obtain ⟨rfl, rfl, rfl, rfl⟩ := p42
        refine z_cVv0 C 45 dX9_laysShown_45 cv_X9_240 (c_X9_sets hR (by first | assumption | omega) (by omega)) rfl ⟨by decide, rfl⟩ (by first | assumption | exact Nat.zero_lt_one | omega) rfl rfl (Nat.le_of_ble_eq_true rfl) ⟨by decide, by decide⟩ ⟨rfl, rfl⟩ ⟨by decide, by decide⟩ ?_
        intro S45 L45 R45 p45
        obtain ⟨rfl, rfl, rfl⟩ := p45
        refine z_aload_n C 48 0 1 dX9_laysShown_48 rfl rfl ?_
        refine z_iload_n C 49 1 2 dX9_laysShown_49 rfl rfl ?_
        refine z_iconst (v := nI 2) C 50 dX9_laysShown_50 (by decide) ?_
        refine z_aload_n C 51 0 1 dX9_laysShown_51 rfl rfl ?_
        refine z_iload_n C 52 1 2 dX9_laysShown_52 rfl rfl ?_
        refine z_iconst (v := nI 1) C 53 dX9_laysShown_53 (by decide) ?_
        refine z_cVi0 C 54 dX9_laysShown_54 cv_X9_207 (c_X9_toldOf hR (by first | assumption | omega) (by omega)) rfl ⟨by decide, rfl⟩ (by first | assumption | exact Nat.zero_lt_one | omega) rfl rfl (Nat.le_of_ble_eq_true rfl) ⟨by decide, by decide⟩ ⟨rfl, rfl⟩ ⟨by decide, by decide⟩ ?_
        intro r54 S54 L54 R54 p54
        obtain ⟨rfl, rfl, rfl, rfl⟩ := p54
        refine z_cVv0 C 57 dX9_laysShown_57 cv_X9_240 (c_X9_sets hR (by first | assumption | omega) (by omega)) rfl ⟨by decide, rfl⟩ (by first | assumption | exact Nat.zero_lt_one | omega) rfl rfl (Nat.le_of_ble_eq_true rfl) ⟨by decide, by decide⟩ ⟨rfl, rfl⟩ ⟨by decide, by decide⟩ ?_
        intro S57 L57 R57 p57
        obtain ⟨rfl, rfl, rfl⟩ := p57
        refine z_aload_n C 60 0 1 dX9_laysShown_60 rfl rfl ?_
        refine z_iload_n C 61 1 2 dX9_laysShown_61 rfl rfl ?_
        refine z_iconst (v := nI 3) C 62 dX9_laysShown_62 (by decide) ?_
        refine z_iload_n C 63 2 0 dX9_laysShown_63 rfl rfl ?_
        first | with_reducible refine z_if_neB C 64 71 dX9_laysShown_64 (by decide) (fun h64 => ?_) (fun h64 => absurd h64 h28) | with_reducible refine z_if_neN C 64 71 dX9_laysShown_64 (by decide) (by omega) (fun h64 => ?_) (fun h64 => absurd h64 h28) | refine z_if_ne C 64 71 dX9_laysShown_64 (by decide) (fun h64 => ?_) (fun h64 => absurd h64 h28)
        · refine z_aload_n C 71 0 1 dX9_laysShown_71 rfl rfl ?_
          refine z_iload_n C 72 1 2 dX9_laysShown_72 rfl rfl ?_
          refine z_iconst (v := nI 3) C 73 dX9_laysShown_73 (by decide) ?_
          refine z_cVi0 C 74 dX9_laysShown_74 cv_X9_203 (c_X9_of hR (by first | assumption | omega) (by omega)) rfl ⟨by decide, rfl⟩ (by first | assumption | exact Nat.zero_lt_one | omega) rfl rfl (Nat.le_of_ble_eq_true rfl) ⟨by decide, by decide⟩ ⟨rfl, rfl⟩ ⟨by decide, by decide⟩ ?_
          intro r74 S74 L74 R74 p74
          obtain ⟨rfl, rfl, rfl, rfl⟩ := p74
          refine z_cVv0 C 77 dX9_laysShown_77 cv_X9_240 (c_X9_sets hR (by first | assumption | omega) (by omega)) rfl ⟨by decide, rfl⟩ (by first | assumption | exact Nat.zero_lt_one | omega) rfl rfl (Nat.le_of_ble_eq_true rfl) ⟨by decide, by decide⟩ ⟨rfl, rfl⟩ ⟨by decide, by decide⟩ ?_
          intro S77 L77 R77 p77
          obtain ⟨rfl, rfl, rfl⟩ := p77
          refine z_aload_n C 80 0 1 dX9_laysShown_80 rfl rfl ?_
          refine z_iload_n C 81 1 2 dX9_laysShown_81 rfl rfl ?_
          refine z_iconst (v := nI 0) C 82 dX9_laysShown_82 (by decide) ?_
          refine z_iconst (v := nI 1) C 83 dX9_laysShown_83 (by decide) ?_
          refine z_cVv0 C 84 dX9_laysShown_84 cv_X9_240 (c_X9_sets hR (by first | assumption | omega) (by omega)) rfl ⟨by decide, rfl⟩ (by first | assumption | exact Nat.zero_lt_one | omega) rfl rfl (Nat.le_of_ble_eq_true rfl) ⟨by decide, by decide⟩ ⟨rfl, rfl⟩ ⟨by decide, by decide⟩ ?_
          intro S84 L84 R84 p84
          obtain ⟨rfl, rfl, rfl⟩ := p84
          refine z_aload_n C 87 0 1 dX9_laysShown_87 rfl rfl ?_
          refine z_getr C 88 dX9_laysShown_88 gf_X9_20 rfl (by first | assumption | exact Nat.zero_lt_one | omega) (by first | exact hR _ _ _ _ rfl | assumption) ?_
          refine z_iconst (v := nI 2) C 91 dX9_laysShown_91 (by decide) ?_
          refine z_iload_n C 92 1 2 dX9_laysShown_92 rfl rfl ?_
          refine z_iast C 93 dX9_laysShown_93 (by first | rfl | assumption) (by first | assumption | exact Nat.zero_lt_one | omega)  (by first | rfl | assumption) (by decide) (by first | assumption | omega) ?_
          refine z_aload_n C 94 0 1 dX9_laysShown_94 rfl rfl ?_
          refine z_getr C 95 dX9_laysShown_95 gf_X9_20 rfl (by first | assumption | exact Nat.zero_lt_one | omega) (by first | exact hR _ _ _ _ rfl | assumption) ?_
          refine z_iconst (v := nI 3) C 98 dX9_laysShown_98 (by decide) ?_
          refine z_iload_n C 99 1 2 dX9_laysShown_99 rfl rfl ?_
          refine z_iast C 100 dX9_laysShown_100 (by first | rfl | assumption) (by first | assumption | exact Nat.zero_lt_one | omega)  (by first | rfl | assumption) (by decide) (by first | assumption | omega) ?_
          exact ret 101 _ _ _ _ dX9_laysShown_101 (⟨(by simp only [sA_up, sA_sA, sA_s]; first | (rw [fLay_a hfr (by first | exact h28 | simpa only [sA_s] using h28)]; rfl) | (rw [fLay_b hfr (by first | exact h28 | simpa only [sA_s] using h28) (by first | exact h33 | simpa only [sA_s] using h33)]; simp only [fo_set_w _ (show (3 : Nat) ≠ 1 by omega) (show (1 : Nat) < 20 by omega) (show (3 : Nat) < 20 by omega), fo_set_w _ (show (3 : Nat) ≠ 2 by omega) (show (2 : Nat) < 20 by omega) (show (3 : Nat) < 20 by omega)]; rfl) | (rw [fLay_c hfr (by first | exact h28 | simpa only [sA_s] using h28) (by first | exact h33 | simpa only [sA_s] using h33)])), rfl, rfl⟩)
  · obtain ⟨q, hq, hqe⟩ := hI.1.resolve_left h7
    have hfr := fRests_s (by omega) hqe
    refine z_aload_n C 10 0 0 dX9_laysShown_10 rfl rfl ?_
    refine z_aload_n C 11 0 0 dX9_laysShown_11 rfl rfl ?_
    refine z_getr C 12 dX9_laysShown_12 gf_X9_20 rfl (by first | assumption | exact Nat.zero_lt_one | omega) (by first | exact hR _ _ _ _ rfl | assumption) ?_
    refine z_iconst (v := nI 2) C 15 dX9_laysShown_15 (by decide) ?_
    refine z_iald C 16 dX9_laysShown_16 (by first | rfl | assumption) (by first | assumption | exact Nat.zero_lt_one | omega) (by first | rfl | assumption) (by decide) (by first | assumption | omega) ?_
    rw [hqe]
    refine z_cVv0 C 17 dX9_laysShown_17 cv_X9_260 (c_X9_rests hR (by first | assumption | omega)) rfl ⟨by decide, rfl⟩ (by first | assumption | exact Nat.zero_lt_one | omega) rfl rfl (Nat.le_of_ble_eq_true rfl) ⟨by decide, by decide⟩ ⟨rfl, rfl⟩ ⟨by decide, by decide⟩ ?_
    intro S17 L17 R17 p17
    obtain ⟨rfl, rfl, rfl⟩ := p17
    refine z_aload_n C 20 0 0 dX9_laysShown_20 rfl rfl ?_
    refine z_iload_n C 21 1 1 dX9_laysShown_21 rfl rfl ?_
    refine z_iconst (v := nI 0) C 22 dX9_laysShown_22 (by decide) ?_
    refine z_cVi0 C 23 dX9_laysShown_23 cv_X9_203 (c_X9_of hR (by first | assumption | omega) (by omega)) rfl ⟨by decide, rfl⟩ (by first | assumption | exact Nat.zero_lt_one | omega) rfl rfl (Nat.le_of_ble_eq_true rfl) ⟨by decide, by decide⟩ ⟨rfl, rfl⟩ ⟨by decide, by decide⟩ ?_
    intro r23 S23 L23 R23 p23
    obtain ⟨rfl, rfl, rfl, rfl⟩ := p23
    refine z_istore_n C 26 2 [(2, _), (0, _), (1, _)] dX9_laysShown_26 rfl (by decide) rfl ?_
    refine z_iload_n C 27 2 0 dX9_laysShown_27 rfl rfl ?_
    first | with_reducible refine z_if_eqB C 28 36 dX9_laysShown_28 (by decide) (fun h28 => ?_) (fun h28 => ?_) | with_reducible refine z_if_eqN C 28 36 dX9_laysShown_28 (by decide) (by omega) (fun h28 => ?_) (fun h28 => ?_) | refine z_if_eq C 28 36 dX9_laysShown_28 (by decide) (fun h28 => ?_) (fun h28 => ?_)
    · refine z_aload_n C 36 0 1 dX9_laysShown_36 rfl rfl ?_
      refine z_iload_n C 37 1 2 dX9_laysShown_37 rfl rfl ?_
      refine z_iconst (v := nI 1) C 38 dX9_laysShown_38 (by decide) ?_
      refine z_aload_n C 39 0 1 dX9_laysShown_39 rfl rfl ?_
      refine z_iload_n C 40 1 2 dX9_laysShown_40 rfl rfl ?_
      refine z_iconst (v := nI 0) C 41 dX9_laysShown_41 (by decide) ?_
      refine z_cVi0 C 42 dX9_laysShown_42 cv_X9_207 (c_X9_toldOf hR (by first | assumption | omega) (by omega)) rfl ⟨by decide, rfl⟩ (by first | assumption | exact Nat.zero_lt_one | omega) rfl rfl (Nat.le_of_ble_eq_true rfl) ⟨by decide, by decide⟩ ⟨rfl, rfl⟩ ⟨by decide, by decide⟩ ?_
      intro r42 S42 L42 R42 p42
      obtain ⟨rfl, rfl, rfl, rfl⟩ := p42
      refine z_cVv0 C 45 dX9_laysShown_45 cv_X9_240 (c_X9_sets hR (by first | assumption | omega) (by omega)) rfl ⟨by decide, rfl⟩ (by first | assumption | exact Nat.zero_lt_one | omega) rfl rfl (Nat.le_of_ble_eq_true rfl) ⟨by decide, by decide⟩ ⟨rfl, rfl⟩ ⟨by decide, by decide⟩ ?_
      intro S45 L45 R45 p45
      obtain ⟨rfl, rfl, rfl⟩ := p45
      refine z_aload_n C 48 0 1 dX9_laysShown_48 rfl rfl ?_
      refine z_iload_n C 49 1 2 dX9_laysShown_49 rfl rfl ?_
      refine z_iconst (v := nI 2) C 50 dX9_laysShown_50 (by decide) ?_
      refine z_aload_n C 51 0 1 dX9_laysShown_51 rfl rfl ?_
      refine z_iload_n C 52 1 2 dX9_laysShown_52 rfl rfl ?_
      refine z_iconst (v := nI 1) C 53 dX9_laysShown_53 (by decide) ?_
      refine z_cVi0 C 54 dX9_laysShown_54 cv_X9_207 (c_X9_toldOf hR (by first | assumption | omega) (by omega)) rfl ⟨by decide, rfl⟩ (by first | assumption | exact Nat.zero_lt_one | omega) rfl rfl (Nat.le_of_ble_eq_true rfl) ⟨by decide, by decide⟩ ⟨rfl, rfl⟩ ⟨by decide, by decide⟩ ?_
      intro r54 S54 L54 R54 p54
      obtain ⟨rfl, rfl, rfl, rfl⟩ := p54
      refine z_cVv0 C 57 dX9_laysShown_57 cv_X9_240 (c_X9_sets hR (by first | assumption | omega) (by omega)) rfl ⟨by decide, rfl⟩ (by first | assumption | exact Nat.zero_lt_one | omega) rfl rfl (Nat.le_of_ble_eq_true rfl) ⟨by decide, by decide⟩ ⟨rfl, rfl⟩ ⟨by decide, by decide⟩ ?_
      intro S57 L57 R57 p57
      obtain ⟨rfl, rfl, rfl⟩ := p57
      refine z_aload_n C 60 0 1 dX9_laysShown_60 rfl rfl ?_
      refine z_iload_n C 61 1 2 dX9_laysShown_61 rfl rfl ?_
      refine z_iconst (v := nI 3) C 62 dX9_laysShown_62 (by decide) ?_
      refine z_iload_n C 63 2 0 dX9_laysShown_63 rfl rfl ?_
      first | with_reducible refine z_if_neB C 64 71 dX9_laysShown_64 (by decide) (fun h64 => absurd h28 h64) (fun h64 => ?_) | with_reducible refine z_if_neN C 64 71 dX9_laysShown_64 (by decide) (by omega) (fun h64 => absurd h28 h64) (fun h64 => ?_) | refine z_if_ne C 64 71 dX9_laysShown_64 (by decide) (fun h64 => absurd h28 h64) (fun h64 => ?_)
      · refine z_iconst (v := nI 0) C 67 dX9_laysShown_67 (by decide) ?_
        refine z_goto C 68 77 dX9_laysShown_68 (by decide) ?_
        refine z_cVv0 C 77 dX9_laysShown_77 cv_X9_240 (c_X9_sets hR (by first | assumption | omega) (by omega)) rfl ⟨by decide, rfl⟩ (by first | assumption | exact Nat.zero_lt_one | omega) rfl rfl (Nat.le_of_ble_eq_true rfl) ⟨by decide, by decide⟩ ⟨rfl, rfl⟩ ⟨by decide, by decide⟩ ?_
        intro S77 L77 R77 p77
        obtain ⟨rfl, rfl, rfl⟩ := p77
        refine z_aload_n C 80 0 1 dX9_laysShown_80 rfl rfl ?_
        refine z_iload_n C 81 1 2 dX9_laysShown_81 rfl rfl ?_
        refine z_iconst (v := nI 0) C 82 dX9_laysShown_82 (by decide) ?_
        refine z_iconst (v := nI 1) C 83 dX9_laysShown_83 (by decide) ?_
        refine z_cVv0 C 84 dX9_laysShown_84 cv_X9_240 (c_X9_sets hR (by first | assumption | omega) (by omega)) rfl ⟨by decide, rfl⟩ (by first | assumption | exact Nat.zero_lt_one | omega) rfl rfl (Nat.le_of_ble_eq_true rfl) ⟨by decide, by decide⟩ ⟨rfl, rfl⟩ ⟨by decide, by decide⟩ ?_
        intro S84 L84 R84 p84
        obtain ⟨rfl, rfl, rfl⟩ := p84
        refine z_aload_n C 87 0 1 dX9_laysShown_87 rfl rfl ?_
        refine z_getr C 88 dX9_laysShown_88 gf_X9_20 rfl (by first | assumption | exact Nat.zero_lt_one | omega) (by first | exact hR _ _ _ _ rfl | assumption) ?_
        refine z_iconst (v := nI 2) C 91 dX9_laysShown_91 (by decide) ?_
        refine z_iload_n C 92 1 2 dX9_laysShown_92 rfl rfl ?_
        refine z_iast C 93 dX9_laysShown_93 (by first | rfl | assumption) (by first | assumption | exact Nat.zero_lt_one | omega)  (by first | rfl | assumption) (by decide) (by first | assumption | omega) ?_
        refine z_aload_n C 94 0 1 dX9_laysShown_94 rfl rfl ?_
        refine z_getr C 95 dX9_laysShown_95 gf_X9_20 rfl (by first | assumption | exact Nat.zero_lt_one | omega) (by first | exact hR _ _ _ _ rfl | assumption) ?_
        refine z_iconst (v := nI 3) C 98 dX9_laysShown_98 (by decide) ?_
        refine z_iload_n C 99 1 2 dX9_laysShown_99 rfl rfl ?_
        refine z_iast C 100 dX9_laysShown_100 (by first | rfl | assumption) (by first | assumption | exact Nat.zero_lt_one | omega)  (by first | rfl | assumption) (by decide) (by first | assumption | omega) ?_
        exact ret 101 _ _ _ _ dX9_laysShown_101 (⟨(by simp only [sA_up, sA_sA, sA_s]; first | (rw [fLay_a hfr (by first | exact h28 | simpa only [sA_s] using h28)]; rfl) | (rw [fLay_b hfr (by first | exact h28 | simpa only [sA_s] using h28) (by first | exact h33 | simpa only [sA_s] using h33)]; simp only [fo_set_w _ (show (3 : Nat) ≠ 1 by omega) (show (1 : Nat) < 20 by omega) (show (3 : Nat) < 20 by omega), fo_set_w _ (show (3 : Nat) ≠ 2 by omega) (show (2 : Nat) < 20 by omega) (show (3 : Nat) < 20 by omega)]; rfl) | (rw [fLay_c hfr (by first | exact h28 | simpa only [sA_s] using h28) (by first | exact h33 | simpa only [sA_s] using h33)])), rfl, rfl⟩)
    · refine z_iload_n C 31 2 0 dX9_laysShown_31 rfl rfl ?_
      refine z_iconst (v := nI 5) C 32 dX9_laysShown_32 (by decide) ?_
      first | with_reducible refine z_icmp_neN C 33 80 dX9_laysShown_33 (by decide) (by omega) (by omega) (fun h33 => ?_) (fun h33 => ?_) | refine z_icmp_ne C 33 80 dX9_laysShown_33 (by decide) (fun h33 => ?_) (fun h33 => ?_)
      · refine z_aload_n C 80 0 1 dX9_laysShown_80 rfl rfl ?_
        refine z_iload_n C 81 1 2 dX9_laysShown_81 rfl rfl ?_
        refine z_iconst (v := nI 0) C 82 dX9_laysShown_82 (by decide) ?_
        refine z_iconst (v := nI 1) C 83 dX9_laysShown_83 (by decide) ?_
        refine z_cVv0 C 84 dX9_laysShown_84 cv_X9_240 (c_X9_sets hR (by first | assumption | omega) (by omega)) rfl ⟨by decide, rfl⟩ (by first | assumption | exact Nat.zero_lt_one | omega) rfl rfl (Nat.le_of_ble_eq_true rfl) ⟨by decide, by decide⟩ ⟨rfl, rfl⟩ ⟨by decide, by decide⟩ ?_
        intro S84 L84 R84 p84
        obtain ⟨rfl, rfl, rfl⟩ := p84
        refine z_aload_n C 87 0 1 dX9_laysShown_87 rfl rfl ?_
        refine z_getr C 88 dX9_laysShown_88 gf_X9_20 rfl (by first | assumption | exact Nat.zero_lt_one | omega) (by first | exact hR _ _ _ _ rfl | assumption) ?_
        refine z_iconst (v := nI 2) C 91 dX9_laysShown_91 (by decide) ?_
        refine z_iload_n C 92 1 2 dX9_laysShown_92 rfl rfl ?_
        refine z_iast C 93 dX9_laysShown_93 (by first | rfl | assumption) (by first | assumption | exact Nat.zero_lt_one | omega)  (by first | rfl | assumption) (by decide) (by first | assumption | omega) ?_
        refine z_aload_n C 94 0 1 dX9_laysShown_94 rfl rfl ?_
        refine z_getr C 95 dX9_laysShown_95 gf_X9_20 rfl (by first | assumption | exact Nat.zero_lt_one | omega) (by first | exact hR _ _ _ _ rfl | assumption) ?_
        refine z_iconst (v := nI 3) C 98 dX9_laysShown_98 (by decide) ?_
        refine z_iload_n C 99 1 2 dX9_laysShown_99 rfl rfl ?_
        refine z_iast C 100 dX9_laysShown_100 (by first | rfl | assumption) (by first | assumption | exact Nat.zero_lt_one | omega)  (by first | rfl | assumption) (by decide) (by first | assumption | omega) ?_
        exact ret 101 _ _ _ _ dX9_laysShown_101 (⟨(by simp only [sA_up, sA_sA, sA_s]; first | (rw [fLay_a hfr (by first | exact h28 | simpa only [sA_s] using h28)]; rfl) | (rw [fLay_b hfr (by first | exact h28 | simpa only [sA_s] using h28) (by first | exact h33 | simpa only [sA_s] using h33)]; simp only [fo_set_w _ (show (3 : Nat) ≠ 1 by omega) (show (1 : Nat) < 20 by omega) (show (3 : Nat) < 20 by omega), fo_set_w _ (show (3 : Nat) ≠ 2 by omega) (show (2 : Nat) < 20 by omega) (show (3 : Nat) < 20 by omega)]; rfl) | (rw [fLay_c hfr (by first | exact h28 | simpa only [sA_s] using h28) (by first | exact h33 | simpa only [sA_s] using h33)])), rfl, rfl⟩)
      · refine z_aload_n C 36 0 1 dX9_laysShown_36 rfl rfl ?_
        refine z_iload_n C 37 1 2 dX9_laysShown_37 rfl rfl ?_
        refine z_iconst (v := nI 1) C 38 dX9_laysShown_38 (by decide) ?_
        refine z_aload_n C 39 0 1 dX9_laysShown_39 rfl rfl ?_
        refine z_iload_n C 40 1 2 dX9_laysShown_40 rfl rfl ?_
        refine z_iconst (v := nI 0) C 41 dX9_laysShown_41 (by decide) ?_
        refine z_cVi0 C 42 dX9_laysShown_42 cv_X9_207 (c_X9_toldOf hR (by first | assumption | omega) (by omega)) rfl ⟨by decide, rfl⟩ (by first | assumption | exact Nat.zero_lt_one | omega) rfl rfl (Nat.le_of_ble_eq_true rfl) ⟨by decide, by decide⟩ ⟨rfl, rfl⟩ ⟨by decide, by decide⟩ ?_
        intro r42 S42 L42 R42 p42
        obtain ⟨rfl, rfl, rfl, rfl⟩ := p42
        refine z_cVv0 C 45 dX9_laysShown_45 cv_X9_240 (c_X9_sets hR (by first | assumption | omega) (by omega)) rfl ⟨by decide, rfl⟩ (by first | assumption | exact Nat.zero_lt_one | omega) rfl rfl (Nat.le_of_ble_eq_true rfl) ⟨by decide, by decide⟩ ⟨rfl, rfl⟩ ⟨by decide, by decide⟩ ?_
        intro S45 L45 R45 p45
        obtain ⟨rfl, rfl, rfl⟩ := p45
        refine z_aload_n C 48 0 1 dX9_laysShown_48 rfl rfl ?_
        refine z_iload_n C 49 1 2 dX9_laysShown_49 rfl rfl ?_
        refine z_iconst (v := nI 2) C 50 dX9_laysShown_50 (by decide) ?_
        refine z_aload_n C 51 0 1 dX9_laysShown_51 rfl rfl ?_
        refine z_iload_n C 52 1 2 dX9_laysShown_52 rfl rfl ?_
        refine z_iconst (v := nI 1) C 53 dX9_laysShown_53 (by decide) ?_
        refine z_cVi0 C 54 dX9_laysShown_54 cv_X9_207 (c_X9_toldOf hR (by first | assumption | omega) (by omega)) rfl ⟨by decide, rfl⟩ (by first | assumption | exact Nat.zero_lt_one | omega) rfl rfl (Nat.le_of_ble_eq_true rfl) ⟨by decide, by decide⟩ ⟨rfl, rfl⟩ ⟨by decide, by decide⟩ ?_
        intro r54 S54 L54 R54 p54
        obtain ⟨rfl, rfl, rfl, rfl⟩ := p54
        refine z_cVv0 C 57 dX9_laysShown_57 cv_X9_240 (c_X9_sets hR (by first | assumption | omega) (by omega)) rfl ⟨by decide, rfl⟩ (by first | assumption | exact Nat.zero_lt_one | omega) rfl rfl (Nat.le_of_ble_eq_true rfl) ⟨by decide, by decide⟩ ⟨rfl, rfl⟩ ⟨by decide, by decide⟩ ?_
        intro S57 L57 R57 p57
        obtain ⟨rfl, rfl, rfl⟩ := p57
        refine z_aload_n C 60 0 1 dX9_laysShown_60 rfl rfl ?_
        refine z_iload_n C 61 1 2 dX9_laysShown_61 rfl rfl ?_
        refine z_iconst (v := nI 3) C 62 dX9_laysShown_62 (by decide) ?_
        refine z_iload_n C 63 2 0 dX9_laysShown_63 rfl rfl ?_
        first | with_reducible refine z_if_neB C 64 71 dX9_laysShown_64 (by decide) (fun h64 => ?_) (fun h64 => absurd h64 h28) | with_reducible refine z_if_neN C 64 71 dX9_laysShown_64 (by decide) (by omega) (fun h64 => ?_) (fun h64 => absurd h64 h28) | refine z_if_ne C 64 71 dX9_laysShown_64 (by decide) (fun h64 => ?_) (fun h64 => absurd h64 h28)
        · refine z_aload_n C 71 0 1 dX9_laysShown_71 rfl rfl ?_
          refine z_iload_n C 72 1 2 dX9_laysShown_72 rfl rfl ?_
          refine z_iconst (v := nI 3) C 73 dX9_laysShown_73 (by decide) ?_
          refine z_cVi0 C 74 dX9_laysShown_74 cv_X9_203 (c_X9_of hR (by first | assumption | omega) (by omega)) rfl ⟨by decide, rfl⟩ (by first | assumption | exact Nat.zero_lt_one | omega) rfl rfl (Nat.le_of_ble_eq_true rfl) ⟨by decide, by decide⟩ ⟨rfl, rfl⟩ ⟨by decide, by decide⟩ ?_
          intro r74 S74 L74 R74 p74
          obtain ⟨rfl, rfl, rfl, rfl⟩ := p74
          refine z_cVv0 C 77 dX9_laysShown_77 cv_X9_240 (c_X9_sets hR (by first | assumption | omega) (by omega)) rfl ⟨by decide, rfl⟩ (by first | assumption | exact Nat.zero_lt_one | omega) rfl rfl (Nat.le_of_ble_eq_true rfl) ⟨by decide, by decide⟩ ⟨rfl, rfl⟩ ⟨by decide, by decide⟩ ?_
          intro S77 L77 R77 p77
          obtain ⟨rfl, rfl, rfl⟩ := p77
          refine z_aload_n C 80 0 1 dX9_laysShown_80 rfl rfl ?_
          refine z_iload_n C 81 1 2 dX9_laysShown_81 rfl rfl ?_
          refine z_iconst (v := nI 0) C 82 dX9_laysShown_82 (by decide) ?_
          refine z_iconst (v := nI 1) C 83 dX9_laysShown_83 (by decide) ?_
          refine z_cVv0 C 84 dX9_laysShown_84 cv_X9_240 (c_X9_sets hR (by first | assumption | omega) (by omega)) rfl ⟨by decide, rfl⟩ (by first | assumption | exact Nat.zero_lt_one | omega) rfl rfl (Nat.le_of_ble_eq_true rfl) ⟨by decide, by decide⟩ ⟨rfl, rfl⟩ ⟨by decide, by decide⟩ ?_
          intro S84 L84 R84 p84
          obtain ⟨rfl, rfl, rfl⟩ := p84
          refine z_aload_n C 87 0 1 dX9_laysShown_87 rfl rfl ?_
          refine z_getr C 88 dX9_laysShown_88 gf_X9_20 rfl (by first | assumption | exact Nat.zero_lt_one | omega) (by first | exact hR _ _ _ _ rfl | assumption) ?_
          refine z_iconst (v := nI 2) C 91 dX9_laysShown_91 (by decide) ?_
          refine z_iload_n C 92 1 2 dX9_laysShown_92 rfl rfl ?_
          refine z_iast C 93 dX9_laysShown_93 (by first | rfl | assumption) (by first | assumption | exact Nat.zero_lt_one | omega)  (by first | rfl | assumption) (by decide) (by first | assumption | omega) ?_
          refine z_aload_n C 94 0 1 dX9_laysShown_94 rfl rfl ?_
          refine z_getr C 95 dX9_laysShown_95 gf_X9_20 rfl (by first | assumption | exact Nat.zero_lt_one | omega) (by first | exact hR _ _ _ _ rfl | assumption) ?_
          refine z_iconst (v := nI 3) C 98 dX9_laysShown_98 (by decide) ?_
          refine z_iload_n C 99 1 2 dX9_laysShown_99 rfl rfl ?_
          refine z_iast C 100 dX9_laysShown_100 (by first | rfl | assumption) (by first | assumption | exact Nat.zero_lt_one | omega)  (by first | rfl | assumption) (by decide) (by first | assumption | omega) ?_
          exact ret 101 _ _ _ _ dX9_laysShown_101 (⟨(by simp only [sA_up, sA_sA, sA_s]; first | (rw [fLay_a hfr (by first | exact h28 | simpa only [sA_s] using h28)]; rfl) | (rw [fLay_b hfr (by first | exact h28 | simpa only [sA_s] using h28) (by first | exact h33 | simpa only [sA_s] using h33)]; simp only [fo_set_w _ (show (3 : Nat) ≠ 1 by omega) (show (1 : Nat) < 20 by omega) (show (3 : Nat) < 20 by omega), fo_set_w _ (show (3 : Nat) ≠ 2 by omega) (show (2 : Nat) < 20 by omega) (show (3 : Nat) < 20 by omega)]; rfl) | (rw [fLay_c hfr (by first | exact h28 | simpa only [sA_s] using h28) (by first | exact h33 | simpa only [sA_s] using h33)])), rfl, rfl⟩)
def rm_X9_countsHabits : Room := { frames := 1, cells := 0, slots := 0, locals := 23 }
set_option maxHeartbeats 4000000 in
set_option maxRecDepth 100000 in
theorem c_X9_countsHabits {l : Launch} {G : mG} {ad : mA} {S : mS} {L : mL} {R : mR} {n p : Nat} {b0 : Int32} (hR : mlk R) (hI : rI (S 44 0) n) (hp : p < 10) (hb : b0 = -1 ∨ ∃ b, b < 10 ∧ b0 = nI b) : Kv l yX9_countsHabits cX9_countsHabits 4 rm_X9_countsHabits G ad mdm [.ref (ad 40 0), .int (nI p), .int b0] S L R (fun S2 L2 R2 => sA S 44 (fHab (S 44 0) p b0) = S2 ∧ L = L2 ∧ R = R2) := by
  refine Kv.of RX9 (by decide) rfl (Nat.le_of_ble_eq_true rfl) ?_
  intro X hXl hXG C ret
  subst hXl; subst hXG
  change Z X 4 ad mdm S L R 0 0 0 [(0, _), (1, _), (2, _)] []
  refine z_aload_n C 0 0 0 dX9_countsHabits_0 rfl rfl ?_
  refine z_iload_n C 1 1 1 dX9_countsHabits_1 rfl rfl ?_
  refine z_bipush (v := nI 9) C 2 dX9_countsHabits_2 (by decide +kernel) ?_
  refine z_cVi0 C 4 dX9_countsHabits_4 cv_X9_203 (c_X9_of hR (by first | assumption | omega) (by omega)) rfl ⟨by decide, rfl⟩ (by first | assumption | exact Nat.zero_lt_one | omega) rfl rfl (Nat.le_of_ble_eq_true rfl) ⟨by decide, by decide⟩ ⟨rfl, rfl⟩ ⟨by decide, by decide⟩ ?_
  intro r4 S4 L4 R4 p4
  obtain ⟨rfl, rfl, rfl, rfl⟩ := p4
  refine z_iconst (v := nI 1) C 7 dX9_countsHabits_7 (by decide) ?_
  first | with_reducible refine z_icmp_neN C 8 108 dX9_countsHabits_8 (by decide) (by omega) (by omega) (fun h8 => ?_) (fun h8 => ?_) | refine z_icmp_ne C 8 108 dX9_countsHabits_8 (by decide) (fun h8 => ?_) (fun h8 => ?_)
  · refine z_mem (sA S 44 (fGap (S 44 0) p)) (by first | (rw [show fGap (S 44 0) p = S 44 0 from if_neg h8, sA_id]; done) | (simp only [sA_sA, sA_s]; rw [← fGap_b h8 h19 hg hg3]; done) | (simp only [sA_sA, sA_s]; subst hgm; rw [← fGap_c h8 h19])) ?_
    refine z_aload_n C 108 0 0 dX9_countsHabits_108 rfl rfl ?_
    refine z_iload_n C 109 1 1 dX9_countsHabits_109 rfl rfl ?_
    refine z_bipush (v := nI 9) C 110 dX9_countsHabits_110 (by decide +kernel) ?_
    refine z_iconst (v := nI 1) C 112 dX9_countsHabits_112 (by decide) ?_
    refine z_cVv0 C 113 dX9_countsHabits_113 cv_X9_240 (c_X9_sets hR (by first | assumption | omega) (by omega)) rfl ⟨by decide, rfl⟩ (by first | assumption | exact Nat.zero_lt_one | omega) rfl rfl (Nat.le_of_ble_eq_true rfl) ⟨by decide, by decide⟩ ⟨rfl, rfl⟩ ⟨by decide, by decide⟩ ?_
    intro S113 L113 R113 p113
    obtain ⟨rfl, rfl, rfl⟩ := p113
    refine z_iload_n C 116 2 2 dX9_countsHabits_116 rfl rfl ?_
    refine z_iconst (v := (-1)) C 117 dX9_countsHabits_117 (by decide) ?_
    first | with_reducible refine z_icmp_eqN C 118 145 dX9_countsHabits_118 (by decide) (by omega) (by omega) (fun h118 => ?_) (fun h118 => ?_) | refine z_icmp_eq C 118 145 dX9_countsHabits_118 (by decide) (fun h118 => ?_) (fun h118 => ?_)
    · exact ret 145 _ _ _ _ dX9_countsHabits_145 (⟨(by simp only [sA_up, sA_sA, sA_s]; first | (rw [fHab_y (by omega) (by omega) h123]; done) | (rw [fHab_n (Or.inl h118)]; done) | rw [fHab_n (Or.inr (by rw [h123]))]), rfl, rfl⟩)
    · obtain ⟨b, hb10, rfl⟩ := hb.resolve_left h118
      refine z_iload_n C 121 2 2 dX9_countsHabits_121 rfl rfl ?_
      refine z_iload_n C 122 1 1 dX9_countsHabits_122 rfl rfl ?_
      first | with_reducible refine z_icmp_eqN C 123 145 dX9_countsHabits_123 (by decide) (by omega) (by omega) (fun h123 => ?_) (fun h123 => ?_) | refine z_icmp_eq C 123 145 dX9_countsHabits_123 (by decide) (fun h123 => ?_) (fun h123 => ?_)
      · exact ret 145 _ _ _ _ dX9_countsHabits_145 (⟨(by simp only [sA_up, sA_sA, sA_s]; first | (rw [fHab_y (by omega) (by omega) h123]; done) | (rw [fHab_n (Or.inl h118)]; done) | rw [fHab_n (Or.inr (by rw [h123]))]), rfl, rfl⟩)
      · refine z_aload_n C 126 0 0 dX9_countsHabits_126 rfl rfl ?_
        refine z_getr C 127 dX9_countsHabits_127 gf_X9_20 rfl (by first | assumption | exact Nat.zero_lt_one | omega) (by first | exact hR _ _ _ _ rfl | assumption) ?_
        refine z_sipush (v := nI 206) C 130 dX9_countsHabits_130 (by decide +kernel) ?_
        refine z_bipush (v := nI 10) C 133 dX9_countsHabits_133 (by decide +kernel) ?_
        refine z_iload_n C 135 2 2 dX9_countsHabits_135 rfl rfl ?_
        first | with_reducible refine z_imulN C 136 dX9_countsHabits_136 ?_ | refine z_imul C 136 dX9_countsHabits_136 ?_
        first | with_reducible refine z_iaddN C 137 dX9_countsHabits_137 ?_ | refine z_iadd C 137 dX9_countsHabits_137 ?_
        refine z_iload_n C 138 1 1 dX9_countsHabits_138 rfl rfl ?_
        first | with_reducible refine z_iaddN C 139 dX9_countsHabits_139 ?_ | refine z_iadd C 139 dX9_countsHabits_139 ?_
        refine z_dup2 C 140 dX9_countsHabits_140 rfl rfl ?_
        refine z_iald C 141 dX9_countsHabits_141 (by first | rfl | assumption) (by first | assumption | exact Nat.zero_lt_one | omega) (by first | rfl | assumption) (by decide) (by first | assumption | omega) ?_
        refine z_iconst (v := nI 1) C 142 dX9_countsHabits_142 (by decide) ?_
        first | with_reducible refine z_iaddN C 143 dX9_countsHabits_143 ?_ | refine z_iadd C 143 dX9_countsHabits_143 ?_
        refine z_iast C 144 dX9_countsHabits_144 (by first | rfl | assumption) (by first | assumption | exact Nat.zero_lt_one | omega)  (by first | rfl | assumption) (by decide) (by first | assumption | omega) ?_
        exact ret 145 _ _ _ _ dX9_countsHabits_145 (⟨(by simp only [sA_up, sA_sA, sA_s]; first | (rw [fHab_y (by omega) (by omega) h123]; done) | (rw [fHab_n (Or.inl h118)]; done) | rw [fHab_n (Or.inr (by rw [h123]))]), rfl, rfl⟩)
  · refine z_aload_n C 11 0 0 dX9_countsHabits_11 rfl rfl ?_
    refine z_iload_n C 12 1 1 dX9_countsHabits_12 rfl rfl ?_
    refine z_bipush (v := nI 10) C 13 dX9_countsHabits_13 (by decide +kernel) ?_
    refine z_cVi0 C 15 dX9_countsHabits_15 cv_X9_203 (c_X9_of hR (by first | assumption | omega) (by omega)) rfl ⟨by decide, rfl⟩ (by first | assumption | exact Nat.zero_lt_one | omega) rfl rfl (Nat.le_of_ble_eq_true rfl) ⟨by decide, by decide⟩ ⟨rfl, rfl⟩ ⟨by decide, by decide⟩ ?_
    intro r15 S15 L15 R15 p15
    obtain ⟨rfl, rfl, rfl, rfl⟩ := p15
    refine z_iconst (v := nI 4) C 18 dX9_countsHabits_18 (by decide) ?_
    first | with_reducible refine z_icmp_neN C 19 63 dX9_countsHabits_19 (by decide) (by omega) (by omega) (fun h19 => ?_) (fun h19 => ?_) | refine z_icmp_ne C 19 63 dX9_countsHabits_19 (by decide) (fun h19 => ?_) (fun h19 => ?_)
    · obtain ⟨g, hg4, hg⟩ := hI.2.2.2.2.1 p hp
      have hg3 : g ≤ 3 := by
        rcases (show g ≤ 3 ∨ g = 4 by omega) with h | h
        · exact h
        · rw [h] at hg; exact absurd hg h19
      refine z_aload_n C 63 0 0 dX9_countsHabits_63 rfl rfl ?_
      refine z_iload_n C 64 1 1 dX9_countsHabits_64 rfl rfl ?_
      refine z_bipush (v := nI 11) C 65 dX9_countsHabits_65 (by decide +kernel) ?_
      refine z_aload_n C 67 0 0 dX9_countsHabits_67 rfl rfl ?_
      refine z_iload_n C 68 1 1 dX9_countsHabits_68 rfl rfl ?_
      refine z_bipush (v := nI 10) C 69 dX9_countsHabits_69 (by decide +kernel) ?_
      refine z_cVi0 C 71 dX9_countsHabits_71 cv_X9_203 (c_X9_of hR (by first | assumption | omega) (by omega)) rfl ⟨by decide, rfl⟩ (by first | assumption | exact Nat.zero_lt_one | omega) rfl rfl (Nat.le_of_ble_eq_true rfl) ⟨by decide, by decide⟩ ⟨rfl, rfl⟩ ⟨by decide, by decide⟩ ?_
      intro r71 S71 L71 R71 p71
      obtain ⟨rfl, rfl, rfl, rfl⟩ := p71
      rw [hg]
      first | with_reducible refine z_iaddN C 74 dX9_countsHabits_74 ?_ | refine z_iadd C 74 dX9_countsHabits_74 ?_
      refine z_aload_n C 75 0 0 dX9_countsHabits_75 rfl rfl ?_
      refine z_getr C 76 dX9_countsHabits_76 gf_X9_20 rfl (by first | assumption | exact Nat.zero_lt_one | omega) (by first | exact hR _ _ _ _ rfl | assumption) ?_
      refine z_iconst (v := nI 1) C 79 dX9_countsHabits_79 (by decide) ?_
      refine z_iald C 80 dX9_countsHabits_80 (by first | rfl | assumption) (by first | assumption | exact Nat.zero_lt_one | omega) (by first | rfl | assumption) (by decide) (by first | assumption | omega) ?_
      refine z_aload_n C 81 0 0 dX9_countsHabits_81 rfl rfl ?_
      refine z_iload_n C 82 1 1 dX9_countsHabits_82 rfl rfl ?_
      refine z_bipush (v := nI 8) C 83 dX9_countsHabits_83 (by decide +kernel) ?_
      refine z_cVi0 C 85 dX9_countsHabits_85 cv_X9_203 (c_X9_of hR (by first | assumption | omega) (by omega)) rfl ⟨by decide, rfl⟩ (by first | assumption | exact Nat.zero_lt_one | omega) rfl rfl (Nat.le_of_ble_eq_true rfl) ⟨by decide, by decide⟩ ⟨rfl, rfl⟩ ⟨by decide, by decide⟩ ?_
      intro r85 S85 L85 R85 p85
      obtain ⟨rfl, rfl, rfl, rfl⟩ := p85
      first | with_reducible refine z_isubN C 88 dX9_countsHabits_88 (by omega) ?_ | refine z_isub C 88 dX9_countsHabits_88 ?_
      refine z_cVv0 C 89 dX9_countsHabits_89 cv_X9_240 (c_X9_sets hR (by first | assumption | omega) (by omega)) rfl ⟨by decide, rfl⟩ (by first | assumption | exact Nat.zero_lt_one | omega) rfl rfl (Nat.le_of_ble_eq_true rfl) ⟨by decide, by decide⟩ ⟨rfl, rfl⟩ ⟨by decide, by decide⟩ ?_
      intro S89 L89 R89 p89
      obtain ⟨rfl, rfl, rfl⟩ := p89
      refine z_aload_n C 92 0 0 dX9_countsHabits_92 rfl rfl ?_
      refine z_iload_n C 93 1 1 dX9_countsHabits_93 rfl rfl ?_
      refine z_bipush (v := nI 10) C 94 dX9_countsHabits_94 (by decide +kernel) ?_
      refine z_aload_n C 96 0 0 dX9_countsHabits_96 rfl rfl ?_
      refine z_iload_n C 97 1 1 dX9_countsHabits_97 rfl rfl ?_
      refine z_bipush (v := nI 10) C 98 dX9_countsHabits_98 (by decide +kernel) ?_
      refine z_cVi0 C 100 dX9_countsHabits_100 cv_X9_203 (c_X9_of hR (by first | assumption | omega) (by omega)) rfl ⟨by decide, rfl⟩ (by first | assumption | exact Nat.zero_lt_one | omega) rfl rfl (Nat.le_of_ble_eq_true rfl) ⟨by decide, by decide⟩ ⟨rfl, rfl⟩ ⟨by decide, by decide⟩ ?_
      intro r100 S100 L100 R100 p100
      obtain ⟨rfl, rfl, rfl, rfl⟩ := p100
      refine z_iconst (v := nI 1) C 103 dX9_countsHabits_103 (by decide) ?_
      first | with_reducible refine z_iaddN C 104 dX9_countsHabits_104 ?_ | refine z_iadd C 104 dX9_countsHabits_104 ?_
      refine z_cVv0 C 105 dX9_countsHabits_105 cv_X9_240 (c_X9_sets hR (by first | assumption | omega) (by omega)) rfl ⟨by decide, rfl⟩ (by first | assumption | exact Nat.zero_lt_one | omega) rfl rfl (Nat.le_of_ble_eq_true rfl) ⟨by decide, by decide⟩ ⟨rfl, rfl⟩ ⟨by decide, by decide⟩ ?_
      intro S105 L105 R105 p105
      obtain ⟨rfl, rfl, rfl⟩ := p105
      refine z_mem (sA S 44 (fGap (S 44 0) p)) (by first | (rw [show fGap (S 44 0) p = S 44 0 from if_neg h8, sA_id]; done) | (simp only [sA_sA, sA_s]; rw [← fGap_b h8 h19 hg hg3]; done) | (simp only [sA_sA, sA_s]; subst hgm; rw [← fGap_c h8 h19])) ?_
      refine z_aload_n C 108 0 0 dX9_countsHabits_108 rfl rfl ?_
      refine z_iload_n C 109 1 1 dX9_countsHabits_109 rfl rfl ?_
      refine z_bipush (v := nI 9) C 110 dX9_countsHabits_110 (by decide +kernel) ?_
      refine z_iconst (v := nI 1) C 112 dX9_countsHabits_112 (by decide) ?_
      refine z_cVv0 C 113 dX9_countsHabits_113 cv_X9_240 (c_X9_sets hR (by first | assumption | omega) (by omega)) rfl ⟨by decide, rfl⟩ (by first | assumption | exact Nat.zero_lt_one | omega) rfl rfl (Nat.le_of_ble_eq_true rfl) ⟨by decide, by decide⟩ ⟨rfl, rfl⟩ ⟨by decide, by decide⟩ ?_
      intro S113 L113 R113 p113
      obtain ⟨rfl, rfl, rfl⟩ := p113
      refine z_iload_n C 116 2 2 dX9_countsHabits_116 rfl rfl ?_
      refine z_iconst (v := (-1)) C 117 dX9_countsHabits_117 (by decide) ?_
      first | with_reducible refine z_icmp_eqN C 118 145 dX9_countsHabits_118 (by decide) (by omega) (by omega) (fun h118 => ?_) (fun h118 => ?_) | refine z_icmp_eq C 118 145 dX9_countsHabits_118 (by decide) (fun h118 => ?_) (fun h118 => ?_)
      · exact ret 145 _ _ _ _ dX9_countsHabits_145 (⟨(by simp only [sA_up, sA_sA, sA_s]; first | (rw [fHab_y (by omega) (by omega) h123]; done) | (rw [fHab_n (Or.inl h118)]; done) | rw [fHab_n (Or.inr (by rw [h123]))]), rfl, rfl⟩)
      · obtain ⟨b, hb10, rfl⟩ := hb.resolve_left h118
        refine z_iload_n C 121 2 2 dX9_countsHabits_121 rfl rfl ?_
        refine z_iload_n C 122 1 1 dX9_countsHabits_122 rfl rfl ?_
        first | with_reducible refine z_icmp_eqN C 123 145 dX9_countsHabits_123 (by decide) (by omega) (by omega) (fun h123 => ?_) (fun h123 => ?_) | refine z_icmp_eq C 123 145 dX9_countsHabits_123 (by decide) (fun h123 => ?_) (fun h123 => ?_)
        · exact ret 145 _ _ _ _ dX9_countsHabits_145 (⟨(by simp only [sA_up, sA_sA, sA_s]; first | (rw [fHab_y (by omega) (by omega) h123]; done) | (rw [fHab_n (Or.inl h118)]; done) | rw [fHab_n (Or.inr (by rw [h123]))]), rfl, rfl⟩)
        · refine z_aload_n C 126 0 0 dX9_countsHabits_126 rfl rfl ?_
          refine z_getr C 127 dX9_countsHabits_127 gf_X9_20 rfl (by first | assumption | exact Nat.zero_lt_one | omega) (by first | exact hR _ _ _ _ rfl | assumption) ?_
          refine z_sipush (v := nI 206) C 130 dX9_countsHabits_130 (by decide +kernel) ?_
          refine z_bipush (v := nI 10) C 133 dX9_countsHabits_133 (by decide +kernel) ?_
          refine z_iload_n C 135 2 2 dX9_countsHabits_135 rfl rfl ?_
          first | with_reducible refine z_imulN C 136 dX9_countsHabits_136 ?_ | refine z_imul C 136 dX9_countsHabits_136 ?_
          first | with_reducible refine z_iaddN C 137 dX9_countsHabits_137 ?_ | refine z_iadd C 137 dX9_countsHabits_137 ?_
          refine z_iload_n C 138 1 1 dX9_countsHabits_138 rfl rfl ?_
          first | with_reducible refine z_iaddN C 139 dX9_countsHabits_139 ?_ | refine z_iadd C 139 dX9_countsHabits_139 ?_
          refine z_dup2 C 140 dX9_countsHabits_140 rfl rfl ?_
          refine z_iald C 141 dX9_countsHabits_141 (by first | rfl | assumption) (by first | assumption | exact Nat.zero_lt_one | omega) (by first | rfl | assumption) (by decide) (by first | assumption | omega) ?_
          refine z_iconst (v := nI 1) C 142 dX9_countsHabits_142 (by decide) ?_
          first | with_reducible refine z_iaddN C 143 dX9_countsHabits_143 ?_ | refine z_iadd C 143 dX9_countsHabits_143 ?_
          refine z_iast C 144 dX9_countsHabits_144 (by first | rfl | assumption) (by first | assumption | exact Nat.zero_lt_one | omega)  (by first | rfl | assumption) (by decide) (by first | assumption | omega) ?_
          exact ret 145 _ _ _ _ dX9_countsHabits_145 (⟨(by simp only [sA_up, sA_sA, sA_s]; first | (rw [fHab_y (by omega) (by omega) h123]; done) | (rw [fHab_n (Or.inl h118)]; done) | rw [fHab_n (Or.inr (by rw [h123]))]), rfl, rfl⟩)
    · rw [show S = sA S 44 (gS (S 44 0) p 0) from (sA_id S 44).symm]
      refine z_iconst (v := nI 1) C 22 dX9_countsHabits_22 (by decide) ?_
      refine z_istore_n C 23 3 [(3, _), (0, _), (1, _), (2, _)] dX9_countsHabits_23 rfl (by decide) rfl ?_
      have loop_24 : ∀ (n_24 : Nat) (m : Nat), m ≤ 3 → 3 - m < n_24 → Z X 4 ad mdm (sA S 44 (gS (S 44 0) p m)) L R 0 0 24 [(0, .ref (ad 40 0)), (1, .int (nI p)), (2, .int b0), (3, .int (nI (m + 1)))] [] := by
        intro n_24
        induction n_24 with
        | zero => intro m hm hm24; exact absurd hm24 (Nat.not_lt_zero _)
        | succ n_24 ih24 =>
          intro m hm hm24
          refine z_iload_n C 24 3 3 dX9_countsHabits_24 rfl rfl ?_
          refine z_iconst (v := nI 4) C 25 dX9_countsHabits_25 (by decide) ?_
          first | with_reducible refine z_icmp_geN C 26 55 dX9_countsHabits_26 (by decide) (by omega) (by omega) (fun h26 => ?_) (fun h26 => ?_) | refine z_icmp_ge C 26 55 dX9_countsHabits_26 (by decide) (fun h26 => ?_) (fun h26 => ?_)
          · obtain rfl : m = 3 := by omega
            refine z_aload_n C 55 0 0 dX9_countsHabits_55 rfl rfl ?_
            refine z_iload_n C 56 1 1 dX9_countsHabits_56 rfl rfl ?_
            refine z_bipush (v := nI 10) C 57 dX9_countsHabits_57 (by decide +kernel) ?_
            refine z_iconst (v := nI 3) C 59 dX9_countsHabits_59 (by decide) ?_
            refine z_cVv0 C 60 dX9_countsHabits_60 cv_X9_240 (c_X9_sets hR (by first | assumption | omega) (by omega)) rfl ⟨by decide, rfl⟩ (by first | assumption | exact Nat.zero_lt_one | omega) rfl rfl (Nat.le_of_ble_eq_true rfl) ⟨by decide, by decide⟩ ⟨rfl, rfl⟩ ⟨by decide, by decide⟩ ?_
            intro S60 L60 R60 p60
            obtain ⟨rfl, rfl, rfl⟩ := p60
            rw [sA_sA, sA_s]
            obtain ⟨g, hg3, hgm, hg⟩ : ∃ g, g ≤ 3 ∧ g = 3 ∧ fo (sA S 44 (fset (gS (S 44 0) p 3) p 10 (nI 3)) 44 0) p 10 = nI g := ⟨3, by omega, rfl, by rw [sA_s]; exact fo_set_s _ _ _ _⟩
            refine z_aload_n C 63 0 0 dX9_countsHabits_63 rfl rfl ?_
            refine z_iload_n C 64 1 1 dX9_countsHabits_64 rfl rfl ?_
            refine z_bipush (v := nI 11) C 65 dX9_countsHabits_65 (by decide +kernel) ?_
            refine z_aload_n C 67 0 0 dX9_countsHabits_67 rfl rfl ?_
            refine z_iload_n C 68 1 1 dX9_countsHabits_68 rfl rfl ?_
            refine z_bipush (v := nI 10) C 69 dX9_countsHabits_69 (by decide +kernel) ?_
            refine z_cVi0 C 71 dX9_countsHabits_71 cv_X9_203 (c_X9_of hR (by first | assumption | omega) (by omega)) rfl ⟨by decide, rfl⟩ (by first | assumption | exact Nat.zero_lt_one | omega) rfl rfl (Nat.le_of_ble_eq_true rfl) ⟨by decide, by decide⟩ ⟨rfl, rfl⟩ ⟨by decide, by decide⟩ ?_
            intro r71 S71 L71 R71 p71
            obtain ⟨rfl, rfl, rfl, rfl⟩ := p71
            rw [hg]
            first | with_reducible refine z_iaddN C 74 dX9_countsHabits_74 ?_ | refine z_iadd C 74 dX9_countsHabits_74 ?_
            refine z_aload_n C 75 0 0 dX9_countsHabits_75 rfl rfl ?_
            refine z_getr C 76 dX9_countsHabits_76 gf_X9_20 rfl (by first | assumption | exact Nat.zero_lt_one | omega) (by first | exact hR _ _ _ _ rfl | assumption) ?_
            refine z_iconst (v := nI 1) C 79 dX9_countsHabits_79 (by decide) ?_
            refine z_iald C 80 dX9_countsHabits_80 (by first | rfl | assumption) (by first | assumption | exact Nat.zero_lt_one | omega) (by first | rfl | assumption) (by decide) (by first | assumption | omega) ?_
            refine z_aload_n C 81 0 0 dX9_countsHabits_81 rfl rfl ?_
            refine z_iload_n C 82 1 1 dX9_countsHabits_82 rfl rfl ?_
            refine z_bipush (v := nI 8) C 83 dX9_countsHabits_83 (by decide +kernel) ?_
            refine z_cVi0 C 85 dX9_countsHabits_85 cv_X9_203 (c_X9_of hR (by first | assumption | omega) (by omega)) rfl ⟨by decide, rfl⟩ (by first | assumption | exact Nat.zero_lt_one | omega) rfl rfl (Nat.le_of_ble_eq_true rfl) ⟨by decide, by decide⟩ ⟨rfl, rfl⟩ ⟨by decide, by decide⟩ ?_
            intro r85 S85 L85 R85 p85
            obtain ⟨rfl, rfl, rfl, rfl⟩ := p85
            first | with_reducible refine z_isubN C 88 dX9_countsHabits_88 (by omega) ?_ | refine z_isub C 88 dX9_countsHabits_88 ?_
            refine z_cVv0 C 89 dX9_countsHabits_89 cv_X9_240 (c_X9_sets hR (by first | assumption | omega) (by omega)) rfl ⟨by decide, rfl⟩ (by first | assumption | exact Nat.zero_lt_one | omega) rfl rfl (Nat.le_of_ble_eq_true rfl) ⟨by decide, by decide⟩ ⟨rfl, rfl⟩ ⟨by decide, by decide⟩ ?_
            intro S89 L89 R89 p89
            obtain ⟨rfl, rfl, rfl⟩ := p89
            refine z_aload_n C 92 0 0 dX9_countsHabits_92 rfl rfl ?_
            refine z_iload_n C 93 1 1 dX9_countsHabits_93 rfl rfl ?_
            refine z_bipush (v := nI 10) C 94 dX9_countsHabits_94 (by decide +kernel) ?_
            refine z_aload_n C 96 0 0 dX9_countsHabits_96 rfl rfl ?_
            refine z_iload_n C 97 1 1 dX9_countsHabits_97 rfl rfl ?_
            refine z_bipush (v := nI 10) C 98 dX9_countsHabits_98 (by decide +kernel) ?_
            refine z_cVi0 C 100 dX9_countsHabits_100 cv_X9_203 (c_X9_of hR (by first | assumption | omega) (by omega)) rfl ⟨by decide, rfl⟩ (by first | assumption | exact Nat.zero_lt_one | omega) rfl rfl (Nat.le_of_ble_eq_true rfl) ⟨by decide, by decide⟩ ⟨rfl, rfl⟩ ⟨by decide, by decide⟩ ?_
            intro r100 S100 L100 R100 p100
            obtain ⟨rfl, rfl, rfl, rfl⟩ := p100
            refine z_iconst (v := nI 1) C 103 dX9_countsHabits_103 (by decide) ?_
            first | with_reducible refine z_iaddN C 104 dX9_countsHabits_104 ?_ | refine z_iadd C 104 dX9_countsHabits_104 ?_
            refine z_cVv0 C 105 dX9_countsHabits_105 cv_X9_240 (c_X9_sets hR (by first | assumption | omega) (by omega)) rfl ⟨by decide, rfl⟩ (by first | assumption | exact Nat.zero_lt_one | omega) rfl rfl (Nat.le_of_ble_eq_true rfl) ⟨by decide, by decide⟩ ⟨rfl, rfl⟩ ⟨by decide, by decide⟩ ?_
            intro S105 L105 R105 p105
            obtain ⟨rfl, rfl, rfl⟩ := p105
            refine z_mem (sA S 44 (fGap (S 44 0) p)) (by first | (rw [show fGap (S 44 0) p = S 44 0 from if_neg h8, sA_id]; done) | (simp only [sA_sA, sA_s]; rw [← fGap_b h8 h19 hg hg3]; done) | (simp only [sA_sA, sA_s]; subst hgm; rw [← fGap_c h8 h19])) ?_
            refine z_aload_n C 108 0 0 dX9_countsHabits_108 rfl rfl ?_
            refine z_iload_n C 109 1 1 dX9_countsHabits_109 rfl rfl ?_
            refine z_bipush (v := nI 9) C 110 dX9_countsHabits_110 (by decide +kernel) ?_
            refine z_iconst (v := nI 1) C 112 dX9_countsHabits_112 (by decide) ?_
            refine z_cVv0 C 113 dX9_countsHabits_113 cv_X9_240 (c_X9_sets hR (by first | assumption | omega) (by omega)) rfl ⟨by decide, rfl⟩ (by first | assumption | exact Nat.zero_lt_one | omega) rfl rfl (Nat.le_of_ble_eq_true rfl) ⟨by decide, by decide⟩ ⟨rfl, rfl⟩ ⟨by decide, by decide⟩ ?_
            intro S113 L113 R113 p113
            obtain ⟨rfl, rfl, rfl⟩ := p113
            refine z_iload_n C 116 2 2 dX9_countsHabits_116 rfl rfl ?_
            refine z_iconst (v := (-1)) C 117 dX9_countsHabits_117 (by decide) ?_
            first | with_reducible refine z_icmp_eqN C 118 145 dX9_countsHabits_118 (by decide) (by omega) (by omega) (fun h118 => ?_) (fun h118 => ?_) | refine z_icmp_eq C 118 145 dX9_countsHabits_118 (by decide) (fun h118 => ?_) (fun h118 => ?_)
            · exact ret 145 _ _ _ _ dX9_countsHabits_145 (⟨(by simp only [sA_up, sA_sA, sA_s]; first | (rw [fHab_y (by omega) (by omega) h123]; done) | (rw [fHab_n (Or.inl h118)]; done) | rw [fHab_n (Or.inr (by rw [h123]))]), rfl, rfl⟩)
            · obtain ⟨b, hb10, rfl⟩ := hb.resolve_left h118
              refine z_iload_n C 121 2 2 dX9_countsHabits_121 rfl rfl ?_
              refine z_iload_n C 122 1 1 dX9_countsHabits_122 rfl rfl ?_
              first | with_reducible refine z_icmp_eqN C 123 145 dX9_countsHabits_123 (by decide) (by omega) (by omega) (fun h123 => ?_) (fun h123 => ?_) | refine z_icmp_eq C 123 145 dX9_countsHabits_123 (by decide) (fun h123 => ?_) (fun h123 => ?_)
              · exact ret 145 _ _ _ _ dX9_countsHabits_145 (⟨(by simp only [sA_up, sA_sA, sA_s]; first | (rw [fHab_y (by omega) (by omega) h123]; done) | (rw [fHab_n (Or.inl h118)]; done) | rw [fHab_n (Or.inr (by rw [h123]))]), rfl, rfl⟩)
              · refine z_aload_n C 126 0 0 dX9_countsHabits_126 rfl rfl ?_
                refine z_getr C 127 dX9_countsHabits_127 gf_X9_20 rfl (by first | assumption | exact Nat.zero_lt_one | omega) (by first | exact hR _ _ _ _ rfl | assumption) ?_
                refine z_sipush (v := nI 206) C 130 dX9_countsHabits_130 (by decide +kernel) ?_
                refine z_bipush (v := nI 10) C 133 dX9_countsHabits_133 (by decide +kernel) ?_
                refine z_iload_n C 135 2 2 dX9_countsHabits_135 rfl rfl ?_
                first | with_reducible refine z_imulN C 136 dX9_countsHabits_136 ?_ | refine z_imul C 136 dX9_countsHabits_136 ?_
                first | with_reducible refine z_iaddN C 137 dX9_countsHabits_137 ?_ | refine z_iadd C 137 dX9_countsHabits_137 ?_
                refine z_iload_n C 138 1 1 dX9_countsHabits_138 rfl rfl ?_
                first | with_reducible refine z_iaddN C 139 dX9_countsHabits_139 ?_ | refine z_iadd C 139 dX9_countsHabits_139 ?_
                refine z_dup2 C 140 dX9_countsHabits_140 rfl rfl ?_
                refine z_iald C 141 dX9_countsHabits_141 (by first | rfl | assumption) (by first | assumption | exact Nat.zero_lt_one | omega) (by first | rfl | assumption) (by decide) (by first | assumption | omega) ?_
                refine z_iconst (v := nI 1) C 142 dX9_countsHabits_142 (by decide) ?_
                first | with_reducible refine z_iaddN C 143 dX9_countsHabits_143 ?_ | refine z_iadd C 143 dX9_countsHabits_143 ?_
                refine z_iast C 144 dX9_countsHabits_144 (by first | rfl | assumption) (by first | assumption | exact Nat.zero_lt_one | omega)  (by first | rfl | assumption) (by decide) (by first | assumption | omega) ?_
                exact ret 145 _ _ _ _ dX9_countsHabits_145 (⟨(by simp only [sA_up, sA_sA, sA_s]; first | (rw [fHab_y (by omega) (by omega) h123]; done) | (rw [fHab_n (Or.inl h118)]; done) | rw [fHab_n (Or.inr (by rw [h123]))]), rfl, rfl⟩)
          · refine z_aload_n C 29 0 0 dX9_countsHabits_29 rfl rfl ?_
            refine z_iload_n C 30 1 1 dX9_countsHabits_30 rfl rfl ?_
            refine z_bipush (v := nI 11) C 31 dX9_countsHabits_31 (by decide +kernel) ?_
            refine z_iload_n C 33 3 3 dX9_countsHabits_33 rfl rfl ?_
            first | with_reducible refine z_iaddN C 34 dX9_countsHabits_34 ?_ | refine z_iadd C 34 dX9_countsHabits_34 ?_
            refine z_iconst (v := nI 1) C 35 dX9_countsHabits_35 (by decide) ?_
            first | with_reducible refine z_isubN C 36 dX9_countsHabits_36 (by omega) ?_ | refine z_isub C 36 dX9_countsHabits_36 ?_
            refine z_aload_n C 37 0 0 dX9_countsHabits_37 rfl rfl ?_
            refine z_iload_n C 38 1 1 dX9_countsHabits_38 rfl rfl ?_
            refine z_bipush (v := nI 11) C 39 dX9_countsHabits_39 (by decide +kernel) ?_
            refine z_iload_n C 41 3 3 dX9_countsHabits_41 rfl rfl ?_
            first | with_reducible refine z_iaddN C 42 dX9_countsHabits_42 ?_ | refine z_iadd C 42 dX9_countsHabits_42 ?_
            refine z_cVi0 C 43 dX9_countsHabits_43 cv_X9_203 (c_X9_of hR (by first | assumption | omega) (by omega)) rfl ⟨by decide, rfl⟩ (by first | assumption | exact Nat.zero_lt_one | omega) rfl rfl (Nat.le_of_ble_eq_true rfl) ⟨by decide, by decide⟩ ⟨rfl, rfl⟩ ⟨by decide, by decide⟩ ?_
            intro r43 S43 L43 R43 p43
            obtain ⟨rfl, rfl, rfl, rfl⟩ := p43
            refine z_cVv0 C 46 dX9_countsHabits_46 cv_X9_240 (c_X9_sets hR (by first | assumption | omega) (by omega)) rfl ⟨by decide, rfl⟩ (by first | assumption | exact Nat.zero_lt_one | omega) rfl rfl (Nat.le_of_ble_eq_true rfl) ⟨by decide, by decide⟩ ⟨rfl, rfl⟩ ⟨by decide, by decide⟩ ?_
            intro S46 L46 R46 p46
            obtain ⟨rfl, rfl, rfl⟩ := p46
            refine z_iinc C 49 3 3 [(3, _), (0, _), (1, _), (2, _)] dX9_countsHabits_49 rfl (by first | exact nI_1 _ | rfl) (by decide) rfl ?_
            refine z_goto C 52 24 dX9_countsHabits_52 (by decide) ?_
            refine z_sub [(0, _), (1, _), (2, _), (3, _)] [1, 2, 3, 0] rfl ?_
            refine z_mem (sA S 44 (gS (S 44 0) p (m + 1))) (by rw [sA_sA, sA_s, gS_fo _ _ _ _ (by omega) (by omega), show 11 + (m + 1) - 1 = 11 + m by omega, show 11 + (m + 1) = 12 + m by omega]; rfl) ?_
            exact ih24 (m + 1) (by omega) (by omega)
      refine z_sub [(0, _), (1, _), (2, _), (3, _)] [1, 2, 3, 0] rfl ?_
      exact loop_24 4 0 (by omega) (by omega)
def rm_X9_puts : Room := { frames := 0, cells := 0, slots := 0, locals := 0 }
set_option maxHeartbeats 4000000 in
set_option maxRecDepth 100000 in
theorem c_X9_puts {l : Launch} {G : mG} {ad : mA} {S : mS} {L : mL} {R : mR} {k0 k1 : Nat} (h0 : msh k0 = .inl (0, 438)) (h1 : msh k1 = .inl (0, 438)) (d0 : mdm k0 0) (d1 : mdm k1 0) (hne : k0 ≠ k1) : Kv l yX9_puts cX9_puts 3 rm_X9_puts G ad mdm [.ref (ad k0 0), .ref (ad k1 0)] S L R (fun S2 L2 R2 => sA S k1 (S k0 0) = S2 ∧ L = L2 ∧ R = R2) := by
  refine Kv.of RX9 (by decide) rfl (Nat.le_of_ble_eq_true rfl) ?_
  intro X hXl hXG C ret
  subst hXl; subst hXG
  change Z X 3 ad mdm S L R 0 0 0 [(0, _), (1, _)] []
  rw [show S = sA S k1 (fun j => if j < 0 then S k0 0 j else S k1 0 j) by simp only [Nat.not_lt_zero, if_false]; exact (sA_id S k1).symm]
  refine z_iconst (v := nI 0) C 0 dX9_puts_0 (by decide) ?_
  refine z_istore_n C 1 2 [(2, _), (0, _), (1, _)] dX9_puts_1 rfl (by decide) rfl ?_
  have loop_2 : ∀ (n_2 : Nat) (i : Nat), i ≤ 438 → 438 - i < n_2 → Z X 3 ad mdm (sA S k1 (fun j => if j < i then S k0 0 j else S k1 0 j)) L R 0 0 2 [(0, .ref (ad k0 0)), (1, .ref (ad k1 0)), (2, .int (nI i))] [] := by
    intro n_2
    induction n_2 with
    | zero => intro i hi hm2; exact absurd hm2 (Nat.not_lt_zero _)
    | succ n_2 ih2 =>
      intro i hi hm2
      refine z_iload_n C 2 2 2 dX9_puts_2 rfl rfl ?_
      refine z_sipush (v := nI 438) C 3 dX9_puts_3 (by decide +kernel) ?_
      first | with_reducible refine z_icmp_geN C 6 21 dX9_puts_6 (by decide) (by omega) (by omega) (fun h6 => ?_) (fun h6 => ?_) | refine z_icmp_ge C 6 21 dX9_puts_6 (by decide) (fun h6 => ?_) (fun h6 => ?_)
      · obtain rfl : i = 438 := by omega
        refine z_ext _ (puts_end h1) ?_
        exact ret 21 _ _ _ _ dX9_puts_21 (⟨rfl, rfl, rfl⟩)
      · refine z_aload_n C 9 1 1 dX9_puts_9 rfl rfl ?_
        refine z_iload_n C 10 2 2 dX9_puts_10 rfl rfl ?_
        refine z_aload_n C 11 0 0 dX9_puts_11 rfl rfl ?_
        refine z_iload_n C 12 2 2 dX9_puts_12 rfl rfl ?_
        refine z_iald C 13 dX9_puts_13 (by first | rfl | assumption) (by first | assumption | exact Nat.zero_lt_one | omega) (by first | rfl | assumption) (by decide) (by first | assumption | omega) ?_
        refine z_iast C 14 dX9_puts_14 (by first | rfl | assumption) (by first | assumption | exact Nat.zero_lt_one | omega)  (by first | rfl | assumption) (by decide) (by first | assumption | omega) ?_
        rw [puts_up hne]
        refine z_iinc C 15 2 2 [(2, _), (0, _), (1, _)] dX9_puts_15 rfl (by first | exact nI_1 _ | rfl) (by decide) rfl ?_
        refine z_goto C 18 2 dX9_puts_18 (by decide) ?_
        refine z_sub [(0, _), (1, _), (2, _)] [1, 2, 0] rfl ?_
        exact ih2 (i + 1) (by omega) (by omega)
  refine z_sub [(0, _), (1, _), (2, _)] [1, 2, 0] rfl ?_
  exact loop_2 439 0 (by omega) (by omega)
