theorem AB.set1 {S : mS} {v n p : Nat} {N : NN} {x : Int32} (h : AB S v N n) (hp : p < 10) : AB (up3 S 14 v p x) v (fset N p 1 x) n := by
  have ho : ∀ q w, w < 20 → w ≠ 1 → fo (fset N p 1 x) q w = fo N q w := fun q w hw h3 => fo_set_w _ h3 (by omega) hw
  have hl : ∀ j, j < 6 ∨ 206 ≤ j → (fset N p 1 x) j = N j := fun j hj => fset_out hp (by omega) hj
  have hk : ∀ kk, kk ≠ 14 → up3 S 14 v p x kk v = S kk v := fun kk a => by rw [up3_k _ a]
  refine ⟨⟨?_, fun q hq => ?_⟩, (h.2.1.row (hl 3 (by omega)) (fun q w hq a b => ho q w (by omega) (by omega)) (fun a b ha hb => hl _ (by omega))).off (fun kk a b => hk kk (by omega)), (h.2.2.1.row (fun q w hq hw => ho q w (by omega) (by omega))).off (hk 18 (by omega)), (h.2.2.2.1.row (fun j hj => hl j (by omega))).off (fun kk a b => hk kk (by omega)), (h.2.2.2.2.row (hl 1 (by omega)) (hl 4 (by omega)) (hl 2 (by omega)) (fun q w hq hw => ho q w (by omega) (by omega)) (fun j hj => hl j (by omega))).off (fun kk a b => hk kk (by omega))⟩
  · rw [hk 12 (by omega), hl 0 (by omega)]
    exact h.1.1
  · obtain ⟨a0, a1, a2, a3⟩ := h.1.2 q hq
    rw [hk 13 (by omega), hk 15 (by omega), hk 16 (by omega), ho q 0 (by omega) (by omega), ho q 2 (by omega) (by omega), ho q 6 (by omega) (by omega), fo_set _ (by omega) (by omega), up3_at]
    refine ⟨a0, ?_, a2, a3⟩
    by_cases e : q = p
    · rw [if_pos ⟨rfl, rfl, e⟩, if_pos ⟨e, rfl⟩]
    · rw [if_neg (fun z => e z.2.2), if_neg (fun z => e z.1)]
      exact a1
theorem AB.tick {S : mS} {v n : Nat} {N : NN} (h : AB S v N n) : AB (up3 S 25 v 5 (N 1 + nI 1)) v (fTick N) n := by
  have ho : ∀ q w, fo (fTick N) q w = fo N q w := fun q w => fo_upd_lo N (by omega)
  have hl : ∀ j, j ≠ 1 → fTick N j = N j := fun j hj => upd_n N hj
  have hk : ∀ kk, kk ≠ 25 → up3 S 25 v 5 (N 1 + nI 1) kk v = S kk v := fun kk a => by rw [up3_k _ a]
  refine ⟨(h.1.row (hl 0 (by omega)) (fun q w _ _ => ho q w)).off (fun kk a b => hk kk (by omega)), (h.2.1.row (hl 3 (by omega)) (fun q w hq a b => ho q w) (fun a b ha hb => hl _ (by omega))).off (fun kk a b => hk kk (by omega)), (h.2.2.1.row (fun q w hq hw => ho q w)).off (hk 18 (by omega)), (h.2.2.2.1.row (fun j hj => hl j (by omega))).off (fun kk a b => hk kk (by omega)), ?_⟩
  have hP := h.2.2.2.2
  unfold AP
  rw [hk 26 (by omega), hk 27 (by omega), hk 28 (by omega), hk 29 (by omega), hk 30 (by omega), hl 4 (by omega), hl 2 (by omega)]
  refine ⟨(up3_s _ _ _ _ _).trans (upd_s _ _ _).symm, (up3_j _ (by omega)).trans hP.2.1, (up3_j _ (by omega)).trans hP.2.2.1, fun q hq => ?_⟩
  rw [ho q 3, ho q 4, ho q 5, ho q 15]
  obtain ⟨g3, g4, g5, g15, g30⟩ := hP.2.2.2 q hq
  exact ⟨g3, g4, g5, g15, fun t w hw ht hw5 => (g30 t w hw ht hw5).trans (hl _ (by omega)).symm⟩
theorem kI.give {N : NN} {n B p : Nat} {x : Int32} (h : kI N n B) (h5 : ¬ fo N p 0 = nI 5) : kI (fset N p 1 x) n B := by
  have e : ∀ r x', x' < 20 → x' ≠ 1 → fo (fset N p 1 x) r x' = fo N r x' := fun r x' hx hx1 => fo_set_w _ hx1 (by omega) hx
  refine ⟨rI.set h.1 (by omega) (fun z => by omega) (fun z => by omega) (fun z => by omega) (fun z => by omega) (fun z => by omega), fun r hr10 => ?_, h.2.2.1.row (fset_lo _ (by omega)) (fset_lo _ (by omega)) (fun r x hr10 hx => e r x (by omega) (by omega)), h.2.2.2.row (fun r x hr10 hx => e r x (by omega) (by omega))⟩
  rw [e r 0 (by omega) (by omega), e r 2 (by omega) (by omega), fo_set _ (by omega) (by omega)]
  obtain ⟨z1, z2⟩ := h.2.1 r hr10
  refine ⟨z1, fun z => ?_⟩
  by_cases e1 : r = p
  · subst e1
    exact absurd z h5
  · rw [if_neg (fun y => e1 y.1)]
    exact z2 z
theorem fset_back {N : NN} {p w : Nat} {x y : Int32} (h : fo N p w = y) : fset (fset N p w x) p w y = N := by
  funext j
  unfold fset upd
  by_cases e : j = 6 + 20 * p + w
  · rw [if_pos e, ← h, e]
    rfl
  · rw [if_neg e, if_neg e]
theorem fset_id {N : NN} {p w : Nat} {y : Int32} (h : fo N p w = y) : fset N p w y = N := by
  funext j
  unfold fset upd
  by_cases e : j = 6 + 20 * p + w
  · rw [if_pos e, ← h, e]
    rfl
  · rw [if_neg e]
theorem fMem_0 {N T : NN} {n : Nat} (h : ¬ N 0 < fAll N T n) : fMem N T n = some (0, N) := fMemF_0 h
/-- what the class gives, m pages at most, is what the reference gives -/
theorem fGets_t {N T : NN} {n p a m : Nat} {more : Int32} {q : Nat × NN} (h0 : ¬ N 0 < fAll N T n) (ha : fo N p 1 = nI a) (ham : a + m < 2 ^ 31) (hp : nI m = if more < T (8 * p + 3) - fo N p 1 then more else T (8 * p + 3) - fo N p 1) (hm : fMem (fset N p 1 (nI (a + m))) T n = some q) : (fGets N T n p more).2 = q.2 := by
  by_cases e : m = 0
  · subst e
    rw [fGets_0 hp (by decide)]
    rw [fset_id (show fo N p 1 = nI (a + 0) from ha), fMem_0 h0] at hm
    cases hm
    rfl
  · rw [fGets_s hp ((nI_ltI (a := 0) (by omega) (by omega)).mpr (by omega)) (by rw [ha, nI_add]; exact hm)]
theorem fGets_u {N T : NN} {n p a m : Nat} {more : Int32} (h0 : ¬ N 0 < fAll N T n) (ha : fo N p 1 = nI a) (ham : a + m < 2 ^ 31) (hp : nI m = if more < T (8 * p + 3) - fo N p 1 then more else T (8 * p + 3) - fo N p 1) (hm : fMem (fset N p 1 (nI (a + m))) T n = none) : (fGets N T n p more).2 = fWr N 9 p := by
  by_cases e : m = 0
  · subst e
    rw [fset_id (show fo N p 1 = nI (a + 0) from ha), fMem_0 h0] at hm
    cases hm
  · rw [fGets_n hp ((nI_ltI (a := 0) (by omega) (by omega)).mpr (by omega)) (by rw [ha, nI_add]; exact hm)]
def mP (S S1 : mS) (R R1 : mR) (v n : Nat) (M : NN) : Prop := AB S1 v M n ∧ FV S S1 v ∧ FR R R1

def rm_X4_givePages : Room := { frames := 4, cells := 0, slots := 0, locals := 124 }
set_option maxHeartbeats 4000000 in
set_option maxRecDepth 100000 in
theorem c_X4_givePages {l : Launch} {G : mG} {ad : mA} {S : mS} {L : mL} {R : mR} {N T : NN} {n v d p B w : Nat} (hR : mlk R) (hv : v < 15) (hd : d < 3) (hd1 : R 25 v 1 = some (3, d)) (hd2 : R 12 v 0 = some (3, d)) (hAT : AT S d T n) (hn10 : n ≤ 10) (hJ : JI N T n B) (hB : AB S v N n) (hB31 : B < 2147480000) (hp : p < n) (h5 : ¬ fo N p 0 = nI 5) (hw : w ≤ 20) : Kv l yX4_givePages cX4_givePages 4 rm_X4_givePages G ad mdm [.ref (ad 25 v), .int (nI p), .int (nI w)] S L R (fun S2 L2 R2 => AB S2 v (fGets N T n p (nI w)).2 n ∧ FV S S2 v ∧ L = L2 ∧ FR R R2) := by
  refine Kv.of RX4 (by decide) rfl (Nat.le_of_ble_eq_true rfl) ?_
  intro X hXl hXG C ret
  subst hXl; subst hXG
  change Z X 4 ad mdm S L R 0 0 0 [(0, _), (1, _), (2, _)] []
  have hp10 : p < 10 := by omega
  have hdp : 10 * d + p < 30 := by omega
  obtain ⟨a, c, g, g1, g2, g3, g4, g5, g6⟩ := hJ.2.1 p hp
  have hA := hB.1.2 p hp10
  have hO := hJ.2.2.1
  refine z_iload_n C 0 2 2 dX4_givePages_0 rfl rfl ?_
  refine z_aload_n C 1 0 0 dX4_givePages_1 rfl rfl ?_
  refine z_getr C 2 dX4_givePages_2 gf_X4_57 rfl (by first | assumption | exact Nat.zero_lt_one | exact (show (15 : Nat) < 16 by decide) | exact Nat.lt_succ_of_lt (by assumption) | omega) (by first | exact hR _ _ _ _ rfl | exact hR2 _ _ _ _ rfl | assumption) ?_
  refine z_getr C 5 dX4_givePages_5 gf_X4_164 rfl (by first | assumption | exact Nat.zero_lt_one | exact (show (15 : Nat) < 16 by decide) | exact Nat.lt_succ_of_lt (by assumption) | omega) (by first | exact hR _ _ _ _ rfl | exact hR2 _ _ _ _ rfl | assumption) ?_
  refine z_iload_n C 8 1 1 dX4_givePages_8 rfl rfl ?_
  refine z_aald4 C 9 dX4_givePages_9 rfl (by first | assumption | exact Nat.zero_lt_one | exact (show (15 : Nat) < 16 by decide) | exact Nat.lt_succ_of_lt (by assumption) | omega) (by first | rfl | assumption) (by decide) (by first | assumption | omega) (by first | exact hR _ _ _ _ rfl | exact hR2 _ _ _ _ rfl | assumption) ?_
  refine z_iconst (v := nI 3) C 10 dX4_givePages_10 (by decide) ?_
  refine z_iald C 11 dX4_givePages_11 (by first | rfl | assumption) (by first | assumption | exact Nat.zero_lt_one | exact (show (15 : Nat) < 16 by decide) | exact Nat.lt_succ_of_lt (by assumption) | omega) (by first | rfl | assumption) (by first | decide | omega) (by first | assumption | omega) ?_
  rw [hAT.2 p 3 hp10 (by decide), g3]
  refine z_aload_n C 12 0 0 dX4_givePages_12 rfl rfl ?_
  refine z_getr C 13 dX4_givePages_13 gf_X4_50 rfl (by first | assumption | exact Nat.zero_lt_one | exact (show (15 : Nat) < 16 by decide) | exact Nat.lt_succ_of_lt (by assumption) | omega) (by first | exact hR _ _ _ _ rfl | exact hR2 _ _ _ _ rfl | assumption) ?_
  refine z_getr C 16 dX4_givePages_16 gf_X4_177 rfl (by first | assumption | exact Nat.zero_lt_one | exact (show (15 : Nat) < 16 by decide) | exact Nat.lt_succ_of_lt (by assumption) | omega) (by first | exact hR _ _ _ _ rfl | exact hR2 _ _ _ _ rfl | assumption) ?_
  refine z_iload_n C 19 1 1 dX4_givePages_19 rfl rfl ?_
  refine z_iald C 20 dX4_givePages_20 (by first | rfl | assumption) (by first | assumption | exact Nat.zero_lt_one | exact (show (15 : Nat) < 16 by decide) | exact Nat.lt_succ_of_lt (by assumption) | omega) (by first | rfl | assumption) (by first | decide | omega) (by first | assumption | omega) ?_
  rw [hA.2.1, g1]
  first | with_reducible refine z_isubN C 21 dX4_givePages_21 (by omega) ?_ | refine z_isub C 21 dX4_givePages_21 ?_
  refine z_min C 22 dX4_givePages_22 lj_X4_216 (Nat.le_of_ble_eq_true rfl) ⟨by decide, by decide⟩ ⟨by decide, by decide⟩ ?_
  obtain ⟨m, hmw, hmg, hm1, hm2⟩ : ∃ m, m ≤ w ∧ m ≤ g - a ∧ (if nI (g - a) < nI w then nI (g - a) else nI w) = nI m ∧ nI m = (if nI w < T (8 * p + 3) - fo N p 1 then nI w else T (8 * p + 3) - fo N p 1) := by
    rw [g1, g3, pk_sub g4]
    by_cases hlt : g - a < w
    · exact ⟨g - a, by omega, by omega, if_pos (nI_lt hlt (by omega)), (if_neg (nI_nlt (by omega) (by omega))).symm⟩
    · refine ⟨w, by omega, by omega, if_neg (nI_nlt (by omega) (by omega)), ?_⟩
      by_cases hl2 : w < g - a
      · exact (if_pos (nI_lt hl2 (by omega))).symm
      · rw [show g - a = w by omega]
        exact (ite_self _).symm
  rw [hm1]
  refine z_istore_n C 25 3 [(3, _), (0, _), (1, _), (2, _)] dX4_givePages_25 rfl (by decide) rfl ?_
  refine z_aload_n C 26 0 1 dX4_givePages_26 rfl rfl ?_
  refine z_getr C 27 dX4_givePages_27 gf_X4_50 rfl (by first | assumption | exact Nat.zero_lt_one | exact (show (15 : Nat) < 16 by decide) | exact Nat.lt_succ_of_lt (by assumption) | omega) (by first | exact hR _ _ _ _ rfl | exact hR2 _ _ _ _ rfl | assumption) ?_
  refine z_getr C 30 dX4_givePages_30 gf_X4_177 rfl (by first | assumption | exact Nat.zero_lt_one | exact (show (15 : Nat) < 16 by decide) | exact Nat.lt_succ_of_lt (by assumption) | omega) (by first | exact hR _ _ _ _ rfl | exact hR2 _ _ _ _ rfl | assumption) ?_
  refine z_iload_n C 33 1 2 dX4_givePages_33 rfl rfl ?_
  refine z_dup2 C 34 dX4_givePages_34 rfl rfl ?_
  refine z_iald C 35 dX4_givePages_35 (by first | rfl | assumption) (by first | assumption | exact Nat.zero_lt_one | exact (show (15 : Nat) < 16 by decide) | exact Nat.lt_succ_of_lt (by assumption) | omega) (by first | rfl | assumption) (by first | decide | omega) (by first | assumption | omega) ?_
  rw [hA.2.1, g1]
  refine z_iload_n C 36 3 0 dX4_givePages_36 rfl rfl ?_
  first | with_reducible refine z_iaddN C 37 dX4_givePages_37 ?_ | refine z_iadd C 37 dX4_givePages_37 ?_
  refine z_iast C 38 dX4_givePages_38 (by first | rfl | assumption) (by first | assumption | exact Nat.zero_lt_one | exact (show (15 : Nat) < 16 by decide) | exact Nat.lt_succ_of_lt (by assumption) | omega)  (by first | rfl | assumption) (by first | decide | omega) (by first | assumption | omega) ?_
  have hB1 : AB (up3 S 14 v p (nI (a + m))) v (fset N p 1 (nI (a + m))) n := hB.set1 hp10
  have hF1 : FP S (up3 S 14 v p (nI (a + m))) v := (FP.rf _ _).up (by omega)
  have hK1 := hJ.1.give (x := nI (a + m)) h5
  refine z_aload_n C 39 0 1 dX4_givePages_39 rfl rfl ?_
  refine z_cVi0 C 40 dX4_givePages_40 cv_X4_198 (c_X4_makeMemory (N := fset N p 1 (nI (a + m))) (T := T) (n := n) (d := d) (B := B) hR hv hd hd1 hd2 (hAT.fv hF1.fv) hn10 hK1.1 hB1 hK1.2.1 hK1.2.2.1 hB31) rfl ⟨by decide, rfl⟩ (by first | assumption | exact Nat.zero_lt_one | exact (show (15 : Nat) < 16 by decide) | exact Nat.lt_succ_of_lt (by assumption) | omega) rfl rfl (Nat.le_of_ble_eq_true rfl) ⟨by decide, by decide⟩ ⟨rfl, rfl⟩ ⟨by decide, by decide⟩ ?_
  intro r40 S40 L40 R40 p40
  obtain ⟨hmm, hFV, rfl, hFR⟩ := p40
  have hor : (r40 = nI 0 ∧ fMem (fset N p 1 (nI (a + m))) T n = none ∧ AB S40 v (fset N p 1 (nI (a + m))) n) ∨ (r40 = nI 1 ∧ ∃ m' M, fMem (fset N p 1 (nI (a + m))) T n = some (m', M) ∧ AB S40 v M n) := by
    cases hq : fMem (fset N p 1 (nI (a + m))) T n with
    | none => rw [hq] at hmm; exact Or.inl ⟨hmm.1, rfl, hmm.2⟩
    | some q => rw [hq] at hmm; exact Or.inr ⟨hmm.1, q.1, q.2, rfl, hmm.2.1⟩
  have hR2 := hFR.1
  first | with_reducible refine z_if_neB C 43 73 dX4_givePages_43 (by decide) (fun h43 => ?_) (fun h43 => ?_) | with_reducible refine z_if_neN C 43 73 dX4_givePages_43 (by decide) (by omega) (fun h43 => ?_) (fun h43 => ?_) | refine z_if_ne C 43 73 dX4_givePages_43 (by decide) (fun h43 => ?_) (fun h43 => ?_)
  · obtain ⟨-, m', M, hfm, hBM⟩ := hor.resolve_left (fun z => h43 z.1)
    exact ret 73 _ _ _ _ dX4_givePages_73 ((by first | exact ⟨by rw [fGets_t hO g1 (by omega) hm2 hfm]; exact hBM, (hF1.fv).tr hFV, rfl, hFR⟩ | exact ⟨by rw [fGets_u hO g1 (by omega) hm2 hno]; exact (hB2.wr (by omega) hJ2 hF3).1, (((hF1.fv).tr hFV).tr hF2.fv).tr (hB2.wr (by omega) hJ2 hF3).2.fv, rfl, hFR⟩))
  · obtain ⟨-, hno, hBf⟩ := hor.resolve_right (fun z => by rw [z.1] at h43; exact absurd h43 (by decide))
    refine z_aload_n C 46 0 1 dX4_givePages_46 rfl rfl ?_
    refine z_getr C 47 dX4_givePages_47 gf_X4_50 rfl (by first | assumption | exact Nat.zero_lt_one | exact (show (15 : Nat) < 16 by decide) | exact Nat.lt_succ_of_lt (by assumption) | omega) (by first | exact hR _ _ _ _ rfl | exact hR2 _ _ _ _ rfl | assumption) ?_
    refine z_getr C 50 dX4_givePages_50 gf_X4_177 rfl (by first | assumption | exact Nat.zero_lt_one | exact (show (15 : Nat) < 16 by decide) | exact Nat.lt_succ_of_lt (by assumption) | omega) (by first | exact hR _ _ _ _ rfl | exact hR2 _ _ _ _ rfl | assumption) ?_
    refine z_iload_n C 53 1 2 dX4_givePages_53 rfl rfl ?_
    refine z_dup2 C 54 dX4_givePages_54 rfl rfl ?_
    refine z_iald C 55 dX4_givePages_55 (by first | rfl | assumption) (by first | assumption | exact Nat.zero_lt_one | exact (show (15 : Nat) < 16 by decide) | exact Nat.lt_succ_of_lt (by assumption) | omega) (by first | rfl | assumption) (by first | decide | omega) (by first | assumption | omega) ?_
    rw [(hBf.1.2 p hp10).2.1, fo_set_s]
    refine z_iload_n C 56 3 0 dX4_givePages_56 rfl rfl ?_
    first | with_reducible refine z_isubN C 57 dX4_givePages_57 (by omega) ?_ | refine z_isub C 57 dX4_givePages_57 ?_
    refine z_iast C 58 dX4_givePages_58 (by first | rfl | assumption) (by first | assumption | exact Nat.zero_lt_one | exact (show (15 : Nat) < 16 by decide) | exact Nat.lt_succ_of_lt (by assumption) | omega)  (by first | rfl | assumption) (by first | decide | omega) (by first | assumption | omega) ?_
    have hB2 : AB (up3 S40 14 v p (nI (a + m - m))) v N n := by
      have h1 := hBf.set1 (x := nI (a + m - m)) hp10
      rw [fset_back (by rw [g1]; congr 1; omega)] at h1
      exact h1
    have hF2 : FP S40 (up3 S40 14 v p (nI (a + m - m))) v := (FP.rf _ _).up (by omega)
    refine z_aload_n C 59 0 1 dX4_givePages_59 rfl rfl ?_
    refine z_getr C 60 dX4_givePages_60 gf_X4_21 rfl (by first | assumption | exact Nat.zero_lt_one | exact (show (15 : Nat) < 16 by decide) | exact Nat.lt_succ_of_lt (by assumption) | omega) (by first | exact hR _ _ _ _ rfl | exact hR2 _ _ _ _ rfl | assumption) ?_
    refine z_bipush (v := nI 9) C 63 dX4_givePages_63 (by decide +kernel) ?_
    refine z_iload_n C 65 1 2 dX4_givePages_65 rfl rfl ?_
    refine z_aload_n C 66 0 1 dX4_givePages_66 rfl rfl ?_
    refine z_getiv C 67 dX4_givePages_67 gf_X4_65 rfl (by first | assumption | exact Nat.zero_lt_one | exact (show (15 : Nat) < 16 by decide) | exact Nat.lt_succ_of_lt (by assumption) | omega) hB2.2.2.2.2.1 ?_
    refine z_cVv0 C 70 dX4_givePages_70 cv_X4_160 (c_X3_add (N := N) hR2 hv hB2.2.2.2.1 (by omega)) rfl ⟨by decide, rfl⟩ (by first | assumption | exact Nat.zero_lt_one | exact (show (15 : Nat) < 16 by decide) | exact Nat.lt_succ_of_lt (by assumption) | omega) rfl rfl (Nat.le_of_ble_eq_true rfl) ⟨by decide, by decide⟩ ⟨rfl, rfl⟩ ⟨by decide, by decide⟩ ?_
    intro S70 L70 R70 p70
    obtain ⟨hJ2, hF3, rfl, rfl⟩ := p70
    exact ret 73 _ _ _ _ dX4_givePages_73 ((by first | exact ⟨by rw [fGets_t hO g1 (by omega) hm2 hfm]; exact hBM, (hF1.fv).tr hFV, rfl, hFR⟩ | exact ⟨by rw [fGets_u hO g1 (by omega) hm2 hno]; exact (hB2.wr (by omega) hJ2 hF3).1, (((hF1.fv).tr hFV).tr hF2.fv).tr (hB2.wr (by omega) hJ2 hF3).2.fv, rfl, hFR⟩))
def rm_X4_passMinute : Room := { frames := 5, cells := 0, slots := 0, locals := 147 }
set_option maxHeartbeats 4000000 in
set_option maxRecDepth 100000 in
theorem c_X4_passMinute {l : Launch} {G : mG} {ad : mA} {S : mS} {L : mL} {R : mR} {N T : NN} {n v d B : Nat} (hR : mlk R) (hv : v < 15) (hd : d < 3) (hd1 : R 25 v 1 = some (3, d)) (hd2 : R 12 v 0 = some (3, d)) (hAT : AT S d T n) (hn10 : n ≤ 10) (hJ : JI N T n B) (hB : AB S v N n) (hB31 : B + 1 < 2147480000) (hT : tI T n) : Kv l yX4_passMinute cX4_passMinute 2 rm_X4_passMinute G ad mdm [.ref (ad 25 v)] S L R (fun S2 L2 R2 => AB S2 v (fPass N T n).2 n ∧ FV S S2 v ∧ L = L2 ∧ FR R R2) := by
  refine Kv.of RX4 (by decide) rfl (Nat.le_of_ble_eq_true rfl) ?_
  intro X hXl hXG C ret
  subst hXl; subst hXG
  change Z X 2 ad mdm S L R 0 0 0 [(0, _)] []
  refine z_aload_n C 0 0 0 dX4_passMinute_0 rfl rfl ?_
  refine z_dup C 1 dX4_passMinute_1 rfl ?_
  refine z_getiv C 2 dX4_passMinute_2 gf_X4_65 rfl (by first | assumption | exact Nat.zero_lt_one | exact (show (15 : Nat) < 16 by decide) | exact Nat.lt_succ_of_lt (by assumption) | omega) hB.2.2.2.2.1 ?_
  refine z_iconst (v := nI 1) C 5 dX4_passMinute_5 (by decide) ?_
  first | with_reducible refine z_iaddN C 6 dX4_passMinute_6 ?_ | refine z_iadd C 6 dX4_passMinute_6 ?_
  refine z_puti C 7 dX4_passMinute_7 gf_X4_65 ⟨rfl, rfl⟩ rfl (by first | assumption | exact Nat.zero_lt_one | exact (show (15 : Nat) < 16 by decide) | exact Nat.lt_succ_of_lt (by assumption) | omega) ?_
  have hBt := hB.tick
  have hJt := hJ.tick
  have hF1 : FV S (up3 S 25 v 5 (N 1 + nI 1)) v := ((FP.rf S v).up (by omega)).fv
  have hAT1 := hAT.fv hF1
  have hJ0 := hJ.pass0 hn10 hT
  refine z_aload_n C 10 0 0 dX4_passMinute_10 rfl rfl ?_
  refine z_getiv C 11 dX4_passMinute_11 gf_X4_75 rfl (by first | assumption | exact Nat.zero_lt_one | exact (show (15 : Nat) < 16 by decide) | exact Nat.lt_succ_of_lt (by assumption) | omega) hBt.2.2.2.2.2.2.1 ?_
  refine z_if_lt C 14 39 dX4_passMinute_14 (by decide) (fun h14 => ?_) (fun h14 => ?_)
  · have hP0 : fPass0 N T n = (0, fTick N) := fPass0_n (hJt.1.1.1.resolve_right (fun ⟨q, hq, e⟩ => by rw [e] at h14; exact absurd h14 (nI_pos (by omega))))
    refine z_iconst (v := nI 0) C 39 dX4_passMinute_39 (by decide) ?_
    refine z_istore_n C 40 1 [(1, _), (0, _)] dX4_passMinute_40 rfl (by decide) rfl ?_
    have loop_41 : ∀ (n_41 : Nat) (i : Nat) (S1 : mS) (R1 : mR), i ≤ n → mP S S1 R R1 v n (fPassF T n (fPass0 N T n) i).2 → n - i < n_41 → Z X 2 ad mdm S1 L R1 0 0 41 [(0, .ref (ad 25 v)), (1, .int (nI i))] [] := by
      intro n_41
      induction n_41 with
      | zero => intro i S1 R1 hi hM hm41; exact absurd hm41 (Nat.not_lt_zero _)
      | succ n_41 ih41 =>
        intro i S1 R1 hi hM hm41
        have hR2 := hM.2.2.1
        have hd11 : R1 25 v 1 = some (3, d) := (hM.2.2.2 25 v 1 (by omega)).trans hd1
        have hd21 : R1 12 v 0 = some (3, d) := (hM.2.2.2 12 v 0 (by omega)).trans hd2
        have hJi := JI.passF hJ0 hn10 i hi
        refine z_iload_n C 41 1 1 dX4_passMinute_41 rfl rfl ?_
        refine z_aload_n C 42 0 0 dX4_passMinute_42 rfl rfl ?_
        refine z_getr C 43 dX4_passMinute_43 gf_X4_57 rfl (by first | assumption | exact Nat.zero_lt_one | exact (show (15 : Nat) < 16 by decide) | exact Nat.lt_succ_of_lt (by assumption) | omega) (by first | exact hR _ _ _ _ rfl | exact hR2 _ _ _ _ rfl | assumption) ?_
        refine z_getiv C 46 dX4_passMinute_46 gf_X4_100 rfl (by first | assumption | exact Nat.zero_lt_one | exact (show (15 : Nat) < 16 by decide) | exact Nat.lt_succ_of_lt (by assumption) | omega) (hAT.fv hM.2.1).1 ?_
        first | with_reducible refine z_icmp_geN C 49 72 dX4_passMinute_49 (by decide) (by omega) (by omega) (fun h49 => ?_) (fun h49 => ?_) | refine z_icmp_ge C 49 72 dX4_passMinute_49 (by decide) (fun h49 => ?_) (fun h49 => ?_)
        · exact ret 72 _ _ _ _ dX4_passMinute_72 ((by have e : i = n := (by omega); subst e; exact ⟨hM.1, hM.2.1, rfl, hM.2.2⟩))
        · refine z_aload_n C 52 0 0 dX4_passMinute_52 rfl rfl ?_
          refine z_iload_n C 53 1 1 dX4_passMinute_53 rfl rfl ?_
          refine z_cVi0 C 54 dX4_passMinute_54 cv_X4_213 (c_X4_isWorkDue (N := (fPassF T n (fPass0 N T n) i).2) (T := T) (n := n) (d := d) (B := B + 1) hM.2.2.1 hv hd hd11 hd21 (hAT.fv hM.2.1) hn10 hJi.1.1 hM.1 hJi.1.2.2.1 (by omega)) rfl ⟨by decide, rfl⟩ (by first | assumption | exact Nat.zero_lt_one | exact (show (15 : Nat) < 16 by decide) | exact Nat.lt_succ_of_lt (by assumption) | omega) rfl rfl (Nat.le_of_ble_eq_true rfl) ⟨by decide, by decide⟩ ⟨rfl, rfl⟩ ⟨by decide, by decide⟩ ?_
          intro r54 S54 L54 R54 p54
          obtain ⟨rfl, rfl, rfl, rfl⟩ := p54
          first | with_reducible refine z_if_eqB C 57 66 dX4_passMinute_57 (by decide) (fun h57 => ?_) (fun h57 => ?_) | with_reducible refine z_if_eqN C 57 66 dX4_passMinute_57 (by decide) (by omega) (fun h57 => ?_) (fun h57 => ?_) | refine z_if_eq C 57 66 dX4_passMinute_57 (by decide) (fun h57 => ?_) (fun h57 => ?_)
          · refine z_iinc C 66 1 1 [(1, _), (0, _)] dX4_passMinute_66 rfl (by first | exact nI_1 _ | rfl) (by decide) rfl ?_
            refine z_goto C 69 41 dX4_passMinute_69 (by decide) ?_
            refine z_sub [(0, _), (1, _)] [1, 0] rfl ?_
            exact ih41 (i + 1) _ _ (by omega) (by first | exact ⟨by rw [fPassF_y h57]; exact hB63, hM.2.1.tr hF63, hM.2.2.tr hFR63⟩ | exact ⟨by rw [fPassF_n h57]; exact hM.1, hM.2.1, hM.2.2⟩) (by omega)
          · refine z_aload_n C 60 0 0 dX4_passMinute_60 rfl rfl ?_
            refine z_iload_n C 61 1 1 dX4_passMinute_61 rfl rfl ?_
            refine z_iconst (v := nI 1) C 62 dX4_passMinute_62 (by decide) ?_
            refine z_cVv0 C 63 dX4_passMinute_63 cv_X4_210 (c_X4_givePages (N := (fPassF T n (fPass0 N T n) i).2) (T := T) (n := n) (d := d) (B := B + 1) (w := 1) hM.2.2.1 hv hd hd11 hd21 (hAT.fv hM.2.1) hn10 hJi hM.1 (by omega) (by omega) (by rw [h57.1]; decide) (by omega)) rfl ⟨by decide, rfl⟩ (by first | assumption | exact Nat.zero_lt_one | exact (show (15 : Nat) < 16 by decide) | exact Nat.lt_succ_of_lt (by assumption) | omega) rfl rfl (Nat.le_of_ble_eq_true rfl) ⟨by decide, by decide⟩ ⟨rfl, rfl⟩ ⟨by decide, by decide⟩ ?_
            intro S63 L63 R63 p63
            obtain ⟨hB63, hF63, rfl, hFR63⟩ := p63
            refine z_iinc C 66 1 1 [(1, _), (0, _)] dX4_passMinute_66 rfl (by first | exact nI_1 _ | rfl) (by decide) rfl ?_
            refine z_goto C 69 41 dX4_passMinute_69 (by decide) ?_
            refine z_sub [(0, _), (1, _)] [1, 0] rfl ?_
            exact ih41 (i + 1) _ _ (by omega) (by first | exact ⟨by rw [fPassF_y h57]; exact hB63, hM.2.1.tr hF63, hM.2.2.tr hFR63⟩ | exact ⟨by rw [fPassF_n h57]; exact hM.1, hM.2.1, hM.2.2⟩) (by omega)
    refine z_sub [(0, _), (1, _)] [1, 0] rfl ?_
    exact loop_41 (n + 1) 0 _ _ (Nat.zero_le _) (by first | exact ⟨by rw [fPassF, hP0]; exact hBt, hF1, FR.rf hR⟩ | exact ⟨by rw [fPassF, hP0]; exact hB36, hF1.tr hF36, hFR36⟩) (by omega)
  · obtain ⟨q, hq, e⟩ := hJt.1.1.1.resolve_left (fun e => h14 (by rw [e]; decide))
    obtain ⟨b_, c_, w_, g_, r_, s_, t1, t2, t3, t4, t5, t6, t7, t8, t9, t10, t11, t12⟩ := hT q hq
    have hdq : 10 * d + q < 30 := by omega
    have hP0 : fPass0 N T n = fGets (fTick N) T n q (nI w_) := by rw [fPass0_s (by omega) e, t3]
    refine z_aload_n C 17 0 0 dX4_passMinute_17 rfl rfl ?_
    refine z_aload_n C 18 0 0 dX4_passMinute_18 rfl rfl ?_
    refine z_getiv C 19 dX4_passMinute_19 gf_X4_75 rfl (by first | assumption | exact Nat.zero_lt_one | exact (show (15 : Nat) < 16 by decide) | exact Nat.lt_succ_of_lt (by assumption) | omega) hBt.2.2.2.2.2.2.1 ?_
    rw [e]
    refine z_aload_n C 22 0 0 dX4_passMinute_22 rfl rfl ?_
    refine z_getr C 23 dX4_passMinute_23 gf_X4_57 rfl (by first | assumption | exact Nat.zero_lt_one | exact (show (15 : Nat) < 16 by decide) | exact Nat.lt_succ_of_lt (by assumption) | omega) (by first | exact hR _ _ _ _ rfl | exact hR2 _ _ _ _ rfl | assumption) ?_
    refine z_getr C 26 dX4_passMinute_26 gf_X4_164 rfl (by first | assumption | exact Nat.zero_lt_one | exact (show (15 : Nat) < 16 by decide) | exact Nat.lt_succ_of_lt (by assumption) | omega) (by first | exact hR _ _ _ _ rfl | exact hR2 _ _ _ _ rfl | assumption) ?_
    refine z_aload_n C 29 0 0 dX4_passMinute_29 rfl rfl ?_
    refine z_getiv C 30 dX4_passMinute_30 gf_X4_75 rfl (by first | assumption | exact Nat.zero_lt_one | exact (show (15 : Nat) < 16 by decide) | exact Nat.lt_succ_of_lt (by assumption) | omega) hBt.2.2.2.2.2.2.1 ?_
    rw [e]
    refine z_aald4 C 33 dX4_passMinute_33 rfl (by first | assumption | exact Nat.zero_lt_one | exact (show (15 : Nat) < 16 by decide) | exact Nat.lt_succ_of_lt (by assumption) | omega) (by first | rfl | assumption) (by decide) (by first | assumption | omega) (by first | exact hR _ _ _ _ rfl | exact hR2 _ _ _ _ rfl | assumption) ?_
    refine z_iconst (v := nI 2) C 34 dX4_passMinute_34 (by decide) ?_
    refine z_iald C 35 dX4_passMinute_35 (by first | rfl | assumption) (by first | assumption | exact Nat.zero_lt_one | exact (show (15 : Nat) < 16 by decide) | exact Nat.lt_succ_of_lt (by assumption) | omega) (by first | rfl | assumption) (by first | decide | omega) (by first | assumption | omega) ?_
    rw [hAT1.2 q 2 (by omega) (by decide), t3]
    refine z_cVv0 C 36 dX4_passMinute_36 cv_X4_210 (c_X4_givePages (N := fTick N) (T := T) (n := n) (d := d) (B := B + 1) hR hv hd hd1 hd2 hAT1 hn10 hJt hBt (by omega) hq (by rw [(hJt.1.1.2.2.2.1 q (by omega)).mpr e]; decide) t10) rfl ⟨by decide, rfl⟩ (by first | assumption | exact Nat.zero_lt_one | exact (show (15 : Nat) < 16 by decide) | exact Nat.lt_succ_of_lt (by assumption) | omega) rfl rfl (Nat.le_of_ble_eq_true rfl) ⟨by decide, by decide⟩ ⟨rfl, rfl⟩ ⟨by decide, by decide⟩ ?_
    intro S36 L36 R36 p36
    obtain ⟨hB36, hF36, rfl, hFR36⟩ := p36
    refine z_iconst (v := nI 0) C 39 dX4_passMinute_39 (by decide) ?_
    refine z_istore_n C 40 1 [(1, _), (0, _)] dX4_passMinute_40 rfl (by decide) rfl ?_
    have loop_41 : ∀ (n_41 : Nat) (i : Nat) (S1 : mS) (R1 : mR), i ≤ n → mP S S1 R R1 v n (fPassF T n (fPass0 N T n) i).2 → n - i < n_41 → Z X 2 ad mdm S1 L R1 0 0 41 [(0, .ref (ad 25 v)), (1, .int (nI i))] [] := by
      intro n_41
      induction n_41 with
      | zero => intro i S1 R1 hi hM hm41; exact absurd hm41 (Nat.not_lt_zero _)
      | succ n_41 ih41 =>
        intro i S1 R1 hi hM hm41
        have hR2 := hM.2.2.1
        have hd11 : R1 25 v 1 = some (3, d) := (hM.2.2.2 25 v 1 (by omega)).trans hd1
        have hd21 : R1 12 v 0 = some (3, d) := (hM.2.2.2 12 v 0 (by omega)).trans hd2
        have hJi := JI.passF hJ0 hn10 i hi
        refine z_iload_n C 41 1 1 dX4_passMinute_41 rfl rfl ?_
        refine z_aload_n C 42 0 0 dX4_passMinute_42 rfl rfl ?_
        refine z_getr C 43 dX4_passMinute_43 gf_X4_57 rfl (by first | assumption | exact Nat.zero_lt_one | exact (show (15 : Nat) < 16 by decide) | exact Nat.lt_succ_of_lt (by assumption) | omega) (by first | exact hR _ _ _ _ rfl | exact hR2 _ _ _ _ rfl | assumption) ?_
        refine z_getiv C 46 dX4_passMinute_46 gf_X4_100 rfl (by first | assumption | exact Nat.zero_lt_one | exact (show (15 : Nat) < 16 by decide) | exact Nat.lt_succ_of_lt (by assumption) | omega) (hAT.fv hM.2.1).1 ?_
        first | with_reducible refine z_icmp_geN C 49 72 dX4_passMinute_49 (by decide) (by omega) (by omega) (fun h49 => ?_) (fun h49 => ?_) | refine z_icmp_ge C 49 72 dX4_passMinute_49 (by decide) (fun h49 => ?_) (fun h49 => ?_)
        · exact ret 72 _ _ _ _ dX4_passMinute_72 ((by have e : i = n := (by omega); subst e; exact ⟨hM.1, hM.2.1, rfl, hM.2.2⟩))
        · refine z_aload_n C 52 0 0 dX4_passMinute_52 rfl rfl ?_
          refine z_iload_n C 53 1 1 dX4_passMinute_53 rfl rfl ?_
          refine z_cVi0 C 54 dX4_passMinute_54 cv_X4_213 (c_X4_isWorkDue (N := (fPassF T n (fPass0 N T n) i).2) (T := T) (n := n) (d := d) (B := B + 1) hM.2.2.1 hv hd hd11 hd21 (hAT.fv hM.2.1) hn10 hJi.1.1 hM.1 hJi.1.2.2.1 (by omega)) rfl ⟨by decide, rfl⟩ (by first | assumption | exact Nat.zero_lt_one | exact (show (15 : Nat) < 16 by decide) | exact Nat.lt_succ_of_lt (by assumption) | omega) rfl rfl (Nat.le_of_ble_eq_true rfl) ⟨by decide, by decide⟩ ⟨rfl, rfl⟩ ⟨by decide, by decide⟩ ?_
          intro r54 S54 L54 R54 p54
          obtain ⟨rfl, rfl, rfl, rfl⟩ := p54
          first | with_reducible refine z_if_eqB C 57 66 dX4_passMinute_57 (by decide) (fun h57 => ?_) (fun h57 => ?_) | with_reducible refine z_if_eqN C 57 66 dX4_passMinute_57 (by decide) (by omega) (fun h57 => ?_) (fun h57 => ?_) | refine z_if_eq C 57 66 dX4_passMinute_57 (by decide) (fun h57 => ?_) (fun h57 => ?_)
          · refine z_iinc C 66 1 1 [(1, _), (0, _)] dX4_passMinute_66 rfl (by first | exact nI_1 _ | rfl) (by decide) rfl ?_
            refine z_goto C 69 41 dX4_passMinute_69 (by decide) ?_
            refine z_sub [(0, _), (1, _)] [1, 0] rfl ?_
            exact ih41 (i + 1) _ _ (by omega) (by first | exact ⟨by rw [fPassF_y h57]; exact hB63, hM.2.1.tr hF63, hM.2.2.tr hFR63⟩ | exact ⟨by rw [fPassF_n h57]; exact hM.1, hM.2.1, hM.2.2⟩) (by omega)
          · refine z_aload_n C 60 0 0 dX4_passMinute_60 rfl rfl ?_
            refine z_iload_n C 61 1 1 dX4_passMinute_61 rfl rfl ?_
            refine z_iconst (v := nI 1) C 62 dX4_passMinute_62 (by decide) ?_
            refine z_cVv0 C 63 dX4_passMinute_63 cv_X4_210 (c_X4_givePages (N := (fPassF T n (fPass0 N T n) i).2) (T := T) (n := n) (d := d) (B := B + 1) (w := 1) hM.2.2.1 hv hd hd11 hd21 (hAT.fv hM.2.1) hn10 hJi hM.1 (by omega) (by omega) (by rw [h57.1]; decide) (by omega)) rfl ⟨by decide, rfl⟩ (by first | assumption | exact Nat.zero_lt_one | exact (show (15 : Nat) < 16 by decide) | exact Nat.lt_succ_of_lt (by assumption) | omega) rfl rfl (Nat.le_of_ble_eq_true rfl) ⟨by decide, by decide⟩ ⟨rfl, rfl⟩ ⟨by decide, by decide⟩ ?_
            intro S63 L63 R63 p63
            obtain ⟨hB63, hF63, rfl, hFR63⟩ := p63
            refine z_iinc C 66 1 1 [(1, _), (0, _)] dX4_passMinute_66 rfl (by first | exact nI_1 _ | rfl) (by decide) rfl ?_
            refine z_goto C 69 41 dX4_passMinute_69 (by decide) ?_
            refine z_sub [(0, _), (1, _)] [1, 0] rfl ?_
            exact ih41 (i + 1) _ _ (by omega) (by first | exact ⟨by rw [fPassF_y h57]; exact hB63, hM.2.1.tr hF63, hM.2.2.tr hFR63⟩ | exact ⟨by rw [fPassF_n h57]; exact hM.1, hM.2.1, hM.2.2⟩) (by omega)
    refine z_sub [(0, _), (1, _)] [1, 0] rfl ?_
    exact loop_41 (n + 1) 0 _ _ (Nat.zero_le _) (by first | exact ⟨by rw [fPassF, hP0]; exact hBt, hF1, FR.rf hR⟩ | exact ⟨by rw [fPassF, hP0]; exact hB36, hF1.tr hF36, hFR36⟩) (by omega)
