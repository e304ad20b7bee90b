/-- the links but for the trims' description stay -/
def FR (R R2 : mR) : Prop := mlk R2 ∧ ∀ k i j, ¬ (k = 12 ∧ i = 15 ∧ j = 0) → R2 k i j = R k i j
theorem FR.rf {R : mR} (h : mlk R) : FR R R := ⟨h, fun _ _ _ _ => rfl⟩
theorem FR.tr {R R2 R3 : mR} (h : FR R R2) (h2 : FR R2 R3) : FR R R3 := ⟨h2.1, fun k i j hn => (h2.2 k i j hn).trans (h.2 k i j hn)⟩
theorem FR.up {R : mR} (h : mlk R) {x : Option (Nat × Nat)} : FR R (up3 R 12 15 0 x) := ⟨h.up rfl, fun k i j hn => if_neg hn⟩
theorem AB.ft {S S2 : mS} {v n : Nat} {N : NN} (h : AB S v N n) (hv : v < 15) (e : FT S S2) : AB S2 v N n := h.off (fun k a b => e k v (by omega))
theorem AT.ft {S S2 : mS} {d n : Nat} {T : NN} (h : AT S d T n) (e : FT S S2) : AT S2 d T n := h.off (e 3 d (by omega)) (fun i => e 6 i (by omega))
theorem AT.fv {S S2 : mS} {d n v : Nat} {T : NN} (h : AT S d T n) (e : FV S S2 v) : AT S2 d T n := h.off (e 3 d (by omega)) (fun i => e 6 i (by omega))
/-- the trims are prepared for the first i programs -/
def fP (S S1 : mS) (N T : NN) (n i : Nat) : Prop := FT S S1 ∧ AR S1 15 N ∧ S1 7 0 3 = bI (N 4 = nI 1) ∧ (∀ p, p < i → (∃ s, 2 ≤ s ∧ s ≤ 5 ∧ fo N p 0 = nI s) → S1 8 0 p = fRank N T n p) ∧ ∀ p, p < i → S1 9 0 p = bI (fPrec N p)
theorem fP.next {S S1 : mS} {N T : NN} {n i : Nat} {x : Int32} (h : fP S S1 N T n i) (hx : (∃ s, 2 ≤ s ∧ s ≤ 5 ∧ fo N i 0 = nI s) → x = fRank N T n i) : fP S (up3 (up3 S1 9 0 i (bI (fPrec N i))) 8 0 i x) N T n (i + 1) := by
  obtain ⟨h1, h2, h3, h4, h5⟩ := h
  refine ⟨(h1.up (Or.inl (by omega))).up (Or.inl (by omega)), h2.off (fun k a b => by rw [up3_k _ (by omega), up3_k _ (by omega)]), by rw [up3_k _ (by omega), up3_k _ (by omega)]; exact h3, fun p hp hs => ?_, fun p hp => ?_⟩
  · by_cases e : p = i
    · subst e
      rw [up3_s]
      exact hx hs
    · rw [up3_j _ e, up3_k _ (by omega)]
      exact h4 p (by omega) hs
  · rw [up3_k _ (by omega)]
    by_cases e : p = i
    · subst e
      rw [up3_s]
    · rw [up3_j _ e]
      exact h5 p (by omega)
theorem fP.tR {S S1 : mS} {N T : NN} {n : Nat} (h : fP S S1 N T n n) : TR S1 N T n := ⟨h.2.1, h.2.2.2.1, h.2.2.2.2, h.2.2.1⟩
theorem fRank_1 {N T : NN} {n p : Nat} (h : N 4 = nI 1) : fRank N T n p = fUses N T p := by
  unfold fRank
  rw [h, if_neg (by decide), if_pos rfl]
theorem fRank_2 {N T : NN} {n p : Nat} (h : N 4 = nI 2) : fRank N T n p = fAway N p := by
  unfold fRank
  rw [h, if_neg (by decide), if_neg (by decide)]
theorem fRank_0 {N T : NN} {n p : Nat} (h : N 4 = nI 0) : fRank N T n p = fProm N n p := by
  unfold fRank
  rw [h]
  exact if_pos rfl
theorem AU.away {S : mS} {v p : Nat} {N : NN} (h : AU S v N) (hp : p < 10) (hs : ∃ s, 2 ≤ s ∧ s ≤ 5 ∧ fo N p 0 = nI s) : N 1 - S 18 v p = fAway N p ∧ fo N p 9 = nI 1 ∧ S 18 v p = fo N p 8 := by
  obtain ⟨s, s2, s5, es⟩ := hs
  have e1 : ¬ fo N p 0 = nI 1 := by rw [es, nI_2e s5 (by omega)]; omega
  have e0 : ¬ fo N p 0 = nI 0 := by rw [es, nI_2e s5 (by omega)]; omega
  obtain ⟨u9, u8, -⟩ := (h p hp).resolve_right (fun z => z.2.elim e1 (fun y => e0 y.1))
  exact ⟨by rw [u8]; exact (if_neg e1).symm, u9, u8⟩

def rm_X4_waitFor : Room := { frames := 0, cells := 0, slots := 0, locals := 0 }
set_option maxHeartbeats 4000000 in
set_option maxRecDepth 100000 in
theorem c_X4_waitFor {l : Launch} {G : mG} {ad : mA} {S : mS} {L : mL} {R : mR} {N T c : NN} {n v d p : Nat} (hR : mlk R) (hv : v < 15) (hd : d < 3) (hd1 : R 25 v 1 = some (3, d)) (hd2 : R 12 v 0 = some (3, d)) (hAT : AT S d T n) (hn10 : n ≤ 10) (hI : rI N n) (hB : AB S v N n) (hC : AC S d c) (hp : p < 10) : Ki l yX4_waitFor cX4_waitFor 3 .int rm_X4_waitFor G ad mdm [.ref (ad 25 v), .int (nI p)] S L R (fun r_ S2 L2 R2 => r_ = fWait N T c p ∧ S = S2 ∧ L = L2 ∧ R = R2) := by
  refine Ki.of RX4 (by decide) rfl (Nat.le_of_ble_eq_true rfl) ?_
  intro X hXl hXG C ret
  subst hXl; subst hXG
  change Z X 3 ad mdm S L R 0 0 0 [(0, _), (1, _)] []
  have hdp : 10 * d + p < 30 := by omega
  have hA := hB.1.2 p hp
  refine z_aload_n C 0 0 0 dX4_waitFor_0 rfl rfl ?_
  refine z_getr C 1 dX4_waitFor_1 gf_X4_57 rfl (by first | assumption | exact Nat.zero_lt_one | exact (show (15 : Nat) < 16 by decide) | exact Nat.lt_succ_of_lt (by assumption) | omega) (by first | exact hR _ _ _ _ rfl | exact hR2 _ _ _ _ rfl | assumption) ?_
  refine z_getr C 4 dX4_waitFor_4 gf_X4_164 rfl (by first | assumption | exact Nat.zero_lt_one | exact (show (15 : Nat) < 16 by decide) | exact Nat.lt_succ_of_lt (by assumption) | omega) (by first | exact hR _ _ _ _ rfl | exact hR2 _ _ _ _ rfl | assumption) ?_
  refine z_iload_n C 7 1 1 dX4_waitFor_7 rfl rfl ?_
  refine z_aald4 C 8 dX4_waitFor_8 rfl (by first | assumption | exact Nat.zero_lt_one | exact (show (15 : Nat) < 16 by decide) | exact Nat.lt_succ_of_lt (by assumption) | omega) (by first | rfl | assumption) (by decide) (by first | assumption | omega) (by first | exact hR _ _ _ _ rfl | exact hR2 _ _ _ _ rfl | assumption) ?_
  refine z_iconst (v := nI 0) C 9 dX4_waitFor_9 (by decide) ?_
  refine z_iald C 10 dX4_waitFor_10 (by first | rfl | assumption) (by first | assumption | exact Nat.zero_lt_one | exact (show (15 : Nat) < 16 by decide) | exact Nat.lt_succ_of_lt (by assumption) | omega) (by first | rfl | assumption) (by first | decide | omega) (by first | assumption | omega) ?_
  rw [hAT.2 p 0 hp (by decide)]
  refine z_istore_n C 11 2 [(2, _), (0, _), (1, _)] dX4_waitFor_11 rfl (by decide) rfl ?_
  refine z_aload_n C 12 0 1 dX4_waitFor_12 rfl rfl ?_
  refine z_getr C 13 dX4_waitFor_13 gf_X4_50 rfl (by first | assumption | exact Nat.zero_lt_one | exact (show (15 : Nat) < 16 by decide) | exact Nat.lt_succ_of_lt (by assumption) | omega) (by first | exact hR _ _ _ _ rfl | exact hR2 _ _ _ _ rfl | assumption) ?_
  refine z_getr C 16 dX4_waitFor_16 gf_X4_168 rfl (by first | assumption | exact Nat.zero_lt_one | exact (show (15 : Nat) < 16 by decide) | exact Nat.lt_succ_of_lt (by assumption) | omega) (by first | exact hR _ _ _ _ rfl | exact hR2 _ _ _ _ rfl | assumption) ?_
  refine z_iload_n C 19 1 2 dX4_waitFor_19 rfl rfl ?_
  refine z_iald C 20 dX4_waitFor_20 (by first | rfl | assumption) (by first | assumption | exact Nat.zero_lt_one | exact (show (15 : Nat) < 16 by decide) | exact Nat.lt_succ_of_lt (by assumption) | omega) (by first | rfl | assumption) (by first | decide | omega) (by first | assumption | omega) ?_
  rw [hA.1]
  refine z_tab C 21 1 5 102 (fun n => [56, 58, 58, 66, 92].getD (n - 1) 0) dX4_waitFor_21 (by decide) (by decide) (by decide) (fun n21 g21 k21 h21 => ?_) (fun h21 => ?_)
  · rcases (show n21 = 1 ∨ n21 = 2 ∨ n21 = 3 ∨ n21 = 4 ∨ n21 = 5 by omega) with rfl | rfl | rfl | rfl | rfl
    · refine z_iconst (v := nI 0) C 56 dX4_waitFor_56 (by decide) ?_
      exact ret 57 _ _ _ _ _ dX4_waitFor_57 (by first | rfl | exact bI_n | decide) (⟨(by unfold fWait; rw [h21]; rfl), rfl, rfl, rfl⟩)
    · refine z_aload_n C 58 0 1 dX4_waitFor_58 rfl rfl ?_
      refine z_getr C 59 dX4_waitFor_59 gf_X4_57 rfl (by first | assumption | exact Nat.zero_lt_one | exact (show (15 : Nat) < 16 by decide) | exact Nat.lt_succ_of_lt (by assumption) | omega) (by first | exact hR _ _ _ _ rfl | exact hR2 _ _ _ _ rfl | assumption) ?_
      refine z_getiv C 62 dX4_waitFor_62 gf_X4_171 rfl (by first | assumption | exact Nat.zero_lt_one | exact (show (15 : Nat) < 16 by decide) | exact Nat.lt_succ_of_lt (by assumption) | omega) hC.2.2.2 ?_
      exact ret 65 _ _ _ _ _ dX4_waitFor_65 (by first | rfl | exact bI_n | decide) (⟨(by unfold fWait; rw [h21]; rfl), rfl, rfl, rfl⟩)
    · refine z_aload_n C 58 0 1 dX4_waitFor_58 rfl rfl ?_
      refine z_getr C 59 dX4_waitFor_59 gf_X4_57 rfl (by first | assumption | exact Nat.zero_lt_one | exact (show (15 : Nat) < 16 by decide) | exact Nat.lt_succ_of_lt (by assumption) | omega) (by first | exact hR _ _ _ _ rfl | exact hR2 _ _ _ _ rfl | assumption) ?_
      refine z_getiv C 62 dX4_waitFor_62 gf_X4_171 rfl (by first | assumption | exact Nat.zero_lt_one | exact (show (15 : Nat) < 16 by decide) | exact Nat.lt_succ_of_lt (by assumption) | omega) hC.2.2.2 ?_
      exact ret 65 _ _ _ _ _ dX4_waitFor_65 (by first | rfl | exact bI_n | decide) (⟨(by unfold fWait; rw [h21]; rfl), rfl, rfl, rfl⟩)
    · refine z_aload_n C 66 0 1 dX4_waitFor_66 rfl rfl ?_
      refine z_getr C 67 dX4_waitFor_67 gf_X4_57 rfl (by first | assumption | exact Nat.zero_lt_one | exact (show (15 : Nat) < 16 by decide) | exact Nat.lt_succ_of_lt (by assumption) | omega) (by first | exact hR _ _ _ _ rfl | exact hR2 _ _ _ _ rfl | assumption) ?_
      refine z_getiv C 70 dX4_waitFor_70 gf_X4_171 rfl (by first | assumption | exact Nat.zero_lt_one | exact (show (15 : Nat) < 16 by decide) | exact Nat.lt_succ_of_lt (by assumption) | omega) hC.2.2.2 ?_
      refine z_aload_n C 73 0 1 dX4_waitFor_73 rfl rfl ?_
      refine z_getr C 74 dX4_waitFor_74 gf_X4_57 rfl (by first | assumption | exact Nat.zero_lt_one | exact (show (15 : Nat) < 16 by decide) | exact Nat.lt_succ_of_lt (by assumption) | omega) (by first | exact hR _ _ _ _ rfl | exact hR2 _ _ _ _ rfl | assumption) ?_
      refine z_getiv C 77 dX4_waitFor_77 gf_X4_174 rfl (by first | assumption | exact Nat.zero_lt_one | exact (show (15 : Nat) < 16 by decide) | exact Nat.lt_succ_of_lt (by assumption) | omega) hC.2.1 ?_
      refine z_aload_n C 80 0 1 dX4_waitFor_80 rfl rfl ?_
      refine z_getr C 81 dX4_waitFor_81 gf_X4_50 rfl (by first | assumption | exact Nat.zero_lt_one | exact (show (15 : Nat) < 16 by decide) | exact Nat.lt_succ_of_lt (by assumption) | omega) (by first | exact hR _ _ _ _ rfl | exact hR2 _ _ _ _ rfl | assumption) ?_
      refine z_getr C 84 dX4_waitFor_84 gf_X4_177 rfl (by first | assumption | exact Nat.zero_lt_one | exact (show (15 : Nat) < 16 by decide) | exact Nat.lt_succ_of_lt (by assumption) | omega) (by first | exact hR _ _ _ _ rfl | exact hR2 _ _ _ _ rfl | assumption) ?_
      refine z_iload_n C 87 1 2 dX4_waitFor_87 rfl rfl ?_
      refine z_iald C 88 dX4_waitFor_88 (by first | rfl | assumption) (by first | assumption | exact Nat.zero_lt_one | exact (show (15 : Nat) < 16 by decide) | exact Nat.lt_succ_of_lt (by assumption) | omega) (by first | rfl | assumption) (by first | decide | omega) (by first | assumption | omega) ?_
      rw [hA.2.1]
      first | with_reducible refine z_imulN C 89 dX4_waitFor_89 ?_ | refine z_imul C 89 dX4_waitFor_89 ?_
      first | with_reducible refine z_iaddN C 90 dX4_waitFor_90 ?_ | refine z_iadd C 90 dX4_waitFor_90 ?_
      exact ret 91 _ _ _ _ _ dX4_waitFor_91 (by first | rfl | exact bI_n | decide) (⟨(by unfold fWait; rw [h21]; rfl), rfl, rfl, rfl⟩)
    · refine z_aload_n C 92 0 1 dX4_waitFor_92 rfl rfl ?_
      refine z_getr C 93 dX4_waitFor_93 gf_X4_57 rfl (by first | assumption | exact Nat.zero_lt_one | exact (show (15 : Nat) < 16 by decide) | exact Nat.lt_succ_of_lt (by assumption) | omega) (by first | exact hR _ _ _ _ rfl | exact hR2 _ _ _ _ rfl | assumption) ?_
      refine z_getiv C 96 dX4_waitFor_96 gf_X4_180 rfl (by first | assumption | exact Nat.zero_lt_one | exact (show (15 : Nat) < 16 by decide) | exact Nat.lt_succ_of_lt (by assumption) | omega) hC.2.2.1 ?_
      refine z_iload_n C 99 2 0 dX4_waitFor_99 rfl rfl ?_
      first | with_reducible refine z_imulN C 100 dX4_waitFor_100 ?_ | refine z_imul C 100 dX4_waitFor_100 ?_
      exact ret 101 _ _ _ _ _ dX4_waitFor_101 (by first | rfl | exact bI_n | decide) (⟨(by unfold fWait; rw [h21]; rfl), rfl, rfl, rfl⟩)
  · obtain ⟨s, hs5, hs⟩ := hI.2.2.1 p hp
    obtain rfl : s = 0 := by
      rcases (show s = 0 ∨ (1 ≤ s ∧ s ≤ 5) by omega) with h | h
      · exact h
      · exact absurd hs (h21 s h.1 h.2)
    refine z_aload_n C 102 0 1 dX4_waitFor_102 rfl rfl ?_
    refine z_getr C 103 dX4_waitFor_103 gf_X4_57 rfl (by first | assumption | exact Nat.zero_lt_one | exact (show (15 : Nat) < 16 by decide) | exact Nat.lt_succ_of_lt (by assumption) | omega) (by first | exact hR _ _ _ _ rfl | exact hR2 _ _ _ _ rfl | assumption) ?_
    refine z_getiv C 106 dX4_waitFor_106 gf_X4_183 rfl (by first | assumption | exact Nat.zero_lt_one | exact (show (15 : Nat) < 16 by decide) | exact Nat.lt_succ_of_lt (by assumption) | omega) hC.1 ?_
    refine z_iload_n C 109 2 0 dX4_waitFor_109 rfl rfl ?_
    first | with_reducible refine z_imulN C 110 dX4_waitFor_110 ?_ | refine z_imul C 110 dX4_waitFor_110 ?_
    exact ret 111 _ _ _ _ _ dX4_waitFor_111 (by first | rfl | exact bI_n | decide) (⟨(by unfold fWait; rw [hs]; rfl), rfl, rfl, rfl⟩)
def rm_X4_complaintsOfAll : Room := { frames := 0, cells := 0, slots := 0, locals := 0 }
set_option maxHeartbeats 4000000 in
set_option maxRecDepth 100000 in
theorem c_X4_complaintsOfAll {l : Launch} {G : mG} {ad : mA} {S : mS} {L : mL} {R : mR} {N T : NN} {n v d : Nat} (hR : mlk R) (hv : v < 15) (hd : d < 3) (hd1 : R 25 v 1 = some (3, d)) (hd2 : R 12 v 0 = some (3, d)) (hAT : AT S d T n) (hn10 : n ≤ 10) (hI : rI N n) (hB : AB S v N n) : Ki l yX4_complaintsOfAll cX4_complaintsOfAll 3 .int rm_X4_complaintsOfAll G ad mdm [.ref (ad 25 v)] S L R (fun r_ S2 L2 R2 => r_ = smI (fun p => fo N p 4) n ∧ S = S2 ∧ L = L2 ∧ R = R2) := by
  refine Ki.of RX4 (by decide) rfl (Nat.le_of_ble_eq_true rfl) ?_
  intro X hXl hXG C ret
  subst hXl; subst hXG
  change Z X 3 ad mdm S L R 0 0 0 [(0, _)] []
  refine z_iconst (v := nI 0) C 0 dX4_complaintsOfAll_0 (by decide) ?_
  refine z_istore_n C 1 1 [(1, _), (0, _)] dX4_complaintsOfAll_1 rfl (by decide) rfl ?_
  refine z_iconst (v := nI 0) C 2 dX4_complaintsOfAll_2 (by decide) ?_
  refine z_istore_n C 3 2 [(2, _), (1, _), (0, _)] dX4_complaintsOfAll_3 rfl (by decide) rfl ?_
  have loop_4 : ∀ (n_4 : Nat) (i : Nat) (a : Int32), i ≤ n → a = smI (fun p => fo N p 4) i → n - i < n_4 → Z X 3 ad mdm S L R 0 0 4 [(0, .ref (ad 25 v)), (1, .int a), (2, .int (nI i))] [] := by
    intro n_4
    induction n_4 with
    | zero => intro i a hi ha hm4; exact absurd hm4 (Nat.not_lt_zero _)
    | succ n_4 ih4 =>
      intro i a hi ha hm4
      refine z_iload_n C 4 2 2 dX4_complaintsOfAll_4 rfl rfl ?_
      refine z_aload_n C 5 0 0 dX4_complaintsOfAll_5 rfl rfl ?_
      refine z_getr C 6 dX4_complaintsOfAll_6 gf_X4_57 rfl (by first | assumption | exact Nat.zero_lt_one | exact (show (15 : Nat) < 16 by decide) | exact Nat.lt_succ_of_lt (by assumption) | omega) (by first | exact hR _ _ _ _ rfl | exact hR2 _ _ _ _ rfl | assumption) ?_
      refine z_getiv C 9 dX4_complaintsOfAll_9 gf_X4_100 rfl (by first | assumption | exact Nat.zero_lt_one | exact (show (15 : Nat) < 16 by decide) | exact Nat.lt_succ_of_lt (by assumption) | omega) hAT.1 ?_
      first | with_reducible refine z_icmp_geN C 12 30 dX4_complaintsOfAll_12 (by decide) (by omega) (by omega) (fun h12 => ?_) (fun h12 => ?_) | refine z_icmp_ge C 12 30 dX4_complaintsOfAll_12 (by decide) (fun h12 => ?_) (fun h12 => ?_)
      · refine z_iload_n C 30 1 1 dX4_complaintsOfAll_30 rfl rfl ?_
        exact ret 31 _ _ _ _ _ dX4_complaintsOfAll_31 (by first | rfl | exact bI_n | decide) (⟨(by rw [ha, show i = n by omega]), rfl, rfl, rfl⟩)
      · refine z_iload_n C 15 1 1 dX4_complaintsOfAll_15 rfl rfl ?_
        refine z_aload_n C 16 0 0 dX4_complaintsOfAll_16 rfl rfl ?_
        refine z_getr C 17 dX4_complaintsOfAll_17 gf_X4_29 rfl (by first | assumption | exact Nat.zero_lt_one | exact (show (15 : Nat) < 16 by decide) | exact Nat.lt_succ_of_lt (by assumption) | omega) (by first | exact hR _ _ _ _ rfl | exact hR2 _ _ _ _ rfl | assumption) ?_
        refine z_iload_n C 20 2 2 dX4_complaintsOfAll_20 rfl rfl ?_
        refine z_iald C 21 dX4_complaintsOfAll_21 (by first | rfl | assumption) (by first | assumption | exact Nat.zero_lt_one | exact (show (15 : Nat) < 16 by decide) | exact Nat.lt_succ_of_lt (by assumption) | omega) (by first | rfl | assumption) (by first | decide | omega) (by first | assumption | omega) ?_
        first | with_reducible refine z_iaddN C 22 dX4_complaintsOfAll_22 ?_ | refine z_iadd C 22 dX4_complaintsOfAll_22 ?_
        refine z_istore_n C 23 1 [(1, _), (0, _), (2, _)] dX4_complaintsOfAll_23 rfl (by decide) rfl ?_
        refine z_iinc C 24 2 2 [(2, _), (1, _), (0, _)] dX4_complaintsOfAll_24 rfl (by first | exact nI_1 _ | rfl) (by decide) rfl ?_
        refine z_goto C 27 4 dX4_complaintsOfAll_27 (by decide) ?_
        refine z_sub [(0, _), (1, _), (2, _)] [2, 1, 0] rfl ?_
        exact ih4 (i + 1) _ (by omega) (by rw [ha, (hB.2.2.2.2.2.2.2 i (by omega)).2.1]; rfl) (by omega)
  refine z_sub [(0, _), (1, _), (2, _)] [2, 1, 0] rfl ?_
  exact loop_4 (n + 1) 0 _ (Nat.zero_le _) rfl (by omega)
def rm_X4_waitingNotice : Room := { frames := 0, cells := 0, slots := 0, locals := 0 }
set_option maxHeartbeats 4000000 in
set_option maxRecDepth 100000 in
theorem c_X4_waitingNotice {l : Launch} {G : mG} {ad : mA} {S : mS} {L : mL} {R : mR} {N : NN} {n v p w : Nat} {k : Int32} (hR : mlk R) (hv : v < 15) (hI : rI N n) (hB : AB S v N n) (hp : p < 10) (hw : fo N p 15 = nI w) (hw5 : w ≤ 5) : Ki l yX4_waitingNotice cX4_waitingNotice 3 .int rm_X4_waitingNotice G ad mdm [.ref (ad 25 v), .int (nI p), .int k] S L R (fun r_ S2 L2 R2 => (∀ j, j < w → k = nI j → r_ = N (388 + 5 * p + j)) ∧ (¬ isP w k → r_ = -1) ∧ S = S2 ∧ L = L2 ∧ R = R2) := by
  refine Ki.of RX4 (by decide) rfl (Nat.le_of_ble_eq_true rfl) ?_
  intro X hXl hXG C ret
  subst hXl; subst hXG
  change Z X 3 ad mdm S L R 0 0 0 [(0, _), (1, _), (2, _)] []
  have hP := hB.2.2.2.2
  have hPp := hP.2.2.2 p (by omega)
  refine z_iload_n C 0 2 2 dX4_waitingNotice_0 rfl rfl ?_
  refine z_if_lt C 1 14 dX4_waitingNotice_1 (by decide) (fun h1 => ?_) (fun h1 => ?_)
  · refine z_iconst (v := (-1)) C 14 dX4_waitingNotice_14 (by decide) ?_
    refine z_goto C 15 28 dX4_waitingNotice_15 (by decide) ?_
    exact ret 28 _ _ _ _ _ dX4_waitingNotice_28 (by first | rfl | exact bI_n | decide) (⟨(by first | exact fun j hj e => by rw [← (nI_eq (show q < 2 ^ 31 by omega) (by omega)).mp e]; exact hPp.2.2.2.2 q w hw hqw hw5 | exact fun j hj e => by subst e; first | exact absurd h1 (nI_pos (by omega)) | exact absurd (nI_lt hj (by omega)) h11), (by first | exact fun _ => rfl | exact fun z => absurd ⟨q, hqw, rfl⟩ z), rfl, rfl, rfl⟩)
  · refine z_iload_n C 4 2 2 dX4_waitingNotice_4 rfl rfl ?_
    refine z_aload_n C 5 0 0 dX4_waitingNotice_5 rfl rfl ?_
    refine z_getr C 6 dX4_waitingNotice_6 gf_X4_35 rfl (by first | assumption | exact Nat.zero_lt_one | exact (show (15 : Nat) < 16 by decide) | exact Nat.lt_succ_of_lt (by assumption) | omega) (by first | exact hR _ _ _ _ rfl | exact hR2 _ _ _ _ rfl | assumption) ?_
    refine z_iload_n C 9 1 1 dX4_waitingNotice_9 rfl rfl ?_
    refine z_iald C 10 dX4_waitingNotice_10 (by first | rfl | assumption) (by first | assumption | exact Nat.zero_lt_one | exact (show (15 : Nat) < 16 by decide) | exact Nat.lt_succ_of_lt (by assumption) | omega) (by first | rfl | assumption) (by first | decide | omega) (by first | assumption | omega) ?_
    rw [hPp.2.2.2.1, hw]
    first | with_reducible refine z_icmp_ltN C 11 18 dX4_waitingNotice_11 (by decide) (by omega) (by omega) (fun h11 => ?_) (fun h11 => ?_) | refine z_icmp_lt C 11 18 dX4_waitingNotice_11 (by decide) (fun h11 => ?_) (fun h11 => ?_)
    · obtain ⟨q, hqw, rfl⟩ := isP_of h1 h11 (by omega)
      refine z_aload_n C 18 0 0 dX4_waitingNotice_18 rfl rfl ?_
      refine z_getr C 19 dX4_waitingNotice_19 gf_X4_38 rfl (by first | assumption | exact Nat.zero_lt_one | exact (show (15 : Nat) < 16 by decide) | exact Nat.lt_succ_of_lt (by assumption) | omega) (by first | exact hR _ _ _ _ rfl | exact hR2 _ _ _ _ rfl | assumption) ?_
      refine z_iload_n C 22 1 1 dX4_waitingNotice_22 rfl rfl ?_
      refine z_iconst (v := nI 5) C 23 dX4_waitingNotice_23 (by decide) ?_
      first | with_reducible refine z_imulN C 24 dX4_waitingNotice_24 ?_ | refine z_imul C 24 dX4_waitingNotice_24 ?_
      refine z_iload_n C 25 2 2 dX4_waitingNotice_25 rfl rfl ?_
      first | with_reducible refine z_iaddN C 26 dX4_waitingNotice_26 ?_ | refine z_iadd C 26 dX4_waitingNotice_26 ?_
      refine z_iald C 27 dX4_waitingNotice_27 (by first | rfl | assumption) (by first | assumption | exact Nat.zero_lt_one | exact (show (15 : Nat) < 16 by decide) | exact Nat.lt_succ_of_lt (by assumption) | omega) (by first | rfl | assumption) (by first | decide | omega) (by first | assumption | omega) ?_
      exact ret 28 _ _ _ _ _ dX4_waitingNotice_28 (by first | rfl | exact bI_n | decide) (⟨(by first | exact fun j hj e => by rw [← (nI_eq (show q < 2 ^ 31 by omega) (by omega)).mp e]; exact hPp.2.2.2.2 q w hw hqw hw5 | exact fun j hj e => by subst e; first | exact absurd h1 (nI_pos (by omega)) | exact absurd (nI_lt hj (by omega)) h11), (by first | exact fun _ => rfl | exact fun z => absurd ⟨q, hqw, rfl⟩ z), rfl, rfl, rfl⟩)
    · refine z_iconst (v := (-1)) C 14 dX4_waitingNotice_14 (by decide) ?_
      refine z_goto C 15 28 dX4_waitingNotice_15 (by decide) ?_
      exact ret 28 _ _ _ _ _ dX4_waitingNotice_28 (by first | rfl | exact bI_n | decide) (⟨(by first | exact fun j hj e => by rw [← (nI_eq (show q < 2 ^ 31 by omega) (by omega)).mp e]; exact hPp.2.2.2.2 q w hw hqw hw5 | exact fun j hj e => by subst e; first | exact absurd h1 (nI_pos (by omega)) | exact absurd (nI_lt hj (by omega)) h11), (by first | exact fun _ => rfl | exact fun z => absurd ⟨q, hqw, rfl⟩ z), rfl, rfl, rfl⟩)
def rm_X4_isWorkDue : Room := { frames := 0, cells := 0, slots := 0, locals := 0 }
set_option maxHeartbeats 4000000 in
set_option maxRecDepth 100000 in
theorem c_X4_isWorkDue {l : Launch} {G : mG} {ad : mA} {S : mS} {L : mL} {R : mR} {N T : NN} {n v d p B : Nat} (hR : mlk R) (hv : v < 15) (hd : d < 3) (hd1 : R 25 v 1 = some (3, d)) (hd2 : R 12 v 0 = some (3, d)) (hAT : AT S d T n) (hn10 : n ≤ 10) (hI : rI N n) (hB : AB S v N n) (hT : pI N B) (hp : p < 10) : Ki l yX4_isWorkDue cX4_isWorkDue 3 .boolean rm_X4_isWorkDue G ad mdm [.ref (ad 25 v), .int (nI p)] S L R (fun r_ S2 L2 R2 => r_ = bI (fDue N T p) ∧ S = S2 ∧ L = L2 ∧ R = R2) := by
  refine Ki.of RX4 (by decide) rfl (Nat.le_of_ble_eq_true rfl) ?_
  intro X hXl hXG C ret
  subst hXl; subst hXG
  change Z X 3 ad mdm S L R 0 0 0 [(0, _), (1, _)] []
  have hdp : 10 * d + p < 30 := by omega
  have hA := hB.1.2 p hp
  have hP := hB.2.2.2.2
  have hPp := hP.2.2.2 p (by omega)
  refine z_aload_n C 0 0 0 dX4_isWorkDue_0 rfl rfl ?_
  refine z_getr C 1 dX4_isWorkDue_1 gf_X4_57 rfl (by first | assumption | exact Nat.zero_lt_one | exact (show (15 : Nat) < 16 by decide) | exact Nat.lt_succ_of_lt (by assumption) | omega) (by first | exact hR _ _ _ _ rfl | exact hR2 _ _ _ _ rfl | assumption) ?_
  refine z_getr C 4 dX4_isWorkDue_4 gf_X4_164 rfl (by first | assumption | exact Nat.zero_lt_one | exact (show (15 : Nat) < 16 by decide) | exact Nat.lt_succ_of_lt (by assumption) | omega) (by first | exact hR _ _ _ _ rfl | exact hR2 _ _ _ _ rfl | assumption) ?_
  refine z_iload_n C 7 1 1 dX4_isWorkDue_7 rfl rfl ?_
  refine z_aald4 C 8 dX4_isWorkDue_8 rfl (by first | assumption | exact Nat.zero_lt_one | exact (show (15 : Nat) < 16 by decide) | exact Nat.lt_succ_of_lt (by assumption) | omega) (by first | rfl | assumption) (by decide) (by first | assumption | omega) (by first | exact hR _ _ _ _ rfl | exact hR2 _ _ _ _ rfl | assumption) ?_
  refine z_bipush (v := nI 7) C 9 dX4_isWorkDue_9 (by decide +kernel) ?_
  refine z_iald C 11 dX4_isWorkDue_11 (by first | rfl | assumption) (by first | assumption | exact Nat.zero_lt_one | exact (show (15 : Nat) < 16 by decide) | exact Nat.lt_succ_of_lt (by assumption) | omega) (by first | rfl | assumption) (by first | decide | omega) (by first | assumption | omega) ?_
  rw [hAT.2 p 7 hp (by decide)]
  refine z_istore_n C 12 2 [(2, _), (0, _), (1, _)] dX4_isWorkDue_12 rfl (by decide) rfl ?_
  refine z_aload_n C 13 0 1 dX4_isWorkDue_13 rfl rfl ?_
  refine z_getr C 14 dX4_isWorkDue_14 gf_X4_50 rfl (by first | assumption | exact Nat.zero_lt_one | exact (show (15 : Nat) < 16 by decide) | exact Nat.lt_succ_of_lt (by assumption) | omega) (by first | exact hR _ _ _ _ rfl | exact hR2 _ _ _ _ rfl | assumption) ?_
  refine z_getr C 17 dX4_isWorkDue_17 gf_X4_168 rfl (by first | assumption | exact Nat.zero_lt_one | exact (show (15 : Nat) < 16 by decide) | exact Nat.lt_succ_of_lt (by assumption) | omega) (by first | exact hR _ _ _ _ rfl | exact hR2 _ _ _ _ rfl | assumption) ?_
  refine z_iload_n C 20 1 2 dX4_isWorkDue_20 rfl rfl ?_
  refine z_iald C 21 dX4_isWorkDue_21 (by first | rfl | assumption) (by first | assumption | exact Nat.zero_lt_one | exact (show (15 : Nat) < 16 by decide) | exact Nat.lt_succ_of_lt (by assumption) | omega) (by first | rfl | assumption) (by first | decide | omega) (by first | assumption | omega) ?_
  rw [hA.1]
  refine z_iconst (v := nI 2) C 22 dX4_isWorkDue_22 (by decide) ?_
  first | with_reducible refine z_icmp_neN C 23 53 dX4_isWorkDue_23 (by decide) (by omega) (by omega) (fun h23 => ?_) (fun h23 => ?_) | refine z_icmp_ne C 23 53 dX4_isWorkDue_23 (by decide) (fun h23 => ?_) (fun h23 => ?_)
  · refine z_iconst (v := nI 0) C 53 dX4_isWorkDue_53 (by decide) ?_
    exact ret 54 _ _ _ _ _ dX4_isWorkDue_54 (by first | rfl | exact bI_n | decide) (⟨(by first | exact bI_1 ⟨h23, Int32.not_le.mp h27, h46⟩ | exact bI_0 (fun z => h23 z.1) | exact bI_0 (fun z => absurd z.2.1 (Int32.not_lt.mpr h27)) | exact bI_0 (fun z => h46 z.2.2)), rfl, rfl, rfl⟩)
  · refine z_iload_n C 26 2 0 dX4_isWorkDue_26 rfl rfl ?_
    first | with_reducible refine z_if_leN C 27 53 dX4_isWorkDue_27 (by decide) (by omega) (fun h27 => ?_) (fun h27 => ?_) | refine z_if_le C 27 53 dX4_isWorkDue_27 (by decide) (fun h27 => ?_) (fun h27 => ?_)
    · refine z_iconst (v := nI 0) C 53 dX4_isWorkDue_53 (by decide) ?_
      exact ret 54 _ _ _ _ _ dX4_isWorkDue_54 (by first | rfl | exact bI_n | decide) (⟨(by first | exact bI_1 ⟨h23, Int32.not_le.mp h27, h46⟩ | exact bI_0 (fun z => h23 z.1) | exact bI_0 (fun z => absurd z.2.1 (Int32.not_lt.mpr h27)) | exact bI_0 (fun z => h46 z.2.2)), rfl, rfl, rfl⟩)
    · have hu : S 18 v p = fo N p 7 := ((hB.2.2.1.away hp ⟨2, by omega, by omega, h23⟩).2.2).trans (hT.2.1 p hp).symm
      refine z_aload_n C 30 0 1 dX4_isWorkDue_30 rfl rfl ?_
      refine z_getiv C 31 dX4_isWorkDue_31 gf_X4_65 rfl (by first | assumption | exact Nat.zero_lt_one | exact (show (15 : Nat) < 16 by decide) | exact Nat.lt_succ_of_lt (by assumption) | omega) hP.1 ?_
      refine z_aload_n C 34 0 1 dX4_isWorkDue_34 rfl rfl ?_
      refine z_getr C 35 dX4_isWorkDue_35 gf_X4_12 rfl (by first | assumption | exact Nat.zero_lt_one | exact (show (15 : Nat) < 16 by decide) | exact Nat.lt_succ_of_lt (by assumption) | omega) (by first | exact hR _ _ _ _ rfl | exact hR2 _ _ _ _ rfl | assumption) ?_
      refine z_getr C 38 dX4_isWorkDue_38 gf_X4_125 rfl (by first | assumption | exact Nat.zero_lt_one | exact (show (15 : Nat) < 16 by decide) | exact Nat.lt_succ_of_lt (by assumption) | omega) (by first | exact hR _ _ _ _ rfl | exact hR2 _ _ _ _ rfl | assumption) ?_
      refine z_iload_n C 41 1 2 dX4_isWorkDue_41 rfl rfl ?_
      refine z_iald C 42 dX4_isWorkDue_42 (by first | rfl | assumption) (by first | assumption | exact Nat.zero_lt_one | exact (show (15 : Nat) < 16 by decide) | exact Nat.lt_succ_of_lt (by assumption) | omega) (by first | rfl | assumption) (by first | decide | omega) (by first | assumption | omega) ?_
      rw [hu]
      first | with_reducible refine z_isubN C 43 dX4_isWorkDue_43 (by omega) ?_ | refine z_isub C 43 dX4_isWorkDue_43 ?_
      refine z_iload_n C 44 2 0 dX4_isWorkDue_44 rfl rfl ?_
      first | with_reducible refine z_iremN C 45 dX4_isWorkDue_45 (by omega) (by omega) (by omega) ?_ | refine z_irem C 45 dX4_isWorkDue_45 (fun z => h27 (by rw [z]; decide)) ?_
      first | with_reducible refine z_if_neB C 46 53 dX4_isWorkDue_46 (by decide) (fun h46 => ?_) (fun h46 => ?_) | with_reducible refine z_if_neN C 46 53 dX4_isWorkDue_46 (by decide) (by omega) (fun h46 => ?_) (fun h46 => ?_) | refine z_if_ne C 46 53 dX4_isWorkDue_46 (by decide) (fun h46 => ?_) (fun h46 => ?_)
      · refine z_iconst (v := nI 0) C 53 dX4_isWorkDue_53 (by decide) ?_
        exact ret 54 _ _ _ _ _ dX4_isWorkDue_54 (by first | rfl | exact bI_n | decide) (⟨(by first | exact bI_1 ⟨h23, Int32.not_le.mp h27, h46⟩ | exact bI_0 (fun z => h23 z.1) | exact bI_0 (fun z => absurd z.2.1 (Int32.not_lt.mpr h27)) | exact bI_0 (fun z => h46 z.2.2)), rfl, rfl, rfl⟩)
      · refine z_iconst (v := nI 1) C 49 dX4_isWorkDue_49 (by decide) ?_
        refine z_goto C 50 54 dX4_isWorkDue_50 (by decide) ?_
        exact ret 54 _ _ _ _ _ dX4_isWorkDue_54 (by first | rfl | exact bI_n | decide) (⟨(by first | exact bI_1 ⟨h23, Int32.not_le.mp h27, h46⟩ | exact bI_0 (fun z => h23 z.1) | exact bI_0 (fun z => absurd z.2.1 (Int32.not_lt.mpr h27)) | exact bI_0 (fun z => h46 z.2.2)), rfl, rfl, rfl⟩)
def rm_X4_prepareTrims : Room := { frames := 2, cells := 0, slots := 0, locals := 82 }
set_option maxHeartbeats 4000000 in
set_option maxRecDepth 100000 in
theorem c_X4_prepareTrims {l : Launch} {G : mG} {ad : mA} {S : mS} {L : mL} {R : mR} {N T : NN} {n v d B : Nat} (hR : mlk R) (hv : v < 15) (hd : d < 3) (hd1 : R 25 v 1 = some (3, d)) (hd2 : R 12 v 0 = some (3, d)) (hAT : AT S d T n) (hn10 : n ≤ 10) (hI : rI N n) (hB : AB S v N n) (hT : pI N B) (hB31 : B < 2147480000) : Kv l yX4_prepareTrims cX4_prepareTrims 2 rm_X4_prepareTrims G ad mdm [.ref (ad 25 v)] S L R (fun S2 L2 R2 => TR S2 N T n ∧ FT S S2 ∧ L = L2 ∧ (up3 R 12 15 0 (some (3, d))) = R2) := by
  refine Kv.of RX4 (by decide) rfl (Nat.le_of_ble_eq_true rfl) ?_
  intro X hXl hXG C ret
  subst hXl; subst hXG
  change Z X 2 ad mdm S L R 0 0 0 [(0, _)] []
  obtain ⟨q4, hq4, h4⟩ := hT.2.2
  refine z_aload_n C 0 0 0 dX4_prepareTrims_0 rfl rfl ?_
  refine z_getr C 1 dX4_prepareTrims_1 gf_X4_41 rfl (by first | assumption | exact Nat.zero_lt_one | exact (show (15 : Nat) < 16 by decide) | exact Nat.lt_succ_of_lt (by assumption) | omega) (by first | exact hR _ _ _ _ rfl | exact hR2 _ _ _ _ rfl | assumption) ?_
  refine z_getr C 4 dX4_prepareTrims_4 gf_X4_103 rfl (by first | assumption | exact Nat.zero_lt_one | exact (show (15 : Nat) < 16 by decide) | exact Nat.lt_succ_of_lt (by assumption) | omega) (by first | exact hR _ _ _ _ rfl | exact hR2 _ _ _ _ rfl | assumption) ?_
  refine z_aload_n C 7 0 0 dX4_prepareTrims_7 rfl rfl ?_
  refine z_getr C 8 dX4_prepareTrims_8 gf_X4_50 rfl (by first | assumption | exact Nat.zero_lt_one | exact (show (15 : Nat) < 16 by decide) | exact Nat.lt_succ_of_lt (by assumption) | omega) (by first | exact hR _ _ _ _ rfl | exact hR2 _ _ _ _ rfl | assumption) ?_
  refine z_cVv0 C 11 dX4_prepareTrims_11 cv_X4_84 (c_X6_copyFrom (q := v) (r := 15) hR (by decide) (by omega) (by omega) hd2 (fun j hj => by rw [(hB.1.2 j hj).2.2.2]; exact hI.2.2.2.2.2.2.1 j hj)) rfl ⟨by decide, rfl⟩ (by first | assumption | exact Nat.zero_lt_one | exact (show (15 : Nat) < 16 by decide) | exact Nat.lt_succ_of_lt (by assumption) | omega) rfl rfl (Nat.le_of_ble_eq_true rfl) ⟨by decide, by decide⟩ ⟨rfl, rfl⟩ ⟨by decide, by decide⟩ ?_
  intro S11 L11 R11 p11
  obtain ⟨rfl, rfl, rfl⟩ := p11
  have hR2 : mlk (up3 R 12 15 0 (some (3, d))) := hR.up rfl
  have hd12 : (up3 R 12 15 0 (some (3, d))) 25 v 1 = some (3, d) := hd1
  have hd22 : (up3 R 12 15 0 (some (3, d))) 12 v 0 = some (3, d) := by rw [up3_i _ (by omega)]; exact hd2
  have hFc : FT S (rCopy S v 15) := fun kk i hn => rCopy_off (by omega)
  have hP1 : rCopy S v 15 25 v 6 = N 4 := (congrFun (hFc 25 v (by omega)) 6).trans hB.2.2.2.2.2.1
  refine z_aload_n C 14 0 0 dX4_prepareTrims_14 rfl rfl ?_
  refine z_getr C 15 dX4_prepareTrims_15 gf_X4_41 rfl (by first | assumption | exact Nat.zero_lt_one | exact (show (15 : Nat) < 16 by decide) | exact Nat.lt_succ_of_lt (by assumption) | omega) (by first | exact hR _ _ _ _ rfl | exact hR2 _ _ _ _ rfl | assumption) ?_
  refine z_aload_n C 18 0 0 dX4_prepareTrims_18 rfl rfl ?_
  refine z_getiv C 19 dX4_prepareTrims_19 gf_X4_74 rfl (by first | assumption | exact Nat.zero_lt_one | exact (show (15 : Nat) < 16 by decide) | exact Nat.lt_succ_of_lt (by assumption) | omega) (hP1.trans h4) ?_
  refine z_iconst (v := nI 1) C 22 dX4_prepareTrims_22 (by decide) ?_
  first | with_reducible refine z_icmp_neN C 23 30 dX4_prepareTrims_23 (by decide) (by omega) (by omega) (fun h23 => ?_) (fun h23 => ?_) | refine z_icmp_ne C 23 30 dX4_prepareTrims_23 (by decide) (fun h23 => ?_) (fun h23 => ?_)
  · refine z_iconst (v := nI 0) C 30 dX4_prepareTrims_30 (by decide) ?_
    refine z_putz C 31 dX4_prepareTrims_31 gf_X4_106 ⟨rfl, rfl⟩ (by first | exact bI_01 | exact Or.inl rfl | exact Or.inr rfl | assumption) rfl (by first | assumption | exact Nat.zero_lt_one | exact (show (15 : Nat) < 16 by decide) | exact Nat.lt_succ_of_lt (by assumption) | omega) ?_
    refine z_iconst (v := nI 0) C 34 dX4_prepareTrims_34 (by decide) ?_
    refine z_istore_n C 35 1 [(1, _), (0, _)] dX4_prepareTrims_35 rfl (by decide) rfl ?_
    have loop_36 : ∀ (n_36 : Nat) (i : Nat) (S1 : mS), i ≤ n → fP S S1 N T n i → n - i < n_36 → Z X 2 ad mdm S1 L (up3 R 12 15 0 (some (3, d))) 0 0 36 [(0, .ref (ad 25 v)), (1, .int (nI i))] [] := by
      intro n_36
      induction n_36 with
      | zero => intro i S1 hi hF hm36; exact absurd hm36 (Nat.not_lt_zero _)
      | succ n_36 ih36 =>
        intro i S1 hi hF hm36
        refine z_iload_n C 36 1 1 dX4_prepareTrims_36 rfl rfl ?_
        refine z_aload_n C 37 0 0 dX4_prepareTrims_37 rfl rfl ?_
        refine z_getr C 38 dX4_prepareTrims_38 gf_X4_57 rfl (by first | assumption | exact Nat.zero_lt_one | exact (show (15 : Nat) < 16 by decide) | exact Nat.lt_succ_of_lt (by assumption) | omega) (by first | exact hR _ _ _ _ rfl | exact hR2 _ _ _ _ rfl | assumption) ?_
        refine z_getiv C 41 dX4_prepareTrims_41 gf_X4_100 rfl (by first | assumption | exact Nat.zero_lt_one | exact (show (15 : Nat) < 16 by decide) | exact Nat.lt_succ_of_lt (by assumption) | omega) ((hAT.ft hF.1).1) ?_
        first | with_reducible refine z_icmp_geN C 44 154 dX4_prepareTrims_44 (by decide) (by omega) (by omega) (fun h44 => ?_) (fun h44 => ?_) | refine z_icmp_ge C 44 154 dX4_prepareTrims_44 (by decide) (fun h44 => ?_) (fun h44 => ?_)
        · exact ret 154 _ _ _ _ dX4_prepareTrims_154 (⟨(by have e : i = n := (by omega); subst e; exact hF.tR), hF.1, rfl, rfl⟩)
        · refine z_aload_n C 47 0 0 dX4_prepareTrims_47 rfl rfl ?_
          refine z_getr C 48 dX4_prepareTrims_48 gf_X4_41 rfl (by first | assumption | exact Nat.zero_lt_one | exact (show (15 : Nat) < 16 by decide) | exact Nat.lt_succ_of_lt (by assumption) | omega) (by first | exact hR _ _ _ _ rfl | exact hR2 _ _ _ _ rfl | assumption) ?_
          refine z_getr C 51 dX4_prepareTrims_51 gf_X4_110 rfl (by first | assumption | exact Nat.zero_lt_one | exact (show (15 : Nat) < 16 by decide) | exact Nat.lt_succ_of_lt (by assumption) | omega) (by first | exact hR _ _ _ _ rfl | exact hR2 _ _ _ _ rfl | assumption) ?_
          refine z_iload_n C 54 1 1 dX4_prepareTrims_54 rfl rfl ?_
          refine z_aload_n C 55 0 0 dX4_prepareTrims_55 rfl rfl ?_
          refine z_iload_n C 56 1 1 dX4_prepareTrims_56 rfl rfl ?_
          refine z_cVi0 C 57 dX4_prepareTrims_57 cv_X4_114 (c_X4_isPrecious (N := N) (n := n) (B := B) hR2 hv hI (hB.ft hv hF.1) hT hB31 (by omega)) rfl ⟨by decide, rfl⟩ (by first | assumption | exact Nat.zero_lt_one | exact (show (15 : Nat) < 16 by decide) | exact Nat.lt_succ_of_lt (by assumption) | omega) rfl rfl (Nat.le_of_ble_eq_true rfl) ⟨by decide, by decide⟩ ⟨rfl, rfl⟩ ⟨by decide, by decide⟩ ?_
          intro r57 S57 L57 R57 p57
          obtain ⟨rfl, rfl, rfl, rfl⟩ := p57
          have hB1 := (hB.ft hv hF.1)
          have hB2 : AB (up3 S1 9 0 i (bI (fPrec N i))) v N n := hB1.off (fun k a b => by rw [up3_k _ (by omega)])
          refine z_zast C 60 dX4_prepareTrims_60 (by first | rfl | assumption) (by first | assumption | exact Nat.zero_lt_one | exact (show (15 : Nat) < 16 by decide) | exact Nat.lt_succ_of_lt (by assumption) | omega)  (by first | rfl | assumption) (by first | decide | omega) (by first | assumption | omega) (by first | exact bI_01 | exact Or.inl rfl | exact Or.inr rfl | assumption) ?_
          refine z_aload_n C 61 0 0 dX4_prepareTrims_61 rfl rfl ?_
          refine z_getiv C 62 dX4_prepareTrims_62 gf_X4_74 rfl (by first | assumption | exact Nat.zero_lt_one | exact (show (15 : Nat) < 16 by decide) | exact Nat.lt_succ_of_lt (by assumption) | omega) (hB2.2.2.2.2.2.1.trans h4) ?_
          refine z_iconst (v := nI 1) C 65 dX4_prepareTrims_65 (by decide) ?_
          first | with_reducible refine z_icmp_neN C 66 89 dX4_prepareTrims_66 (by decide) (by omega) (by omega) (fun h66 => ?_) (fun h66 => ?_) | refine z_icmp_ne C 66 89 dX4_prepareTrims_66 (by decide) (fun h66 => ?_) (fun h66 => ?_)
          · refine z_aload_n C 89 0 0 dX4_prepareTrims_89 rfl rfl ?_
            refine z_getiv C 90 dX4_prepareTrims_90 gf_X4_74 rfl (by first | assumption | exact Nat.zero_lt_one | exact (show (15 : Nat) < 16 by decide) | exact Nat.lt_succ_of_lt (by assumption) | omega) (hB2.2.2.2.2.2.1.trans h4) ?_
            refine z_iconst (v := nI 2) C 93 dX4_prepareTrims_93 (by decide) ?_
            first | with_reducible refine z_icmp_neN C 94 123 dX4_prepareTrims_94 (by decide) (by omega) (by omega) (fun h94 => ?_) (fun h94 => ?_) | refine z_icmp_ne C 94 123 dX4_prepareTrims_94 (by decide) (fun h94 => ?_) (fun h94 => ?_)
            · refine z_aload_n C 123 0 0 dX4_prepareTrims_123 rfl rfl ?_
              refine z_getr C 124 dX4_prepareTrims_124 gf_X4_41 rfl (by first | assumption | exact Nat.zero_lt_one | exact (show (15 : Nat) < 16 by decide) | exact Nat.lt_succ_of_lt (by assumption) | omega) (by first | exact hR _ _ _ _ rfl | exact hR2 _ _ _ _ rfl | assumption) ?_
              refine z_getr C 127 dX4_prepareTrims_127 gf_X4_118 rfl (by first | assumption | exact Nat.zero_lt_one | exact (show (15 : Nat) < 16 by decide) | exact Nat.lt_succ_of_lt (by assumption) | omega) (by first | exact hR _ _ _ _ rfl | exact hR2 _ _ _ _ rfl | assumption) ?_
              refine z_iload_n C 130 1 1 dX4_prepareTrims_130 rfl rfl ?_
              refine z_aload_n C 131 0 0 dX4_prepareTrims_131 rfl rfl ?_
              refine z_getr C 132 dX4_prepareTrims_132 gf_X4_12 rfl (by first | assumption | exact Nat.zero_lt_one | exact (show (15 : Nat) < 16 by decide) | exact Nat.lt_succ_of_lt (by assumption) | omega) (by first | exact hR _ _ _ _ rfl | exact hR2 _ _ _ _ rfl | assumption) ?_
              refine z_iload_n C 135 1 1 dX4_prepareTrims_135 rfl rfl ?_
              refine z_aload_n C 136 0 0 dX4_prepareTrims_136 rfl rfl ?_
              refine z_getiv C 137 dX4_prepareTrims_137 gf_X4_75 rfl (by first | assumption | exact Nat.zero_lt_one | exact (show (15 : Nat) < 16 by decide) | exact Nat.lt_succ_of_lt (by assumption) | omega) hB2.2.2.2.2.2.2.1 ?_
              refine z_aload_n C 140 0 0 dX4_prepareTrims_140 rfl rfl ?_
              refine z_getiv C 141 dX4_prepareTrims_141 gf_X4_65 rfl (by first | assumption | exact Nat.zero_lt_one | exact (show (15 : Nat) < 16 by decide) | exact Nat.lt_succ_of_lt (by assumption) | omega) hB2.2.2.2.2.1 ?_
              refine z_cVi0 C 144 dX4_prepareTrims_144 cv_X4_128 (c_X1_promiseOf (N := N) (n := n) hR2 hv hB2.2.1 hB2.2.2.1 hn10 hI (by omega)) rfl ⟨by decide, rfl⟩ (by first | assumption | exact Nat.zero_lt_one | exact (show (15 : Nat) < 16 by decide) | exact Nat.lt_succ_of_lt (by assumption) | omega) rfl rfl (Nat.le_of_ble_eq_true rfl) ⟨by decide, by decide⟩ ⟨rfl, rfl⟩ ⟨by decide, by decide⟩ ?_
              intro r144 S144 L144 R144 p144
              obtain ⟨rfl, rfl, rfl, rfl⟩ := p144
              refine z_iast C 147 dX4_prepareTrims_147 (by first | rfl | assumption) (by first | assumption | exact Nat.zero_lt_one | exact (show (15 : Nat) < 16 by decide) | exact Nat.lt_succ_of_lt (by assumption) | omega)  (by first | rfl | assumption) (by first | decide | omega) (by first | assumption | omega) ?_
              refine z_iinc C 148 1 1 [(1, _), (0, _)] dX4_prepareTrims_148 rfl (by first | exact nI_1 _ | rfl) (by decide) rfl ?_
              refine z_goto C 151 36 dX4_prepareTrims_151 (by decide) ?_
              refine z_sub [(0, _), (1, _)] [1, 0] rfl ?_
              exact ih36 (i + 1) _ (by omega) (hF.next (fun hs => by first | exact (rUses_eq hB2.1 (hAT.ft (hF.1.up (Or.inl (by omega)))) (by omega) (hI.2.2.1 i (by omega))).trans (fRank_1 (h4.trans (by rw [h66]))).symm | exact (hB2.2.2.1.away (by omega) hs).1.trans (fRank_2 (h4.trans (by rw [h94]))).symm | exact (fRank_0 (h4.trans (by rw [show q4 = 0 by omega]))).symm)) (by omega)
            · refine z_aload_n C 97 0 0 dX4_prepareTrims_97 rfl rfl ?_
              refine z_getr C 98 dX4_prepareTrims_98 gf_X4_41 rfl (by first | assumption | exact Nat.zero_lt_one | exact (show (15 : Nat) < 16 by decide) | exact Nat.lt_succ_of_lt (by assumption) | omega) (by first | exact hR _ _ _ _ rfl | exact hR2 _ _ _ _ rfl | assumption) ?_
              refine z_getr C 101 dX4_prepareTrims_101 gf_X4_118 rfl (by first | assumption | exact Nat.zero_lt_one | exact (show (15 : Nat) < 16 by decide) | exact Nat.lt_succ_of_lt (by assumption) | omega) (by first | exact hR _ _ _ _ rfl | exact hR2 _ _ _ _ rfl | assumption) ?_
              refine z_iload_n C 104 1 1 dX4_prepareTrims_104 rfl rfl ?_
              refine z_aload_n C 105 0 0 dX4_prepareTrims_105 rfl rfl ?_
              refine z_getiv C 106 dX4_prepareTrims_106 gf_X4_65 rfl (by first | assumption | exact Nat.zero_lt_one | exact (show (15 : Nat) < 16 by decide) | exact Nat.lt_succ_of_lt (by assumption) | omega) hB2.2.2.2.2.1 ?_
              refine z_aload_n C 109 0 0 dX4_prepareTrims_109 rfl rfl ?_
              refine z_getr C 110 dX4_prepareTrims_110 gf_X4_12 rfl (by first | assumption | exact Nat.zero_lt_one | exact (show (15 : Nat) < 16 by decide) | exact Nat.lt_succ_of_lt (by assumption) | omega) (by first | exact hR _ _ _ _ rfl | exact hR2 _ _ _ _ rfl | assumption) ?_
              refine z_getr C 113 dX4_prepareTrims_113 gf_X4_125 rfl (by first | assumption | exact Nat.zero_lt_one | exact (show (15 : Nat) < 16 by decide) | exact Nat.lt_succ_of_lt (by assumption) | omega) (by first | exact hR _ _ _ _ rfl | exact hR2 _ _ _ _ rfl | assumption) ?_
              refine z_iload_n C 116 1 1 dX4_prepareTrims_116 rfl rfl ?_
              refine z_iald C 117 dX4_prepareTrims_117 (by first | rfl | assumption) (by first | assumption | exact Nat.zero_lt_one | exact (show (15 : Nat) < 16 by decide) | exact Nat.lt_succ_of_lt (by assumption) | omega) (by first | rfl | assumption) (by first | decide | omega) (by first | assumption | omega) ?_
              first | with_reducible refine z_isubN C 118 dX4_prepareTrims_118 (by omega) ?_ | refine z_isub C 118 dX4_prepareTrims_118 ?_
              refine z_iast C 119 dX4_prepareTrims_119 (by first | rfl | assumption) (by first | assumption | exact Nat.zero_lt_one | exact (show (15 : Nat) < 16 by decide) | exact Nat.lt_succ_of_lt (by assumption) | omega)  (by first | rfl | assumption) (by first | decide | omega) (by first | assumption | omega) ?_
              refine z_goto C 120 148 dX4_prepareTrims_120 (by decide) ?_
              refine z_iinc C 148 1 1 [(1, _), (0, _)] dX4_prepareTrims_148 rfl (by first | exact nI_1 _ | rfl) (by decide) rfl ?_
              refine z_goto C 151 36 dX4_prepareTrims_151 (by decide) ?_
              refine z_sub [(0, _), (1, _)] [1, 0] rfl ?_
              exact ih36 (i + 1) _ (by omega) (hF.next (fun hs => by first | exact (rUses_eq hB2.1 (hAT.ft (hF.1.up (Or.inl (by omega)))) (by omega) (hI.2.2.1 i (by omega))).trans (fRank_1 (h4.trans (by rw [h66]))).symm | exact (hB2.2.2.1.away (by omega) hs).1.trans (fRank_2 (h4.trans (by rw [h94]))).symm | exact (fRank_0 (h4.trans (by rw [show q4 = 0 by omega]))).symm)) (by omega)
          · refine z_aload_n C 69 0 0 dX4_prepareTrims_69 rfl rfl ?_
            refine z_getr C 70 dX4_prepareTrims_70 gf_X4_41 rfl (by first | assumption | exact Nat.zero_lt_one | exact (show (15 : Nat) < 16 by decide) | exact Nat.lt_succ_of_lt (by assumption) | omega) (by first | exact hR _ _ _ _ rfl | exact hR2 _ _ _ _ rfl | assumption) ?_
            refine z_getr C 73 dX4_prepareTrims_73 gf_X4_118 rfl (by first | assumption | exact Nat.zero_lt_one | exact (show (15 : Nat) < 16 by decide) | exact Nat.lt_succ_of_lt (by assumption) | omega) (by first | exact hR _ _ _ _ rfl | exact hR2 _ _ _ _ rfl | assumption) ?_
            refine z_iload_n C 76 1 1 dX4_prepareTrims_76 rfl rfl ?_
            refine z_aload_n C 77 0 0 dX4_prepareTrims_77 rfl rfl ?_
            refine z_getr C 78 dX4_prepareTrims_78 gf_X4_50 rfl (by first | assumption | exact Nat.zero_lt_one | exact (show (15 : Nat) < 16 by decide) | exact Nat.lt_succ_of_lt (by assumption) | omega) (by first | exact hR _ _ _ _ rfl | exact hR2 _ _ _ _ rfl | assumption) ?_
            refine z_iload_n C 81 1 1 dX4_prepareTrims_81 rfl rfl ?_
            refine z_cVi0 C 82 dX4_prepareTrims_82 cv_X4_121 (c_X6_usedBy (r := v) (d := d) hR2 (by omega) hd hd22 (by omega)) rfl ⟨by decide, rfl⟩ (by first | assumption | exact Nat.zero_lt_one | exact (show (15 : Nat) < 16 by decide) | exact Nat.lt_succ_of_lt (by assumption) | omega) rfl rfl (Nat.le_of_ble_eq_true rfl) ⟨by decide, by decide⟩ ⟨rfl, rfl⟩ ⟨by decide, by decide⟩ ?_
            intro r82 S82 L82 R82 p82
            obtain ⟨rfl, rfl, rfl, rfl⟩ := p82
            refine z_iast C 85 dX4_prepareTrims_85 (by first | rfl | assumption) (by first | assumption | exact Nat.zero_lt_one | exact (show (15 : Nat) < 16 by decide) | exact Nat.lt_succ_of_lt (by assumption) | omega)  (by first | rfl | assumption) (by first | decide | omega) (by first | assumption | omega) ?_
            refine z_goto C 86 148 dX4_prepareTrims_86 (by decide) ?_
            refine z_iinc C 148 1 1 [(1, _), (0, _)] dX4_prepareTrims_148 rfl (by first | exact nI_1 _ | rfl) (by decide) rfl ?_
            refine z_goto C 151 36 dX4_prepareTrims_151 (by decide) ?_
            refine z_sub [(0, _), (1, _)] [1, 0] rfl ?_
            exact ih36 (i + 1) _ (by omega) (hF.next (fun hs => by first | exact (rUses_eq hB2.1 (hAT.ft (hF.1.up (Or.inl (by omega)))) (by omega) (hI.2.2.1 i (by omega))).trans (fRank_1 (h4.trans (by rw [h66]))).symm | exact (hB2.2.2.1.away (by omega) hs).1.trans (fRank_2 (h4.trans (by rw [h94]))).symm | exact (fRank_0 (h4.trans (by rw [show q4 = 0 by omega]))).symm)) (by omega)
    refine z_sub [(0, _), (1, _)] [1, 0] rfl ?_
    exact loop_36 (n + 1) 0 _ (Nat.zero_le _) ⟨hFc.up (Or.inl (by omega)), (hB.1.copy (r := 15)).off (fun k a b => by rw [up3_k _ (by omega)]), (up3_s _ _ _ _ _).trans (by first | exact bI_1 (by rw [h4, h23]) | exact bI_0 (by rw [h4]; exact fun z => h23 ((nI_eq (by omega) (by omega)).mp z))), fun p hp => absurd hp (Nat.not_lt_zero _), fun p hp => absurd hp (Nat.not_lt_zero _)⟩ (by omega)
  · refine z_iconst (v := nI 1) C 26 dX4_prepareTrims_26 (by decide) ?_
    refine z_goto C 27 31 dX4_prepareTrims_27 (by decide) ?_
    refine z_putz C 31 dX4_prepareTrims_31 gf_X4_106 ⟨rfl, rfl⟩ (by first | exact bI_01 | exact Or.inl rfl | exact Or.inr rfl | assumption) rfl (by first | assumption | exact Nat.zero_lt_one | exact (show (15 : Nat) < 16 by decide) | exact Nat.lt_succ_of_lt (by assumption) | omega) ?_
    refine z_iconst (v := nI 0) C 34 dX4_prepareTrims_34 (by decide) ?_
    refine z_istore_n C 35 1 [(1, _), (0, _)] dX4_prepareTrims_35 rfl (by decide) rfl ?_
    have loop_36 : ∀ (n_36 : Nat) (i : Nat) (S1 : mS), i ≤ n → fP S S1 N T n i → n - i < n_36 → Z X 2 ad mdm S1 L (up3 R 12 15 0 (some (3, d))) 0 0 36 [(0, .ref (ad 25 v)), (1, .int (nI i))] [] := by
      intro n_36
      induction n_36 with
      | zero => intro i S1 hi hF hm36; exact absurd hm36 (Nat.not_lt_zero _)
      | succ n_36 ih36 =>
        intro i S1 hi hF hm36
        refine z_iload_n C 36 1 1 dX4_prepareTrims_36 rfl rfl ?_
        refine z_aload_n C 37 0 0 dX4_prepareTrims_37 rfl rfl ?_
        refine z_getr C 38 dX4_prepareTrims_38 gf_X4_57 rfl (by first | assumption | exact Nat.zero_lt_one | exact (show (15 : Nat) < 16 by decide) | exact Nat.lt_succ_of_lt (by assumption) | omega) (by first | exact hR _ _ _ _ rfl | exact hR2 _ _ _ _ rfl | assumption) ?_
        refine z_getiv C 41 dX4_prepareTrims_41 gf_X4_100 rfl (by first | assumption | exact Nat.zero_lt_one | exact (show (15 : Nat) < 16 by decide) | exact Nat.lt_succ_of_lt (by assumption) | omega) ((hAT.ft hF.1).1) ?_
        first | with_reducible refine z_icmp_geN C 44 154 dX4_prepareTrims_44 (by decide) (by omega) (by omega) (fun h44 => ?_) (fun h44 => ?_) | refine z_icmp_ge C 44 154 dX4_prepareTrims_44 (by decide) (fun h44 => ?_) (fun h44 => ?_)
        · exact ret 154 _ _ _ _ dX4_prepareTrims_154 (⟨(by have e : i = n := (by omega); subst e; exact hF.tR), hF.1, rfl, rfl⟩)
        · refine z_aload_n C 47 0 0 dX4_prepareTrims_47 rfl rfl ?_
          refine z_getr C 48 dX4_prepareTrims_48 gf_X4_41 rfl (by first | assumption | exact Nat.zero_lt_one | exact (show (15 : Nat) < 16 by decide) | exact Nat.lt_succ_of_lt (by assumption) | omega) (by first | exact hR _ _ _ _ rfl | exact hR2 _ _ _ _ rfl | assumption) ?_
          refine z_getr C 51 dX4_prepareTrims_51 gf_X4_110 rfl (by first | assumption | exact Nat.zero_lt_one | exact (show (15 : Nat) < 16 by decide) | exact Nat.lt_succ_of_lt (by assumption) | omega) (by first | exact hR _ _ _ _ rfl | exact hR2 _ _ _ _ rfl | assumption) ?_
          refine z_iload_n C 54 1 1 dX4_prepareTrims_54 rfl rfl ?_
          refine z_aload_n C 55 0 0 dX4_prepareTrims_55 rfl rfl ?_
          refine z_iload_n C 56 1 1 dX4_prepareTrims_56 rfl rfl ?_
          refine z_cVi0 C 57 dX4_prepareTrims_57 cv_X4_114 (c_X4_isPrecious (N := N) (n := n) (B := B) hR2 hv hI (hB.ft hv hF.1) hT hB31 (by omega)) rfl ⟨by decide, rfl⟩ (by first | assumption | exact Nat.zero_lt_one | exact (show (15 : Nat) < 16 by decide) | exact Nat.lt_succ_of_lt (by assumption) | omega) rfl rfl (Nat.le_of_ble_eq_true rfl) ⟨by decide, by decide⟩ ⟨rfl, rfl⟩ ⟨by decide, by decide⟩ ?_
          intro r57 S57 L57 R57 p57
          obtain ⟨rfl, rfl, rfl, rfl⟩ := p57
          have hB1 := (hB.ft hv hF.1)
          have hB2 : AB (up3 S1 9 0 i (bI (fPrec N i))) v N n := hB1.off (fun k a b => by rw [up3_k _ (by omega)])
          refine z_zast C 60 dX4_prepareTrims_60 (by first | rfl | assumption) (by first | assumption | exact Nat.zero_lt_one | exact (show (15 : Nat) < 16 by decide) | exact Nat.lt_succ_of_lt (by assumption) | omega)  (by first | rfl | assumption) (by first | decide | omega) (by first | assumption | omega) (by first | exact bI_01 | exact Or.inl rfl | exact Or.inr rfl | assumption) ?_
          refine z_aload_n C 61 0 0 dX4_prepareTrims_61 rfl rfl ?_
          refine z_getiv C 62 dX4_prepareTrims_62 gf_X4_74 rfl (by first | assumption | exact Nat.zero_lt_one | exact (show (15 : Nat) < 16 by decide) | exact Nat.lt_succ_of_lt (by assumption) | omega) (hB2.2.2.2.2.2.1.trans h4) ?_
          refine z_iconst (v := nI 1) C 65 dX4_prepareTrims_65 (by decide) ?_
          first | with_reducible refine z_icmp_neN C 66 89 dX4_prepareTrims_66 (by decide) (by omega) (by omega) (fun h66 => ?_) (fun h66 => ?_) | refine z_icmp_ne C 66 89 dX4_prepareTrims_66 (by decide) (fun h66 => ?_) (fun h66 => ?_)
          · refine z_aload_n C 89 0 0 dX4_prepareTrims_89 rfl rfl ?_
            refine z_getiv C 90 dX4_prepareTrims_90 gf_X4_74 rfl (by first | assumption | exact Nat.zero_lt_one | exact (show (15 : Nat) < 16 by decide) | exact Nat.lt_succ_of_lt (by assumption) | omega) (hB2.2.2.2.2.2.1.trans h4) ?_
            refine z_iconst (v := nI 2) C 93 dX4_prepareTrims_93 (by decide) ?_
            first | with_reducible refine z_icmp_neN C 94 123 dX4_prepareTrims_94 (by decide) (by omega) (by omega) (fun h94 => ?_) (fun h94 => ?_) | refine z_icmp_ne C 94 123 dX4_prepareTrims_94 (by decide) (fun h94 => ?_) (fun h94 => ?_)
            · refine z_aload_n C 123 0 0 dX4_prepareTrims_123 rfl rfl ?_
              refine z_getr C 124 dX4_prepareTrims_124 gf_X4_41 rfl (by first | assumption | exact Nat.zero_lt_one | exact (show (15 : Nat) < 16 by decide) | exact Nat.lt_succ_of_lt (by assumption) | omega) (by first | exact hR _ _ _ _ rfl | exact hR2 _ _ _ _ rfl | assumption) ?_
              refine z_getr C 127 dX4_prepareTrims_127 gf_X4_118 rfl (by first | assumption | exact Nat.zero_lt_one | exact (show (15 : Nat) < 16 by decide) | exact Nat.lt_succ_of_lt (by assumption) | omega) (by first | exact hR _ _ _ _ rfl | exact hR2 _ _ _ _ rfl | assumption) ?_
              refine z_iload_n C 130 1 1 dX4_prepareTrims_130 rfl rfl ?_
              refine z_aload_n C 131 0 0 dX4_prepareTrims_131 rfl rfl ?_
              refine z_getr C 132 dX4_prepareTrims_132 gf_X4_12 rfl (by first | assumption | exact Nat.zero_lt_one | exact (show (15 : Nat) < 16 by decide) | exact Nat.lt_succ_of_lt (by assumption) | omega) (by first | exact hR _ _ _ _ rfl | exact hR2 _ _ _ _ rfl | assumption) ?_
              refine z_iload_n C 135 1 1 dX4_prepareTrims_135 rfl rfl ?_
              refine z_aload_n C 136 0 0 dX4_prepareTrims_136 rfl rfl ?_
              refine z_getiv C 137 dX4_prepareTrims_137 gf_X4_75 rfl (by first | assumption | exact Nat.zero_lt_one | exact (show (15 : Nat) < 16 by decide) | exact Nat.lt_succ_of_lt (by assumption) | omega) hB2.2.2.2.2.2.2.1 ?_
              refine z_aload_n C 140 0 0 dX4_prepareTrims_140 rfl rfl ?_
              refine z_getiv C 141 dX4_prepareTrims_141 gf_X4_65 rfl (by first | assumption | exact Nat.zero_lt_one | exact (show (15 : Nat) < 16 by decide) | exact Nat.lt_succ_of_lt (by assumption) | omega) hB2.2.2.2.2.1 ?_
              refine z_cVi0 C 144 dX4_prepareTrims_144 cv_X4_128 (c_X1_promiseOf (N := N) (n := n) hR2 hv hB2.2.1 hB2.2.2.1 hn10 hI (by omega)) rfl ⟨by decide, rfl⟩ (by first | assumption | exact Nat.zero_lt_one | exact (show (15 : Nat) < 16 by decide) | exact Nat.lt_succ_of_lt (by assumption) | omega) rfl rfl (Nat.le_of_ble_eq_true rfl) ⟨by decide, by decide⟩ ⟨rfl, rfl⟩ ⟨by decide, by decide⟩ ?_
              intro r144 S144 L144 R144 p144
              obtain ⟨rfl, rfl, rfl, rfl⟩ := p144
              refine z_iast C 147 dX4_prepareTrims_147 (by first | rfl | assumption) (by first | assumption | exact Nat.zero_lt_one | exact (show (15 : Nat) < 16 by decide) | exact Nat.lt_succ_of_lt (by assumption) | omega)  (by first | rfl | assumption) (by first | decide | omega) (by first | assumption | omega) ?_
              refine z_iinc C 148 1 1 [(1, _), (0, _)] dX4_prepareTrims_148 rfl (by first | exact nI_1 _ | rfl) (by decide) rfl ?_
              refine z_goto C 151 36 dX4_prepareTrims_151 (by decide) ?_
              refine z_sub [(0, _), (1, _)] [1, 0] rfl ?_
              exact ih36 (i + 1) _ (by omega) (hF.next (fun hs => by first | exact (rUses_eq hB2.1 (hAT.ft (hF.1.up (Or.inl (by omega)))) (by omega) (hI.2.2.1 i (by omega))).trans (fRank_1 (h4.trans (by rw [h66]))).symm | exact (hB2.2.2.1.away (by omega) hs).1.trans (fRank_2 (h4.trans (by rw [h94]))).symm | exact (fRank_0 (h4.trans (by rw [show q4 = 0 by omega]))).symm)) (by omega)
            · refine z_aload_n C 97 0 0 dX4_prepareTrims_97 rfl rfl ?_
              refine z_getr C 98 dX4_prepareTrims_98 gf_X4_41 rfl (by first | assumption | exact Nat.zero_lt_one | exact (show (15 : Nat) < 16 by decide) | exact Nat.lt_succ_of_lt (by assumption) | omega) (by first | exact hR _ _ _ _ rfl | exact hR2 _ _ _ _ rfl | assumption) ?_
              refine z_getr C 101 dX4_prepareTrims_101 gf_X4_118 rfl (by first | assumption | exact Nat.zero_lt_one | exact (show (15 : Nat) < 16 by decide) | exact Nat.lt_succ_of_lt (by assumption) | omega) (by first | exact hR _ _ _ _ rfl | exact hR2 _ _ _ _ rfl | assumption) ?_
              refine z_iload_n C 104 1 1 dX4_prepareTrims_104 rfl rfl ?_
              refine z_aload_n C 105 0 0 dX4_prepareTrims_105 rfl rfl ?_
              refine z_getiv C 106 dX4_prepareTrims_106 gf_X4_65 rfl (by first | assumption | exact Nat.zero_lt_one | exact (show (15 : Nat) < 16 by decide) | exact Nat.lt_succ_of_lt (by assumption) | omega) hB2.2.2.2.2.1 ?_
              refine z_aload_n C 109 0 0 dX4_prepareTrims_109 rfl rfl ?_
              refine z_getr C 110 dX4_prepareTrims_110 gf_X4_12 rfl (by first | assumption | exact Nat.zero_lt_one | exact (show (15 : Nat) < 16 by decide) | exact Nat.lt_succ_of_lt (by assumption) | omega) (by first | exact hR _ _ _ _ rfl | exact hR2 _ _ _ _ rfl | assumption) ?_
              refine z_getr C 113 dX4_prepareTrims_113 gf_X4_125 rfl (by first | assumption | exact Nat.zero_lt_one | exact (show (15 : Nat) < 16 by decide) | exact Nat.lt_succ_of_lt (by assumption) | omega) (by first | exact hR _ _ _ _ rfl | exact hR2 _ _ _ _ rfl | assumption) ?_
              refine z_iload_n C 116 1 1 dX4_prepareTrims_116 rfl rfl ?_
              refine z_iald C 117 dX4_prepareTrims_117 (by first | rfl | assumption) (by first | assumption | exact Nat.zero_lt_one | exact (show (15 : Nat) < 16 by decide) | exact Nat.lt_succ_of_lt (by assumption) | omega) (by first | rfl | assumption) (by first | decide | omega) (by first | assumption | omega) ?_
              first | with_reducible refine z_isubN C 118 dX4_prepareTrims_118 (by omega) ?_ | refine z_isub C 118 dX4_prepareTrims_118 ?_
              refine z_iast C 119 dX4_prepareTrims_119 (by first | rfl | assumption) (by first | assumption | exact Nat.zero_lt_one | exact (show (15 : Nat) < 16 by decide) | exact Nat.lt_succ_of_lt (by assumption) | omega)  (by first | rfl | assumption) (by first | decide | omega) (by first | assumption | omega) ?_
              refine z_goto C 120 148 dX4_prepareTrims_120 (by decide) ?_
              refine z_iinc C 148 1 1 [(1, _), (0, _)] dX4_prepareTrims_148 rfl (by first | exact nI_1 _ | rfl) (by decide) rfl ?_
              refine z_goto C 151 36 dX4_prepareTrims_151 (by decide) ?_
              refine z_sub [(0, _), (1, _)] [1, 0] rfl ?_
              exact ih36 (i + 1) _ (by omega) (hF.next (fun hs => by first | exact (rUses_eq hB2.1 (hAT.ft (hF.1.up (Or.inl (by omega)))) (by omega) (hI.2.2.1 i (by omega))).trans (fRank_1 (h4.trans (by rw [h66]))).symm | exact (hB2.2.2.1.away (by omega) hs).1.trans (fRank_2 (h4.trans (by rw [h94]))).symm | exact (fRank_0 (h4.trans (by rw [show q4 = 0 by omega]))).symm)) (by omega)
          · refine z_aload_n C 69 0 0 dX4_prepareTrims_69 rfl rfl ?_
            refine z_getr C 70 dX4_prepareTrims_70 gf_X4_41 rfl (by first | assumption | exact Nat.zero_lt_one | exact (show (15 : Nat) < 16 by decide) | exact Nat.lt_succ_of_lt (by assumption) | omega) (by first | exact hR _ _ _ _ rfl | exact hR2 _ _ _ _ rfl | assumption) ?_
            refine z_getr C 73 dX4_prepareTrims_73 gf_X4_118 rfl (by first | assumption | exact Nat.zero_lt_one | exact (show (15 : Nat) < 16 by decide) | exact Nat.lt_succ_of_lt (by assumption) | omega) (by first | exact hR _ _ _ _ rfl | exact hR2 _ _ _ _ rfl | assumption) ?_
            refine z_iload_n C 76 1 1 dX4_prepareTrims_76 rfl rfl ?_
            refine z_aload_n C 77 0 0 dX4_prepareTrims_77 rfl rfl ?_
            refine z_getr C 78 dX4_prepareTrims_78 gf_X4_50 rfl (by first | assumption | exact Nat.zero_lt_one | exact (show (15 : Nat) < 16 by decide) | exact Nat.lt_succ_of_lt (by assumption) | omega) (by first | exact hR _ _ _ _ rfl | exact hR2 _ _ _ _ rfl | assumption) ?_
            refine z_iload_n C 81 1 1 dX4_prepareTrims_81 rfl rfl ?_
            refine z_cVi0 C 82 dX4_prepareTrims_82 cv_X4_121 (c_X6_usedBy (r := v) (d := d) hR2 (by omega) hd hd22 (by omega)) rfl ⟨by decide, rfl⟩ (by first | assumption | exact Nat.zero_lt_one | exact (show (15 : Nat) < 16 by decide) | exact Nat.lt_succ_of_lt (by assumption) | omega) rfl rfl (Nat.le_of_ble_eq_true rfl) ⟨by decide, by decide⟩ ⟨rfl, rfl⟩ ⟨by decide, by decide⟩ ?_
            intro r82 S82 L82 R82 p82
            obtain ⟨rfl, rfl, rfl, rfl⟩ := p82
            refine z_iast C 85 dX4_prepareTrims_85 (by first | rfl | assumption) (by first | assumption | exact Nat.zero_lt_one | exact (show (15 : Nat) < 16 by decide) | exact Nat.lt_succ_of_lt (by assumption) | omega)  (by first | rfl | assumption) (by first | decide | omega) (by first | assumption | omega) ?_
            refine z_goto C 86 148 dX4_prepareTrims_86 (by decide) ?_
            refine z_iinc C 148 1 1 [(1, _), (0, _)] dX4_prepareTrims_148 rfl (by first | exact nI_1 _ | rfl) (by decide) rfl ?_
            refine z_goto C 151 36 dX4_prepareTrims_151 (by decide) ?_
            refine z_sub [(0, _), (1, _)] [1, 0] rfl ?_
            exact ih36 (i + 1) _ (by omega) (hF.next (fun hs => by first | exact (rUses_eq hB2.1 (hAT.ft (hF.1.up (Or.inl (by omega)))) (by omega) (hI.2.2.1 i (by omega))).trans (fRank_1 (h4.trans (by rw [h66]))).symm | exact (hB2.2.2.1.away (by omega) hs).1.trans (fRank_2 (h4.trans (by rw [h94]))).symm | exact (fRank_0 (h4.trans (by rw [show q4 = 0 by omega]))).symm)) (by omega)
    refine z_sub [(0, _), (1, _)] [1, 0] rfl ?_
    exact loop_36 (n + 1) 0 _ (Nat.zero_le _) ⟨hFc.up (Or.inl (by omega)), (hB.1.copy (r := 15)).off (fun k a b => by rw [up3_k _ (by omega)]), (up3_s _ _ _ _ _).trans (by first | exact bI_1 (by rw [h4, h23]) | exact bI_0 (by rw [h4]; exact fun z => h23 ((nI_eq (by omega) (by omega)).mp z))), fun p hp => absurd hp (Nat.not_lt_zero _), fun p hp => absurd hp (Nat.not_lt_zero _)⟩ (by omega)
