/-- a step as the trims try it -/
def tStep (S : mS) (d p k : Nat) : mS := if S 7 0 3 = 0 then rStep S 15 p k else up3 (rStep S 15 p k) 8 0 p (rUses (rStep S 15 p k) 15 d p)
theorem rStep_k {S : mS} {r p k kk i j : Nat} (h : ¬ (13 ≤ kk ∧ kk ≤ 15)) : rStep S r p k kk i j = S kk i j := by
  rw [rStep_off (by omega)]
theorem TR.step {S : mS} {N T : NN} {n d p k : Nat} (hT : TR S N T n) (hA : AT S d T n) (hn : n ≤ 10) (hI : rI N n) (hc : cI N) (hp : p < n) (hk : 1 ≤ k) (hk6 : k ≤ 6) (hf : fCan N p k) : TR (tStep S d p k) (fStep N p k) T n ∧ FT S (tStep S d p k) := by
  have hAR : AR (rStep S 15 p k) 15 (fStep N p k) := (hT.1.step hc (by omega) hk hk6 hf).wr
  have hAT : AT (rStep S 15 p k) d T n := hA.off (rStep_off (by omega)) (fun i => rStep_off (by omega))
  have hI' := rI.step hI (show p < 10 by omega) hk hk6 hf
  have hu : rUses (rStep S 15 p k) 15 d p = fUses (fStep N p k) T p := rUses_eq hAR hAT (by omega) (hI'.2.2.1 p (by omega))
  have h4 : (fStep N p k) 4 = N 4 := fStep_lo (by omega)
  have hst : ∀ q, q < n → (∃ s, 2 ≤ s ∧ s ≤ 5 ∧ fo (fStep N p k) q 0 = nI s) → ¬ fo (fStep N p k) q 0 = nI 1 ∧ ∃ s, 2 ≤ s ∧ s ≤ 5 ∧ fo N q 0 = nI s := by
    intro q hq ⟨s, h2, h5, e⟩
    have hne : ¬ fo (fStep N p k) q 0 = nI 1 := by rw [e, nI_2e h5 (by omega)]; omega
    refine ⟨hne, ?_⟩
    by_cases eq : q = p
    · subst eq
      have : k ≤ 5 := by
        rcases (show k ≤ 5 ∨ k = 6 by omega) with h | h
        · exact h
        · subst h
          exfalso
          apply hne
          rw [fStep_fo (by omega) (by omega)]
          have hf1 := hf.1
          simp [fStep0, fo_set]
          exact hf1
      exact fCan_2 hk this hf
    · rw [fStep_ne (by omega) (by omega) eq] at e
      exact ⟨s, h2, h5, e⟩
  have hFr : FT S (rStep S 15 p k) := fun kk i hn => rStep_off (by omega)
  have hpre : ∀ q, q < n → S 9 0 q = bI (fPrec (fStep N p k) q) := fun q hq => (hT.2.2.1 q hq).trans (bI_c (fPrec_step (by omega)).symm)
  unfold tStep
  by_cases h0 : S 7 0 3 = 0
  · rw [if_pos h0]
    have hN : ¬ N 4 = nI 1 := fun z => by
      have := hT.2.2.2
      rw [bI_t z, h0] at this
      exact absurd this (by decide)
    refine ⟨⟨hAR, fun q hq hs => ?_, fun q hq => ?_, ?_⟩, hFr⟩
    · obtain ⟨g1, g2⟩ := hst q hq hs
      rw [rStep_k (by omega), hT.2.1 q hq g2]
      obtain ⟨s, e2, e5, es⟩ := g2
      exact (fRank_step hI hn (by omega) hq (by rw [es, nI_2e e5 (by omega)]; omega) g1 (Or.inr hN)).symm
    · rw [rStep_k (by omega)]; exact hpre q hq
    · rw [rStep_k (by omega), h4]; exact hT.2.2.2
  · rw [if_neg h0]
    have hN : N 4 = nI 1 := Classical.byContradiction fun z => h0 (by rw [hT.2.2.2, bI_f z])
    refine ⟨⟨hAR.off (fun kk h1 h2 => by rw [up3_k _ (by omega)]), fun q hq hs => ?_, fun q hq => ?_, ?_⟩, hFr.up (Or.inl (by omega))⟩
    · obtain ⟨g1, g2⟩ := hst q hq hs
      by_cases eq : q = p
      · subst eq
        rw [up3_s, hu]
        unfold fRank
        rw [h4, if_neg (by rw [hN]; decide), if_pos hN]
      · rw [up3_j _ eq, rStep_k (by omega), hT.2.1 q hq g2]
        obtain ⟨s, e2, e5, es⟩ := g2
        exact (fRank_step hI hn (by omega) hq (by rw [es, nI_2e e5 (by omega)]; omega) g1 (Or.inl eq)).symm
    · rw [up3_k _ (by omega), rStep_k (by omega)]; exact hpre q hq
    · rw [up3_k _ (by omega), rStep_k (by omega), h4]; exact hT.2.2.2
/-- the rows on the way through a list of steps -/
def fRun (N : NN) (kk pp : Nat → Nat) : Nat → NN
  | 0 => N
  | i + 1 => fStep (fRun N kk pp i) (pp i) (kk i)
theorem fRun_cong {N : NN} {kk pp kk2 pp2 : Nat → Nat} : ∀ {m : Nat}, (∀ i, i < m → kk i = kk2 i ∧ pp i = pp2 i) → fRun N kk pp m = fRun N kk2 pp2 m
  | 0, _ => rfl
  | m + 1, h => by
    show fStep _ _ _ = fStep _ _ _
    rw [fRun_cong (fun i hi => h i (by omega)), (h m (by omega)).1, (h m (by omega)).2]
/-- m steps stand in the trims' rows, and lead from N to A -/
def tL (S : mS) (N : NN) (n m : Nat) (A : NN) : Prop := ∃ kk pp : Nat → Nat, fRun N kk pp m = A ∧ ∀ i, i < m → S 10 0 i = nI (kk i) ∧ S 11 0 i = nI (pp i) ∧ 1 ≤ kk i ∧ kk i ≤ 6 ∧ pp i < n ∧ fCan (fRun N kk pp i) (pp i) (kk i)
theorem tL.snoc {S S2 : mS} {N A : NN} {n m k p : Nat} (h : tL S N n m A) (h10 : ∀ i, i < m → S2 10 0 i = S 10 0 i) (h11 : ∀ i, i < m → S2 11 0 i = S 11 0 i) (e10 : S2 10 0 m = nI k) (e11 : S2 11 0 m = nI p) (hk : 1 ≤ k) (hk6 : k ≤ 6) (hp : p < n) (hc : fCan A p k) : tL S2 N n (m + 1) (fStep A p k) := by
  obtain ⟨kk, pp, hr, h⟩ := h
  have hcg : ∀ i, i ≤ m → fRun N (fun i => if i = m then k else kk i) (fun i => if i = m then p else pp i) i = fRun N kk pp i := fun i hi => fRun_cong (fun j hj => ⟨if_neg (by omega), if_neg (by omega)⟩)
  refine ⟨fun i => if i = m then k else kk i, fun i => if i = m then p else pp i, ?_, fun i hi => ?_⟩
  · show fStep (fRun N _ _ m) (if m = m then p else pp m) (if m = m then k else kk m) = _
    rw [hcg m (Nat.le_refl _), hr, if_pos rfl, if_pos rfl]
  · by_cases e : i = m
    · subst e
      simp only [if_true]
      rw [hcg i (Nat.le_refl _), hr]
      exact ⟨e10, e11, hk, hk6, hp, hc⟩
    · simp only [if_neg e]
      rw [hcg i (by omega), h10 i (by omega), h11 i (by omega)]
      exact h i (by omega)
theorem tL.off {S S2 : mS} {N A : NN} {n m : Nat} (h : tL S N n m A) (h10 : ∀ i, i < m → S2 10 0 i = S 10 0 i) (h11 : ∀ i, i < m → S2 11 0 i = S 11 0 i) : tL S2 N n m A := by
  obtain ⟨kk, pp, hr, h⟩ := h
  exact ⟨kk, pp, hr, fun i hi => by rw [h10 i hi, h11 i hi]; exact h i hi⟩

def rm_X7_comesBefore : Room := { frames := 0, cells := 0, slots := 0, locals := 0 }
set_option maxHeartbeats 4000000 in
set_option maxRecDepth 100000 in
theorem c_X7_comesBefore {l : Launch} {G : mG} {ad : mA} {S : mS} {L : mL} {R : mR} {N T : NN} {n d p o k : Nat} (hR : mlk R) (hd : d < 3) (hde : R 12 15 0 = some (3, d)) (hAT : AT S d T n) (hn10 : n ≤ 10) (hI : rI N n) (hTR : TR S N T n) (hk : 1 ≤ k) (hk5 : k ≤ 5) (hp : p < n) (ho : o < n) (hcp : fCan N p k) (hco : fCan N o k) : Ki l yX7_comesBefore cX7_comesBefore 4 .boolean rm_X7_comesBefore G ad mdm [.ref (ad 7 0), .int (nI p), .int (nI o), .int (nI k)] S L R (fun r_ S2 L2 R2 => r_ = bI (fAhead N T n p o k) ∧ S = S2 ∧ L = L2 ∧ R = R2) := by
  refine Ki.of RX7 (by decide) rfl (Nat.le_of_ble_eq_true rfl) ?_
  intro X hXl hXG C ret
  subst hXl; subst hXG
  change Z X 4 ad mdm S L R 0 0 0 [(0, _), (1, _), (2, _), (3, _)] []
  have hrp := hTR.2.1 p hp (fCan_2 hk hk5 hcp)
  have hro := hTR.2.1 o ho (fCan_2 hk hk5 hco)
  have hpp := hTR.2.2.1 p hp
  have hpo := hTR.2.2.1 o ho
  refine z_iload_n C 0 3 3 dX7_comesBefore_0 rfl rfl ?_
  refine z_iconst (v := nI 4) C 1 dX7_comesBefore_1 (by decide) ?_
  first | with_reducible refine z_icmp_eqN C 2 10 dX7_comesBefore_2 (by decide) (by omega) (by omega) (fun h2 => ?_) (fun h2 => ?_) | refine z_icmp_eq C 2 10 dX7_comesBefore_2 (by decide) (fun h2 => ?_) (fun h2 => ?_)
  · have hk45 : k = 4 ∨ k = 5 := by omega
    refine z_aload_n C 10 0 0 dX7_comesBefore_10 rfl rfl ?_
    refine z_getr C 11 dX7_comesBefore_11 gf_X7_27 rfl (by first | assumption | exact Nat.zero_lt_one | exact (show (15 : Nat) < 16 by decide) | omega) (by first | exact hR _ _ _ _ rfl | exact hR2 _ _ _ _ rfl | assumption) ?_
    refine z_iload_n C 14 1 1 dX7_comesBefore_14 rfl rfl ?_
    refine z_zald C 15 dX7_comesBefore_15 rfl (by first | assumption | exact Nat.zero_lt_one | exact (show (15 : Nat) < 16 by decide) | omega) (by first | rfl | assumption) (by first | decide | omega) (by first | assumption | omega) ?_
    refine z_aload_n C 16 0 0 dX7_comesBefore_16 rfl rfl ?_
    refine z_getr C 17 dX7_comesBefore_17 gf_X7_27 rfl (by first | assumption | exact Nat.zero_lt_one | exact (show (15 : Nat) < 16 by decide) | omega) (by first | exact hR _ _ _ _ rfl | exact hR2 _ _ _ _ rfl | assumption) ?_
    refine z_iload_n C 20 2 2 dX7_comesBefore_20 rfl rfl ?_
    refine z_zald C 21 dX7_comesBefore_21 rfl (by first | assumption | exact Nat.zero_lt_one | exact (show (15 : Nat) < 16 by decide) | omega) (by first | rfl | assumption) (by first | decide | omega) (by first | assumption | omega) ?_
    first | with_reducible refine z_icmp_eqN C 22 32 dX7_comesBefore_22 (by decide) (by omega) (by omega) (fun h22 => ?_) (fun h22 => ?_) | refine z_icmp_eq C 22 32 dX7_comesBefore_22 (by decide) (fun h22 => ?_) (fun h22 => ?_)
    · have hiff := bI_inj (hpp.symm.trans (h22.trans hpo))
      refine z_aload_n C 32 0 0 dX7_comesBefore_32 rfl rfl ?_
      refine z_getr C 33 dX7_comesBefore_33 gf_X7_23 rfl (by first | assumption | exact Nat.zero_lt_one | exact (show (15 : Nat) < 16 by decide) | omega) (by first | exact hR _ _ _ _ rfl | exact hR2 _ _ _ _ rfl | assumption) ?_
      refine z_iload_n C 36 1 1 dX7_comesBefore_36 rfl rfl ?_
      refine z_iald C 37 dX7_comesBefore_37 (by first | rfl | assumption) (by first | assumption | exact Nat.zero_lt_one | exact (show (15 : Nat) < 16 by decide) | omega) (by first | rfl | assumption) (by first | decide | omega) (by first | assumption | omega) ?_
      refine z_aload_n C 38 0 0 dX7_comesBefore_38 rfl rfl ?_
      refine z_getr C 39 dX7_comesBefore_39 gf_X7_23 rfl (by first | assumption | exact Nat.zero_lt_one | exact (show (15 : Nat) < 16 by decide) | omega) (by first | exact hR _ _ _ _ rfl | exact hR2 _ _ _ _ rfl | assumption) ?_
      refine z_iload_n C 42 2 2 dX7_comesBefore_42 rfl rfl ?_
      refine z_iald C 43 dX7_comesBefore_43 (by first | rfl | assumption) (by first | assumption | exact Nat.zero_lt_one | exact (show (15 : Nat) < 16 by decide) | omega) (by first | rfl | assumption) (by first | decide | omega) (by first | assumption | omega) ?_
      first | with_reducible refine z_icmp_leN C 44 51 dX7_comesBefore_44 (by decide) (by omega) (by omega) (fun h44 => ?_) (fun h44 => ?_) | refine z_icmp_le C 44 51 dX7_comesBefore_44 (by decide) (fun h44 => ?_) (fun h44 => ?_)
      · refine z_iconst (v := nI 0) C 51 dX7_comesBefore_51 (by decide) ?_
        exact ret 52 _ _ _ _ _ dX7_comesBefore_52 (by first | rfl | exact bI_n | decide) (⟨(by rw [hrp, hro] at h44; first | exact bI_1 (by unfold fAhead; rw [if_neg (fun z => by first | exact hk45 z.1 | exact z.2 hiff)]; exact Int32.not_le.mp h44) | exact bI_0 (by unfold fAhead; rw [if_neg (fun z => by first | exact hk45 z.1 | exact z.2 hiff)]; exact Int32.not_lt.mpr h44)), rfl, rfl, rfl⟩)
      · refine z_iconst (v := nI 1) C 47 dX7_comesBefore_47 (by decide) ?_
        refine z_goto C 48 52 dX7_comesBefore_48 (by decide) ?_
        exact ret 52 _ _ _ _ _ dX7_comesBefore_52 (by first | rfl | exact bI_n | decide) (⟨(by rw [hrp, hro] at h44; first | exact bI_1 (by unfold fAhead; rw [if_neg (fun z => by first | exact hk45 z.1 | exact z.2 hiff)]; exact Int32.not_le.mp h44) | exact bI_0 (by unfold fAhead; rw [if_neg (fun z => by first | exact hk45 z.1 | exact z.2 hiff)]; exact Int32.not_lt.mpr h44)), rfl, rfl, rfl⟩)
    · have hiff : ¬ (fPrec N p ↔ fPrec N o) := fun z => h22 (hpp.trans ((bI_c z).trans hpo.symm))
      refine z_aload_n C 25 0 0 dX7_comesBefore_25 rfl rfl ?_
      refine z_getr C 26 dX7_comesBefore_26 gf_X7_27 rfl (by first | assumption | exact Nat.zero_lt_one | exact (show (15 : Nat) < 16 by decide) | omega) (by first | exact hR _ _ _ _ rfl | exact hR2 _ _ _ _ rfl | assumption) ?_
      refine z_iload_n C 29 2 2 dX7_comesBefore_29 rfl rfl ?_
      refine z_zald C 30 dX7_comesBefore_30 rfl (by first | assumption | exact Nat.zero_lt_one | exact (show (15 : Nat) < 16 by decide) | omega) (by first | rfl | assumption) (by first | decide | omega) (by first | assumption | omega) ?_
      exact ret 31 _ _ _ _ _ dX7_comesBefore_31 (by rw [hpo]; exact bI_n) (⟨(by rw [hpo]; refine bI_c ?_; unfold fAhead; rw [if_pos ⟨hk45, hiff⟩]; exact ⟨fun z y => hiff ⟨fun _ => z, fun _ => y⟩, fun z => Classical.byContradiction fun y => hiff ⟨fun w => absurd w z, fun w => absurd w y⟩⟩), rfl, rfl, rfl⟩)
  · refine z_iload_n C 5 3 3 dX7_comesBefore_5 rfl rfl ?_
    refine z_iconst (v := nI 5) C 6 dX7_comesBefore_6 (by decide) ?_
    first | with_reducible refine z_icmp_neN C 7 32 dX7_comesBefore_7 (by decide) (by omega) (by omega) (fun h7 => ?_) (fun h7 => ?_) | refine z_icmp_ne C 7 32 dX7_comesBefore_7 (by decide) (fun h7 => ?_) (fun h7 => ?_)
    · have hk45 : ¬ (k = 4 ∨ k = 5) := by omega
      refine z_aload_n C 32 0 0 dX7_comesBefore_32 rfl rfl ?_
      refine z_getr C 33 dX7_comesBefore_33 gf_X7_23 rfl (by first | assumption | exact Nat.zero_lt_one | exact (show (15 : Nat) < 16 by decide) | omega) (by first | exact hR _ _ _ _ rfl | exact hR2 _ _ _ _ rfl | assumption) ?_
      refine z_iload_n C 36 1 1 dX7_comesBefore_36 rfl rfl ?_
      refine z_iald C 37 dX7_comesBefore_37 (by first | rfl | assumption) (by first | assumption | exact Nat.zero_lt_one | exact (show (15 : Nat) < 16 by decide) | omega) (by first | rfl | assumption) (by first | decide | omega) (by first | assumption | omega) ?_
      refine z_aload_n C 38 0 0 dX7_comesBefore_38 rfl rfl ?_
      refine z_getr C 39 dX7_comesBefore_39 gf_X7_23 rfl (by first | assumption | exact Nat.zero_lt_one | exact (show (15 : Nat) < 16 by decide) | omega) (by first | exact hR _ _ _ _ rfl | exact hR2 _ _ _ _ rfl | assumption) ?_
      refine z_iload_n C 42 2 2 dX7_comesBefore_42 rfl rfl ?_
      refine z_iald C 43 dX7_comesBefore_43 (by first | rfl | assumption) (by first | assumption | exact Nat.zero_lt_one | exact (show (15 : Nat) < 16 by decide) | omega) (by first | rfl | assumption) (by first | decide | omega) (by first | assumption | omega) ?_
      first | with_reducible refine z_icmp_leN C 44 51 dX7_comesBefore_44 (by decide) (by omega) (by omega) (fun h44 => ?_) (fun h44 => ?_) | refine z_icmp_le C 44 51 dX7_comesBefore_44 (by decide) (fun h44 => ?_) (fun h44 => ?_)
      · refine z_iconst (v := nI 0) C 51 dX7_comesBefore_51 (by decide) ?_
        exact ret 52 _ _ _ _ _ dX7_comesBefore_52 (by first | rfl | exact bI_n | decide) (⟨(by rw [hrp, hro] at h44; first | exact bI_1 (by unfold fAhead; rw [if_neg (fun z => by first | exact hk45 z.1 | exact z.2 hiff)]; exact Int32.not_le.mp h44) | exact bI_0 (by unfold fAhead; rw [if_neg (fun z => by first | exact hk45 z.1 | exact z.2 hiff)]; exact Int32.not_lt.mpr h44)), rfl, rfl, rfl⟩)
      · refine z_iconst (v := nI 1) C 47 dX7_comesBefore_47 (by decide) ?_
        refine z_goto C 48 52 dX7_comesBefore_48 (by decide) ?_
        exact ret 52 _ _ _ _ _ dX7_comesBefore_52 (by first | rfl | exact bI_n | decide) (⟨(by rw [hrp, hro] at h44; first | exact bI_1 (by unfold fAhead; rw [if_neg (fun z => by first | exact hk45 z.1 | exact z.2 hiff)]; exact Int32.not_le.mp h44) | exact bI_0 (by unfold fAhead; rw [if_neg (fun z => by first | exact hk45 z.1 | exact z.2 hiff)]; exact Int32.not_lt.mpr h44)), rfl, rfl, rfl⟩)
    · have hk45 : k = 4 ∨ k = 5 := by omega
      refine z_aload_n C 10 0 0 dX7_comesBefore_10 rfl rfl ?_
      refine z_getr C 11 dX7_comesBefore_11 gf_X7_27 rfl (by first | assumption | exact Nat.zero_lt_one | exact (show (15 : Nat) < 16 by decide) | omega) (by first | exact hR _ _ _ _ rfl | exact hR2 _ _ _ _ rfl | assumption) ?_
      refine z_iload_n C 14 1 1 dX7_comesBefore_14 rfl rfl ?_
      refine z_zald C 15 dX7_comesBefore_15 rfl (by first | assumption | exact Nat.zero_lt_one | exact (show (15 : Nat) < 16 by decide) | omega) (by first | rfl | assumption) (by first | decide | omega) (by first | assumption | omega) ?_
      refine z_aload_n C 16 0 0 dX7_comesBefore_16 rfl rfl ?_
      refine z_getr C 17 dX7_comesBefore_17 gf_X7_27 rfl (by first | assumption | exact Nat.zero_lt_one | exact (show (15 : Nat) < 16 by decide) | omega) (by first | exact hR _ _ _ _ rfl | exact hR2 _ _ _ _ rfl | assumption) ?_
      refine z_iload_n C 20 2 2 dX7_comesBefore_20 rfl rfl ?_
      refine z_zald C 21 dX7_comesBefore_21 rfl (by first | assumption | exact Nat.zero_lt_one | exact (show (15 : Nat) < 16 by decide) | omega) (by first | rfl | assumption) (by first | decide | omega) (by first | assumption | omega) ?_
      first | with_reducible refine z_icmp_eqN C 22 32 dX7_comesBefore_22 (by decide) (by omega) (by omega) (fun h22 => ?_) (fun h22 => ?_) | refine z_icmp_eq C 22 32 dX7_comesBefore_22 (by decide) (fun h22 => ?_) (fun h22 => ?_)
      · have hiff := bI_inj (hpp.symm.trans (h22.trans hpo))
        refine z_aload_n C 32 0 0 dX7_comesBefore_32 rfl rfl ?_
        refine z_getr C 33 dX7_comesBefore_33 gf_X7_23 rfl (by first | assumption | exact Nat.zero_lt_one | exact (show (15 : Nat) < 16 by decide) | omega) (by first | exact hR _ _ _ _ rfl | exact hR2 _ _ _ _ rfl | assumption) ?_
        refine z_iload_n C 36 1 1 dX7_comesBefore_36 rfl rfl ?_
        refine z_iald C 37 dX7_comesBefore_37 (by first | rfl | assumption) (by first | assumption | exact Nat.zero_lt_one | exact (show (15 : Nat) < 16 by decide) | omega) (by first | rfl | assumption) (by first | decide | omega) (by first | assumption | omega) ?_
        refine z_aload_n C 38 0 0 dX7_comesBefore_38 rfl rfl ?_
        refine z_getr C 39 dX7_comesBefore_39 gf_X7_23 rfl (by first | assumption | exact Nat.zero_lt_one | exact (show (15 : Nat) < 16 by decide) | omega) (by first | exact hR _ _ _ _ rfl | exact hR2 _ _ _ _ rfl | assumption) ?_
        refine z_iload_n C 42 2 2 dX7_comesBefore_42 rfl rfl ?_
        refine z_iald C 43 dX7_comesBefore_43 (by first | rfl | assumption) (by first | assumption | exact Nat.zero_lt_one | exact (show (15 : Nat) < 16 by decide) | omega) (by first | rfl | assumption) (by first | decide | omega) (by first | assumption | omega) ?_
        first | with_reducible refine z_icmp_leN C 44 51 dX7_comesBefore_44 (by decide) (by omega) (by omega) (fun h44 => ?_) (fun h44 => ?_) | refine z_icmp_le C 44 51 dX7_comesBefore_44 (by decide) (fun h44 => ?_) (fun h44 => ?_)
        · refine z_iconst (v := nI 0) C 51 dX7_comesBefore_51 (by decide) ?_
          exact ret 52 _ _ _ _ _ dX7_comesBefore_52 (by first | rfl | exact bI_n | decide) (⟨(by rw [hrp, hro] at h44; first | exact bI_1 (by unfold fAhead; rw [if_neg (fun z => by first | exact hk45 z.1 | exact z.2 hiff)]; exact Int32.not_le.mp h44) | exact bI_0 (by unfold fAhead; rw [if_neg (fun z => by first | exact hk45 z.1 | exact z.2 hiff)]; exact Int32.not_lt.mpr h44)), rfl, rfl, rfl⟩)
        · refine z_iconst (v := nI 1) C 47 dX7_comesBefore_47 (by decide) ?_
          refine z_goto C 48 52 dX7_comesBefore_48 (by decide) ?_
          exact ret 52 _ _ _ _ _ dX7_comesBefore_52 (by first | rfl | exact bI_n | decide) (⟨(by rw [hrp, hro] at h44; first | exact bI_1 (by unfold fAhead; rw [if_neg (fun z => by first | exact hk45 z.1 | exact z.2 hiff)]; exact Int32.not_le.mp h44) | exact bI_0 (by unfold fAhead; rw [if_neg (fun z => by first | exact hk45 z.1 | exact z.2 hiff)]; exact Int32.not_lt.mpr h44)), rfl, rfl, rfl⟩)
      · have hiff : ¬ (fPrec N p ↔ fPrec N o) := fun z => h22 (hpp.trans ((bI_c z).trans hpo.symm))
        refine z_aload_n C 25 0 0 dX7_comesBefore_25 rfl rfl ?_
        refine z_getr C 26 dX7_comesBefore_26 gf_X7_27 rfl (by first | assumption | exact Nat.zero_lt_one | exact (show (15 : Nat) < 16 by decide) | omega) (by first | exact hR _ _ _ _ rfl | exact hR2 _ _ _ _ rfl | assumption) ?_
        refine z_iload_n C 29 2 2 dX7_comesBefore_29 rfl rfl ?_
        refine z_zald C 30 dX7_comesBefore_30 rfl (by first | assumption | exact Nat.zero_lt_one | exact (show (15 : Nat) < 16 by decide) | omega) (by first | rfl | assumption) (by first | decide | omega) (by first | assumption | omega) ?_
        exact ret 31 _ _ _ _ _ dX7_comesBefore_31 (by rw [hpo]; exact bI_n) (⟨(by rw [hpo]; refine bI_c ?_; unfold fAhead; rw [if_pos ⟨hk45, hiff⟩]; exact ⟨fun z y => hiff ⟨fun _ => z, fun _ => y⟩, fun z => Classical.byContradiction fun y => hiff ⟨fun w => absurd w z, fun w => absurd w y⟩⟩), rfl, rfl, rfl⟩)
def rm_X7_victimOf : Room := { frames := 1, cells := 0, slots := 0, locals := 23 }
set_option maxHeartbeats 4000000 in
set_option maxRecDepth 100000 in
theorem c_X7_victimOf {l : Launch} {G : mG} {ad : mA} {S : mS} {L : mL} {R : mR} {N T : NN} {n d k : Nat} (hR : mlk R) (hd : d < 3) (hde : R 12 15 0 = some (3, d)) (hAT : AT S d T n) (hn10 : n ≤ 10) (hI : rI N n) (hTR : TR S N T n) (hk : 1 ≤ k) (hk6 : k ≤ 6) : Ki l yX7_victimOf cX7_victimOf 4 .int rm_X7_victimOf G ad mdm [.ref (ad 7 0), .int (nI k)] S L R (fun r_ S2 L2 R2 => r_ = oI (fVic N T n k) ∧ S = S2 ∧ L = L2 ∧ R = R2) := by
  refine Ki.of RX7 (by decide) rfl (Nat.le_of_ble_eq_true rfl) ?_
  intro X hXl hXG C ret
  subst hXl; subst hXG
  change Z X 4 ad mdm S L R 0 0 0 [(0, _), (1, _)] []
  refine z_iconst (v := (-1)) C 0 dX7_victimOf_0 (by decide) ?_
  refine z_istore_n C 1 2 [(2, _), (0, _), (1, _)] dX7_victimOf_1 rfl (by decide) rfl ?_
  refine z_iconst (v := nI 0) C 2 dX7_victimOf_2 (by decide) ?_
  refine z_istore_n C 3 3 [(3, _), (2, _), (0, _), (1, _)] dX7_victimOf_3 rfl (by decide) rfl ?_
  have loop_4 : ∀ (n_4 : Nat) (i : Nat) (b : Option Nat), i ≤ n → fVicF N T n k i = b → n - i < n_4 → Z X 4 ad mdm S L R 0 0 4 [(0, .ref (ad 7 0)), (1, .int (nI k)), (2, .int (oI b)), (3, .int (nI i))] [] := by
    intro n_4
    induction n_4 with
    | zero => intro i b hi hb hm4; exact absurd hm4 (Nat.not_lt_zero _)
    | succ n_4 ih4 =>
      intro i b hi hb hm4
      refine z_iload_n C 4 3 3 dX7_victimOf_4 rfl rfl ?_
      refine z_aload_n C 5 0 0 dX7_victimOf_5 rfl rfl ?_
      refine z_getr C 6 dX7_victimOf_6 gf_X7_17 rfl (by first | assumption | exact Nat.zero_lt_one | exact (show (15 : Nat) < 16 by decide) | omega) (by first | exact hR _ _ _ _ rfl | exact hR2 _ _ _ _ rfl | assumption) ?_
      refine z_cVi0 C 9 dX7_victimOf_9 cv_X7_45 (c_X6_count hR (by decide) hd hde hAT.1) rfl ⟨by decide, rfl⟩ (by first | assumption | exact Nat.zero_lt_one | exact (show (15 : Nat) < 16 by decide) | omega) rfl rfl (Nat.le_of_ble_eq_true rfl) ⟨by decide, by decide⟩ ⟨rfl, rfl⟩ ⟨by decide, by decide⟩ ?_
      intro r9 S9 L9 R9 p9
      obtain ⟨rfl, rfl, rfl, rfl⟩ := p9
      first | with_reducible refine z_icmp_geN C 12 49 dX7_victimOf_12 (by decide) (by omega) (by omega) (fun h12 => ?_) (fun h12 => ?_) | refine z_icmp_ge C 12 49 dX7_victimOf_12 (by decide) (fun h12 => ?_) (fun h12 => ?_)
      · refine z_iload_n C 49 2 2 dX7_victimOf_49 rfl rfl ?_
        exact ret 50 _ _ _ _ _ dX7_victimOf_50 (by first | rfl | exact bI_n | decide) (⟨(by rw [← hb, show i = n by omega]; rfl), rfl, rfl, rfl⟩)
      · refine z_aload_n C 15 0 0 dX7_victimOf_15 rfl rfl ?_
        refine z_getr C 16 dX7_victimOf_16 gf_X7_17 rfl (by first | assumption | exact Nat.zero_lt_one | exact (show (15 : Nat) < 16 by decide) | omega) (by first | exact hR _ _ _ _ rfl | exact hR2 _ _ _ _ rfl | assumption) ?_
        refine z_iload_n C 19 1 1 dX7_victimOf_19 rfl rfl ?_
        refine z_iload_n C 20 3 3 dX7_victimOf_20 rfl rfl ?_
        refine z_cVi0 C 21 dX7_victimOf_21 cv_X7_49 (c_X6_canHave hR (by decide) (by omega) (by omega) (by omega)) rfl ⟨by decide, rfl⟩ (by first | assumption | exact Nat.zero_lt_one | exact (show (15 : Nat) < 16 by decide) | omega) rfl rfl (Nat.le_of_ble_eq_true rfl) ⟨by decide, by decide⟩ ⟨rfl, rfl⟩ ⟨by decide, by decide⟩ ?_
        intro r21 S21 L21 R21 p21
        obtain ⟨rfl, rfl, rfl, rfl⟩ := p21
        first | with_reducible refine z_if_eqB C 24 43 dX7_victimOf_24 (by decide) (fun h24 => ?_) (fun h24 => ?_) | with_reducible refine z_if_eqN C 24 43 dX7_victimOf_24 (by decide) (by omega) (fun h24 => ?_) (fun h24 => ?_) | refine z_if_eq C 24 43 dX7_victimOf_24 (by decide) (fun h24 => ?_) (fun h24 => ?_)
        · have hnx := (fVicF_f (T := T) (n := n) (fun z => h24 ((rCan_eq hTR.1 (by omega)).mpr z.1))).trans hb
          refine z_iinc C 43 3 3 [(3, _), (0, _), (1, _), (2, _)] dX7_victimOf_43 rfl (by first | exact nI_1 _ | rfl) (by decide) rfl ?_
          refine z_goto C 46 4 dX7_victimOf_46 (by decide) ?_
          refine z_sub [(0, _), (1, _), (2, _), (3, _)] [1, 2, 3, 0] rfl ?_
          exact ih4 (i + 1) _ (by omega) hnx (by omega)
        · have hci : fCan N i k := (rCan_eq hTR.1 (by omega)).mp h24
          refine z_iload_n C 27 2 2 dX7_victimOf_27 rfl rfl ?_
          refine z_if_lt C 28 41 dX7_victimOf_28 (by decide) (fun h28 => ?_) (fun h28 => ?_)
          · obtain rfl : b = none := by
              cases b with
              | none => rfl
              | some o => exact absurd h28 (nI_pos (by have := fVicF_lt hb; omega))
            have hnx := fVicF_t (T := T) (n := n) hci (fun o ho => by rw [hb] at ho; cases ho)
            refine z_iload_n C 41 3 3 dX7_victimOf_41 rfl rfl ?_
            refine z_istore_n C 42 2 [(2, _), (0, _), (1, _), (3, _)] dX7_victimOf_42 rfl (by decide) rfl ?_
            refine z_iinc C 43 3 3 [(3, _), (2, _), (0, _), (1, _)] dX7_victimOf_43 rfl (by first | exact nI_1 _ | rfl) (by decide) rfl ?_
            refine z_goto C 46 4 dX7_victimOf_46 (by decide) ?_
            refine z_sub [(0, _), (1, _), (2, _), (3, _)] [2, 3, 1, 0] rfl ?_
            exact ih4 (i + 1) _ (by omega) hnx (by omega)
          · obtain ⟨o, rfl⟩ : ∃ o, b = some o := by
              cases b with
              | none => exact absurd (by decide) h28
              | some o => exact ⟨o, rfl⟩
            have ho := fVicF_lt hb
            have hco := fVicF_can hb
            have hk5 : k ≤ 5 := by
              rcases (show k ≤ 5 ∨ k = 6 by omega) with h | h
              · exact h
              · subst h; have := fCan_6 hI (by omega) (by omega) hci hco; omega
            refine z_aload_n C 31 0 0 dX7_victimOf_31 rfl rfl ?_
            refine z_iload_n C 32 3 3 dX7_victimOf_32 rfl rfl ?_
            refine z_iload_n C 33 2 2 dX7_victimOf_33 rfl rfl ?_
            refine z_iload_n C 34 1 1 dX7_victimOf_34 rfl rfl ?_
            refine z_cVi0 C 35 dX7_victimOf_35 cv_X7_53 (c_X7_comesBefore (N := N) (T := T) (n := n) (d := d) hR hd hde hAT hn10 hI hTR hk hk5 (by omega) (by omega) hci hco) rfl ⟨by decide, rfl⟩ (by first | assumption | exact Nat.zero_lt_one | exact (show (15 : Nat) < 16 by decide) | omega) rfl rfl (Nat.le_of_ble_eq_true rfl) ⟨by decide, by decide⟩ ⟨rfl, rfl⟩ ⟨by decide, by decide⟩ ?_
            intro r35 S35 L35 R35 p35
            obtain ⟨rfl, rfl, rfl, rfl⟩ := p35
            first | with_reducible refine z_if_eqB C 38 43 dX7_victimOf_38 (by decide) (fun h38 => ?_) (fun h38 => ?_) | with_reducible refine z_if_eqN C 38 43 dX7_victimOf_38 (by decide) (by omega) (fun h38 => ?_) (fun h38 => ?_) | refine z_if_eq C 38 43 dX7_victimOf_38 (by decide) (fun h38 => ?_) (fun h38 => ?_)
            · have hnx := (fVicF_f (T := T) (n := n) (fun z => h38 (z.2 o hb))).trans hb
              refine z_iinc C 43 3 3 [(3, _), (0, _), (1, _), (2, _)] dX7_victimOf_43 rfl (by first | exact nI_1 _ | rfl) (by decide) rfl ?_
              refine z_goto C 46 4 dX7_victimOf_46 (by decide) ?_
              refine z_sub [(0, _), (1, _), (2, _), (3, _)] [1, 2, 3, 0] rfl ?_
              exact ih4 (i + 1) _ (by omega) hnx (by omega)
            · have hnx := fVicF_t (T := T) (n := n) hci (fun o' ho' => by rw [hb] at ho'; cases ho'; exact h38)
              refine z_iload_n C 41 3 3 dX7_victimOf_41 rfl rfl ?_
              refine z_istore_n C 42 2 [(2, _), (0, _), (1, _), (3, _)] dX7_victimOf_42 rfl (by decide) rfl ?_
              refine z_iinc C 43 3 3 [(3, _), (2, _), (0, _), (1, _)] dX7_victimOf_43 rfl (by first | exact nI_1 _ | rfl) (by decide) rfl ?_
              refine z_goto C 46 4 dX7_victimOf_46 (by decide) ?_
              refine z_sub [(0, _), (1, _), (2, _), (3, _)] [2, 3, 1, 0] rfl ?_
              exact ih4 (i + 1) _ (by omega) hnx (by omega)
  refine z_sub [(0, _), (1, _), (2, _), (3, _)] [2, 3, 1, 0] rfl ?_
  exact loop_4 (n + 1) 0 none (Nat.zero_le _) rfl (by omega)
def rm_X7_tryStep : Room := { frames := 1, cells := 0, slots := 0, locals := 22 }
set_option maxHeartbeats 4000000 in
set_option maxRecDepth 100000 in
theorem c_X7_tryStep {l : Launch} {G : mG} {ad : mA} {S : mS} {L : mL} {R : mR} {d p k : Nat} (hR : mlk R) (hd : d < 3) (hde : R 12 15 0 = some (3, d)) (hp : p < 10) (hk : 1 ≤ k) (hk6 : k ≤ 6) (hz : S 7 0 3 = 0 ∨ S 7 0 3 = 1) : Ki l yX7_tryStep cX7_tryStep 4 .int rm_X7_tryStep G ad mdm [.ref (ad 7 0), .int (nI k), .int (nI p)] S L R (fun r_ S2 L2 R2 => r_ = rUses S 15 d p - rUses (tStep S d p k) 15 d p ∧ tStep S d p k = S2 ∧ L = L2 ∧ R = R2) := by
  refine Ki.of RX7 (by decide) rfl (Nat.le_of_ble_eq_true rfl) ?_
  intro X hXl hXG C ret
  subst hXl; subst hXG
  change Z X 4 ad mdm S L R 0 0 0 [(0, _), (1, _), (2, _)] []
  refine z_aload_n C 0 0 0 dX7_tryStep_0 rfl rfl ?_
  refine z_getr C 1 dX7_tryStep_1 gf_X7_17 rfl (by first | assumption | exact Nat.zero_lt_one | exact (show (15 : Nat) < 16 by decide) | omega) (by first | exact hR _ _ _ _ rfl | exact hR2 _ _ _ _ rfl | assumption) ?_
  refine z_iload_n C 4 2 2 dX7_tryStep_4 rfl rfl ?_
  refine z_cVi0 C 5 dX7_tryStep_5 cv_X7_57 (c_X6_usedBy (d := d) hR (by decide) hd hde hp) rfl ⟨by decide, rfl⟩ (by first | assumption | exact Nat.zero_lt_one | exact (show (15 : Nat) < 16 by decide) | omega) rfl rfl (Nat.le_of_ble_eq_true rfl) ⟨by decide, by decide⟩ ⟨rfl, rfl⟩ ⟨by decide, by decide⟩ ?_
  intro r5 S5 L5 R5 p5
  obtain ⟨rfl, rfl, rfl, rfl⟩ := p5
  refine z_istore_n C 8 3 [(3, _), (0, _), (1, _), (2, _)] dX7_tryStep_8 rfl (by decide) rfl ?_
  refine z_aload_n C 9 0 1 dX7_tryStep_9 rfl rfl ?_
  refine z_getr C 10 dX7_tryStep_10 gf_X7_17 rfl (by first | assumption | exact Nat.zero_lt_one | exact (show (15 : Nat) < 16 by decide) | omega) (by first | exact hR _ _ _ _ rfl | exact hR2 _ _ _ _ rfl | assumption) ?_
  refine z_iload_n C 13 1 2 dX7_tryStep_13 rfl rfl ?_
  refine z_iload_n C 14 2 3 dX7_tryStep_14 rfl rfl ?_
  refine z_cVv0 C 15 dX7_tryStep_15 cv_X7_61 (c_X6_doStep hR (by decide) hp hk hk6) rfl ⟨by decide, rfl⟩ (by first | assumption | exact Nat.zero_lt_one | exact (show (15 : Nat) < 16 by decide) | omega) rfl rfl (Nat.le_of_ble_eq_true rfl) ⟨by decide, by decide⟩ ⟨rfl, rfl⟩ ⟨by decide, by decide⟩ ?_
  intro S15 L15 R15 p15
  obtain ⟨rfl, rfl, rfl⟩ := p15
  refine z_aload_n C 18 0 1 dX7_tryStep_18 rfl rfl ?_
  refine z_geti C 19 dX7_tryStep_19 gf_X7_31 rfl (by first | assumption | exact Nat.zero_lt_one | exact (show (15 : Nat) < 16 by decide) | omega) ?_
  first | with_reducible refine z_if_eqB C 22 39 dX7_tryStep_22 (by decide) (fun h22 => ?_) (fun h22 => ?_) | with_reducible refine z_if_eqN C 22 39 dX7_tryStep_22 (by decide) (by omega) (fun h22 => ?_) (fun h22 => ?_) | refine z_if_eq C 22 39 dX7_tryStep_22 (by decide) (fun h22 => ?_) (fun h22 => ?_)
  · have ht : tStep S d p k = rStep S 15 p k := if_pos ((rStep_k (by omega)).symm.trans h22)
    refine z_iload_n C 39 3 0 dX7_tryStep_39 rfl rfl ?_
    refine z_aload_n C 40 0 1 dX7_tryStep_40 rfl rfl ?_
    refine z_getr C 41 dX7_tryStep_41 gf_X7_17 rfl (by first | assumption | exact Nat.zero_lt_one | exact (show (15 : Nat) < 16 by decide) | omega) (by first | exact hR _ _ _ _ rfl | exact hR2 _ _ _ _ rfl | assumption) ?_
    refine z_iload_n C 44 2 3 dX7_tryStep_44 rfl rfl ?_
    refine z_cVi0 C 45 dX7_tryStep_45 cv_X7_57 (c_X6_usedBy (d := d) hR (by decide) hd hde hp) rfl ⟨by decide, rfl⟩ (by first | assumption | exact Nat.zero_lt_one | exact (show (15 : Nat) < 16 by decide) | omega) rfl rfl (Nat.le_of_ble_eq_true rfl) ⟨by decide, by decide⟩ ⟨rfl, rfl⟩ ⟨by decide, by decide⟩ ?_
    intro r45 S45 L45 R45 p45
    obtain ⟨rfl, rfl, rfl, rfl⟩ := p45
    first | with_reducible refine z_isubN C 48 dX7_tryStep_48 (by omega) ?_ | refine z_isub C 48 dX7_tryStep_48 ?_
    exact ret 49 _ _ _ _ _ dX7_tryStep_49 (by first | rfl | exact bI_n | decide) (⟨(by rw [ht]), ht, rfl, rfl⟩)
  · have ht : tStep S d p k = up3 (rStep S 15 p k) 8 0 p (rUses (rStep S 15 p k) 15 d p) := if_neg (fun z => h22 ((rStep_k (by omega)).trans z))
    refine z_aload_n C 25 0 1 dX7_tryStep_25 rfl rfl ?_
    refine z_getr C 26 dX7_tryStep_26 gf_X7_23 rfl (by first | assumption | exact Nat.zero_lt_one | exact (show (15 : Nat) < 16 by decide) | omega) (by first | exact hR _ _ _ _ rfl | exact hR2 _ _ _ _ rfl | assumption) ?_
    refine z_iload_n C 29 2 3 dX7_tryStep_29 rfl rfl ?_
    refine z_aload_n C 30 0 1 dX7_tryStep_30 rfl rfl ?_
    refine z_getr C 31 dX7_tryStep_31 gf_X7_17 rfl (by first | assumption | exact Nat.zero_lt_one | exact (show (15 : Nat) < 16 by decide) | omega) (by first | exact hR _ _ _ _ rfl | exact hR2 _ _ _ _ rfl | assumption) ?_
    refine z_iload_n C 34 2 3 dX7_tryStep_34 rfl rfl ?_
    refine z_cVi0 C 35 dX7_tryStep_35 cv_X7_57 (c_X6_usedBy (d := d) hR (by decide) hd hde hp) rfl ⟨by decide, rfl⟩ (by first | assumption | exact Nat.zero_lt_one | exact (show (15 : Nat) < 16 by decide) | omega) rfl rfl (Nat.le_of_ble_eq_true rfl) ⟨by decide, by decide⟩ ⟨rfl, rfl⟩ ⟨by decide, by decide⟩ ?_
    intro r35 S35 L35 R35 p35
    obtain ⟨rfl, rfl, rfl, rfl⟩ := p35
    refine z_iast C 38 dX7_tryStep_38 (by first | rfl | assumption) (by first | assumption | exact Nat.zero_lt_one | exact (show (15 : Nat) < 16 by decide) | omega)  (by first | rfl | assumption) (by first | decide | omega) (by first | assumption | omega) ?_
    refine z_iload_n C 39 3 0 dX7_tryStep_39 rfl rfl ?_
    refine z_aload_n C 40 0 1 dX7_tryStep_40 rfl rfl ?_
    refine z_getr C 41 dX7_tryStep_41 gf_X7_17 rfl (by first | assumption | exact Nat.zero_lt_one | exact (show (15 : Nat) < 16 by decide) | omega) (by first | exact hR _ _ _ _ rfl | exact hR2 _ _ _ _ rfl | assumption) ?_
    refine z_iload_n C 44 2 3 dX7_tryStep_44 rfl rfl ?_
    refine z_cVi0 C 45 dX7_tryStep_45 cv_X7_57 (c_X6_usedBy (d := d) hR (by decide) hd hde hp) rfl ⟨by decide, rfl⟩ (by first | assumption | exact Nat.zero_lt_one | exact (show (15 : Nat) < 16 by decide) | omega) rfl rfl (Nat.le_of_ble_eq_true rfl) ⟨by decide, by decide⟩ ⟨rfl, rfl⟩ ⟨by decide, by decide⟩ ?_
    intro r45 S45 L45 R45 p45
    obtain ⟨rfl, rfl, rfl, rfl⟩ := p45
    first | with_reducible refine z_isubN C 48 dX7_tryStep_48 (by omega) ?_ | refine z_isub C 48 dX7_tryStep_48 ?_
    exact ret 49 _ _ _ _ _ dX7_tryStep_49 (by first | rfl | exact bI_n | decide) (⟨(by rw [ht]), ht, rfl, rfl⟩)
