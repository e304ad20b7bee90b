theorem TR.off {S S2 : mS} {N T : NN} {n : Nat} (h : TR S N T n) (h1 : ∀ k, 12 ≤ k → k ≤ 16 → S2 k 15 = S k 15) (h8 : S2 8 0 = S 8 0) (h9 : S2 9 0 = S 9 0) (h7 : S2 7 0 3 = S 7 0 3) : TR S2 N T n := ⟨h.1.off h1, by rw [h8]; exact h.2.1, by rw [h9]; exact h.2.2.1, h7.trans h.2.2.2⟩
/-- on the way through findSteps: f is the fuel that is left, m steps are done, A is the row behind them -/
def fI (S S1 : mS) (N T : NN) (n d f m : Nat) (A : NN) : Prop := FT S S1 ∧ TR S1 A T n ∧ AT S1 d T n ∧ rI A n ∧ cI A ∧ tL S1 N n m A ∧ S1 7 0 4 = nI m ∧ Phi A n < f ∧ m + Phi A n ≤ 50 ∧ fMem N T n = (fMemF T n f A).map (fun q => (q.1 + m, q.2))
theorem tStep_k {S : mS} {d p k kk i j : Nat} (h : ¬ (13 ≤ kk ∧ kk ≤ 15)) (h8 : kk ≠ 8) : tStep S d p k kk i j = S kk i j := by
  unfold tStep
  split
  · exact rStep_k h
  · rw [up3_k _ h8, rStep_k h]
theorem fI.next {S S1 : mS} {N T : NN} {n d f m k p : Nat} {A : NN} (h : fI S S1 N T n d (f + 1) m A) (hn : n ≤ 10) (hm : A 0 < fAll A T n) (hk : fKind A T n = some (k, p)) :
    fI S (up3 (tStep (up3 (up3 S1 10 0 m (nI k)) 11 0 m (nI p)) d p k) 7 0 4 (nI (m + 1))) N T n d f (m + 1) (fStep A p k) := by
  obtain ⟨h1, h2, h3, h4, h5, h6, h7, h8, h9, h10⟩ := h
  obtain ⟨g1, g2, g3⟩ := fKindF_some hk
  have hp := fVic_lt g3
  have hc := fVic_can g3
  have hTR2 : TR (up3 (up3 S1 10 0 m (nI k)) 11 0 m (nI p)) A T n := h2.off (fun k a b => by rw [up3_k _ (by omega), up3_k _ (by omega)]) (by rw [up3_k _ (by omega), up3_k _ (by omega)]) (by rw [up3_k _ (by omega), up3_k _ (by omega)]) (by rw [up3_k _ (by omega), up3_k _ (by omega)])
  have hAT2 : AT (up3 (up3 S1 10 0 m (nI k)) 11 0 m (nI p)) d T n := h3.off (by rw [up3_k _ (by omega), up3_k _ (by omega)]) (fun i => by rw [up3_k _ (by omega), up3_k _ (by omega)])
  obtain ⟨t1, t2⟩ := hTR2.step hAT2 hn h4 h5 hp g1 (by omega) hc
  have hphi := Phi_step hp hn g1 (by omega) hc
  refine ⟨?_, ?_, ?_, rI.step h4 (by omega) g1 (by omega) hc, cI.step h5 (by omega) g1 (by omega) hc, ?_, up3_s _ _ _ _ _, by omega, by omega, ?_⟩
  · exact (((h1.up (Or.inl (by omega))).up (Or.inl (by omega))).tr t2).up (Or.inl (by omega))
  · refine t1.off (fun k a b => by rw [up3_k _ (by omega)]) (by rw [up3_k _ (by omega)]) (by rw [up3_k _ (by omega)]) (by rw [up3_j _ (by omega)])
  · refine h3.off ?_ (fun i => ?_)
    · rw [up3_k _ (by omega)]
      funext j
      rw [tStep_k (by omega) (by omega), up3_k _ (by omega), up3_k _ (by omega)]
    · rw [up3_k _ (by omega)]
      funext j
      rw [tStep_k (by omega) (by omega), up3_k _ (by omega), up3_k _ (by omega)]
  · refine h6.snoc (fun i hi => ?_) (fun i hi => ?_) ?_ ?_ g1 (by omega) hp hc
    · rw [up3_k _ (by omega), tStep_k (by omega) (by omega), up3_k _ (by omega), up3_j _ (by omega)]
    · rw [up3_k _ (by omega), tStep_k (by omega) (by omega), up3_j _ (by omega), up3_k _ (by omega)]
    · rw [up3_k _ (by omega), tStep_k (by omega) (by omega), up3_k _ (by omega), up3_s]
    · rw [up3_k _ (by omega), tStep_k (by omega) (by omega), up3_s]
  · rw [h10, fMemF_s hm hk]
    exact opt_map_map (a := (0, A)) (b := (0, A)) m
theorem fI.used {S S1 : mS} {N T : NN} {n d f m k p : Nat} {A : NN} (h : fI S S1 N T n d (f + 1) m A) (hn : n ≤ 10) (hk : fKind A T n = some (k, p)) : fAll A T n - (rUses (up3 (up3 S1 10 0 m (nI k)) 11 0 m (nI p)) 15 d p - rUses (tStep (up3 (up3 S1 10 0 m (nI k)) 11 0 m (nI p)) d p k) 15 d p) = fAll (fStep A p k) T n := by
  obtain ⟨h1, h2, h3, h4, h5, h6, h7, h8, h9, h10⟩ := h
  obtain ⟨g1, g2, g3⟩ := fKindF_some hk
  have hp := fVic_lt g3
  have hc := fVic_can g3
  have hTR2 : TR (up3 (up3 S1 10 0 m (nI k)) 11 0 m (nI p)) A T n := h2.off (fun k a b => by rw [up3_k _ (by omega), up3_k _ (by omega)]) (by rw [up3_k _ (by omega), up3_k _ (by omega)]) (by rw [up3_k _ (by omega), up3_k _ (by omega)]) (by rw [up3_k _ (by omega), up3_k _ (by omega)])
  have hAT2 : AT (up3 (up3 S1 10 0 m (nI k)) 11 0 m (nI p)) d T n := h3.off (by rw [up3_k _ (by omega), up3_k _ (by omega)]) (fun i => by rw [up3_k _ (by omega), up3_k _ (by omega)])
  obtain ⟨t1, t2⟩ := hTR2.step hAT2 hn h4 h5 hp g1 (by omega) hc
  have hAT3 : AT (tStep (up3 (up3 S1 10 0 m (nI k)) 11 0 m (nI p)) d p k) d T n := hAT2.off (by funext j; rw [tStep_k (by omega) (by omega)]) (fun i => by funext j; rw [tStep_k (by omega) (by omega)])
  rw [rUses_eq hTR2.1 hAT2 (by omega) (h4.2.2.1 p (by omega)), rUses_eq t1.1 hAT3 (by omega) ((rI.step h4 (show p < 10 by omega) g1 (by omega) hc).2.2.1 p (by omega)), fAll_step hn hp]
theorem fKind_0 {N T : NN} {n : Nat} (hn : n ≤ 10) (h : Phi N n = 0) : fKind N T n = none := by
  cases hk : fKind N T n with
  | none => rfl
  | some kp =>
    obtain ⟨k, p⟩ := kp
    obtain ⟨g1, g2, g3⟩ := fKindF_some hk
    have := Phi_step (fVic_lt g3) hn g1 (by omega) (fVic_can g3)
    omega

def rm_X7_findSteps : Room := { frames := 2, cells := 0, slots := 0, locals := 46 }
set_option maxHeartbeats 4000000 in
set_option maxRecDepth 100000 in
theorem c_X7_findSteps {l : Launch} {G : mG} {ad : mA} {S : mS} {L : mL} {R : mR} {N T : NN} {n d : Nat} (hR : mlk R) (hd : d < 3) (hde : R 12 15 0 = some (3, d)) (hAT : AT S d T n) (hn10 : n ≤ 10) (hI : rI N n) (hcI : cI N) (hTR : TR S N T n) : Ki l yX7_findSteps cX7_findSteps 4 .boolean rm_X7_findSteps G ad mdm [.ref (ad 7 0)] S L R (fun r_ S2 L2 R2 => (match fMem N T n with | some q => r_ = nI 1 ∧ S2 7 0 4 = nI q.1 ∧ q.1 ≤ 50 ∧ tL S2 N n q.1 q.2 | none => r_ = nI 0) ∧ FT S S2 ∧ L = L2 ∧ R = R2) := by
  refine Ki.of RX7 (by decide) rfl (Nat.le_of_ble_eq_true rfl) ?_
  intro X hXl hXG C ret
  subst hXl; subst hXG
  change Z X 4 ad mdm S L R 0 0 0 [(0, _)] []
  have hP0 := Phi_le N n
  have hus := rAll_eq hTR.1 hAT hn10 hI
  refine z_aload_n C 0 0 0 dX7_findSteps_0 rfl rfl ?_
  refine z_getr C 1 dX7_findSteps_1 gf_X7_17 rfl (by first | assumption | exact Nat.zero_lt_one | exact (show (15 : Nat) < 16 by decide) | omega) (by first | exact hR _ _ _ _ rfl | exact hR2 _ _ _ _ rfl | assumption) ?_
  refine z_cVi0 C 4 dX7_findSteps_4 cv_X7_65 (c_X6_usedByAll (n := n) hR (by decide) hd hde hAT.1 hn10) rfl ⟨by decide, rfl⟩ (by first | assumption | exact Nat.zero_lt_one | exact (show (15 : Nat) < 16 by decide) | omega) rfl rfl (Nat.le_of_ble_eq_true rfl) ⟨by decide, by decide⟩ ⟨rfl, rfl⟩ ⟨by decide, by decide⟩ ?_
  intro r4 S4 L4 R4 p4
  obtain ⟨rfl, rfl, rfl, rfl⟩ := p4
  rw [hus]
  refine z_istore_n C 7 1 [(1, _), (0, _)] dX7_findSteps_7 rfl (by decide) rfl ?_
  refine z_aload_n C 8 0 1 dX7_findSteps_8 rfl rfl ?_
  refine z_iconst (v := nI 0) C 9 dX7_findSteps_9 (by decide) ?_
  refine z_puti C 10 dX7_findSteps_10 gf_X7_35 ⟨rfl, rfl⟩ rfl (by first | assumption | exact Nat.zero_lt_one | exact (show (15 : Nat) < 16 by decide) | omega) ?_
  have loop_13 : ∀ (n_13 : Nat) (f m : Nat) (A : NN) (S1 : mS), fI S S1 N T n d f m A → f < n_13 → Z X 4 ad mdm S1 L R 0 0 13 [(0, .ref (ad 7 0)), (1, .int (fAll A T n))] [] := by
    intro n_13
    induction n_13 with
    | zero => intro f m A S1 hF hm13; exact absurd hm13 (Nat.not_lt_zero _)
    | succ n_13 ih13 =>
      intro f m A S1 hF hm13
      have hFP := hF.2.2.2.2.2.2.2.1
      have hFQ := hF.2.2.2.2.2.2.2.2.1
      obtain ⟨f, rfl⟩ : ∃ g, f = g + 1 := ⟨f - 1, by omega⟩
      refine z_aload_n C 13 0 0 dX7_findSteps_13 rfl rfl ?_
      refine z_getiv C 14 dX7_findSteps_14 gf_X7_35 rfl (by first | assumption | exact Nat.zero_lt_one | exact (show (15 : Nat) < 16 by decide) | omega) hF.2.2.2.2.2.2.1 ?_
      refine z_bipush (v := nI 50) C 17 dX7_findSteps_17 (by decide +kernel) ?_
      first | with_reducible refine z_icmp_geN C 19 113 dX7_findSteps_19 (by decide) (by omega) (by omega) (fun h19 => ?_) (fun h19 => ?_) | refine z_icmp_ge C 19 113 dX7_findSteps_19 (by decide) (fun h19 => ?_) (fun h19 => ?_)
      · have hph : Phi A n = 0 := by omega
        refine z_iload_n C 113 1 1 dX7_findSteps_113 rfl rfl ?_
        refine z_aload_n C 114 0 0 dX7_findSteps_114 rfl rfl ?_
        refine z_getr C 115 dX7_findSteps_115 gf_X7_17 rfl (by first | assumption | exact Nat.zero_lt_one | exact (show (15 : Nat) < 16 by decide) | omega) (by first | exact hR _ _ _ _ rfl | exact hR2 _ _ _ _ rfl | assumption) ?_
        refine z_geti C 118 dX7_findSteps_118 gf_X7_68 rfl (by first | assumption | exact Nat.zero_lt_one | exact (show (15 : Nat) < 16 by decide) | omega) ?_
        first | with_reducible refine z_icmp_gtN C 121 128 dX7_findSteps_121 (by decide) (by omega) (by omega) (fun h121 => ?_) (fun h121 => ?_) | refine z_icmp_gt C 121 128 dX7_findSteps_121 (by decide) (fun h121 => ?_) (fun h121 => ?_)
        · refine z_iconst (v := nI 0) C 128 dX7_findSteps_128 (by decide) ?_
          exact ret 129 _ _ _ _ _ dX7_findSteps_129 (by first | rfl | exact bI_n | decide) (⟨(by first | (rw [hF.2.2.2.2.2.2.2.2.2, fMemF_0 hmem]; exact ⟨rfl, by rw [hF.2.2.2.2.2.2.1]; simp, by simp; omega, by simpa using hF.2.2.2.2.2.1⟩) | (rw [hF.2.2.2.2.2.2.2.2.2, fMemF_0 (Int32.not_lt.mpr (by rw [← hF.2.1.1.1]; exact Int32.not_lt.mp h121))]; exact ⟨rfl, by rw [hF.2.2.2.2.2.2.1]; simp, by simp; omega, by simpa using hF.2.2.2.2.2.1⟩) | (rw [hF.2.2.2.2.2.2.2.2.2, fMemF_n (by rw [← hF.2.1.1.1]; exact h121) (fKind_0 hn10 hph)]; rfl)), hF.1, rfl, rfl⟩)
        · refine z_iconst (v := nI 1) C 124 dX7_findSteps_124 (by decide) ?_
          refine z_goto C 125 129 dX7_findSteps_125 (by decide) ?_
          exact ret 129 _ _ _ _ _ dX7_findSteps_129 (by first | rfl | exact bI_n | decide) (⟨(by first | (rw [hF.2.2.2.2.2.2.2.2.2, fMemF_0 hmem]; exact ⟨rfl, by rw [hF.2.2.2.2.2.2.1]; simp, by simp; omega, by simpa using hF.2.2.2.2.2.1⟩) | (rw [hF.2.2.2.2.2.2.2.2.2, fMemF_0 (Int32.not_lt.mpr (by rw [← hF.2.1.1.1]; exact Int32.not_lt.mp h121))]; exact ⟨rfl, by rw [hF.2.2.2.2.2.2.1]; simp, by simp; omega, by simpa using hF.2.2.2.2.2.1⟩) | (rw [hF.2.2.2.2.2.2.2.2.2, fMemF_n (by rw [← hF.2.1.1.1]; exact h121) (fKind_0 hn10 hph)]; rfl)), hF.1, rfl, rfl⟩)
      · refine z_iload_n C 22 1 1 dX7_findSteps_22 rfl rfl ?_
        refine z_aload_n C 23 0 0 dX7_findSteps_23 rfl rfl ?_
        refine z_getr C 24 dX7_findSteps_24 gf_X7_17 rfl (by first | assumption | exact Nat.zero_lt_one | exact (show (15 : Nat) < 16 by decide) | omega) (by first | exact hR _ _ _ _ rfl | exact hR2 _ _ _ _ rfl | assumption) ?_
        refine z_geti C 27 dX7_findSteps_27 gf_X7_68 rfl (by first | assumption | exact Nat.zero_lt_one | exact (show (15 : Nat) < 16 by decide) | omega) ?_
        first | with_reducible refine z_icmp_leN C 30 113 dX7_findSteps_30 (by decide) (by omega) (by omega) (fun h30 => ?_) (fun h30 => ?_) | refine z_icmp_le C 30 113 dX7_findSteps_30 (by decide) (fun h30 => ?_) (fun h30 => ?_)
        · have hmem : ¬ A 0 < fAll A T n := Int32.not_lt.mpr (by rw [← hF.2.1.1.1]; exact h30)
          refine z_iload_n C 113 1 1 dX7_findSteps_113 rfl rfl ?_
          refine z_aload_n C 114 0 0 dX7_findSteps_114 rfl rfl ?_
          refine z_getr C 115 dX7_findSteps_115 gf_X7_17 rfl (by first | assumption | exact Nat.zero_lt_one | exact (show (15 : Nat) < 16 by decide) | omega) (by first | exact hR _ _ _ _ rfl | exact hR2 _ _ _ _ rfl | assumption) ?_
          refine z_geti C 118 dX7_findSteps_118 gf_X7_68 rfl (by first | assumption | exact Nat.zero_lt_one | exact (show (15 : Nat) < 16 by decide) | omega) ?_
          first | with_reducible refine z_icmp_gtN C 121 128 dX7_findSteps_121 (by decide) (by omega) (by omega) (fun h121 => absurd (show A 0 < fAll A T n by rw [← hF.2.1.1.1]; exact h121) hmem) (fun h121 => ?_) | refine z_icmp_gt C 121 128 dX7_findSteps_121 (by decide) (fun h121 => absurd (show A 0 < fAll A T n by rw [← hF.2.1.1.1]; exact h121) hmem) (fun h121 => ?_)
          · refine z_iconst (v := nI 1) C 124 dX7_findSteps_124 (by decide) ?_
            refine z_goto C 125 129 dX7_findSteps_125 (by decide) ?_
            exact ret 129 _ _ _ _ _ dX7_findSteps_129 (by first | rfl | exact bI_n | decide) (⟨(by first | (rw [hF.2.2.2.2.2.2.2.2.2, fMemF_0 hmem]; exact ⟨rfl, by rw [hF.2.2.2.2.2.2.1]; simp, by simp; omega, by simpa using hF.2.2.2.2.2.1⟩) | (rw [hF.2.2.2.2.2.2.2.2.2, fMemF_0 (Int32.not_lt.mpr (by rw [← hF.2.1.1.1]; exact Int32.not_lt.mp h121))]; exact ⟨rfl, by rw [hF.2.2.2.2.2.2.1]; simp, by simp; omega, by simpa using hF.2.2.2.2.2.1⟩) | (rw [hF.2.2.2.2.2.2.2.2.2, fMemF_n (by rw [← hF.2.1.1.1]; exact h121) (fKind_0 hn10 hph)]; rfl)), hF.1, rfl, rfl⟩)
        · have hmem : A 0 < fAll A T n := by rw [← hF.2.1.1.1]; exact Int32.not_le.mp h30
          refine z_iconst (v := nI 1) C 33 dX7_findSteps_33 (by decide) ?_
          refine z_istore_n C 34 2 [(2, _), (0, _), (1, _)] dX7_findSteps_34 rfl (by decide) rfl ?_
          refine z_aload_n C 35 0 1 dX7_findSteps_35 rfl rfl ?_
          refine z_iload_n C 36 2 0 dX7_findSteps_36 rfl rfl ?_
          refine z_cVi0 C 37 dX7_findSteps_37 cv_X7_71 (c_X7_victimOf (N := A) (T := T) (n := n) (d := d) hR hd hde hF.2.2.1 hn10 hF.2.2.2.1 hF.2.1 (by omega) (by omega)) rfl ⟨by decide, rfl⟩ (by first | assumption | exact Nat.zero_lt_one | exact (show (15 : Nat) < 16 by decide) | omega) rfl rfl (Nat.le_of_ble_eq_true rfl) ⟨by decide, by decide⟩ ⟨rfl, rfl⟩ ⟨by decide, by decide⟩ ?_
          intro r37 S37 L37 R37 p37
          obtain ⟨rfl, rfl, rfl, rfl⟩ := p37
          refine z_istore_n C 40 3 [(3, _), (2, _), (0, _), (1, _)] dX7_findSteps_40 rfl (by decide) rfl ?_
          have loop_41 : ∀ (n_41 : Nat) (c : Nat) (b : Option Nat), 1 ≤ c → c ≤ 6 → fVic A T n c = b → fKind A T n = fKindF A T n (7 - c) c → 6 - c < n_41 → Z X 4 ad mdm S1 L R 0 0 41 [(0, .ref (ad 7 0)), (1, .int (fAll A T n)), (2, .int (nI c)), (3, .int (oI b))] [] := by
            intro n_41
            induction n_41 with
            | zero => intro c b hc1 hc6 hb hfk hm41; exact absurd hm41 (Nat.not_lt_zero _)
            | succ n_41 ih41 =>
              intro c b hc1 hc6 hb hfk hm41
              refine z_iload_n C 41 3 3 dX7_findSteps_41 rfl rfl ?_
              refine z_iconst (v := (-1)) C 42 dX7_findSteps_42 (by decide) ?_
              first | with_reducible refine z_icmp_neN C 43 64 dX7_findSteps_43 (by decide) (by omega) (by omega) (fun h43 => ?_) (fun h43 => ?_) | refine z_icmp_ne C 43 64 dX7_findSteps_43 (by decide) (fun h43 => ?_) (fun h43 => ?_)
              · obtain ⟨p, rfl⟩ := oI_some h43
                have hp := fVic_lt hb
                have hkk : fKind A T n = some (c, p) := by rw [hfk, show 7 - c = (6 - c) + 1 by omega]; exact fKindF_t hb
                refine z_iload_n C 64 3 3 dX7_findSteps_64 rfl rfl ?_
                refine z_iconst (v := (-1)) C 65 dX7_findSteps_65 (by decide) ?_
                first | with_reducible refine z_icmp_neN C 66 71 dX7_findSteps_66 (by decide) (by omega) (by omega) (fun h66 => ?_) (fun h66 => absurd h66 (nI_m1 (by omega))) | refine z_icmp_ne C 66 71 dX7_findSteps_66 (by decide) (fun h66 => ?_) (fun h66 => absurd h66 (nI_m1 (by omega)))
                · refine z_aload_n C 71 0 0 dX7_findSteps_71 rfl rfl ?_
                  refine z_getr C 72 dX7_findSteps_72 gf_X7_39 rfl (by first | assumption | exact Nat.zero_lt_one | exact (show (15 : Nat) < 16 by decide) | omega) (by first | exact hR _ _ _ _ rfl | exact hR2 _ _ _ _ rfl | assumption) ?_
                  refine z_aload_n C 75 0 0 dX7_findSteps_75 rfl rfl ?_
                  refine z_getiv C 76 dX7_findSteps_76 gf_X7_35 rfl (by first | assumption | exact Nat.zero_lt_one | exact (show (15 : Nat) < 16 by decide) | omega) hF.2.2.2.2.2.2.1 ?_
                  refine z_iload_n C 79 2 2 dX7_findSteps_79 rfl rfl ?_
                  refine z_iast C 80 dX7_findSteps_80 (by first | rfl | assumption) (by first | assumption | exact Nat.zero_lt_one | exact (show (15 : Nat) < 16 by decide) | omega)  (by first | rfl | assumption) (by first | decide | omega) (by first | assumption | omega) ?_
                  refine z_aload_n C 81 0 0 dX7_findSteps_81 rfl rfl ?_
                  refine z_getr C 82 dX7_findSteps_82 gf_X7_42 rfl (by first | assumption | exact Nat.zero_lt_one | exact (show (15 : Nat) < 16 by decide) | omega) (by first | exact hR _ _ _ _ rfl | exact hR2 _ _ _ _ rfl | assumption) ?_
                  refine z_aload_n C 85 0 0 dX7_findSteps_85 rfl rfl ?_
                  refine z_getiv C 86 dX7_findSteps_86 gf_X7_35 rfl (by first | assumption | exact Nat.zero_lt_one | exact (show (15 : Nat) < 16 by decide) | omega) (show _ = nI m from (by rw [up3_k _ (by decide)]; exact hF.2.2.2.2.2.2.1)) ?_
                  refine z_iload_n C 89 3 3 dX7_findSteps_89 rfl rfl ?_
                  refine z_iast C 90 dX7_findSteps_90 (by first | rfl | assumption) (by first | assumption | exact Nat.zero_lt_one | exact (show (15 : Nat) < 16 by decide) | omega)  (by first | rfl | assumption) (by first | decide | omega) (by first | assumption | omega) ?_
                  refine z_iload_n C 91 1 1 dX7_findSteps_91 rfl rfl ?_
                  refine z_aload_n C 92 0 0 dX7_findSteps_92 rfl rfl ?_
                  refine z_iload_n C 93 2 2 dX7_findSteps_93 rfl rfl ?_
                  refine z_iload_n C 94 3 3 dX7_findSteps_94 rfl rfl ?_
                  refine z_cVi0 C 95 dX7_findSteps_95 cv_X7_74 (c_X7_tryStep (d := d) hR hd hde (by omega) hc1 (by omega) (by rw [up3_k _ (by decide), up3_k _ (by decide), hF.2.1.2.2.2]; exact bI_01)) rfl ⟨by decide, rfl⟩ (by first | assumption | exact Nat.zero_lt_one | exact (show (15 : Nat) < 16 by decide) | omega) rfl rfl (Nat.le_of_ble_eq_true rfl) ⟨by decide, by decide⟩ ⟨rfl, rfl⟩ ⟨by decide, by decide⟩ ?_
                  intro r95 S95 L95 R95 p95
                  obtain ⟨rfl, rfl, rfl, rfl⟩ := p95
                  first | with_reducible refine z_isubN C 98 dX7_findSteps_98 (by omega) ?_ | refine z_isub C 98 dX7_findSteps_98 ?_
                  refine z_st (st := [.int (fAll (fStep A p c) T n)]) (congrArg (fun x => [Value.int x]) (hF.used hn10 hkk)) ?_
                  refine z_istore_n C 99 1 [(1, _), (0, _), (2, _), (3, _)] dX7_findSteps_99 rfl (by decide) rfl ?_
                  refine z_aload_n C 100 0 1 dX7_findSteps_100 rfl rfl ?_
                  refine z_dup C 101 dX7_findSteps_101 rfl ?_
                  refine z_getiv C 102 dX7_findSteps_102 gf_X7_35 rfl (by first | assumption | exact Nat.zero_lt_one | exact (show (15 : Nat) < 16 by decide) | omega) (show _ = nI m from (by rw [tStep_k (by decide) (by decide), up3_k _ (by decide), up3_k _ (by decide)]; exact hF.2.2.2.2.2.2.1)) ?_
                  refine z_iconst (v := nI 1) C 105 dX7_findSteps_105 (by decide) ?_
                  first | with_reducible refine z_iaddN C 106 dX7_findSteps_106 ?_ | refine z_iadd C 106 dX7_findSteps_106 ?_
                  refine z_puti C 107 dX7_findSteps_107 gf_X7_35 ⟨rfl, rfl⟩ rfl (by first | assumption | exact Nat.zero_lt_one | exact (show (15 : Nat) < 16 by decide) | omega) ?_
                  refine z_goto C 110 13 dX7_findSteps_110 (by decide) ?_
                  refine z_sub [(0, _), (1, _)] [1, 0] rfl ?_
                  exact ih13 f (m + 1) (fStep A p c) _ (hF.next hn10 hmem hkk) (by omega)
              · obtain rfl := oI_none (fun o ho => by have := fVic_lt (hb.trans ho); omega) h43
                refine z_iload_n C 46 2 2 dX7_findSteps_46 rfl rfl ?_
                refine z_bipush (v := nI 6) C 47 dX7_findSteps_47 (by decide +kernel) ?_
                first | with_reducible refine z_icmp_geN C 49 64 dX7_findSteps_49 (by decide) (by omega) (by omega) (fun h49 => ?_) (fun h49 => ?_) | refine z_icmp_ge C 49 64 dX7_findSteps_49 (by decide) (fun h49 => ?_) (fun h49 => ?_)
                · obtain rfl : c = 6 := by omega
                  have hkn : fKind A T n = none := by rw [hfk]; exact fKindF_f hb
                  refine z_iload_n C 64 3 3 dX7_findSteps_64 rfl rfl ?_
                  refine z_iconst (v := (-1)) C 65 dX7_findSteps_65 (by decide) ?_
                  first | with_reducible refine z_icmp_neN C 66 71 dX7_findSteps_66 (by decide) (by omega) (by omega) (fun h66 => absurd rfl h66) (fun h66 => ?_) | refine z_icmp_ne C 66 71 dX7_findSteps_66 (by decide) (fun h66 => absurd rfl h66) (fun h66 => ?_)
                  · refine z_iconst (v := nI 0) C 69 dX7_findSteps_69 (by decide) ?_
                    exact ret 70 _ _ _ _ _ dX7_findSteps_70 (by first | rfl | exact bI_n | decide) (⟨(by rw [hF.2.2.2.2.2.2.2.2.2, fMemF_n hmem hkn]; rfl), hF.1, rfl, rfl⟩)
                · refine z_iinc C 52 2 2 [(2, _), (0, _), (1, _), (3, _)] dX7_findSteps_52 rfl (by first | exact nI_1 _ | rfl) (by decide) rfl ?_
                  refine z_aload_n C 55 0 1 dX7_findSteps_55 rfl rfl ?_
                  refine z_iload_n C 56 2 0 dX7_findSteps_56 rfl rfl ?_
                  refine z_cVi0 C 57 dX7_findSteps_57 cv_X7_71 (c_X7_victimOf (N := A) (T := T) (n := n) (d := d) hR hd hde hF.2.2.1 hn10 hF.2.2.2.1 hF.2.1 (by omega) (by omega)) rfl ⟨by decide, rfl⟩ (by first | assumption | exact Nat.zero_lt_one | exact (show (15 : Nat) < 16 by decide) | omega) rfl rfl (Nat.le_of_ble_eq_true rfl) ⟨by decide, by decide⟩ ⟨rfl, rfl⟩ ⟨by decide, by decide⟩ ?_
                  intro r57 S57 L57 R57 p57
                  obtain ⟨rfl, rfl, rfl, rfl⟩ := p57
                  refine z_istore_n C 60 3 [(3, _), (2, _), (0, _), (1, _)] dX7_findSteps_60 rfl (by decide) rfl ?_
                  refine z_goto C 61 41 dX7_findSteps_61 (by decide) ?_
                  refine z_sub [(0, _), (1, _), (2, _), (3, _)] [2, 3, 1, 0] rfl ?_
                  exact ih41 (c + 1) _ (by omega) (by omega) rfl (by rw [hfk, show 7 - c = (7 - (c + 1)) + 1 by omega]; exact fKindF_f hb) (by omega)
          refine z_sub [(0, _), (1, _), (2, _), (3, _)] [2, 3, 1, 0] rfl ?_
          exact loop_41 6 1 _ (by omega) (by omega) rfl rfl (by omega)
  refine z_sub [(0, _), (1, _)] [1, 0] rfl ?_
  exact loop_13 61 60 0 N _ ⟨(FT.rf S).up (Or.inl (by omega)), hTR.off (fun k a b => by rw [up3_k _ (by omega)]) (by rw [up3_k _ (by omega)]) (by rw [up3_k _ (by omega)]) (by rw [up3_j _ (by omega)]), hAT.off (by rw [up3_k _ (by omega)]) (fun i => by rw [up3_k _ (by omega)]), hI, hcI, ⟨fun _ => 0, fun _ => 0, rfl, fun i hi => absurd hi (Nat.not_lt_zero _)⟩, up3_s _ _ _ _ _, by omega, by omega, by unfold fMem; cases fMemF T n 60 N <;> rfl⟩ (by omega)
