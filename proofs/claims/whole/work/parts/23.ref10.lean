theorem rQ_s {S S' S2 : mS} {t t' : Nat} (h : rQ S S' t') (h2 : S2 40 0 0 = nI t) (h3 : ∀ k i j, ¬ (k = 49 ∨ k = 50 ∨ (k = 40 ∧ (j = 0 ∨ j = 26))) → S2 k i j = S' k i j) : rQ S S2 t := ⟨h2, fun k i j hn => (h3 k i j hn).trans (h.2 k i j hn)⟩
theorem fShowR_1 {N T c : NN} {n p : Nat} (h : fo N p 0 = nI 1) : (fShowR N T c n p).1 = nI 0 := by rw [fShowR_0 h]

def rm_X9_freed : Room := { frames := 6, cells := 0, slots := 0, locals := 136 }
set_option maxHeartbeats 4000000 in
set_option maxRecDepth 100000 in
theorem c_X9_freed {l : Launch} {G : mG} {ad : mA} {S : mS} {L : mL} {R : mR} {n k : Nat} (hR : mlk R) (hn : S 40 0 1 = nI n) (hn10 : n ≤ 10) (hI : rI (S 44 0) n) (hk : 1 ≤ k) (hk6 : k ≤ 6) : Ki l yX9_freed cX9_freed 4 .int rm_X9_freed G ad mdm [.ref (ad 40 0), .int (nI k)] S L R (fun r_ S2 L2 R2 => rQ S S2 0 ∧ r_ = qFreed (S 44 0) (S 41 0) n k ∧ L = L2 ∧ R = R2) := by
  refine Ki.of RX9 (by decide) rfl (Nat.le_of_ble_eq_true rfl) ?_
  intro X hXl hXG C ret
  subst hXl; subst hXG
  change Z X 4 ad mdm S L R 0 0 0 [(0, _), (1, _)] []
  refine z_aload_n C 0 0 0 dX9_freed_0 rfl rfl ?_
  refine z_iload_n C 1 1 1 dX9_freed_1 rfl rfl ?_
  refine z_bipush (v := nI 6) C 2 dX9_freed_2 (by decide +kernel) ?_
  refine z_cVi0 C 4 dX9_freed_4 cv_X9_294 (c_X9_noKind hR (by omega) (by omega) (by decide)) rfl ⟨by decide, rfl⟩ (by first | assumption | exact Nat.zero_lt_one | omega) rfl rfl (Nat.le_of_ble_eq_true rfl) ⟨by decide, by decide⟩ ⟨rfl, rfl⟩ ⟨by decide, by decide⟩ ?_
  intro r4 S4 L4 R4 p4
  obtain ⟨rfl, rfl, rfl, rfl⟩ := p4
  first | with_reducible refine z_if_neB C 7 19 dX9_freed_7 (by decide) (fun h7 => by omega) (fun h7 => ?_) | with_reducible refine z_if_neN C 7 19 dX9_freed_7 (by decide) (by omega) (fun h7 => by omega) (fun h7 => ?_) | refine z_if_ne C 7 19 dX9_freed_7 (by decide) (fun h7 => by omega) (fun h7 => ?_)
  · refine z_aload_n C 10 0 0 dX9_freed_10 rfl rfl ?_
    refine z_iload_n C 11 1 1 dX9_freed_11 rfl rfl ?_
    refine z_cVi0 C 12 dX9_freed_12 cv_X9_254 (c_X9_victimOf (n := n) hR hn hn10 hI hk hk6) rfl ⟨by decide, rfl⟩ (by first | assumption | exact Nat.zero_lt_one | omega) rfl rfl (Nat.le_of_ble_eq_true rfl) ⟨by decide, by decide⟩ ⟨rfl, rfl⟩ ⟨by decide, by decide⟩ ?_
    intro r12 S12 L12 R12 p12
    obtain ⟨rfl, rfl, rfl, rfl⟩ := p12
    refine z_iconst (v := (-1)) C 15 dX9_freed_15 (by decide) ?_
    first | with_reducible refine z_icmp_neN C 16 21 dX9_freed_16 (by decide) (by omega) (by omega) (fun h16 => ?_) (fun h16 => ?_) | refine z_icmp_ne C 16 21 dX9_freed_16 (by decide) (fun h16 => ?_) (fun h16 => ?_)
    · obtain ⟨p, hv⟩ := oI_some h16
      have hv : fVic (S 44 0) (S 41 0) n k = some p := hv
      have hp := fVic_lt hv
      refine z_aload_n C 21 0 0 dX9_freed_21 rfl rfl ?_
      refine z_cVi0 C 22 dX9_freed_22 cv_X9_251 (c_X9_usesAll hR hn hn10) rfl ⟨by decide, rfl⟩ (by first | assumption | exact Nat.zero_lt_one | omega) rfl rfl (Nat.le_of_ble_eq_true rfl) ⟨by decide, by decide⟩ ⟨rfl, rfl⟩ ⟨by decide, by decide⟩ ?_
      intro r22 S22 L22 R22 p22
      obtain ⟨rfl, rfl, rfl, rfl⟩ := p22
      refine z_istore_n C 25 2 [(2, _), (0, _), (1, _)] dX9_freed_25 rfl (by decide) rfl ?_
      refine z_aload_n C 26 0 1 dX9_freed_26 rfl rfl ?_
      refine z_getr C 27 dX9_freed_27 gf_X9_20 rfl (by first | assumption | exact Nat.zero_lt_one | omega) (by first | exact hR _ _ _ _ rfl | assumption) ?_
      refine z_aload_n C 30 0 1 dX9_freed_30 rfl rfl ?_
      refine z_getr C 31 dX9_freed_31 gf_X9_43 rfl (by first | assumption | exact Nat.zero_lt_one | omega) (by first | exact hR _ _ _ _ rfl | assumption) ?_
      refine z_cSv0 C 34 dX9_freed_34 cs_X9_269 (c_X9_puts (by rfl) (by rfl) (by first | assumption | exact Nat.zero_lt_one | omega) (by first | assumption | exact Nat.zero_lt_one | omega) (by decide)) rfl rfl (Nat.le_of_ble_eq_true rfl) ⟨by decide, by decide⟩ ⟨rfl, rfl⟩ ⟨by decide, by decide⟩ ?_
      intro S34 L34 R34 p34
      obtain ⟨rfl, rfl, rfl⟩ := p34
      refine z_aload_n C 37 0 1 dX9_freed_37 rfl rfl ?_
      refine z_aload_n C 38 0 1 dX9_freed_38 rfl rfl ?_
      refine z_iload_n C 39 1 2 dX9_freed_39 rfl rfl ?_
      refine z_cVi0 C 40 dX9_freed_40 cv_X9_254 (c_X9_victimOf (n := n) hR hn hn10 hI hk hk6) rfl ⟨by decide, rfl⟩ (by first | assumption | exact Nat.zero_lt_one | omega) rfl rfl (Nat.le_of_ble_eq_true rfl) ⟨by decide, by decide⟩ ⟨rfl, rfl⟩ ⟨by decide, by decide⟩ ?_
      intro r40 S40 L40 R40 p40
      obtain ⟨rfl, rfl, rfl, rfl⟩ := p40
      rw [show fVic (sA (up3 S 40 0 0 (nI 0)) 50 (up3 S 40 0 0 (nI 0) 44 0) 44 0) (sA (up3 S 40 0 0 (nI 0)) 50 (up3 S 40 0 0 (nI 0) 44 0) 41 0) n k = some p from hv]
      refine z_iload_n C 43 1 2 dX9_freed_43 rfl rfl ?_
      refine z_cVv0 C 44 dX9_freed_44 cv_X9_257 (c_X9_steps hR (by omega) hk hk6) rfl ⟨by decide, rfl⟩ (by first | assumption | exact Nat.zero_lt_one | omega) rfl rfl (Nat.le_of_ble_eq_true rfl) ⟨by decide, by decide⟩ ⟨rfl, rfl⟩ ⟨by decide, by decide⟩ ?_
      intro S44 L44 R44 p44
      obtain ⟨rfl, rfl, rfl⟩ := p44
      refine z_iload_n C 47 2 0 dX9_freed_47 rfl rfl ?_
      refine z_aload_n C 48 0 1 dX9_freed_48 rfl rfl ?_
      refine z_cVi0 C 49 dX9_freed_49 cv_X9_251 (c_X9_usesAll hR hn hn10) rfl ⟨by decide, rfl⟩ (by first | assumption | exact Nat.zero_lt_one | omega) rfl rfl (Nat.le_of_ble_eq_true rfl) ⟨by decide, by decide⟩ ⟨rfl, rfl⟩ ⟨by decide, by decide⟩ ?_
      intro r49 S49 L49 R49 p49
      obtain ⟨rfl, rfl, rfl, rfl⟩ := p49
      first | with_reducible refine z_isubN C 52 dX9_freed_52 (by omega) ?_ | refine z_isub C 52 dX9_freed_52 ?_
      refine z_istore_n C 53 3 [(3, _), (2, _), (0, _), (1, _)] dX9_freed_53 rfl (by decide) rfl ?_
      refine z_aload_n C 54 0 2 dX9_freed_54 rfl rfl ?_
      refine z_getr C 55 dX9_freed_55 gf_X9_43 rfl (by first | assumption | exact Nat.zero_lt_one | omega) (by first | exact hR _ _ _ _ rfl | assumption) ?_
      refine z_aload_n C 58 0 2 dX9_freed_58 rfl rfl ?_
      refine z_getr C 59 dX9_freed_59 gf_X9_20 rfl (by first | assumption | exact Nat.zero_lt_one | omega) (by first | exact hR _ _ _ _ rfl | assumption) ?_
      refine z_cSv0 C 62 dX9_freed_62 cs_X9_269 (c_X9_puts (by rfl) (by rfl) (by first | assumption | exact Nat.zero_lt_one | omega) (by first | assumption | exact Nat.zero_lt_one | omega) (by decide)) rfl rfl (Nat.le_of_ble_eq_true rfl) ⟨by decide, by decide⟩ ⟨rfl, rfl⟩ ⟨by decide, by decide⟩ ?_
      intro S62 L62 R62 p62
      obtain ⟨rfl, rfl, rfl⟩ := p62
      refine z_iload_n C 65 3 0 dX9_freed_65 rfl rfl ?_
      exact ret 66 _ _ _ _ _ dX9_freed_66 (by first | rfl | exact bI_n | decide) (⟨(by simp only [up3_k _ (show (44 : Nat) ≠ 40 by decide), up3_k _ (show (41 : Nat) ≠ 40 by decide), up3_k _ (show (43 : Nat) ≠ 40 by decide), up3_k _ (show (49 : Nat) ≠ 40 by decide), up3_k _ (show (50 : Nat) ≠ 40 by decide), up3_k _ (show (51 : Nat) ≠ 40 by decide), up3_k _ (show (52 : Nat) ≠ 40 by decide), up3_k _ (show (53 : Nat) ≠ 40 by decide), sA_s, sA_n _ _ (show (40 : Nat) ≠ 44 by decide), sA_n _ _ (show (40 : Nat) ≠ 49 by decide), sA_n _ _ (show (40 : Nat) ≠ 50 by decide), sA_n _ _ (show (40 : Nat) ≠ 51 by decide), sA_n _ _ (show (40 : Nat) ≠ 52 by decide), sA_n _ _ (show (41 : Nat) ≠ 44 by decide), sA_n _ _ (show (41 : Nat) ≠ 49 by decide), sA_n _ _ (show (41 : Nat) ≠ 50 by decide), sA_n _ _ (show (41 : Nat) ≠ 51 by decide), sA_n _ _ (show (41 : Nat) ≠ 52 by decide), sA_n _ _ (show (43 : Nat) ≠ 44 by decide), sA_n _ _ (show (43 : Nat) ≠ 49 by decide), sA_n _ _ (show (43 : Nat) ≠ 50 by decide), sA_n _ _ (show (43 : Nat) ≠ 51 by decide), sA_n _ _ (show (43 : Nat) ≠ 52 by decide), sA_n _ _ (show (44 : Nat) ≠ 49 by decide), sA_n _ _ (show (44 : Nat) ≠ 50 by decide), sA_n _ _ (show (44 : Nat) ≠ 51 by decide), sA_n _ _ (show (44 : Nat) ≠ 52 by decide), sA_n _ _ (show (49 : Nat) ≠ 44 by decide), sA_n _ _ (show (49 : Nat) ≠ 50 by decide), sA_n _ _ (show (49 : Nat) ≠ 51 by decide), sA_n _ _ (show (49 : Nat) ≠ 52 by decide), sA_n _ _ (show (50 : Nat) ≠ 44 by decide), sA_n _ _ (show (50 : Nat) ≠ 49 by decide), sA_n _ _ (show (50 : Nat) ≠ 51 by decide), sA_n _ _ (show (50 : Nat) ≠ 52 by decide), sA_n _ _ (show (51 : Nat) ≠ 44 by decide), sA_n _ _ (show (51 : Nat) ≠ 49 by decide), sA_n _ _ (show (51 : Nat) ≠ 50 by decide), sA_n _ _ (show (51 : Nat) ≠ 52 by decide), sA_n _ _ (show (52 : Nat) ≠ 44 by decide), sA_n _ _ (show (52 : Nat) ≠ 49 by decide), sA_n _ _ (show (52 : Nat) ≠ 50 by decide), sA_n _ _ (show (52 : Nat) ≠ 51 by decide), sA_n _ _ (show (53 : Nat) ≠ 44 by decide), sA_n _ _ (show (53 : Nat) ≠ 49 by decide), sA_n _ _ (show (53 : Nat) ≠ 50 by decide), sA_n _ _ (show (53 : Nat) ≠ 51 by decide), sA_n _ _ (show (53 : Nat) ≠ 52 by decide), up3_sA _ (show (40 : Nat) ≠ 44 by decide), up3_sA _ (show (40 : Nat) ≠ 49 by decide), up3_sA _ (show (40 : Nat) ≠ 50 by decide), up3_sA _ (show (40 : Nat) ≠ 51 by decide), up3_sA _ (show (40 : Nat) ≠ 52 by decide), sA_44_49, sA_44_50, sA_49_50, sA_44_51, sA_49_51, sA_50_51, sA_44_52, sA_sA, up3_up3]; repeat (first | exact rQ_t _ _ | apply rQ.up26 | apply rQ.s49 | apply rQ.s50 | refine rQ.s44 ?_ rfl)), (by unfold qFreed; rw [hv]; rfl), rfl, rfl⟩)
    · have hv : fVic (S 44 0) (S 41 0) n k = none := oI_none (fun o ho => by have := fVic_lt ho; omega) h16
      refine z_iconst (v := nI 0) C 19 dX9_freed_19 (by decide) ?_
      exact ret 20 _ _ _ _ _ dX9_freed_20 (by first | rfl | exact bI_n | decide) (⟨(rQ_t _ _), (by unfold qFreed; rw [hv]; rfl), rfl, rfl⟩)

set_option maxHeartbeats 4000000 in
set_option maxRecDepth 100000 in
theorem c_X9_freed_1 {l : Launch} {G : mG} {ad : mA} {S : mS} {L : mL} {R : mR} {x : Int32} (hR : mlk R) (hx : ¬ isR 1 6 x) : Ki l yX9_freed cX9_freed 4 .int rm_X9_freed G ad mdm [.ref (ad 40 0), .int x] S L R (fun r_ S2 L2 R2 => rQ S S2 1 ∧ L = L2 ∧ R = R2) := by
  refine Ki.of RX9 (by decide) rfl (Nat.le_of_ble_eq_true rfl) ?_
  intro X hXl hXG C ret
  subst hXl; subst hXG
  change Z X 4 ad mdm S L R 0 0 0 [(0, _), (1, _)] []
  refine z_aload_n C 0 0 0 dX9_freed_0 rfl rfl ?_
  refine z_iload_n C 1 1 1 dX9_freed_1 rfl rfl ?_
  refine z_bipush (v := nI 6) C 2 dX9_freed_2 (by decide +kernel) ?_
  refine z_cVi0 C 4 dX9_freed_4 cv_X9_294 (c_X9_noKind_1 hR hx (by decide)) rfl ⟨by decide, rfl⟩ (by first | assumption | exact Nat.zero_lt_one | omega) rfl rfl (Nat.le_of_ble_eq_true rfl) ⟨by decide, by decide⟩ ⟨rfl, rfl⟩ ⟨by decide, by decide⟩ ?_
  intro r4 S4 L4 R4 p4
  obtain ⟨rfl, rfl, rfl, rfl⟩ := p4
  first | with_reducible refine z_if_neB C 7 19 dX9_freed_7 (by decide) (fun h7 => ?_) (fun h7 => by omega) | with_reducible refine z_if_neN C 7 19 dX9_freed_7 (by decide) (by omega) (fun h7 => ?_) (fun h7 => by omega) | refine z_if_ne C 7 19 dX9_freed_7 (by decide) (fun h7 => ?_) (fun h7 => by omega)
  · refine z_iconst (v := nI 0) C 19 dX9_freed_19 (by decide) ?_
    exact ret 20 _ _ _ _ _ dX9_freed_20 (by first | rfl | exact bI_n | decide) (⟨(by first | exact rQ_t _ _ | (simp only [up3_up3]; exact rQ_t _ _)), rfl, rfl⟩)
def rm_X9_pagesShown : Room := { frames := 1, cells := 0, slots := 0, locals := 22 }
set_option maxHeartbeats 4000000 in
set_option maxRecDepth 100000 in
theorem c_X9_pagesShown {l : Launch} {G : mG} {ad : mA} {S : mS} {L : mL} {R : mR} {p : Nat} (hR : mlk R) (hp : p < 10) : Ki l yX9_pagesShown cX9_pagesShown 3 .int rm_X9_pagesShown G ad mdm [.ref (ad 40 0), .int (nI p)] S L R (fun r_ S2 L2 R2 => r_ = fPgs (S 44 0) (S 41 0) p ∧ S = S2 ∧ L = L2 ∧ R = R2) := by
  refine Ki.of RX9 (by decide) rfl (Nat.le_of_ble_eq_true rfl) ?_
  intro X hXl hXG C ret
  subst hXl; subst hXG
  change Z X 3 ad mdm S L R 0 0 0 [(0, _), (1, _)] []
  refine z_aload_n C 0 0 0 dX9_pagesShown_0 rfl rfl ?_
  refine z_iload_n C 1 1 1 dX9_pagesShown_1 rfl rfl ?_
  refine z_iconst (v := nI 0) C 2 dX9_pagesShown_2 (by decide) ?_
  refine z_cVi0 C 3 dX9_pagesShown_3 cv_X9_203 (c_X9_of hR (by first | assumption | omega) (by omega)) rfl ⟨by decide, rfl⟩ (by first | assumption | exact Nat.zero_lt_one | omega) rfl rfl (Nat.le_of_ble_eq_true rfl) ⟨by decide, by decide⟩ ⟨rfl, rfl⟩ ⟨by decide, by decide⟩ ?_
  intro r3 S3 L3 R3 p3
  obtain ⟨rfl, rfl, rfl, rfl⟩ := p3
  refine z_istore_n C 6 2 [(2, _), (0, _), (1, _)] dX9_pagesShown_6 rfl (by decide) rfl ?_
  refine z_iload_n C 7 2 0 dX9_pagesShown_7 rfl rfl ?_
  first | with_reducible refine z_if_eqB C 8 16 dX9_pagesShown_8 (by decide) (fun h8 => ?_) (fun h8 => ?_) | with_reducible refine z_if_eqN C 8 16 dX9_pagesShown_8 (by decide) (by omega) (fun h8 => ?_) (fun h8 => ?_) | refine z_if_eq C 8 16 dX9_pagesShown_8 (by decide) (fun h8 => ?_) (fun h8 => ?_)
  · refine z_aload_n C 16 0 1 dX9_pagesShown_16 rfl rfl ?_
    refine z_iload_n C 17 1 2 dX9_pagesShown_17 rfl rfl ?_
    refine z_iconst (v := nI 0) C 18 dX9_pagesShown_18 (by decide) ?_
    refine z_cVi0 C 19 dX9_pagesShown_19 cv_X9_207 (c_X9_toldOf hR (by first | assumption | omega) (by omega)) rfl ⟨by decide, rfl⟩ (by first | assumption | exact Nat.zero_lt_one | omega) rfl rfl (Nat.le_of_ble_eq_true rfl) ⟨by decide, by decide⟩ ⟨rfl, rfl⟩ ⟨by decide, by decide⟩ ?_
    intro r19 S19 L19 R19 p19
    obtain ⟨rfl, rfl, rfl, rfl⟩ := p19
    refine z_goto C 22 31 dX9_pagesShown_22 (by decide) ?_
    exact ret 31 _ _ _ _ _ dX9_pagesShown_31 (by first | rfl | exact bI_n | decide) (⟨(by unfold fPgs; first | exact (if_pos (Or.inl h8)).symm | exact (if_pos (Or.inr h13)).symm | exact (if_neg (fun z => z.elim h8 h13)).symm), rfl, rfl, rfl⟩)
  · refine z_iload_n C 11 2 0 dX9_pagesShown_11 rfl rfl ?_
    refine z_iconst (v := nI 5) C 12 dX9_pagesShown_12 (by decide) ?_
    first | with_reducible refine z_icmp_neN C 13 25 dX9_pagesShown_13 (by decide) (by omega) (by omega) (fun h13 => ?_) (fun h13 => ?_) | refine z_icmp_ne C 13 25 dX9_pagesShown_13 (by decide) (fun h13 => ?_) (fun h13 => ?_)
    · refine z_aload_n C 25 0 1 dX9_pagesShown_25 rfl rfl ?_
      refine z_iload_n C 26 1 2 dX9_pagesShown_26 rfl rfl ?_
      refine z_iconst (v := nI 1) C 27 dX9_pagesShown_27 (by decide) ?_
      refine z_cVi0 C 28 dX9_pagesShown_28 cv_X9_203 (c_X9_of hR (by first | assumption | omega) (by omega)) rfl ⟨by decide, rfl⟩ (by first | assumption | exact Nat.zero_lt_one | omega) rfl rfl (Nat.le_of_ble_eq_true rfl) ⟨by decide, by decide⟩ ⟨rfl, rfl⟩ ⟨by decide, by decide⟩ ?_
      intro r28 S28 L28 R28 p28
      obtain ⟨rfl, rfl, rfl, rfl⟩ := p28
      exact ret 31 _ _ _ _ _ dX9_pagesShown_31 (by first | rfl | exact bI_n | decide) (⟨(by unfold fPgs; first | exact (if_pos (Or.inl h8)).symm | exact (if_pos (Or.inr h13)).symm | exact (if_neg (fun z => z.elim h8 h13)).symm), rfl, rfl, rfl⟩)
    · refine z_aload_n C 16 0 1 dX9_pagesShown_16 rfl rfl ?_
      refine z_iload_n C 17 1 2 dX9_pagesShown_17 rfl rfl ?_
      refine z_iconst (v := nI 0) C 18 dX9_pagesShown_18 (by decide) ?_
      refine z_cVi0 C 19 dX9_pagesShown_19 cv_X9_207 (c_X9_toldOf hR (by first | assumption | omega) (by omega)) rfl ⟨by decide, rfl⟩ (by first | assumption | exact Nat.zero_lt_one | omega) rfl rfl (Nat.le_of_ble_eq_true rfl) ⟨by decide, by decide⟩ ⟨rfl, rfl⟩ ⟨by decide, by decide⟩ ?_
      intro r19 S19 L19 R19 p19
      obtain ⟨rfl, rfl, rfl, rfl⟩ := p19
      refine z_goto C 22 31 dX9_pagesShown_22 (by decide) ?_
      exact ret 31 _ _ _ _ _ dX9_pagesShown_31 (by first | rfl | exact bI_n | decide) (⟨(by unfold fPgs; first | exact (if_pos (Or.inl h8)).symm | exact (if_pos (Or.inr h13)).symm | exact (if_neg (fun z => z.elim h8 h13)).symm), rfl, rfl, rfl⟩)
def rm_X9_waitedFor : Room := { frames := 8, cells := 0, slots := 0, locals := 181 }
set_option maxHeartbeats 4000000 in
set_option maxRecDepth 100000 in
theorem c_X9_waitedFor {l : Launch} {G : mG} {ad : mA} {S : mS} {L : mL} {R : mR} {n p : Nat} (hR : mlk R) (hn : S 40 0 1 = nI n) (hn10 : n ≤ 10) (hI : rI (S 44 0) n) (hp : p < n) : Ki l yX9_waitedFor cX9_waitedFor 3 .int rm_X9_waitedFor G ad mdm [.ref (ad 40 0), .int (nI p)] S L R (fun r_ S2 L2 R2 => r_ = qW1 (S 44 0) (S 41 0) (S 43 0) n p ∧ (∃ v K, sA (sA (up3 S 40 0 26 v) 49 K) 44 (fShowR (S 44 0) (S 41 0) (S 43 0) n p).2.2 = S2) ∧ L = L2 ∧ R = R2) := by
  refine Ki.of RX9 (by decide) rfl (Nat.le_of_ble_eq_true rfl) ?_
  intro X hXl hXG C ret
  subst hXl; subst hXG
  change Z X 3 ad mdm S L R 0 0 0 [(0, _), (1, _)] []
  refine z_aload_n C 0 0 0 dX9_waitedFor_0 rfl rfl ?_
  refine z_iload_n C 1 1 1 dX9_waitedFor_1 rfl rfl ?_
  refine z_cVi0 C 2 dX9_waitedFor_2 cv_X9_300 (c_X9_shows hR hn hn10 hI (by first | assumption | omega)) rfl ⟨by decide, rfl⟩ (by first | assumption | exact Nat.zero_lt_one | omega) rfl rfl (Nat.le_of_ble_eq_true rfl) ⟨by decide, by decide⟩ ⟨rfl, rfl⟩ ⟨by decide, by decide⟩ ?_
  intro r2 S2 L2 R2 p2
  obtain ⟨rfl, ⟨K, rfl⟩, rfl, rfl⟩ := p2
  refine z_istore_n C 5 2 [(2, _), (0, _), (1, _)] dX9_waitedFor_5 rfl (by decide) rfl ?_
  refine z_iload_n C 6 2 0 dX9_waitedFor_6 rfl rfl ?_
  refine z_iconst (v := (-1)) C 7 dX9_waitedFor_7 (by decide) ?_
  first | with_reducible refine z_icmp_neN C 8 15 dX9_waitedFor_8 (by decide) (by omega) (by omega) (fun h8 => ?_) (fun h8 => ?_) | refine z_icmp_ne C 8 15 dX9_waitedFor_8 (by decide) (fun h8 => ?_) (fun h8 => ?_)
  · refine z_iload_n C 15 2 0 dX9_waitedFor_15 rfl rfl ?_
    exact ret 16 _ _ _ _ _ dX9_waitedFor_16 (by first | rfl | exact bI_n | decide) (⟨(by unfold qW1; first | rw [if_pos h8] | rw [if_neg h8]), ⟨_, _, rfl⟩, rfl, rfl⟩)
  · refine z_iconst (v := nI 0) C 11 dX9_waitedFor_11 (by decide) ?_
    refine z_goto C 12 16 dX9_waitedFor_12 (by decide) ?_
    exact ret 16 _ _ _ _ _ dX9_waitedFor_16 (by first | rfl | exact bI_n | decide) (⟨(by unfold qW1; first | rw [if_pos h8] | rw [if_neg h8]), ⟨_, _, rfl⟩, rfl, rfl⟩)
def rm_X9_whyNotShow : Room := { frames := 8, cells := 0, slots := 0, locals := 181 }
set_option maxHeartbeats 4000000 in
set_option maxRecDepth 100000 in
theorem c_X9_whyNotShow {l : Launch} {G : mG} {ad : mA} {S : mS} {L : mL} {R : mR} {n p : Nat} (hR : mlk R) (hn : S 40 0 1 = nI n) (hn10 : n ≤ 10) (hI : rI (S 44 0) n) (hp : p < n) : Ki l yX9_whyNotShow cX9_whyNotShow 3 .int rm_X9_whyNotShow G ad mdm [.ref (ad 40 0), .int (nI p)] S L R (fun r_ S2 L2 R2 => rQ S S2 0 ∧ r_ = qWhy (S 44 0) (S 41 0) (S 43 0) n p ∧ L = L2 ∧ R = R2) := by
  refine Ki.of RX9 (by decide) rfl (Nat.le_of_ble_eq_true rfl) ?_
  intro X hXl hXG C ret
  subst hXl; subst hXG
  change Z X 3 ad mdm S L R 0 0 0 [(0, _), (1, _)] []
  refine z_aload_n C 0 0 0 dX9_whyNotShow_0 rfl rfl ?_
  refine z_iload_n C 1 1 1 dX9_whyNotShow_1 rfl rfl ?_
  refine z_cVi0 C 2 dX9_whyNotShow_2 cv_X9_291 (c_X9_noProgram hR hn hn10 (by assumption)) rfl ⟨by decide, rfl⟩ (by first | assumption | exact Nat.zero_lt_one | omega) rfl rfl (Nat.le_of_ble_eq_true rfl) ⟨by decide, by decide⟩ ⟨rfl, rfl⟩ ⟨by decide, by decide⟩ ?_
  intro r2 S2 L2 R2 p2
  obtain ⟨rfl, rfl, rfl, rfl⟩ := p2
  first | with_reducible refine z_if_neB C 5 18 dX9_whyNotShow_5 (by decide) (fun h5 => by omega) (fun h5 => ?_) | with_reducible refine z_if_neN C 5 18 dX9_whyNotShow_5 (by decide) (by omega) (fun h5 => by omega) (fun h5 => ?_) | refine z_if_ne C 5 18 dX9_whyNotShow_5 (by decide) (fun h5 => by omega) (fun h5 => ?_)
  · refine z_aload_n C 8 0 0 dX9_whyNotShow_8 rfl rfl ?_
    refine z_iload_n C 9 1 1 dX9_whyNotShow_9 rfl rfl ?_
    refine z_iconst (v := nI 0) C 10 dX9_whyNotShow_10 (by decide) ?_
    refine z_cVi0 C 11 dX9_whyNotShow_11 cv_X9_203 (c_X9_of hR (by first | assumption | omega) (by omega)) rfl ⟨by decide, rfl⟩ (by first | assumption | exact Nat.zero_lt_one | omega) rfl rfl (Nat.le_of_ble_eq_true rfl) ⟨by decide, by decide⟩ ⟨rfl, rfl⟩ ⟨by decide, by decide⟩ ?_
    intro r11 S11 L11 R11 p11
    obtain ⟨rfl, rfl, rfl, rfl⟩ := p11
    refine z_iconst (v := nI 1) C 14 dX9_whyNotShow_14 (by decide) ?_
    first | with_reducible refine z_icmp_neN C 15 20 dX9_whyNotShow_15 (by decide) (by omega) (by omega) (fun h15 => ?_) (fun h15 => ?_) | refine z_icmp_ne C 15 20 dX9_whyNotShow_15 (by decide) (fun h15 => ?_) (fun h15 => ?_)
    · have h15 : ¬ fo (S 44 0) p 0 = nI 1 := h15
      refine z_aload_n C 20 0 0 dX9_whyNotShow_20 rfl rfl ?_
      refine z_iload_n C 21 1 1 dX9_whyNotShow_21 rfl rfl ?_
      refine z_cVi0 C 22 dX9_whyNotShow_22 cv_X9_297 (c_X9_pagesShown hR (by omega)) rfl ⟨by decide, rfl⟩ (by first | assumption | exact Nat.zero_lt_one | omega) rfl rfl (Nat.le_of_ble_eq_true rfl) ⟨by decide, by decide⟩ ⟨rfl, rfl⟩ ⟨by decide, by decide⟩ ?_
      intro r22 S22 L22 R22 p22
      obtain ⟨rfl, rfl, rfl, rfl⟩ := p22
      refine z_aload_n C 25 0 0 dX9_whyNotShow_25 rfl rfl ?_
      refine z_getr C 26 dX9_whyNotShow_26 gf_X9_20 rfl (by first | assumption | exact Nat.zero_lt_one | omega) (by first | exact hR _ _ _ _ rfl | assumption) ?_
      refine z_iconst (v := nI 0) C 29 dX9_whyNotShow_29 (by decide) ?_
      refine z_iald C 30 dX9_whyNotShow_30 (by first | rfl | assumption) (by first | assumption | exact Nat.zero_lt_one | omega) (by first | rfl | assumption) (by first | decide | omega) (by first | assumption | omega) ?_
      first | with_reducible refine z_icmp_leN C 31 36 dX9_whyNotShow_31 (by decide) (by omega) (by omega) (fun h31 => ?_) (fun h31 => ?_) | refine z_icmp_le C 31 36 dX9_whyNotShow_31 (by decide) (fun h31 => ?_) (fun h31 => ?_)
      · have h31 : fPgs (S 44 0) (S 41 0) p ≤ S 44 0 0 := h31
        refine z_aload_n C 36 0 0 dX9_whyNotShow_36 rfl rfl ?_
        refine z_getr C 37 dX9_whyNotShow_37 gf_X9_20 rfl (by first | assumption | exact Nat.zero_lt_one | omega) (by first | exact hR _ _ _ _ rfl | assumption) ?_
        refine z_aload_n C 40 0 0 dX9_whyNotShow_40 rfl rfl ?_
        refine z_getr C 41 dX9_whyNotShow_41 gf_X9_43 rfl (by first | assumption | exact Nat.zero_lt_one | omega) (by first | exact hR _ _ _ _ rfl | assumption) ?_
        refine z_cSv0 C 44 dX9_whyNotShow_44 cs_X9_269 (c_X9_puts (by rfl) (by rfl) (by first | assumption | exact Nat.zero_lt_one | omega) (by first | assumption | exact Nat.zero_lt_one | omega) (by decide)) rfl rfl (Nat.le_of_ble_eq_true rfl) ⟨by decide, by decide⟩ ⟨rfl, rfl⟩ ⟨by decide, by decide⟩ ?_
        intro S44 L44 R44 p44
        obtain ⟨rfl, rfl, rfl⟩ := p44
        refine z_aload_n C 47 0 0 dX9_whyNotShow_47 rfl rfl ?_
        refine z_iload_n C 48 1 1 dX9_whyNotShow_48 rfl rfl ?_
        refine z_cVi0 C 49 dX9_whyNotShow_49 cv_X9_300 (c_X9_shows (n := n) hR hn hn10 hI hp) rfl ⟨by decide, rfl⟩ (by first | assumption | exact Nat.zero_lt_one | omega) rfl rfl (Nat.le_of_ble_eq_true rfl) ⟨by decide, by decide⟩ ⟨rfl, rfl⟩ ⟨by decide, by decide⟩ ?_
        intro r49 S49 L49 R49 p49
        obtain ⟨rfl, ⟨K, rfl⟩, rfl, rfl⟩ := p49
        refine z_istore_n C 52 2 [(2, _), (0, _), (1, _)] dX9_whyNotShow_52 rfl (by decide) rfl ?_
        refine z_aload_n C 53 0 1 dX9_whyNotShow_53 rfl rfl ?_
        refine z_getr C 54 dX9_whyNotShow_54 gf_X9_43 rfl (by first | assumption | exact Nat.zero_lt_one | omega) (by first | exact hR _ _ _ _ rfl | assumption) ?_
        refine z_aload_n C 57 0 1 dX9_whyNotShow_57 rfl rfl ?_
        refine z_getr C 58 dX9_whyNotShow_58 gf_X9_20 rfl (by first | assumption | exact Nat.zero_lt_one | omega) (by first | exact hR _ _ _ _ rfl | assumption) ?_
        refine z_cSv0 C 61 dX9_whyNotShow_61 cs_X9_269 (c_X9_puts (by rfl) (by rfl) (by first | assumption | exact Nat.zero_lt_one | omega) (by first | assumption | exact Nat.zero_lt_one | omega) (by decide)) rfl rfl (Nat.le_of_ble_eq_true rfl) ⟨by decide, by decide⟩ ⟨rfl, rfl⟩ ⟨by decide, by decide⟩ ?_
        intro S61 L61 R61 p61
        obtain ⟨rfl, rfl, rfl⟩ := p61
        refine z_iload_n C 64 2 0 dX9_whyNotShow_64 rfl rfl ?_
        refine z_iconst (v := (-1)) C 65 dX9_whyNotShow_65 (by decide) ?_
        first | with_reducible refine z_icmp_neN C 66 73 dX9_whyNotShow_66 (by decide) (by omega) (by omega) (fun h66 => ?_) (fun h66 => ?_) | refine z_icmp_ne C 66 73 dX9_whyNotShow_66 (by decide) (fun h66 => ?_) (fun h66 => ?_)
        · have h66 : ¬ (fShowR (S 44 0) (S 41 0) (S 43 0) n p).1 = -1 := h66
          refine z_iconst (v := nI 0) C 73 dX9_whyNotShow_73 (by decide) ?_
          exact ret 74 _ _ _ _ _ dX9_whyNotShow_74 (by first | rfl | exact bI_n | decide) (⟨(by simp only [up3_k _ (show (44 : Nat) ≠ 40 by decide), up3_k _ (show (41 : Nat) ≠ 40 by decide), up3_k _ (show (43 : Nat) ≠ 40 by decide), up3_k _ (show (49 : Nat) ≠ 40 by decide), up3_k _ (show (50 : Nat) ≠ 40 by decide), up3_k _ (show (51 : Nat) ≠ 40 by decide), up3_k _ (show (52 : Nat) ≠ 40 by decide), up3_k _ (show (53 : Nat) ≠ 40 by decide), sA_s, sA_n _ _ (show (40 : Nat) ≠ 44 by decide), sA_n _ _ (show (40 : Nat) ≠ 49 by decide), sA_n _ _ (show (40 : Nat) ≠ 50 by decide), sA_n _ _ (show (40 : Nat) ≠ 51 by decide), sA_n _ _ (show (40 : Nat) ≠ 52 by decide), sA_n _ _ (show (41 : Nat) ≠ 44 by decide), sA_n _ _ (show (41 : Nat) ≠ 49 by decide), sA_n _ _ (show (41 : Nat) ≠ 50 by decide), sA_n _ _ (show (41 : Nat) ≠ 51 by decide), sA_n _ _ (show (41 : Nat) ≠ 52 by decide), sA_n _ _ (show (43 : Nat) ≠ 44 by decide), sA_n _ _ (show (43 : Nat) ≠ 49 by decide), sA_n _ _ (show (43 : Nat) ≠ 50 by decide), sA_n _ _ (show (43 : Nat) ≠ 51 by decide), sA_n _ _ (show (43 : Nat) ≠ 52 by decide), sA_n _ _ (show (44 : Nat) ≠ 49 by decide), sA_n _ _ (show (44 : Nat) ≠ 50 by decide), sA_n _ _ (show (44 : Nat) ≠ 51 by decide), sA_n _ _ (show (44 : Nat) ≠ 52 by decide), sA_n _ _ (show (49 : Nat) ≠ 44 by decide), sA_n _ _ (show (49 : Nat) ≠ 50 by decide), sA_n _ _ (show (49 : Nat) ≠ 51 by decide), sA_n _ _ (show (49 : Nat) ≠ 52 by decide), sA_n _ _ (show (50 : Nat) ≠ 44 by decide), sA_n _ _ (show (50 : Nat) ≠ 49 by decide), sA_n _ _ (show (50 : Nat) ≠ 51 by decide), sA_n _ _ (show (50 : Nat) ≠ 52 by decide), sA_n _ _ (show (51 : Nat) ≠ 44 by decide), sA_n _ _ (show (51 : Nat) ≠ 49 by decide), sA_n _ _ (show (51 : Nat) ≠ 50 by decide), sA_n _ _ (show (51 : Nat) ≠ 52 by decide), sA_n _ _ (show (52 : Nat) ≠ 44 by decide), sA_n _ _ (show (52 : Nat) ≠ 49 by decide), sA_n _ _ (show (52 : Nat) ≠ 50 by decide), sA_n _ _ (show (52 : Nat) ≠ 51 by decide), sA_n _ _ (show (53 : Nat) ≠ 44 by decide), sA_n _ _ (show (53 : Nat) ≠ 49 by decide), sA_n _ _ (show (53 : Nat) ≠ 50 by decide), sA_n _ _ (show (53 : Nat) ≠ 51 by decide), sA_n _ _ (show (53 : Nat) ≠ 52 by decide), up3_sA _ (show (40 : Nat) ≠ 44 by decide), up3_sA _ (show (40 : Nat) ≠ 49 by decide), up3_sA _ (show (40 : Nat) ≠ 50 by decide), up3_sA _ (show (40 : Nat) ≠ 51 by decide), up3_sA _ (show (40 : Nat) ≠ 52 by decide), sA_44_49, sA_44_50, sA_49_50, sA_44_51, sA_49_51, sA_50_51, sA_44_52, sA_sA, up3_up3]; repeat (first | exact rQ_t _ _ | apply rQ.up26 | apply rQ.s49 | apply rQ.s50 | refine rQ.s44 ?_ rfl)), (by unfold qWhy; rw [if_neg h15, if_neg (Int32.not_lt.mpr h31)]; first | rw [if_pos h66] | rw [if_neg h66]), rfl, rfl⟩)
        · have h66 : (fShowR (S 44 0) (S 41 0) (S 43 0) n p).1 = -1 := h66
          refine z_iconst (v := nI 2) C 69 dX9_whyNotShow_69 (by decide) ?_
          refine z_goto C 70 74 dX9_whyNotShow_70 (by decide) ?_
          exact ret 74 _ _ _ _ _ dX9_whyNotShow_74 (by first | rfl | exact bI_n | decide) (⟨(by simp only [up3_k _ (show (44 : Nat) ≠ 40 by decide), up3_k _ (show (41 : Nat) ≠ 40 by decide), up3_k _ (show (43 : Nat) ≠ 40 by decide), up3_k _ (show (49 : Nat) ≠ 40 by decide), up3_k _ (show (50 : Nat) ≠ 40 by decide), up3_k _ (show (51 : Nat) ≠ 40 by decide), up3_k _ (show (52 : Nat) ≠ 40 by decide), up3_k _ (show (53 : Nat) ≠ 40 by decide), sA_s, sA_n _ _ (show (40 : Nat) ≠ 44 by decide), sA_n _ _ (show (40 : Nat) ≠ 49 by decide), sA_n _ _ (show (40 : Nat) ≠ 50 by decide), sA_n _ _ (show (40 : Nat) ≠ 51 by decide), sA_n _ _ (show (40 : Nat) ≠ 52 by decide), sA_n _ _ (show (41 : Nat) ≠ 44 by decide), sA_n _ _ (show (41 : Nat) ≠ 49 by decide), sA_n _ _ (show (41 : Nat) ≠ 50 by decide), sA_n _ _ (show (41 : Nat) ≠ 51 by decide), sA_n _ _ (show (41 : Nat) ≠ 52 by decide), sA_n _ _ (show (43 : Nat) ≠ 44 by decide), sA_n _ _ (show (43 : Nat) ≠ 49 by decide), sA_n _ _ (show (43 : Nat) ≠ 50 by decide), sA_n _ _ (show (43 : Nat) ≠ 51 by decide), sA_n _ _ (show (43 : Nat) ≠ 52 by decide), sA_n _ _ (show (44 : Nat) ≠ 49 by decide), sA_n _ _ (show (44 : Nat) ≠ 50 by decide), sA_n _ _ (show (44 : Nat) ≠ 51 by decide), sA_n _ _ (show (44 : Nat) ≠ 52 by decide), sA_n _ _ (show (49 : Nat) ≠ 44 by decide), sA_n _ _ (show (49 : Nat) ≠ 50 by decide), sA_n _ _ (show (49 : Nat) ≠ 51 by decide), sA_n _ _ (show (49 : Nat) ≠ 52 by decide), sA_n _ _ (show (50 : Nat) ≠ 44 by decide), sA_n _ _ (show (50 : Nat) ≠ 49 by decide), sA_n _ _ (show (50 : Nat) ≠ 51 by decide), sA_n _ _ (show (50 : Nat) ≠ 52 by decide), sA_n _ _ (show (51 : Nat) ≠ 44 by decide), sA_n _ _ (show (51 : Nat) ≠ 49 by decide), sA_n _ _ (show (51 : Nat) ≠ 50 by decide), sA_n _ _ (show (51 : Nat) ≠ 52 by decide), sA_n _ _ (show (52 : Nat) ≠ 44 by decide), sA_n _ _ (show (52 : Nat) ≠ 49 by decide), sA_n _ _ (show (52 : Nat) ≠ 50 by decide), sA_n _ _ (show (52 : Nat) ≠ 51 by decide), sA_n _ _ (show (53 : Nat) ≠ 44 by decide), sA_n _ _ (show (53 : Nat) ≠ 49 by decide), sA_n _ _ (show (53 : Nat) ≠ 50 by decide), sA_n _ _ (show (53 : Nat) ≠ 51 by decide), sA_n _ _ (show (53 : Nat) ≠ 52 by decide), up3_sA _ (show (40 : Nat) ≠ 44 by decide), up3_sA _ (show (40 : Nat) ≠ 49 by decide), up3_sA _ (show (40 : Nat) ≠ 50 by decide), up3_sA _ (show (40 : Nat) ≠ 51 by decide), up3_sA _ (show (40 : Nat) ≠ 52 by decide), sA_44_49, sA_44_50, sA_49_50, sA_44_51, sA_49_51, sA_50_51, sA_44_52, sA_sA, up3_up3]; repeat (first | exact rQ_t _ _ | apply rQ.up26 | apply rQ.s49 | apply rQ.s50 | refine rQ.s44 ?_ rfl)), (by unfold qWhy; rw [if_neg h15, if_neg (Int32.not_lt.mpr h31)]; first | rw [if_pos h66] | rw [if_neg h66]), rfl, rfl⟩)
      · have h31 : ¬ fPgs (S 44 0) (S 41 0) p ≤ S 44 0 0 := h31
        refine z_iconst (v := nI 1) C 34 dX9_whyNotShow_34 (by decide) ?_
        exact ret 35 _ _ _ _ _ dX9_whyNotShow_35 (by first | rfl | exact bI_n | decide) (⟨(rQ_t _ _), (by unfold qWhy; rw [if_neg h15, if_pos (Int32.not_le.mp h31)]), rfl, rfl⟩)
    · have h15 : fo (S 44 0) p 0 = nI 1 := h15
      refine z_iconst (v := nI 0) C 18 dX9_whyNotShow_18 (by decide) ?_
      exact ret 19 _ _ _ _ _ dX9_whyNotShow_19 (by first | rfl | exact bI_n | decide) (⟨(rQ_t _ _), (by unfold qWhy; rw [if_pos h15]), rfl, rfl⟩)

set_option maxHeartbeats 4000000 in
set_option maxRecDepth 100000 in
theorem c_X9_whyNotShow_1 {l : Launch} {G : mG} {ad : mA} {S : mS} {L : mL} {R : mR} {n : Nat} {x : Int32} (hR : mlk R) (hn : S 40 0 1 = nI n) (hn10 : n ≤ 10) (hx : ¬ isP n x) : Ki l yX9_whyNotShow cX9_whyNotShow 3 .int rm_X9_whyNotShow G ad mdm [.ref (ad 40 0), .int x] S L R (fun r_ S2 L2 R2 => rQ S S2 1 ∧ L = L2 ∧ R = R2) := by
  refine Ki.of RX9 (by decide) rfl (Nat.le_of_ble_eq_true rfl) ?_
  intro X hXl hXG C ret
  subst hXl; subst hXG
  change Z X 3 ad mdm S L R 0 0 0 [(0, _), (1, _)] []
  refine z_aload_n C 0 0 0 dX9_whyNotShow_0 rfl rfl ?_
  refine z_iload_n C 1 1 1 dX9_whyNotShow_1 rfl rfl ?_
  refine z_cVi0 C 2 dX9_whyNotShow_2 cv_X9_291 (c_X9_noProgram_1 hR hn hn10 hx) rfl ⟨by decide, rfl⟩ (by first | assumption | exact Nat.zero_lt_one | omega) rfl rfl (Nat.le_of_ble_eq_true rfl) ⟨by decide, by decide⟩ ⟨rfl, rfl⟩ ⟨by decide, by decide⟩ ?_
  intro r2 S2 L2 R2 p2
  obtain ⟨rfl, rfl, rfl, rfl⟩ := p2
  first | with_reducible refine z_if_neB C 5 18 dX9_whyNotShow_5 (by decide) (fun h5 => ?_) (fun h5 => by omega) | with_reducible refine z_if_neN C 5 18 dX9_whyNotShow_5 (by decide) (by omega) (fun h5 => ?_) (fun h5 => by omega) | refine z_if_ne C 5 18 dX9_whyNotShow_5 (by decide) (fun h5 => ?_) (fun h5 => by omega)
  · refine z_iconst (v := nI 0) C 18 dX9_whyNotShow_18 (by decide) ?_
    exact ret 19 _ _ _ _ _ dX9_whyNotShow_19 (by first | rfl | exact bI_n | decide) (⟨(by first | exact rQ_t _ _ | (simp only [up3_up3]; exact rQ_t _ _)), rfl, rfl⟩)
def rm_X9_trimsFor : Room := { frames := 8, cells := 0, slots := 0, locals := 181 }
set_option maxHeartbeats 4000000 in
set_option maxRecDepth 100000 in
theorem c_X9_trimsFor {l : Launch} {G : mG} {ad : mA} {S : mS} {L : mL} {R : mR} {n p : Nat} (hR : mlk R) (hn : S 40 0 1 = nI n) (hn10 : n ≤ 10) (hI : rI (S 44 0) n) (hp : p < n) : Ki l yX9_trimsFor cX9_trimsFor 3 .int rm_X9_trimsFor G ad mdm [.ref (ad 40 0), .int (nI p)] S L R (fun r_ S2 L2 R2 => rQ S S2 0 ∧ r_ = qTrims (S 44 0) (S 41 0) (S 43 0) n p ∧ L = L2 ∧ R = R2) := by
  refine Ki.of RX9 (by decide) rfl (Nat.le_of_ble_eq_true rfl) ?_
  intro X hXl hXG C ret
  subst hXl; subst hXG
  change Z X 3 ad mdm S L R 0 0 0 [(0, _), (1, _)] []
  refine z_aload_n C 0 0 0 dX9_trimsFor_0 rfl rfl ?_
  refine z_iload_n C 1 1 1 dX9_trimsFor_1 rfl rfl ?_
  refine z_cVi0 C 2 dX9_trimsFor_2 cv_X9_291 (c_X9_noProgram hR hn hn10 (by assumption)) rfl ⟨by decide, rfl⟩ (by first | assumption | exact Nat.zero_lt_one | omega) rfl rfl (Nat.le_of_ble_eq_true rfl) ⟨by decide, by decide⟩ ⟨rfl, rfl⟩ ⟨by decide, by decide⟩ ?_
  intro r2 S2 L2 R2 p2
  obtain ⟨rfl, rfl, rfl, rfl⟩ := p2
  first | with_reducible refine z_if_eqB C 5 10 dX9_trimsFor_5 (by decide) (fun h5 => ?_) (fun h5 => by omega) | with_reducible refine z_if_eqN C 5 10 dX9_trimsFor_5 (by decide) (by omega) (fun h5 => ?_) (fun h5 => by omega) | refine z_if_eq C 5 10 dX9_trimsFor_5 (by decide) (fun h5 => ?_) (fun h5 => by omega)
  · refine z_aload_n C 10 0 0 dX9_trimsFor_10 rfl rfl ?_
    refine z_getr C 11 dX9_trimsFor_11 gf_X9_20 rfl (by first | assumption | exact Nat.zero_lt_one | omega) (by first | exact hR _ _ _ _ rfl | assumption) ?_
    refine z_aload_n C 14 0 0 dX9_trimsFor_14 rfl rfl ?_
    refine z_getr C 15 dX9_trimsFor_15 gf_X9_43 rfl (by first | assumption | exact Nat.zero_lt_one | omega) (by first | exact hR _ _ _ _ rfl | assumption) ?_
    refine z_cSv0 C 18 dX9_trimsFor_18 cs_X9_269 (c_X9_puts (by rfl) (by rfl) (by first | assumption | exact Nat.zero_lt_one | omega) (by first | assumption | exact Nat.zero_lt_one | omega) (by decide)) rfl rfl (Nat.le_of_ble_eq_true rfl) ⟨by decide, by decide⟩ ⟨rfl, rfl⟩ ⟨by decide, by decide⟩ ?_
    intro S18 L18 R18 p18
    obtain ⟨rfl, rfl, rfl⟩ := p18
    refine z_aload_n C 21 0 0 dX9_trimsFor_21 rfl rfl ?_
    refine z_iload_n C 22 1 1 dX9_trimsFor_22 rfl rfl ?_
    refine z_cVi0 C 23 dX9_trimsFor_23 cv_X9_300 (c_X9_shows (n := n) hR hn hn10 hI hp) rfl ⟨by decide, rfl⟩ (by first | assumption | exact Nat.zero_lt_one | omega) rfl rfl (Nat.le_of_ble_eq_true rfl) ⟨by decide, by decide⟩ ⟨rfl, rfl⟩ ⟨by decide, by decide⟩ ?_
    intro r23 S23 L23 R23 p23
    obtain ⟨rfl, ⟨K, rfl⟩, rfl, rfl⟩ := p23
    refine z_istore_n C 26 2 [(2, _), (0, _), (1, _)] dX9_trimsFor_26 rfl (by decide) rfl ?_
    refine z_aload_n C 27 0 1 dX9_trimsFor_27 rfl rfl ?_
    refine z_getr C 28 dX9_trimsFor_28 gf_X9_43 rfl (by first | assumption | exact Nat.zero_lt_one | omega) (by first | exact hR _ _ _ _ rfl | assumption) ?_
    refine z_aload_n C 31 0 1 dX9_trimsFor_31 rfl rfl ?_
    refine z_getr C 32 dX9_trimsFor_32 gf_X9_20 rfl (by first | assumption | exact Nat.zero_lt_one | omega) (by first | exact hR _ _ _ _ rfl | assumption) ?_
    refine z_cSv0 C 35 dX9_trimsFor_35 cs_X9_269 (c_X9_puts (by rfl) (by rfl) (by first | assumption | exact Nat.zero_lt_one | omega) (by first | assumption | exact Nat.zero_lt_one | omega) (by decide)) rfl rfl (Nat.le_of_ble_eq_true rfl) ⟨by decide, by decide⟩ ⟨rfl, rfl⟩ ⟨by decide, by decide⟩ ?_
    intro S35 L35 R35 p35
    obtain ⟨rfl, rfl, rfl⟩ := p35
    refine z_iload_n C 38 2 0 dX9_trimsFor_38 rfl rfl ?_
    refine z_iconst (v := (-1)) C 39 dX9_trimsFor_39 (by decide) ?_
    first | with_reducible refine z_icmp_neN C 40 47 dX9_trimsFor_40 (by decide) (by omega) (by omega) (fun h40 => ?_) (fun h40 => ?_) | refine z_icmp_ne C 40 47 dX9_trimsFor_40 (by decide) (fun h40 => ?_) (fun h40 => ?_)
    · have h40 : ¬ (fShowR (S 44 0) (S 41 0) (S 43 0) n p).1 = -1 := h40
      refine z_aload_n C 47 0 1 dX9_trimsFor_47 rfl rfl ?_
      refine z_getiv C 48 dX9_trimsFor_48 gf_X9_263 rfl (by first | assumption | exact Nat.zero_lt_one | omega) (show _ = (fShowR (S 44 0) (S 41 0) (S 43 0) n p).2.1 by simp only [up3_k _ (show (44 : Nat) ≠ 40 by decide), up3_k _ (show (41 : Nat) ≠ 40 by decide), up3_k _ (show (43 : Nat) ≠ 40 by decide), up3_k _ (show (49 : Nat) ≠ 40 by decide), up3_k _ (show (50 : Nat) ≠ 40 by decide), up3_k _ (show (51 : Nat) ≠ 40 by decide), up3_k _ (show (52 : Nat) ≠ 40 by decide), up3_k _ (show (53 : Nat) ≠ 40 by decide), sA_s, sA_n _ _ (show (40 : Nat) ≠ 44 by decide), sA_n _ _ (show (40 : Nat) ≠ 49 by decide), sA_n _ _ (show (40 : Nat) ≠ 50 by decide), sA_n _ _ (show (40 : Nat) ≠ 51 by decide), sA_n _ _ (show (40 : Nat) ≠ 52 by decide), sA_n _ _ (show (41 : Nat) ≠ 44 by decide), sA_n _ _ (show (41 : Nat) ≠ 49 by decide), sA_n _ _ (show (41 : Nat) ≠ 50 by decide), sA_n _ _ (show (41 : Nat) ≠ 51 by decide), sA_n _ _ (show (41 : Nat) ≠ 52 by decide), sA_n _ _ (show (43 : Nat) ≠ 44 by decide), sA_n _ _ (show (43 : Nat) ≠ 49 by decide), sA_n _ _ (show (43 : Nat) ≠ 50 by decide), sA_n _ _ (show (43 : Nat) ≠ 51 by decide), sA_n _ _ (show (43 : Nat) ≠ 52 by decide), sA_n _ _ (show (44 : Nat) ≠ 49 by decide), sA_n _ _ (show (44 : Nat) ≠ 50 by decide), sA_n _ _ (show (44 : Nat) ≠ 51 by decide), sA_n _ _ (show (44 : Nat) ≠ 52 by decide), sA_n _ _ (show (49 : Nat) ≠ 44 by decide), sA_n _ _ (show (49 : Nat) ≠ 50 by decide), sA_n _ _ (show (49 : Nat) ≠ 51 by decide), sA_n _ _ (show (49 : Nat) ≠ 52 by decide), sA_n _ _ (show (50 : Nat) ≠ 44 by decide), sA_n _ _ (show (50 : Nat) ≠ 49 by decide), sA_n _ _ (show (50 : Nat) ≠ 51 by decide), sA_n _ _ (show (50 : Nat) ≠ 52 by decide), sA_n _ _ (show (51 : Nat) ≠ 44 by decide), sA_n _ _ (show (51 : Nat) ≠ 49 by decide), sA_n _ _ (show (51 : Nat) ≠ 50 by decide), sA_n _ _ (show (51 : Nat) ≠ 52 by decide), sA_n _ _ (show (52 : Nat) ≠ 44 by decide), sA_n _ _ (show (52 : Nat) ≠ 49 by decide), sA_n _ _ (show (52 : Nat) ≠ 50 by decide), sA_n _ _ (show (52 : Nat) ≠ 51 by decide), sA_n _ _ (show (53 : Nat) ≠ 44 by decide), sA_n _ _ (show (53 : Nat) ≠ 49 by decide), sA_n _ _ (show (53 : Nat) ≠ 50 by decide), sA_n _ _ (show (53 : Nat) ≠ 51 by decide), sA_n _ _ (show (53 : Nat) ≠ 52 by decide), up3_sA _ (show (40 : Nat) ≠ 44 by decide), up3_sA _ (show (40 : Nat) ≠ 49 by decide), up3_sA _ (show (40 : Nat) ≠ 50 by decide), up3_sA _ (show (40 : Nat) ≠ 51 by decide), up3_sA _ (show (40 : Nat) ≠ 52 by decide), sA_44_49, sA_44_50, sA_49_50, sA_44_51, sA_49_51, sA_50_51, sA_44_52, sA_sA, up3_up3]; rfl) ?_
      exact ret 51 _ _ _ _ _ dX9_trimsFor_51 (by first | rfl | exact bI_n | decide) (⟨(by simp only [up3_k _ (show (44 : Nat) ≠ 40 by decide), up3_k _ (show (41 : Nat) ≠ 40 by decide), up3_k _ (show (43 : Nat) ≠ 40 by decide), up3_k _ (show (49 : Nat) ≠ 40 by decide), up3_k _ (show (50 : Nat) ≠ 40 by decide), up3_k _ (show (51 : Nat) ≠ 40 by decide), up3_k _ (show (52 : Nat) ≠ 40 by decide), up3_k _ (show (53 : Nat) ≠ 40 by decide), sA_s, sA_n _ _ (show (40 : Nat) ≠ 44 by decide), sA_n _ _ (show (40 : Nat) ≠ 49 by decide), sA_n _ _ (show (40 : Nat) ≠ 50 by decide), sA_n _ _ (show (40 : Nat) ≠ 51 by decide), sA_n _ _ (show (40 : Nat) ≠ 52 by decide), sA_n _ _ (show (41 : Nat) ≠ 44 by decide), sA_n _ _ (show (41 : Nat) ≠ 49 by decide), sA_n _ _ (show (41 : Nat) ≠ 50 by decide), sA_n _ _ (show (41 : Nat) ≠ 51 by decide), sA_n _ _ (show (41 : Nat) ≠ 52 by decide), sA_n _ _ (show (43 : Nat) ≠ 44 by decide), sA_n _ _ (show (43 : Nat) ≠ 49 by decide), sA_n _ _ (show (43 : Nat) ≠ 50 by decide), sA_n _ _ (show (43 : Nat) ≠ 51 by decide), sA_n _ _ (show (43 : Nat) ≠ 52 by decide), sA_n _ _ (show (44 : Nat) ≠ 49 by decide), sA_n _ _ (show (44 : Nat) ≠ 50 by decide), sA_n _ _ (show (44 : Nat) ≠ 51 by decide), sA_n _ _ (show (44 : Nat) ≠ 52 by decide), sA_n _ _ (show (49 : Nat) ≠ 44 by decide), sA_n _ _ (show (49 : Nat) ≠ 50 by decide), sA_n _ _ (show (49 : Nat) ≠ 51 by decide), sA_n _ _ (show (49 : Nat) ≠ 52 by decide), sA_n _ _ (show (50 : Nat) ≠ 44 by decide), sA_n _ _ (show (50 : Nat) ≠ 49 by decide), sA_n _ _ (show (50 : Nat) ≠ 51 by decide), sA_n _ _ (show (50 : Nat) ≠ 52 by decide), sA_n _ _ (show (51 : Nat) ≠ 44 by decide), sA_n _ _ (show (51 : Nat) ≠ 49 by decide), sA_n _ _ (show (51 : Nat) ≠ 50 by decide), sA_n _ _ (show (51 : Nat) ≠ 52 by decide), sA_n _ _ (show (52 : Nat) ≠ 44 by decide), sA_n _ _ (show (52 : Nat) ≠ 49 by decide), sA_n _ _ (show (52 : Nat) ≠ 50 by decide), sA_n _ _ (show (52 : Nat) ≠ 51 by decide), sA_n _ _ (show (53 : Nat) ≠ 44 by decide), sA_n _ _ (show (53 : Nat) ≠ 49 by decide), sA_n _ _ (show (53 : Nat) ≠ 50 by decide), sA_n _ _ (show (53 : Nat) ≠ 51 by decide), sA_n _ _ (show (53 : Nat) ≠ 52 by decide), up3_sA _ (show (40 : Nat) ≠ 44 by decide), up3_sA _ (show (40 : Nat) ≠ 49 by decide), up3_sA _ (show (40 : Nat) ≠ 50 by decide), up3_sA _ (show (40 : Nat) ≠ 51 by decide), up3_sA _ (show (40 : Nat) ≠ 52 by decide), sA_44_49, sA_44_50, sA_49_50, sA_44_51, sA_49_51, sA_50_51, sA_44_52, sA_sA, up3_up3]; repeat (first | exact rQ_t _ _ | apply rQ.up26 | apply rQ.s49 | apply rQ.s50 | refine rQ.s44 ?_ rfl)), (by unfold qTrims; first | rw [if_pos h40] | rw [if_neg h40]), rfl, rfl⟩)
    · have h40 : (fShowR (S 44 0) (S 41 0) (S 43 0) n p).1 = -1 := h40
      refine z_iconst (v := (-1)) C 43 dX9_trimsFor_43 (by decide) ?_
      refine z_goto C 44 51 dX9_trimsFor_44 (by decide) ?_
      exact ret 51 _ _ _ _ _ dX9_trimsFor_51 (by first | rfl | exact bI_n | decide) (⟨(by simp only [up3_k _ (show (44 : Nat) ≠ 40 by decide), up3_k _ (show (41 : Nat) ≠ 40 by decide), up3_k _ (show (43 : Nat) ≠ 40 by decide), up3_k _ (show (49 : Nat) ≠ 40 by decide), up3_k _ (show (50 : Nat) ≠ 40 by decide), up3_k _ (show (51 : Nat) ≠ 40 by decide), up3_k _ (show (52 : Nat) ≠ 40 by decide), up3_k _ (show (53 : Nat) ≠ 40 by decide), sA_s, sA_n _ _ (show (40 : Nat) ≠ 44 by decide), sA_n _ _ (show (40 : Nat) ≠ 49 by decide), sA_n _ _ (show (40 : Nat) ≠ 50 by decide), sA_n _ _ (show (40 : Nat) ≠ 51 by decide), sA_n _ _ (show (40 : Nat) ≠ 52 by decide), sA_n _ _ (show (41 : Nat) ≠ 44 by decide), sA_n _ _ (show (41 : Nat) ≠ 49 by decide), sA_n _ _ (show (41 : Nat) ≠ 50 by decide), sA_n _ _ (show (41 : Nat) ≠ 51 by decide), sA_n _ _ (show (41 : Nat) ≠ 52 by decide), sA_n _ _ (show (43 : Nat) ≠ 44 by decide), sA_n _ _ (show (43 : Nat) ≠ 49 by decide), sA_n _ _ (show (43 : Nat) ≠ 50 by decide), sA_n _ _ (show (43 : Nat) ≠ 51 by decide), sA_n _ _ (show (43 : Nat) ≠ 52 by decide), sA_n _ _ (show (44 : Nat) ≠ 49 by decide), sA_n _ _ (show (44 : Nat) ≠ 50 by decide), sA_n _ _ (show (44 : Nat) ≠ 51 by decide), sA_n _ _ (show (44 : Nat) ≠ 52 by decide), sA_n _ _ (show (49 : Nat) ≠ 44 by decide), sA_n _ _ (show (49 : Nat) ≠ 50 by decide), sA_n _ _ (show (49 : Nat) ≠ 51 by decide), sA_n _ _ (show (49 : Nat) ≠ 52 by decide), sA_n _ _ (show (50 : Nat) ≠ 44 by decide), sA_n _ _ (show (50 : Nat) ≠ 49 by decide), sA_n _ _ (show (50 : Nat) ≠ 51 by decide), sA_n _ _ (show (50 : Nat) ≠ 52 by decide), sA_n _ _ (show (51 : Nat) ≠ 44 by decide), sA_n _ _ (show (51 : Nat) ≠ 49 by decide), sA_n _ _ (show (51 : Nat) ≠ 50 by decide), sA_n _ _ (show (51 : Nat) ≠ 52 by decide), sA_n _ _ (show (52 : Nat) ≠ 44 by decide), sA_n _ _ (show (52 : Nat) ≠ 49 by decide), sA_n _ _ (show (52 : Nat) ≠ 50 by decide), sA_n _ _ (show (52 : Nat) ≠ 51 by decide), sA_n _ _ (show (53 : Nat) ≠ 44 by decide), sA_n _ _ (show (53 : Nat) ≠ 49 by decide), sA_n _ _ (show (53 : Nat) ≠ 50 by decide), sA_n _ _ (show (53 : Nat) ≠ 51 by decide), sA_n _ _ (show (53 : Nat) ≠ 52 by decide), up3_sA _ (show (40 : Nat) ≠ 44 by decide), up3_sA _ (show (40 : Nat) ≠ 49 by decide), up3_sA _ (show (40 : Nat) ≠ 50 by decide), up3_sA _ (show (40 : Nat) ≠ 51 by decide), up3_sA _ (show (40 : Nat) ≠ 52 by decide), sA_44_49, sA_44_50, sA_49_50, sA_44_51, sA_49_51, sA_50_51, sA_44_52, sA_sA, up3_up3]; repeat (first | exact rQ_t _ _ | apply rQ.up26 | apply rQ.s49 | apply rQ.s50 | refine rQ.s44 ?_ rfl)), (by unfold qTrims; first | rw [if_pos h40] | rw [if_neg h40]), rfl, rfl⟩)

set_option maxHeartbeats 4000000 in
set_option maxRecDepth 100000 in
theorem c_X9_trimsFor_1 {l : Launch} {G : mG} {ad : mA} {S : mS} {L : mL} {R : mR} {n : Nat} {x : Int32} (hR : mlk R) (hn : S 40 0 1 = nI n) (hn10 : n ≤ 10) (hx : ¬ isP n x) : Ki l yX9_trimsFor cX9_trimsFor 3 .int rm_X9_trimsFor G ad mdm [.ref (ad 40 0), .int x] S L R (fun r_ S2 L2 R2 => rQ S S2 1 ∧ L = L2 ∧ R = R2) := by
  refine Ki.of RX9 (by decide) rfl (Nat.le_of_ble_eq_true rfl) ?_
  intro X hXl hXG C ret
  subst hXl; subst hXG
  change Z X 3 ad mdm S L R 0 0 0 [(0, _), (1, _)] []
  refine z_aload_n C 0 0 0 dX9_trimsFor_0 rfl rfl ?_
  refine z_iload_n C 1 1 1 dX9_trimsFor_1 rfl rfl ?_
  refine z_cVi0 C 2 dX9_trimsFor_2 cv_X9_291 (c_X9_noProgram_1 hR hn hn10 hx) rfl ⟨by decide, rfl⟩ (by first | assumption | exact Nat.zero_lt_one | omega) rfl rfl (Nat.le_of_ble_eq_true rfl) ⟨by decide, by decide⟩ ⟨rfl, rfl⟩ ⟨by decide, by decide⟩ ?_
  intro r2 S2 L2 R2 p2
  obtain ⟨rfl, rfl, rfl, rfl⟩ := p2
  first | with_reducible refine z_if_eqB C 5 10 dX9_trimsFor_5 (by decide) (fun h5 => by omega) (fun h5 => ?_) | with_reducible refine z_if_eqN C 5 10 dX9_trimsFor_5 (by decide) (by omega) (fun h5 => by omega) (fun h5 => ?_) | refine z_if_eq C 5 10 dX9_trimsFor_5 (by decide) (fun h5 => by omega) (fun h5 => ?_)
  · refine z_iconst (v := nI 0) C 8 dX9_trimsFor_8 (by decide) ?_
    exact ret 9 _ _ _ _ _ dX9_trimsFor_9 (by first | rfl | exact bI_n | decide) (⟨(by first | exact rQ_t _ _ | (simp only [up3_up3]; exact rQ_t _ _)), rfl, rfl⟩)
def rm_X9_stateAfter : Room := { frames := 8, cells := 0, slots := 0, locals := 181 }
set_option maxHeartbeats 4000000 in
set_option maxRecDepth 100000 in
theorem c_X9_stateAfter {l : Launch} {G : mG} {ad : mA} {S : mS} {L : mL} {R : mR} {n s p : Nat} (hR : mlk R) (hn : S 40 0 1 = nI n) (hn10 : n ≤ 10) (hI : rI (S 44 0) n) (hs : s < n) (hp : p < n) : Ki l yX9_stateAfter cX9_stateAfter 5 .int rm_X9_stateAfter G ad mdm [.ref (ad 40 0), .int (nI s), .int (nI p)] S L R (fun r_ S2 L2 R2 => rQ S S2 0 ∧ r_ = qState (S 44 0) (S 41 0) (S 43 0) n s p ∧ L = L2 ∧ R = R2) := by
  refine Ki.of RX9 (by decide) rfl (Nat.le_of_ble_eq_true rfl) ?_
  intro X hXl hXG C ret
  subst hXl; subst hXG
  change Z X 5 ad mdm S L R 0 0 0 [(0, _), (1, _), (2, _)] []
  refine z_aload_n C 0 0 0 dX9_stateAfter_0 rfl rfl ?_
  refine z_iload_n C 1 1 1 dX9_stateAfter_1 rfl rfl ?_
  refine z_cVi0 C 2 dX9_stateAfter_2 cv_X9_291 (c_X9_noProgram hR hn hn10 (by assumption)) rfl ⟨by decide, rfl⟩ (by first | assumption | exact Nat.zero_lt_one | omega) rfl rfl (Nat.le_of_ble_eq_true rfl) ⟨by decide, by decide⟩ ⟨rfl, rfl⟩ ⟨by decide, by decide⟩ ?_
  intro r2 S2 L2 R2 p2
  obtain ⟨rfl, rfl, rfl, rfl⟩ := p2
  first | with_reducible refine z_if_neB C 5 20 dX9_stateAfter_5 (by decide) (fun h5 => by omega) (fun h5 => ?_) | with_reducible refine z_if_neN C 5 20 dX9_stateAfter_5 (by decide) (by omega) (fun h5 => by omega) (fun h5 => ?_) | refine z_if_ne C 5 20 dX9_stateAfter_5 (by decide) (fun h5 => by omega) (fun h5 => ?_)
  · refine z_aload_n C 8 0 0 dX9_stateAfter_8 rfl rfl ?_
    refine z_iload_n C 9 2 2 dX9_stateAfter_9 rfl rfl ?_
    refine z_aload_n C 10 0 0 dX9_stateAfter_10 rfl rfl ?_
    refine z_getiv C 11 dX9_stateAfter_11 gf_X9_197 rfl (by first | assumption | exact Nat.zero_lt_one | omega) hn ?_
    refine z_cVi0 C 14 dX9_stateAfter_14 cv_X9_288 (c_X9_no_0 hR (by rfl) (by assumption) hn10) rfl ⟨by decide, rfl⟩ (by first | assumption | exact Nat.zero_lt_one | omega) rfl rfl (Nat.le_of_ble_eq_true rfl) ⟨by decide, by decide⟩ ⟨rfl, rfl⟩ ⟨by decide, by decide⟩ ?_
    intro r14 S14 L14 R14 p14
    obtain ⟨rfl, rfl, rfl, rfl⟩ := p14
    first | with_reducible refine z_if_eqB C 17 22 dX9_stateAfter_17 (by decide) (fun h17 => ?_) (fun h17 => by omega) | with_reducible refine z_if_eqN C 17 22 dX9_stateAfter_17 (by decide) (by omega) (fun h17 => ?_) (fun h17 => by omega) | refine z_if_eq C 17 22 dX9_stateAfter_17 (by decide) (fun h17 => ?_) (fun h17 => by omega)
    · refine z_aload_n C 22 0 0 dX9_stateAfter_22 rfl rfl ?_
      refine z_getr C 23 dX9_stateAfter_23 gf_X9_20 rfl (by first | assumption | exact Nat.zero_lt_one | omega) (by first | exact hR _ _ _ _ rfl | assumption) ?_
      refine z_aload_n C 26 0 0 dX9_stateAfter_26 rfl rfl ?_
      refine z_getr C 27 dX9_stateAfter_27 gf_X9_43 rfl (by first | assumption | exact Nat.zero_lt_one | omega) (by first | exact hR _ _ _ _ rfl | assumption) ?_
      refine z_cSv0 C 30 dX9_stateAfter_30 cs_X9_269 (c_X9_puts (by rfl) (by rfl) (by first | assumption | exact Nat.zero_lt_one | omega) (by first | assumption | exact Nat.zero_lt_one | omega) (by decide)) rfl rfl (Nat.le_of_ble_eq_true rfl) ⟨by decide, by decide⟩ ⟨rfl, rfl⟩ ⟨by decide, by decide⟩ ?_
      intro S30 L30 R30 p30
      obtain ⟨rfl, rfl, rfl⟩ := p30
      refine z_aload_n C 33 0 0 dX9_stateAfter_33 rfl rfl ?_
      refine z_iload_n C 34 1 1 dX9_stateAfter_34 rfl rfl ?_
      refine z_cVi0 C 35 dX9_stateAfter_35 cv_X9_300 (c_X9_shows (n := n) hR hn hn10 hI hs) rfl ⟨by decide, rfl⟩ (by first | assumption | exact Nat.zero_lt_one | omega) rfl rfl (Nat.le_of_ble_eq_true rfl) ⟨by decide, by decide⟩ ⟨rfl, rfl⟩ ⟨by decide, by decide⟩ ?_
      intro r35 S35 L35 R35 p35
      obtain ⟨rfl, ⟨K, rfl⟩, rfl, rfl⟩ := p35
      refine z_istore_n C 38 3 [(3, _), (0, _), (1, _), (2, _)] dX9_stateAfter_38 rfl (by decide) rfl ?_
      refine z_aload_n C 39 0 1 dX9_stateAfter_39 rfl rfl ?_
      refine z_iload_n C 40 2 3 dX9_stateAfter_40 rfl rfl ?_
      refine z_iconst (v := nI 0) C 41 dX9_stateAfter_41 (by decide) ?_
      refine z_cVi0 C 42 dX9_stateAfter_42 cv_X9_203 (c_X9_of hR (by first | assumption | omega) (by omega)) rfl ⟨by decide, rfl⟩ (by first | assumption | exact Nat.zero_lt_one | omega) rfl rfl (Nat.le_of_ble_eq_true rfl) ⟨by decide, by decide⟩ ⟨rfl, rfl⟩ ⟨by decide, by decide⟩ ?_
      intro r42 S42 L42 R42 p42
      obtain ⟨rfl, rfl, rfl, rfl⟩ := p42
      refine z_istore C 45 4 [(4, _), (3, _), (0, _), (1, _), (2, _)] dX9_stateAfter_45 (by decide) rfl ?_
      refine z_aload_n C 47 0 2 dX9_stateAfter_47 rfl rfl ?_
      refine z_getr C 48 dX9_stateAfter_48 gf_X9_43 rfl (by first | assumption | exact Nat.zero_lt_one | omega) (by first | exact hR _ _ _ _ rfl | assumption) ?_
      refine z_aload_n C 51 0 2 dX9_stateAfter_51 rfl rfl ?_
      refine z_getr C 52 dX9_stateAfter_52 gf_X9_20 rfl (by first | assumption | exact Nat.zero_lt_one | omega) (by first | exact hR _ _ _ _ rfl | assumption) ?_
      refine z_cSv0 C 55 dX9_stateAfter_55 cs_X9_269 (c_X9_puts (by rfl) (by rfl) (by first | assumption | exact Nat.zero_lt_one | omega) (by first | assumption | exact Nat.zero_lt_one | omega) (by decide)) rfl rfl (Nat.le_of_ble_eq_true rfl) ⟨by decide, by decide⟩ ⟨rfl, rfl⟩ ⟨by decide, by decide⟩ ?_
      intro S55 L55 R55 p55
      obtain ⟨rfl, rfl, rfl⟩ := p55
      refine z_iload_n C 58 3 1 dX9_stateAfter_58 rfl rfl ?_
      refine z_iconst (v := (-1)) C 59 dX9_stateAfter_59 (by decide) ?_
      first | with_reducible refine z_icmp_neN C 60 67 dX9_stateAfter_60 (by decide) (by omega) (by omega) (fun h60 => ?_) (fun h60 => ?_) | refine z_icmp_ne C 60 67 dX9_stateAfter_60 (by decide) (fun h60 => ?_) (fun h60 => ?_)
      · have h60 : ¬ (fShowR (S 44 0) (S 41 0) (S 43 0) n s).1 = -1 := h60
        refine z_iload C 67 4 0 dX9_stateAfter_67 rfl ?_
        exact ret 69 _ _ _ _ _ dX9_stateAfter_69 (by first | rfl | exact bI_n | decide) (⟨(by simp only [up3_k _ (show (44 : Nat) ≠ 40 by decide), up3_k _ (show (41 : Nat) ≠ 40 by decide), up3_k _ (show (43 : Nat) ≠ 40 by decide), up3_k _ (show (49 : Nat) ≠ 40 by decide), up3_k _ (show (50 : Nat) ≠ 40 by decide), up3_k _ (show (51 : Nat) ≠ 40 by decide), up3_k _ (show (52 : Nat) ≠ 40 by decide), up3_k _ (show (53 : Nat) ≠ 40 by decide), sA_s, sA_n _ _ (show (40 : Nat) ≠ 44 by decide), sA_n _ _ (show (40 : Nat) ≠ 49 by decide), sA_n _ _ (show (40 : Nat) ≠ 50 by decide), sA_n _ _ (show (40 : Nat) ≠ 51 by decide), sA_n _ _ (show (40 : Nat) ≠ 52 by decide), sA_n _ _ (show (41 : Nat) ≠ 44 by decide), sA_n _ _ (show (41 : Nat) ≠ 49 by decide), sA_n _ _ (show (41 : Nat) ≠ 50 by decide), sA_n _ _ (show (41 : Nat) ≠ 51 by decide), sA_n _ _ (show (41 : Nat) ≠ 52 by decide), sA_n _ _ (show (43 : Nat) ≠ 44 by decide), sA_n _ _ (show (43 : Nat) ≠ 49 by decide), sA_n _ _ (show (43 : Nat) ≠ 50 by decide), sA_n _ _ (show (43 : Nat) ≠ 51 by decide), sA_n _ _ (show (43 : Nat) ≠ 52 by decide), sA_n _ _ (show (44 : Nat) ≠ 49 by decide), sA_n _ _ (show (44 : Nat) ≠ 50 by decide), sA_n _ _ (show (44 : Nat) ≠ 51 by decide), sA_n _ _ (show (44 : Nat) ≠ 52 by decide), sA_n _ _ (show (49 : Nat) ≠ 44 by decide), sA_n _ _ (show (49 : Nat) ≠ 50 by decide), sA_n _ _ (show (49 : Nat) ≠ 51 by decide), sA_n _ _ (show (49 : Nat) ≠ 52 by decide), sA_n _ _ (show (50 : Nat) ≠ 44 by decide), sA_n _ _ (show (50 : Nat) ≠ 49 by decide), sA_n _ _ (show (50 : Nat) ≠ 51 by decide), sA_n _ _ (show (50 : Nat) ≠ 52 by decide), sA_n _ _ (show (51 : Nat) ≠ 44 by decide), sA_n _ _ (show (51 : Nat) ≠ 49 by decide), sA_n _ _ (show (51 : Nat) ≠ 50 by decide), sA_n _ _ (show (51 : Nat) ≠ 52 by decide), sA_n _ _ (show (52 : Nat) ≠ 44 by decide), sA_n _ _ (show (52 : Nat) ≠ 49 by decide), sA_n _ _ (show (52 : Nat) ≠ 50 by decide), sA_n _ _ (show (52 : Nat) ≠ 51 by decide), sA_n _ _ (show (53 : Nat) ≠ 44 by decide), sA_n _ _ (show (53 : Nat) ≠ 49 by decide), sA_n _ _ (show (53 : Nat) ≠ 50 by decide), sA_n _ _ (show (53 : Nat) ≠ 51 by decide), sA_n _ _ (show (53 : Nat) ≠ 52 by decide), up3_sA _ (show (40 : Nat) ≠ 44 by decide), up3_sA _ (show (40 : Nat) ≠ 49 by decide), up3_sA _ (show (40 : Nat) ≠ 50 by decide), up3_sA _ (show (40 : Nat) ≠ 51 by decide), up3_sA _ (show (40 : Nat) ≠ 52 by decide), sA_44_49, sA_44_50, sA_49_50, sA_44_51, sA_49_51, sA_50_51, sA_44_52, sA_sA, up3_up3]; repeat (first | exact rQ_t _ _ | apply rQ.up26 | apply rQ.s49 | apply rQ.s50 | refine rQ.s44 ?_ rfl)), (by unfold qState; first | rw [if_pos h60] | (rw [if_neg h60]; simp only [up3_k _ (show (44 : Nat) ≠ 40 by decide), up3_k _ (show (41 : Nat) ≠ 40 by decide), up3_k _ (show (43 : Nat) ≠ 40 by decide), up3_k _ (show (49 : Nat) ≠ 40 by decide), up3_k _ (show (50 : Nat) ≠ 40 by decide), up3_k _ (show (51 : Nat) ≠ 40 by decide), up3_k _ (show (52 : Nat) ≠ 40 by decide), up3_k _ (show (53 : Nat) ≠ 40 by decide), sA_s, sA_n _ _ (show (40 : Nat) ≠ 44 by decide), sA_n _ _ (show (40 : Nat) ≠ 49 by decide), sA_n _ _ (show (40 : Nat) ≠ 50 by decide), sA_n _ _ (show (40 : Nat) ≠ 51 by decide), sA_n _ _ (show (40 : Nat) ≠ 52 by decide), sA_n _ _ (show (41 : Nat) ≠ 44 by decide), sA_n _ _ (show (41 : Nat) ≠ 49 by decide), sA_n _ _ (show (41 : Nat) ≠ 50 by decide), sA_n _ _ (show (41 : Nat) ≠ 51 by decide), sA_n _ _ (show (41 : Nat) ≠ 52 by decide), sA_n _ _ (show (43 : Nat) ≠ 44 by decide), sA_n _ _ (show (43 : Nat) ≠ 49 by decide), sA_n _ _ (show (43 : Nat) ≠ 50 by decide), sA_n _ _ (show (43 : Nat) ≠ 51 by decide), sA_n _ _ (show (43 : Nat) ≠ 52 by decide), sA_n _ _ (show (44 : Nat) ≠ 49 by decide), sA_n _ _ (show (44 : Nat) ≠ 50 by decide), sA_n _ _ (show (44 : Nat) ≠ 51 by decide), sA_n _ _ (show (44 : Nat) ≠ 52 by decide), sA_n _ _ (show (49 : Nat) ≠ 44 by decide), sA_n _ _ (show (49 : Nat) ≠ 50 by decide), sA_n _ _ (show (49 : Nat) ≠ 51 by decide), sA_n _ _ (show (49 : Nat) ≠ 52 by decide), sA_n _ _ (show (50 : Nat) ≠ 44 by decide), sA_n _ _ (show (50 : Nat) ≠ 49 by decide), sA_n _ _ (show (50 : Nat) ≠ 51 by decide), sA_n _ _ (show (50 : Nat) ≠ 52 by decide), sA_n _ _ (show (51 : Nat) ≠ 44 by decide), sA_n _ _ (show (51 : Nat) ≠ 49 by decide), sA_n _ _ (show (51 : Nat) ≠ 50 by decide), sA_n _ _ (show (51 : Nat) ≠ 52 by decide), sA_n _ _ (show (52 : Nat) ≠ 44 by decide), sA_n _ _ (show (52 : Nat) ≠ 49 by decide), sA_n _ _ (show (52 : Nat) ≠ 50 by decide), sA_n _ _ (show (52 : Nat) ≠ 51 by decide), sA_n _ _ (show (53 : Nat) ≠ 44 by decide), sA_n _ _ (show (53 : Nat) ≠ 49 by decide), sA_n _ _ (show (53 : Nat) ≠ 50 by decide), sA_n _ _ (show (53 : Nat) ≠ 51 by decide), sA_n _ _ (show (53 : Nat) ≠ 52 by decide), up3_sA _ (show (40 : Nat) ≠ 44 by decide), up3_sA _ (show (40 : Nat) ≠ 49 by decide), up3_sA _ (show (40 : Nat) ≠ 50 by decide), up3_sA _ (show (40 : Nat) ≠ 51 by decide), up3_sA _ (show (40 : Nat) ≠ 52 by decide), sA_44_49, sA_44_50, sA_49_50, sA_44_51, sA_49_51, sA_50_51, sA_44_52, sA_sA, up3_up3]; done)), rfl, rfl⟩)
      · have h60 : (fShowR (S 44 0) (S 41 0) (S 43 0) n s).1 = -1 := h60
        refine z_iconst (v := (-1)) C 63 dX9_stateAfter_63 (by decide) ?_
        refine z_goto C 64 69 dX9_stateAfter_64 (by decide) ?_
        exact ret 69 _ _ _ _ _ dX9_stateAfter_69 (by first | rfl | exact bI_n | decide) (⟨(by simp only [up3_k _ (show (44 : Nat) ≠ 40 by decide), up3_k _ (show (41 : Nat) ≠ 40 by decide), up3_k _ (show (43 : Nat) ≠ 40 by decide), up3_k _ (show (49 : Nat) ≠ 40 by decide), up3_k _ (show (50 : Nat) ≠ 40 by decide), up3_k _ (show (51 : Nat) ≠ 40 by decide), up3_k _ (show (52 : Nat) ≠ 40 by decide), up3_k _ (show (53 : Nat) ≠ 40 by decide), sA_s, sA_n _ _ (show (40 : Nat) ≠ 44 by decide), sA_n _ _ (show (40 : Nat) ≠ 49 by decide), sA_n _ _ (show (40 : Nat) ≠ 50 by decide), sA_n _ _ (show (40 : Nat) ≠ 51 by decide), sA_n _ _ (show (40 : Nat) ≠ 52 by decide), sA_n _ _ (show (41 : Nat) ≠ 44 by decide), sA_n _ _ (show (41 : Nat) ≠ 49 by decide), sA_n _ _ (show (41 : Nat) ≠ 50 by decide), sA_n _ _ (show (41 : Nat) ≠ 51 by decide), sA_n _ _ (show (41 : Nat) ≠ 52 by decide), sA_n _ _ (show (43 : Nat) ≠ 44 by decide), sA_n _ _ (show (43 : Nat) ≠ 49 by decide), sA_n _ _ (show (43 : Nat) ≠ 50 by decide), sA_n _ _ (show (43 : Nat) ≠ 51 by decide), sA_n _ _ (show (43 : Nat) ≠ 52 by decide), sA_n _ _ (show (44 : Nat) ≠ 49 by decide), sA_n _ _ (show (44 : Nat) ≠ 50 by decide), sA_n _ _ (show (44 : Nat) ≠ 51 by decide), sA_n _ _ (show (44 : Nat) ≠ 52 by decide), sA_n _ _ (show (49 : Nat) ≠ 44 by decide), sA_n _ _ (show (49 : Nat) ≠ 50 by decide), sA_n _ _ (show (49 : Nat) ≠ 51 by decide), sA_n _ _ (show (49 : Nat) ≠ 52 by decide), sA_n _ _ (show (50 : Nat) ≠ 44 by decide), sA_n _ _ (show (50 : Nat) ≠ 49 by decide), sA_n _ _ (show (50 : Nat) ≠ 51 by decide), sA_n _ _ (show (50 : Nat) ≠ 52 by decide), sA_n _ _ (show (51 : Nat) ≠ 44 by decide), sA_n _ _ (show (51 : Nat) ≠ 49 by decide), sA_n _ _ (show (51 : Nat) ≠ 50 by decide), sA_n _ _ (show (51 : Nat) ≠ 52 by decide), sA_n _ _ (show (52 : Nat) ≠ 44 by decide), sA_n _ _ (show (52 : Nat) ≠ 49 by decide), sA_n _ _ (show (52 : Nat) ≠ 50 by decide), sA_n _ _ (show (52 : Nat) ≠ 51 by decide), sA_n _ _ (show (53 : Nat) ≠ 44 by decide), sA_n _ _ (show (53 : Nat) ≠ 49 by decide), sA_n _ _ (show (53 : Nat) ≠ 50 by decide), sA_n _ _ (show (53 : Nat) ≠ 51 by decide), sA_n _ _ (show (53 : Nat) ≠ 52 by decide), up3_sA _ (show (40 : Nat) ≠ 44 by decide), up3_sA _ (show (40 : Nat) ≠ 49 by decide), up3_sA _ (show (40 : Nat) ≠ 50 by decide), up3_sA _ (show (40 : Nat) ≠ 51 by decide), up3_sA _ (show (40 : Nat) ≠ 52 by decide), sA_44_49, sA_44_50, sA_49_50, sA_44_51, sA_49_51, sA_50_51, sA_44_52, sA_sA, up3_up3]; repeat (first | exact rQ_t _ _ | apply rQ.up26 | apply rQ.s49 | apply rQ.s50 | refine rQ.s44 ?_ rfl)), (by unfold qState; first | rw [if_pos h60] | (rw [if_neg h60]; simp only [up3_k _ (show (44 : Nat) ≠ 40 by decide), up3_k _ (show (41 : Nat) ≠ 40 by decide), up3_k _ (show (43 : Nat) ≠ 40 by decide), up3_k _ (show (49 : Nat) ≠ 40 by decide), up3_k _ (show (50 : Nat) ≠ 40 by decide), up3_k _ (show (51 : Nat) ≠ 40 by decide), up3_k _ (show (52 : Nat) ≠ 40 by decide), up3_k _ (show (53 : Nat) ≠ 40 by decide), sA_s, sA_n _ _ (show (40 : Nat) ≠ 44 by decide), sA_n _ _ (show (40 : Nat) ≠ 49 by decide), sA_n _ _ (show (40 : Nat) ≠ 50 by decide), sA_n _ _ (show (40 : Nat) ≠ 51 by decide), sA_n _ _ (show (40 : Nat) ≠ 52 by decide), sA_n _ _ (show (41 : Nat) ≠ 44 by decide), sA_n _ _ (show (41 : Nat) ≠ 49 by decide), sA_n _ _ (show (41 : Nat) ≠ 50 by decide), sA_n _ _ (show (41 : Nat) ≠ 51 by decide), sA_n _ _ (show (41 : Nat) ≠ 52 by decide), sA_n _ _ (show (43 : Nat) ≠ 44 by decide), sA_n _ _ (show (43 : Nat) ≠ 49 by decide), sA_n _ _ (show (43 : Nat) ≠ 50 by decide), sA_n _ _ (show (43 : Nat) ≠ 51 by decide), sA_n _ _ (show (43 : Nat) ≠ 52 by decide), sA_n _ _ (show (44 : Nat) ≠ 49 by decide), sA_n _ _ (show (44 : Nat) ≠ 50 by decide), sA_n _ _ (show (44 : Nat) ≠ 51 by decide), sA_n _ _ (show (44 : Nat) ≠ 52 by decide), sA_n _ _ (show (49 : Nat) ≠ 44 by decide), sA_n _ _ (show (49 : Nat) ≠ 50 by decide), sA_n _ _ (show (49 : Nat) ≠ 51 by decide), sA_n _ _ (show (49 : Nat) ≠ 52 by decide), sA_n _ _ (show (50 : Nat) ≠ 44 by decide), sA_n _ _ (show (50 : Nat) ≠ 49 by decide), sA_n _ _ (show (50 : Nat) ≠ 51 by decide), sA_n _ _ (show (50 : Nat) ≠ 52 by decide), sA_n _ _ (show (51 : Nat) ≠ 44 by decide), sA_n _ _ (show (51 : Nat) ≠ 49 by decide), sA_n _ _ (show (51 : Nat) ≠ 50 by decide), sA_n _ _ (show (51 : Nat) ≠ 52 by decide), sA_n _ _ (show (52 : Nat) ≠ 44 by decide), sA_n _ _ (show (52 : Nat) ≠ 49 by decide), sA_n _ _ (show (52 : Nat) ≠ 50 by decide), sA_n _ _ (show (52 : Nat) ≠ 51 by decide), sA_n _ _ (show (53 : Nat) ≠ 44 by decide), sA_n _ _ (show (53 : Nat) ≠ 49 by decide), sA_n _ _ (show (53 : Nat) ≠ 50 by decide), sA_n _ _ (show (53 : Nat) ≠ 51 by decide), sA_n _ _ (show (53 : Nat) ≠ 52 by decide), up3_sA _ (show (40 : Nat) ≠ 44 by decide), up3_sA _ (show (40 : Nat) ≠ 49 by decide), up3_sA _ (show (40 : Nat) ≠ 50 by decide), up3_sA _ (show (40 : Nat) ≠ 51 by decide), up3_sA _ (show (40 : Nat) ≠ 52 by decide), sA_44_49, sA_44_50, sA_49_50, sA_44_51, sA_49_51, sA_50_51, sA_44_52, sA_sA, up3_up3]; done)), rfl, rfl⟩)

set_option maxHeartbeats 4000000 in
set_option maxRecDepth 100000 in
theorem c_X9_stateAfter_1 {l : Launch} {G : mG} {ad : mA} {S : mS} {L : mL} {R : mR} {n : Nat} {x y : Int32} (hR : mlk R) (hn : S 40 0 1 = nI n) (hn10 : n ≤ 10) (hx : ¬ isP n x) : Ki l yX9_stateAfter cX9_stateAfter 5 .int rm_X9_stateAfter G ad mdm [.ref (ad 40 0), .int x, .int y] S L R (fun r_ S2 L2 R2 => rQ S S2 1 ∧ L = L2 ∧ R = R2) := by
  refine Ki.of RX9 (by decide) rfl (Nat.le_of_ble_eq_true rfl) ?_
  intro X hXl hXG C ret
  subst hXl; subst hXG
  change Z X 5 ad mdm S L R 0 0 0 [(0, _), (1, _), (2, _)] []
  refine z_aload_n C 0 0 0 dX9_stateAfter_0 rfl rfl ?_
  refine z_iload_n C 1 1 1 dX9_stateAfter_1 rfl rfl ?_
  refine z_cVi0 C 2 dX9_stateAfter_2 cv_X9_291 (c_X9_noProgram_1 hR hn hn10 hx) rfl ⟨by decide, rfl⟩ (by first | assumption | exact Nat.zero_lt_one | omega) rfl rfl (Nat.le_of_ble_eq_true rfl) ⟨by decide, by decide⟩ ⟨rfl, rfl⟩ ⟨by decide, by decide⟩ ?_
  intro r2 S2 L2 R2 p2
  obtain ⟨rfl, rfl, rfl, rfl⟩ := p2
  first | with_reducible refine z_if_neB C 5 20 dX9_stateAfter_5 (by decide) (fun h5 => ?_) (fun h5 => by omega) | with_reducible refine z_if_neN C 5 20 dX9_stateAfter_5 (by decide) (by omega) (fun h5 => ?_) (fun h5 => by omega) | refine z_if_ne C 5 20 dX9_stateAfter_5 (by decide) (fun h5 => ?_) (fun h5 => by omega)
  · refine z_iconst (v := nI 0) C 20 dX9_stateAfter_20 (by decide) ?_
    exact ret 21 _ _ _ _ _ dX9_stateAfter_21 (by first | rfl | exact bI_n | decide) (⟨(by first | exact rQ_t _ _ | (simp only [up3_up3]; exact rQ_t _ _)), rfl, rfl⟩)

set_option maxHeartbeats 4000000 in
set_option maxRecDepth 100000 in
theorem c_X9_stateAfter_2 {l : Launch} {G : mG} {ad : mA} {S : mS} {L : mL} {R : mR} {n p : Nat} {x : Int32} (hR : mlk R) (hn : S 40 0 1 = nI n) (hn10 : n ≤ 10) (hp : p < n) (hx : ¬ isP n x) : Ki l yX9_stateAfter cX9_stateAfter 5 .int rm_X9_stateAfter G ad mdm [.ref (ad 40 0), .int (nI p), .int x] S L R (fun r_ S2 L2 R2 => rQ S S2 1 ∧ L = L2 ∧ R = R2) := by
  refine Ki.of RX9 (by decide) rfl (Nat.le_of_ble_eq_true rfl) ?_
  intro X hXl hXG C ret
  subst hXl; subst hXG
  change Z X 5 ad mdm S L R 0 0 0 [(0, _), (1, _), (2, _)] []
  refine z_aload_n C 0 0 0 dX9_stateAfter_0 rfl rfl ?_
  refine z_iload_n C 1 1 1 dX9_stateAfter_1 rfl rfl ?_
  refine z_cVi0 C 2 dX9_stateAfter_2 cv_X9_291 (c_X9_noProgram hR hn hn10 (by assumption)) rfl ⟨by decide, rfl⟩ (by first | assumption | exact Nat.zero_lt_one | omega) rfl rfl (Nat.le_of_ble_eq_true rfl) ⟨by decide, by decide⟩ ⟨rfl, rfl⟩ ⟨by decide, by decide⟩ ?_
  intro r2 S2 L2 R2 p2
  obtain ⟨rfl, rfl, rfl, rfl⟩ := p2
  first | with_reducible refine z_if_neB C 5 20 dX9_stateAfter_5 (by decide) (fun h5 => by omega) (fun h5 => ?_) | with_reducible refine z_if_neN C 5 20 dX9_stateAfter_5 (by decide) (by omega) (fun h5 => by omega) (fun h5 => ?_) | refine z_if_ne C 5 20 dX9_stateAfter_5 (by decide) (fun h5 => by omega) (fun h5 => ?_)
  · refine z_aload_n C 8 0 0 dX9_stateAfter_8 rfl rfl ?_
    refine z_iload_n C 9 2 2 dX9_stateAfter_9 rfl rfl ?_
    refine z_aload_n C 10 0 0 dX9_stateAfter_10 rfl rfl ?_
    refine z_getiv C 11 dX9_stateAfter_11 gf_X9_197 rfl (by first | assumption | exact Nat.zero_lt_one | omega) hn ?_
    refine z_cVi0 C 14 dX9_stateAfter_14 cv_X9_288 (c_X9_no_1 hR (by rfl) hx hn10) rfl ⟨by decide, rfl⟩ (by first | assumption | exact Nat.zero_lt_one | omega) rfl rfl (Nat.le_of_ble_eq_true rfl) ⟨by decide, by decide⟩ ⟨rfl, rfl⟩ ⟨by decide, by decide⟩ ?_
    intro r14 S14 L14 R14 p14
    obtain ⟨rfl, rfl, rfl, rfl⟩ := p14
    first | with_reducible refine z_if_eqB C 17 22 dX9_stateAfter_17 (by decide) (fun h17 => by omega) (fun h17 => ?_) | with_reducible refine z_if_eqN C 17 22 dX9_stateAfter_17 (by decide) (by omega) (fun h17 => by omega) (fun h17 => ?_) | refine z_if_eq C 17 22 dX9_stateAfter_17 (by decide) (fun h17 => by omega) (fun h17 => ?_)
    · refine z_iconst (v := nI 0) C 20 dX9_stateAfter_20 (by decide) ?_
      exact ret 21 _ _ _ _ _ dX9_stateAfter_21 (by first | rfl | exact bI_n | decide) (⟨(by first | exact rQ_t _ _ | (simp only [up3_up3]; exact rQ_t _ _)), rfl, rfl⟩)
def rm_X9_waitsFor : Room := { frames := 9, cells := 0, slots := 0, locals := 203 }
set_option maxHeartbeats 4000000 in
set_option maxRecDepth 100000 in
theorem c_X9_waitsFor {l : Launch} {G : mG} {ad : mA} {S : mS} {L : mL} {R : mR} {n a b d pol : Nat} (hR : mlk R) (hn : S 40 0 1 = nI n) (hn10 : n ≤ 10) (hI : rI (S 44 0) n) (ha : a < n) (hb : b < n) (hd : d < n) (hpol : pol ≤ 2) : Ki l yX9_waitsFor cX9_waitsFor 6 .int rm_X9_waitsFor G ad mdm [.ref (ad 40 0), .int (nI pol), .int (nI a), .int (nI b), .int (nI d)] S L R (fun r_ S2 L2 R2 => rQ S S2 0 ∧ r_ = qWaits (S 44 0) (S 41 0) (S 43 0) n (nI pol) a b d ∧ L = L2 ∧ R = R2) := by
  refine Ki.of RX9 (by decide) rfl (Nat.le_of_ble_eq_true rfl) ?_
  intro X hXl hXG C ret
  subst hXl; subst hXG
  change Z X 6 ad mdm S L R 0 0 0 [(0, _), (1, _), (2, _), (3, _), (4, _)] []
  have hI0 : rI (upd (S 44 0) 4 (nI pol)) n := hI.updx (Or.inr (Or.inr (Or.inl rfl)))
  have hI1 : rI (fShowR (upd (S 44 0) 4 (nI pol)) (S 41 0) (S 43 0) n a).2.2 n := hI0.showR hn10 ha
  have hI2 : rI (fShowR (fShowR (upd (S 44 0) 4 (nI pol)) (S 41 0) (S 43 0) n a).2.2 (S 41 0) (S 43 0) n b).2.2 n := hI1.showR hn10 hb
  refine z_aload_n C 0 0 0 dX9_waitsFor_0 rfl rfl ?_
  refine z_iload_n C 1 2 2 dX9_waitsFor_1 rfl rfl ?_
  refine z_cVi0 C 2 dX9_waitsFor_2 cv_X9_291 (c_X9_noProgram hR hn hn10 (by assumption)) rfl ⟨by decide, rfl⟩ (by first | assumption | exact Nat.zero_lt_one | omega) rfl rfl (Nat.le_of_ble_eq_true rfl) ⟨by decide, by decide⟩ ⟨rfl, rfl⟩ ⟨by decide, by decide⟩ ?_
  intro r2 S2 L2 R2 p2
  obtain ⟨rfl, rfl, rfl, rfl⟩ := p2
  first | with_reducible refine z_if_neB C 5 55 dX9_waitsFor_5 (by decide) (fun h5 => by omega) (fun h5 => ?_) | with_reducible refine z_if_neN C 5 55 dX9_waitsFor_5 (by decide) (by omega) (fun h5 => by omega) (fun h5 => ?_) | refine z_if_ne C 5 55 dX9_waitsFor_5 (by decide) (fun h5 => by omega) (fun h5 => ?_)
  · refine z_aload_n C 8 0 0 dX9_waitsFor_8 rfl rfl ?_
    refine z_iload_n C 9 3 3 dX9_waitsFor_9 rfl rfl ?_
    refine z_aload_n C 10 0 0 dX9_waitsFor_10 rfl rfl ?_
    refine z_getiv C 11 dX9_waitsFor_11 gf_X9_197 rfl (by first | assumption | exact Nat.zero_lt_one | omega) hn ?_
    refine z_cVi0 C 14 dX9_waitsFor_14 cv_X9_288 (c_X9_no_0 hR (by rfl) (by assumption) hn10) rfl ⟨by decide, rfl⟩ (by first | assumption | exact Nat.zero_lt_one | omega) rfl rfl (Nat.le_of_ble_eq_true rfl) ⟨by decide, by decide⟩ ⟨rfl, rfl⟩ ⟨by decide, by decide⟩ ?_
    intro r14 S14 L14 R14 p14
    obtain ⟨rfl, rfl, rfl, rfl⟩ := p14
    first | with_reducible refine z_if_neB C 17 55 dX9_waitsFor_17 (by decide) (fun h17 => by omega) (fun h17 => ?_) | with_reducible refine z_if_neN C 17 55 dX9_waitsFor_17 (by decide) (by omega) (fun h17 => by omega) (fun h17 => ?_) | refine z_if_ne C 17 55 dX9_waitsFor_17 (by decide) (fun h17 => by omega) (fun h17 => ?_)
    · refine z_aload_n C 20 0 0 dX9_waitsFor_20 rfl rfl ?_
      refine z_iload C 21 4 4 dX9_waitsFor_21 rfl ?_
      refine z_aload_n C 23 0 0 dX9_waitsFor_23 rfl rfl ?_
      refine z_getiv C 24 dX9_waitsFor_24 gf_X9_197 rfl (by first | assumption | exact Nat.zero_lt_one | omega) hn ?_
      refine z_cVi0 C 27 dX9_waitsFor_27 cv_X9_288 (c_X9_no_0 hR (by rfl) (by assumption) hn10) rfl ⟨by decide, rfl⟩ (by first | assumption | exact Nat.zero_lt_one | omega) rfl rfl (Nat.le_of_ble_eq_true rfl) ⟨by decide, by decide⟩ ⟨rfl, rfl⟩ ⟨by decide, by decide⟩ ?_
      intro r27 S27 L27 R27 p27
      obtain ⟨rfl, rfl, rfl, rfl⟩ := p27
      first | with_reducible refine z_if_neB C 30 55 dX9_waitsFor_30 (by decide) (fun h30 => by omega) (fun h30 => ?_) | with_reducible refine z_if_neN C 30 55 dX9_waitsFor_30 (by decide) (by omega) (fun h30 => by omega) (fun h30 => ?_) | refine z_if_ne C 30 55 dX9_waitsFor_30 (by decide) (fun h30 => by omega) (fun h30 => ?_)
      · refine z_aload_n C 33 0 0 dX9_waitsFor_33 rfl rfl ?_
        refine z_iload_n C 34 1 1 dX9_waitsFor_34 rfl rfl ?_
        refine z_iconst (v := nI 0) C 35 dX9_waitsFor_35 (by decide) ?_
        refine z_iconst (v := nI 2) C 36 dX9_waitsFor_36 (by decide) ?_
        refine z_cSi0 C 37 dX9_waitsFor_37 cs_X9_89 (c_X9_within_1 (by omega) (by omega) (by first | decide | omega)) rfl rfl (Nat.le_of_ble_eq_true rfl) ⟨by decide, by decide⟩ ⟨rfl, rfl⟩ ⟨by decide, by decide⟩ ?_
        intro r37 S37 L37 R37 p37
        obtain ⟨rfl, rfl, rfl, rfl⟩ := p37
        first | with_reducible refine z_if_neB C 40 47 dX9_waitsFor_40 (by decide) (fun h40 => ?_) (fun h40 => by omega) | with_reducible refine z_if_neN C 40 47 dX9_waitsFor_40 (by decide) (by omega) (fun h40 => ?_) (fun h40 => by omega) | refine z_if_ne C 40 47 dX9_waitsFor_40 (by decide) (fun h40 => ?_) (fun h40 => by omega)
        · refine z_iconst (v := nI 0) C 47 dX9_waitsFor_47 (by decide) ?_
          refine z_iconst (v := nI 2) C 48 dX9_waitsFor_48 (by decide) ?_
          refine z_cVi0 C 49 dX9_waitsFor_49 cv_X9_185 (c_X9_throwsIf_0 hR (by first | assumption | rfl)) rfl ⟨by decide, rfl⟩ (by first | assumption | exact Nat.zero_lt_one | omega) rfl rfl (Nat.le_of_ble_eq_true rfl) ⟨by decide, by decide⟩ ⟨rfl, rfl⟩ ⟨by decide, by decide⟩ ?_
          intro r49 S49 L49 R49 p49
          obtain ⟨rfl, rfl, rfl, rfl⟩ := p49
          first | with_reducible refine z_if_eqB C 52 57 dX9_waitsFor_52 (by decide) (fun h52 => ?_) (fun h52 => by omega) | with_reducible refine z_if_eqN C 52 57 dX9_waitsFor_52 (by decide) (by omega) (fun h52 => ?_) (fun h52 => by omega) | refine z_if_eq C 52 57 dX9_waitsFor_52 (by decide) (fun h52 => ?_) (fun h52 => by omega)
          · refine z_aload_n C 57 0 0 dX9_waitsFor_57 rfl rfl ?_
            refine z_getr C 58 dX9_waitsFor_58 gf_X9_20 rfl (by first | assumption | exact Nat.zero_lt_one | omega) (by first | exact hR _ _ _ _ rfl | assumption) ?_
            refine z_aload_n C 61 0 0 dX9_waitsFor_61 rfl rfl ?_
            refine z_getr C 62 dX9_waitsFor_62 gf_X9_43 rfl (by first | assumption | exact Nat.zero_lt_one | omega) (by first | exact hR _ _ _ _ rfl | assumption) ?_
            refine z_cSv0 C 65 dX9_waitsFor_65 cs_X9_269 (c_X9_puts (by rfl) (by rfl) (by first | assumption | exact Nat.zero_lt_one | omega) (by first | assumption | exact Nat.zero_lt_one | omega) (by decide)) rfl rfl (Nat.le_of_ble_eq_true rfl) ⟨by decide, by decide⟩ ⟨rfl, rfl⟩ ⟨by decide, by decide⟩ ?_
            intro S65 L65 R65 p65
            obtain ⟨rfl, rfl, rfl⟩ := p65
            refine z_aload_n C 68 0 0 dX9_waitsFor_68 rfl rfl ?_
            refine z_getr C 69 dX9_waitsFor_69 gf_X9_20 rfl (by first | assumption | exact Nat.zero_lt_one | omega) (by first | exact hR _ _ _ _ rfl | assumption) ?_
            refine z_iconst (v := nI 4) C 72 dX9_waitsFor_72 (by decide) ?_
            refine z_iload_n C 73 1 1 dX9_waitsFor_73 rfl rfl ?_
            refine z_iast C 74 dX9_waitsFor_74 (by first | rfl | assumption) (by first | assumption | exact Nat.zero_lt_one | omega)  (by first | rfl | assumption) (by first | decide | omega) (by first | assumption | omega) ?_
            rw [sA_up]
            refine z_mem (sA (sA (up3 S 40 0 0 (nI 0)) 50 (S 44 0)) 44 (upd (S 44 0) 4 (nI pol))) (by rfl) ?_
            refine z_aload_n C 75 0 0 dX9_waitsFor_75 rfl rfl ?_
            refine z_iload_n C 76 2 2 dX9_waitsFor_76 rfl rfl ?_
            refine z_cVi0 C 77 dX9_waitsFor_77 cv_X9_303 (c_X9_waitedFor (n := n) hR hn hn10 hI0 ha) rfl ⟨by decide, rfl⟩ (by first | assumption | exact Nat.zero_lt_one | omega) rfl rfl (Nat.le_of_ble_eq_true rfl) ⟨by decide, by decide⟩ ⟨rfl, rfl⟩ ⟨by decide, by decide⟩ ?_
            intro r77 S77 L77 R77 p77
            obtain ⟨rfl, ⟨w4, K4, rfl⟩, rfl, rfl⟩ := p77
            refine z_mem (sA (sA (sA (up3 (up3 S 40 0 0 (nI 0)) 40 0 26 w4) 50 (S 44 0)) 49 K4) 44 (fShowR (upd (S 44 0) 4 (nI pol)) (S 41 0) (S 43 0) n a).2.2) (by simp only [up3_k _ (show (44 : Nat) ≠ 40 by decide), up3_k _ (show (41 : Nat) ≠ 40 by decide), up3_k _ (show (43 : Nat) ≠ 40 by decide), up3_k _ (show (49 : Nat) ≠ 40 by decide), up3_k _ (show (50 : Nat) ≠ 40 by decide), up3_k _ (show (51 : Nat) ≠ 40 by decide), up3_k _ (show (52 : Nat) ≠ 40 by decide), up3_k _ (show (53 : Nat) ≠ 40 by decide), sA_s, sA_n _ _ (show (40 : Nat) ≠ 44 by decide), sA_n _ _ (show (40 : Nat) ≠ 49 by decide), sA_n _ _ (show (40 : Nat) ≠ 50 by decide), sA_n _ _ (show (40 : Nat) ≠ 51 by decide), sA_n _ _ (show (40 : Nat) ≠ 52 by decide), sA_n _ _ (show (41 : Nat) ≠ 44 by decide), sA_n _ _ (show (41 : Nat) ≠ 49 by decide), sA_n _ _ (show (41 : Nat) ≠ 50 by decide), sA_n _ _ (show (41 : Nat) ≠ 51 by decide), sA_n _ _ (show (41 : Nat) ≠ 52 by decide), sA_n _ _ (show (43 : Nat) ≠ 44 by decide), sA_n _ _ (show (43 : Nat) ≠ 49 by decide), sA_n _ _ (show (43 : Nat) ≠ 50 by decide), sA_n _ _ (show (43 : Nat) ≠ 51 by decide), sA_n _ _ (show (43 : Nat) ≠ 52 by decide), sA_n _ _ (show (44 : Nat) ≠ 49 by decide), sA_n _ _ (show (44 : Nat) ≠ 50 by decide), sA_n _ _ (show (44 : Nat) ≠ 51 by decide), sA_n _ _ (show (44 : Nat) ≠ 52 by decide), sA_n _ _ (show (49 : Nat) ≠ 44 by decide), sA_n _ _ (show (49 : Nat) ≠ 50 by decide), sA_n _ _ (show (49 : Nat) ≠ 51 by decide), sA_n _ _ (show (49 : Nat) ≠ 52 by decide), sA_n _ _ (show (50 : Nat) ≠ 44 by decide), sA_n _ _ (show (50 : Nat) ≠ 49 by decide), sA_n _ _ (show (50 : Nat) ≠ 51 by decide), sA_n _ _ (show (50 : Nat) ≠ 52 by decide), sA_n _ _ (show (51 : Nat) ≠ 44 by decide), sA_n _ _ (show (51 : Nat) ≠ 49 by decide), sA_n _ _ (show (51 : Nat) ≠ 50 by decide), sA_n _ _ (show (51 : Nat) ≠ 52 by decide), sA_n _ _ (show (52 : Nat) ≠ 44 by decide), sA_n _ _ (show (52 : Nat) ≠ 49 by decide), sA_n _ _ (show (52 : Nat) ≠ 50 by decide), sA_n _ _ (show (52 : Nat) ≠ 51 by decide), sA_n _ _ (show (53 : Nat) ≠ 44 by decide), sA_n _ _ (show (53 : Nat) ≠ 49 by decide), sA_n _ _ (show (53 : Nat) ≠ 50 by decide), sA_n _ _ (show (53 : Nat) ≠ 51 by decide), sA_n _ _ (show (53 : Nat) ≠ 52 by decide), up3_sA _ (show (40 : Nat) ≠ 44 by decide), up3_sA _ (show (40 : Nat) ≠ 49 by decide), up3_sA _ (show (40 : Nat) ≠ 50 by decide), up3_sA _ (show (40 : Nat) ≠ 51 by decide), up3_sA _ (show (40 : Nat) ≠ 52 by decide), sA_44_49, sA_44_50, sA_49_50, sA_44_51, sA_49_51, sA_50_51, sA_44_52, sA_sA, up3_up3]; try rfl) ?_
            refine z_istore C 80 5 [(5, _), (0, _), (1, _), (2, _), (3, _), (4, _)] dX9_waitsFor_80 (by decide) rfl ?_
            refine z_iload C 82 5 0 dX9_waitsFor_82 rfl ?_
            refine z_aload_n C 84 0 1 dX9_waitsFor_84 rfl rfl ?_
            refine z_iload_n C 85 3 4 dX9_waitsFor_85 rfl rfl ?_
            refine z_cVi0 C 86 dX9_waitsFor_86 cv_X9_303 (c_X9_waitedFor (n := n) hR hn hn10 hI1 hb) rfl ⟨by decide, rfl⟩ (by first | assumption | exact Nat.zero_lt_one | omega) rfl rfl (Nat.le_of_ble_eq_true rfl) ⟨by decide, by decide⟩ ⟨rfl, rfl⟩ ⟨by decide, by decide⟩ ?_
            intro r86 S86 L86 R86 p86
            obtain ⟨rfl, ⟨w4, K4, rfl⟩, rfl, rfl⟩ := p86
            refine z_mem (sA (sA (sA (up3 (up3 S 40 0 0 (nI 0)) 40 0 26 w4) 50 (S 44 0)) 49 K4) 44 (fShowR (fShowR (upd (S 44 0) 4 (nI pol)) (S 41 0) (S 43 0) n a).2.2 (S 41 0) (S 43 0) n b).2.2) (by simp only [up3_k _ (show (44 : Nat) ≠ 40 by decide), up3_k _ (show (41 : Nat) ≠ 40 by decide), up3_k _ (show (43 : Nat) ≠ 40 by decide), up3_k _ (show (49 : Nat) ≠ 40 by decide), up3_k _ (show (50 : Nat) ≠ 40 by decide), up3_k _ (show (51 : Nat) ≠ 40 by decide), up3_k _ (show (52 : Nat) ≠ 40 by decide), up3_k _ (show (53 : Nat) ≠ 40 by decide), sA_s, sA_n _ _ (show (40 : Nat) ≠ 44 by decide), sA_n _ _ (show (40 : Nat) ≠ 49 by decide), sA_n _ _ (show (40 : Nat) ≠ 50 by decide), sA_n _ _ (show (40 : Nat) ≠ 51 by decide), sA_n _ _ (show (40 : Nat) ≠ 52 by decide), sA_n _ _ (show (41 : Nat) ≠ 44 by decide), sA_n _ _ (show (41 : Nat) ≠ 49 by decide), sA_n _ _ (show (41 : Nat) ≠ 50 by decide), sA_n _ _ (show (41 : Nat) ≠ 51 by decide), sA_n _ _ (show (41 : Nat) ≠ 52 by decide), sA_n _ _ (show (43 : Nat) ≠ 44 by decide), sA_n _ _ (show (43 : Nat) ≠ 49 by decide), sA_n _ _ (show (43 : Nat) ≠ 50 by decide), sA_n _ _ (show (43 : Nat) ≠ 51 by decide), sA_n _ _ (show (43 : Nat) ≠ 52 by decide), sA_n _ _ (show (44 : Nat) ≠ 49 by decide), sA_n _ _ (show (44 : Nat) ≠ 50 by decide), sA_n _ _ (show (44 : Nat) ≠ 51 by decide), sA_n _ _ (show (44 : Nat) ≠ 52 by decide), sA_n _ _ (show (49 : Nat) ≠ 44 by decide), sA_n _ _ (show (49 : Nat) ≠ 50 by decide), sA_n _ _ (show (49 : Nat) ≠ 51 by decide), sA_n _ _ (show (49 : Nat) ≠ 52 by decide), sA_n _ _ (show (50 : Nat) ≠ 44 by decide), sA_n _ _ (show (50 : Nat) ≠ 49 by decide), sA_n _ _ (show (50 : Nat) ≠ 51 by decide), sA_n _ _ (show (50 : Nat) ≠ 52 by decide), sA_n _ _ (show (51 : Nat) ≠ 44 by decide), sA_n _ _ (show (51 : Nat) ≠ 49 by decide), sA_n _ _ (show (51 : Nat) ≠ 50 by decide), sA_n _ _ (show (51 : Nat) ≠ 52 by decide), sA_n _ _ (show (52 : Nat) ≠ 44 by decide), sA_n _ _ (show (52 : Nat) ≠ 49 by decide), sA_n _ _ (show (52 : Nat) ≠ 50 by decide), sA_n _ _ (show (52 : Nat) ≠ 51 by decide), sA_n _ _ (show (53 : Nat) ≠ 44 by decide), sA_n _ _ (show (53 : Nat) ≠ 49 by decide), sA_n _ _ (show (53 : Nat) ≠ 50 by decide), sA_n _ _ (show (53 : Nat) ≠ 51 by decide), sA_n _ _ (show (53 : Nat) ≠ 52 by decide), up3_sA _ (show (40 : Nat) ≠ 44 by decide), up3_sA _ (show (40 : Nat) ≠ 49 by decide), up3_sA _ (show (40 : Nat) ≠ 50 by decide), up3_sA _ (show (40 : Nat) ≠ 51 by decide), up3_sA _ (show (40 : Nat) ≠ 52 by decide), sA_44_49, sA_44_50, sA_49_50, sA_44_51, sA_49_51, sA_50_51, sA_44_52, sA_sA, up3_up3]; try rfl) ?_
            first | with_reducible refine z_iaddN C 89 dX9_waitsFor_89 ?_ | refine z_iadd C 89 dX9_waitsFor_89 ?_
            refine z_istore C 90 5 [(5, _), (0, _), (1, _), (2, _), (3, _), (4, _)] dX9_waitsFor_90 (by decide) rfl ?_
            refine z_iload C 92 5 0 dX9_waitsFor_92 rfl ?_
            refine z_aload_n C 94 0 1 dX9_waitsFor_94 rfl rfl ?_
            refine z_iload C 95 4 5 dX9_waitsFor_95 rfl ?_
            refine z_cVi0 C 97 dX9_waitsFor_97 cv_X9_303 (c_X9_waitedFor (n := n) hR hn hn10 hI2 hd) rfl ⟨by decide, rfl⟩ (by first | assumption | exact Nat.zero_lt_one | omega) rfl rfl (Nat.le_of_ble_eq_true rfl) ⟨by decide, by decide⟩ ⟨rfl, rfl⟩ ⟨by decide, by decide⟩ ?_
            intro r97 S97 L97 R97 p97
            obtain ⟨rfl, ⟨w4, K4, rfl⟩, rfl, rfl⟩ := p97
            first | with_reducible refine z_iaddN C 100 dX9_waitsFor_100 ?_ | refine z_iadd C 100 dX9_waitsFor_100 ?_
            refine z_istore C 101 5 [(5, _), (0, _), (1, _), (2, _), (3, _), (4, _)] dX9_waitsFor_101 (by decide) rfl ?_
            refine z_aload_n C 103 0 1 dX9_waitsFor_103 rfl rfl ?_
            refine z_getr C 104 dX9_waitsFor_104 gf_X9_43 rfl (by first | assumption | exact Nat.zero_lt_one | omega) (by first | exact hR _ _ _ _ rfl | assumption) ?_
            refine z_aload_n C 107 0 1 dX9_waitsFor_107 rfl rfl ?_
            refine z_getr C 108 dX9_waitsFor_108 gf_X9_20 rfl (by first | assumption | exact Nat.zero_lt_one | omega) (by first | exact hR _ _ _ _ rfl | assumption) ?_
            refine z_cSv0 C 111 dX9_waitsFor_111 cs_X9_269 (c_X9_puts (by rfl) (by rfl) (by first | assumption | exact Nat.zero_lt_one | omega) (by first | assumption | exact Nat.zero_lt_one | omega) (by decide)) rfl rfl (Nat.le_of_ble_eq_true rfl) ⟨by decide, by decide⟩ ⟨rfl, rfl⟩ ⟨by decide, by decide⟩ ?_
            intro S111 L111 R111 p111
            obtain ⟨rfl, rfl, rfl⟩ := p111
            refine z_iload C 114 5 0 dX9_waitsFor_114 rfl ?_
            exact ret 116 _ _ _ _ _ dX9_waitsFor_116 (by first | rfl | exact bI_n | decide) (⟨(by simp only [up3_k _ (show (44 : Nat) ≠ 40 by decide), up3_k _ (show (41 : Nat) ≠ 40 by decide), up3_k _ (show (43 : Nat) ≠ 40 by decide), up3_k _ (show (49 : Nat) ≠ 40 by decide), up3_k _ (show (50 : Nat) ≠ 40 by decide), up3_k _ (show (51 : Nat) ≠ 40 by decide), up3_k _ (show (52 : Nat) ≠ 40 by decide), up3_k _ (show (53 : Nat) ≠ 40 by decide), sA_s, sA_n _ _ (show (40 : Nat) ≠ 44 by decide), sA_n _ _ (show (40 : Nat) ≠ 49 by decide), sA_n _ _ (show (40 : Nat) ≠ 50 by decide), sA_n _ _ (show (40 : Nat) ≠ 51 by decide), sA_n _ _ (show (40 : Nat) ≠ 52 by decide), sA_n _ _ (show (41 : Nat) ≠ 44 by decide), sA_n _ _ (show (41 : Nat) ≠ 49 by decide), sA_n _ _ (show (41 : Nat) ≠ 50 by decide), sA_n _ _ (show (41 : Nat) ≠ 51 by decide), sA_n _ _ (show (41 : Nat) ≠ 52 by decide), sA_n _ _ (show (43 : Nat) ≠ 44 by decide), sA_n _ _ (show (43 : Nat) ≠ 49 by decide), sA_n _ _ (show (43 : Nat) ≠ 50 by decide), sA_n _ _ (show (43 : Nat) ≠ 51 by decide), sA_n _ _ (show (43 : Nat) ≠ 52 by decide), sA_n _ _ (show (44 : Nat) ≠ 49 by decide), sA_n _ _ (show (44 : Nat) ≠ 50 by decide), sA_n _ _ (show (44 : Nat) ≠ 51 by decide), sA_n _ _ (show (44 : Nat) ≠ 52 by decide), sA_n _ _ (show (49 : Nat) ≠ 44 by decide), sA_n _ _ (show (49 : Nat) ≠ 50 by decide), sA_n _ _ (show (49 : Nat) ≠ 51 by decide), sA_n _ _ (show (49 : Nat) ≠ 52 by decide), sA_n _ _ (show (50 : Nat) ≠ 44 by decide), sA_n _ _ (show (50 : Nat) ≠ 49 by decide), sA_n _ _ (show (50 : Nat) ≠ 51 by decide), sA_n _ _ (show (50 : Nat) ≠ 52 by decide), sA_n _ _ (show (51 : Nat) ≠ 44 by decide), sA_n _ _ (show (51 : Nat) ≠ 49 by decide), sA_n _ _ (show (51 : Nat) ≠ 50 by decide), sA_n _ _ (show (51 : Nat) ≠ 52 by decide), sA_n _ _ (show (52 : Nat) ≠ 44 by decide), sA_n _ _ (show (52 : Nat) ≠ 49 by decide), sA_n _ _ (show (52 : Nat) ≠ 50 by decide), sA_n _ _ (show (52 : Nat) ≠ 51 by decide), sA_n _ _ (show (53 : Nat) ≠ 44 by decide), sA_n _ _ (show (53 : Nat) ≠ 49 by decide), sA_n _ _ (show (53 : Nat) ≠ 50 by decide), sA_n _ _ (show (53 : Nat) ≠ 51 by decide), sA_n _ _ (show (53 : Nat) ≠ 52 by decide), up3_sA _ (show (40 : Nat) ≠ 44 by decide), up3_sA _ (show (40 : Nat) ≠ 49 by decide), up3_sA _ (show (40 : Nat) ≠ 50 by decide), up3_sA _ (show (40 : Nat) ≠ 51 by decide), up3_sA _ (show (40 : Nat) ≠ 52 by decide), sA_44_49, sA_44_50, sA_49_50, sA_44_51, sA_49_51, sA_50_51, sA_44_52, sA_sA, up3_up3]; repeat (first | exact rQ_t _ _ | apply rQ.up26 | apply rQ.s49 | apply rQ.s50 | refine rQ.s44 ?_ rfl)), (by unfold qWaits; rfl), rfl, rfl⟩)

set_option maxHeartbeats 4000000 in
set_option maxRecDepth 100000 in
theorem c_X9_waitsFor_1 {l : Launch} {G : mG} {ad : mA} {S : mS} {L : mL} {R : mR} {n : Nat} {x y z w : Int32} (hR : mlk R) (hn : S 40 0 1 = nI n) (hn10 : n ≤ 10) (hx : ¬ isP n x) : Ki l yX9_waitsFor cX9_waitsFor 6 .int rm_X9_waitsFor G ad mdm [.ref (ad 40 0), .int y, .int x, .int z, .int w] S L R (fun r_ S2 L2 R2 => rQ S S2 1 ∧ L = L2 ∧ R = R2) := by
  refine Ki.of RX9 (by decide) rfl (Nat.le_of_ble_eq_true rfl) ?_
  intro X hXl hXG C ret
  subst hXl; subst hXG
  change Z X 6 ad mdm S L R 0 0 0 [(0, _), (1, _), (2, _), (3, _), (4, _)] []
  refine z_aload_n C 0 0 0 dX9_waitsFor_0 rfl rfl ?_
  refine z_iload_n C 1 2 2 dX9_waitsFor_1 rfl rfl ?_
  refine z_cVi0 C 2 dX9_waitsFor_2 cv_X9_291 (c_X9_noProgram_1 hR hn hn10 hx) rfl ⟨by decide, rfl⟩ (by first | assumption | exact Nat.zero_lt_one | omega) rfl rfl (Nat.le_of_ble_eq_true rfl) ⟨by decide, by decide⟩ ⟨rfl, rfl⟩ ⟨by decide, by decide⟩ ?_
  intro r2 S2 L2 R2 p2
  obtain ⟨rfl, rfl, rfl, rfl⟩ := p2
  first | with_reducible refine z_if_neB C 5 55 dX9_waitsFor_5 (by decide) (fun h5 => ?_) (fun h5 => by omega) | with_reducible refine z_if_neN C 5 55 dX9_waitsFor_5 (by decide) (by omega) (fun h5 => ?_) (fun h5 => by omega) | refine z_if_ne C 5 55 dX9_waitsFor_5 (by decide) (fun h5 => ?_) (fun h5 => by omega)
  · refine z_iconst (v := nI 0) C 55 dX9_waitsFor_55 (by decide) ?_
    exact ret 56 _ _ _ _ _ dX9_waitsFor_56 (by first | rfl | exact bI_n | decide) (⟨(by first | exact rQ_t _ _ | (simp only [up3_up3]; exact rQ_t _ _)), rfl, rfl⟩)

set_option maxHeartbeats 4000000 in
set_option maxRecDepth 100000 in
theorem c_X9_waitsFor_2 {l : Launch} {G : mG} {ad : mA} {S : mS} {L : mL} {R : mR} {n p : Nat} {x y w : Int32} (hR : mlk R) (hn : S 40 0 1 = nI n) (hn10 : n ≤ 10) (hp : p < n) (hx : ¬ isP n x) : Ki l yX9_waitsFor cX9_waitsFor 6 .int rm_X9_waitsFor G ad mdm [.ref (ad 40 0), .int y, .int (nI p), .int x, .int w] S L R (fun r_ S2 L2 R2 => rQ S S2 1 ∧ L = L2 ∧ R = R2) := by
  refine Ki.of RX9 (by decide) rfl (Nat.le_of_ble_eq_true rfl) ?_
  intro X hXl hXG C ret
  subst hXl; subst hXG
  change Z X 6 ad mdm S L R 0 0 0 [(0, _), (1, _), (2, _), (3, _), (4, _)] []
  refine z_aload_n C 0 0 0 dX9_waitsFor_0 rfl rfl ?_
  refine z_iload_n C 1 2 2 dX9_waitsFor_1 rfl rfl ?_
  refine z_cVi0 C 2 dX9_waitsFor_2 cv_X9_291 (c_X9_noProgram hR hn hn10 (by assumption)) rfl ⟨by decide, rfl⟩ (by first | assumption | exact Nat.zero_lt_one | omega) rfl rfl (Nat.le_of_ble_eq_true rfl) ⟨by decide, by decide⟩ ⟨rfl, rfl⟩ ⟨by decide, by decide⟩ ?_
  intro r2 S2 L2 R2 p2
  obtain ⟨rfl, rfl, rfl, rfl⟩ := p2
  first | with_reducible refine z_if_neB C 5 55 dX9_waitsFor_5 (by decide) (fun h5 => by omega) (fun h5 => ?_) | with_reducible refine z_if_neN C 5 55 dX9_waitsFor_5 (by decide) (by omega) (fun h5 => by omega) (fun h5 => ?_) | refine z_if_ne C 5 55 dX9_waitsFor_5 (by decide) (fun h5 => by omega) (fun h5 => ?_)
  · refine z_aload_n C 8 0 0 dX9_waitsFor_8 rfl rfl ?_
    refine z_iload_n C 9 3 3 dX9_waitsFor_9 rfl rfl ?_
    refine z_aload_n C 10 0 0 dX9_waitsFor_10 rfl rfl ?_
    refine z_getiv C 11 dX9_waitsFor_11 gf_X9_197 rfl (by first | assumption | exact Nat.zero_lt_one | omega) hn ?_
    refine z_cVi0 C 14 dX9_waitsFor_14 cv_X9_288 (c_X9_no_1 hR (by rfl) hx hn10) rfl ⟨by decide, rfl⟩ (by first | assumption | exact Nat.zero_lt_one | omega) rfl rfl (Nat.le_of_ble_eq_true rfl) ⟨by decide, by decide⟩ ⟨rfl, rfl⟩ ⟨by decide, by decide⟩ ?_
    intro r14 S14 L14 R14 p14
    obtain ⟨rfl, rfl, rfl, rfl⟩ := p14
    first | with_reducible refine z_if_neB C 17 55 dX9_waitsFor_17 (by decide) (fun h17 => ?_) (fun h17 => by omega) | with_reducible refine z_if_neN C 17 55 dX9_waitsFor_17 (by decide) (by omega) (fun h17 => ?_) (fun h17 => by omega) | refine z_if_ne C 17 55 dX9_waitsFor_17 (by decide) (fun h17 => ?_) (fun h17 => by omega)
    · refine z_iconst (v := nI 0) C 55 dX9_waitsFor_55 (by decide) ?_
      exact ret 56 _ _ _ _ _ dX9_waitsFor_56 (by first | rfl | exact bI_n | decide) (⟨(by first | exact rQ_t _ _ | (simp only [up3_up3]; exact rQ_t _ _)), rfl, rfl⟩)

set_option maxHeartbeats 4000000 in
set_option maxRecDepth 100000 in
theorem c_X9_waitsFor_3 {l : Launch} {G : mG} {ad : mA} {S : mS} {L : mL} {R : mR} {n p q : Nat} {x y : Int32} (hR : mlk R) (hn : S 40 0 1 = nI n) (hn10 : n ≤ 10) (hp : p < n) (hq : q < n) (hx : ¬ isP n x) : Ki l yX9_waitsFor cX9_waitsFor 6 .int rm_X9_waitsFor G ad mdm [.ref (ad 40 0), .int y, .int (nI p), .int (nI q), .int x] S L R (fun r_ S2 L2 R2 => rQ S S2 1 ∧ L = L2 ∧ R = R2) := by
  refine Ki.of RX9 (by decide) rfl (Nat.le_of_ble_eq_true rfl) ?_
  intro X hXl hXG C ret
  subst hXl; subst hXG
  change Z X 6 ad mdm S L R 0 0 0 [(0, _), (1, _), (2, _), (3, _), (4, _)] []
  refine z_aload_n C 0 0 0 dX9_waitsFor_0 rfl rfl ?_
  refine z_iload_n C 1 2 2 dX9_waitsFor_1 rfl rfl ?_
  refine z_cVi0 C 2 dX9_waitsFor_2 cv_X9_291 (c_X9_noProgram hR hn hn10 (by assumption)) rfl ⟨by decide, rfl⟩ (by first | assumption | exact Nat.zero_lt_one | omega) rfl rfl (Nat.le_of_ble_eq_true rfl) ⟨by decide, by decide⟩ ⟨rfl, rfl⟩ ⟨by decide, by decide⟩ ?_
  intro r2 S2 L2 R2 p2
  obtain ⟨rfl, rfl, rfl, rfl⟩ := p2
  first | with_reducible refine z_if_neB C 5 55 dX9_waitsFor_5 (by decide) (fun h5 => by omega) (fun h5 => ?_) | with_reducible refine z_if_neN C 5 55 dX9_waitsFor_5 (by decide) (by omega) (fun h5 => by omega) (fun h5 => ?_) | refine z_if_ne C 5 55 dX9_waitsFor_5 (by decide) (fun h5 => by omega) (fun h5 => ?_)
  · refine z_aload_n C 8 0 0 dX9_waitsFor_8 rfl rfl ?_
    refine z_iload_n C 9 3 3 dX9_waitsFor_9 rfl rfl ?_
    refine z_aload_n C 10 0 0 dX9_waitsFor_10 rfl rfl ?_
    refine z_getiv C 11 dX9_waitsFor_11 gf_X9_197 rfl (by first | assumption | exact Nat.zero_lt_one | omega) hn ?_
    refine z_cVi0 C 14 dX9_waitsFor_14 cv_X9_288 (c_X9_no_0 hR (by rfl) (by assumption) hn10) rfl ⟨by decide, rfl⟩ (by first | assumption | exact Nat.zero_lt_one | omega) rfl rfl (Nat.le_of_ble_eq_true rfl) ⟨by decide, by decide⟩ ⟨rfl, rfl⟩ ⟨by decide, by decide⟩ ?_
    intro r14 S14 L14 R14 p14
    obtain ⟨rfl, rfl, rfl, rfl⟩ := p14
    first | with_reducible refine z_if_neB C 17 55 dX9_waitsFor_17 (by decide) (fun h17 => by omega) (fun h17 => ?_) | with_reducible refine z_if_neN C 17 55 dX9_waitsFor_17 (by decide) (by omega) (fun h17 => by omega) (fun h17 => ?_) | refine z_if_ne C 17 55 dX9_waitsFor_17 (by decide) (fun h17 => by omega) (fun h17 => ?_)
    · refine z_aload_n C 20 0 0 dX9_waitsFor_20 rfl rfl ?_
      refine z_iload C 21 4 4 dX9_waitsFor_21 rfl ?_
      refine z_aload_n C 23 0 0 dX9_waitsFor_23 rfl rfl ?_
      refine z_getiv C 24 dX9_waitsFor_24 gf_X9_197 rfl (by first | assumption | exact Nat.zero_lt_one | omega) hn ?_
      refine z_cVi0 C 27 dX9_waitsFor_27 cv_X9_288 (c_X9_no_1 hR (by rfl) hx hn10) rfl ⟨by decide, rfl⟩ (by first | assumption | exact Nat.zero_lt_one | omega) rfl rfl (Nat.le_of_ble_eq_true rfl) ⟨by decide, by decide⟩ ⟨rfl, rfl⟩ ⟨by decide, by decide⟩ ?_
      intro r27 S27 L27 R27 p27
      obtain ⟨rfl, rfl, rfl, rfl⟩ := p27
      first | with_reducible refine z_if_neB C 30 55 dX9_waitsFor_30 (by decide) (fun h30 => ?_) (fun h30 => by omega) | with_reducible refine z_if_neN C 30 55 dX9_waitsFor_30 (by decide) (by omega) (fun h30 => ?_) (fun h30 => by omega) | refine z_if_ne C 30 55 dX9_waitsFor_30 (by decide) (fun h30 => ?_) (fun h30 => by omega)
      · refine z_iconst (v := nI 0) C 55 dX9_waitsFor_55 (by decide) ?_
        exact ret 56 _ _ _ _ _ dX9_waitsFor_56 (by first | rfl | exact bI_n | decide) (⟨(by first | exact rQ_t _ _ | (simp only [up3_up3]; exact rQ_t _ _)), rfl, rfl⟩)

set_option maxHeartbeats 4000000 in
set_option maxRecDepth 100000 in
theorem c_X9_waitsFor_4 {l : Launch} {G : mG} {ad : mA} {S : mS} {L : mL} {R : mR} {n p q d : Nat} {x : Int32} (hR : mlk R) (hn : S 40 0 1 = nI n) (hn10 : n ≤ 10) (hp : p < n) (hq : q < n) (hd : d < n) (hx : ¬ isR 0 2 x) : Ki l yX9_waitsFor cX9_waitsFor 6 .int rm_X9_waitsFor G ad mdm [.ref (ad 40 0), .int x, .int (nI p), .int (nI q), .int (nI d)] S L R (fun r_ S2 L2 R2 => rQ S S2 2 ∧ L = L2 ∧ R = R2) := by
  refine Ki.of RX9 (by decide) rfl (Nat.le_of_ble_eq_true rfl) ?_
  intro X hXl hXG C ret
  subst hXl; subst hXG
  change Z X 6 ad mdm S L R 0 0 0 [(0, _), (1, _), (2, _), (3, _), (4, _)] []
  refine z_aload_n C 0 0 0 dX9_waitsFor_0 rfl rfl ?_
  refine z_iload_n C 1 2 2 dX9_waitsFor_1 rfl rfl ?_
  refine z_cVi0 C 2 dX9_waitsFor_2 cv_X9_291 (c_X9_noProgram hR hn hn10 (by assumption)) rfl ⟨by decide, rfl⟩ (by first | assumption | exact Nat.zero_lt_one | omega) rfl rfl (Nat.le_of_ble_eq_true rfl) ⟨by decide, by decide⟩ ⟨rfl, rfl⟩ ⟨by decide, by decide⟩ ?_
  intro r2 S2 L2 R2 p2
  obtain ⟨rfl, rfl, rfl, rfl⟩ := p2
  first | with_reducible refine z_if_neB C 5 55 dX9_waitsFor_5 (by decide) (fun h5 => by omega) (fun h5 => ?_) | with_reducible refine z_if_neN C 5 55 dX9_waitsFor_5 (by decide) (by omega) (fun h5 => by omega) (fun h5 => ?_) | refine z_if_ne C 5 55 dX9_waitsFor_5 (by decide) (fun h5 => by omega) (fun h5 => ?_)
  · refine z_aload_n C 8 0 0 dX9_waitsFor_8 rfl rfl ?_
    refine z_iload_n C 9 3 3 dX9_waitsFor_9 rfl rfl ?_
    refine z_aload_n C 10 0 0 dX9_waitsFor_10 rfl rfl ?_
    refine z_getiv C 11 dX9_waitsFor_11 gf_X9_197 rfl (by first | assumption | exact Nat.zero_lt_one | omega) hn ?_
    refine z_cVi0 C 14 dX9_waitsFor_14 cv_X9_288 (c_X9_no_0 hR (by rfl) (by assumption) hn10) rfl ⟨by decide, rfl⟩ (by first | assumption | exact Nat.zero_lt_one | omega) rfl rfl (Nat.le_of_ble_eq_true rfl) ⟨by decide, by decide⟩ ⟨rfl, rfl⟩ ⟨by decide, by decide⟩ ?_
    intro r14 S14 L14 R14 p14
    obtain ⟨rfl, rfl, rfl, rfl⟩ := p14
    first | with_reducible refine z_if_neB C 17 55 dX9_waitsFor_17 (by decide) (fun h17 => by omega) (fun h17 => ?_) | with_reducible refine z_if_neN C 17 55 dX9_waitsFor_17 (by decide) (by omega) (fun h17 => by omega) (fun h17 => ?_) | refine z_if_ne C 17 55 dX9_waitsFor_17 (by decide) (fun h17 => by omega) (fun h17 => ?_)
    · refine z_aload_n C 20 0 0 dX9_waitsFor_20 rfl rfl ?_
      refine z_iload C 21 4 4 dX9_waitsFor_21 rfl ?_
      refine z_aload_n C 23 0 0 dX9_waitsFor_23 rfl rfl ?_
      refine z_getiv C 24 dX9_waitsFor_24 gf_X9_197 rfl (by first | assumption | exact Nat.zero_lt_one | omega) hn ?_
      refine z_cVi0 C 27 dX9_waitsFor_27 cv_X9_288 (c_X9_no_0 hR (by rfl) (by assumption) hn10) rfl ⟨by decide, rfl⟩ (by first | assumption | exact Nat.zero_lt_one | omega) rfl rfl (Nat.le_of_ble_eq_true rfl) ⟨by decide, by decide⟩ ⟨rfl, rfl⟩ ⟨by decide, by decide⟩ ?_
      intro r27 S27 L27 R27 p27
      obtain ⟨rfl, rfl, rfl, rfl⟩ := p27
      first | with_reducible refine z_if_neB C 30 55 dX9_waitsFor_30 (by decide) (fun h30 => by omega) (fun h30 => ?_) | with_reducible refine z_if_neN C 30 55 dX9_waitsFor_30 (by decide) (by omega) (fun h30 => by omega) (fun h30 => ?_) | refine z_if_ne C 30 55 dX9_waitsFor_30 (by decide) (fun h30 => by omega) (fun h30 => ?_)
      · refine z_aload_n C 33 0 0 dX9_waitsFor_33 rfl rfl ?_
        refine z_iload_n C 34 1 1 dX9_waitsFor_34 rfl rfl ?_
        refine z_iconst (v := nI 0) C 35 dX9_waitsFor_35 (by decide) ?_
        refine z_iconst (v := nI 2) C 36 dX9_waitsFor_36 (by decide) ?_
        refine z_cSi0 C 37 dX9_waitsFor_37 cs_X9_89 (c_X9_within_0 hx (by decide) (by decide)) rfl rfl (Nat.le_of_ble_eq_true rfl) ⟨by decide, by decide⟩ ⟨rfl, rfl⟩ ⟨by decide, by decide⟩ ?_
        intro r37 S37 L37 R37 p37
        obtain ⟨rfl, rfl, rfl, rfl⟩ := p37
        first | with_reducible refine z_if_neB C 40 47 dX9_waitsFor_40 (by decide) (fun h40 => by omega) (fun h40 => ?_) | with_reducible refine z_if_neN C 40 47 dX9_waitsFor_40 (by decide) (by omega) (fun h40 => by omega) (fun h40 => ?_) | refine z_if_ne C 40 47 dX9_waitsFor_40 (by decide) (fun h40 => by omega) (fun h40 => ?_)
        · refine z_iconst (v := nI 1) C 43 dX9_waitsFor_43 (by decide) ?_
          refine z_goto C 44 48 dX9_waitsFor_44 (by decide) ?_
          refine z_iconst (v := nI 2) C 48 dX9_waitsFor_48 (by decide) ?_
          refine z_cVi0 C 49 dX9_waitsFor_49 cv_X9_185 (c_X9_throwsIf_1 hR (by first | assumption | rfl) (by decide) (by decide)) rfl ⟨by decide, rfl⟩ (by first | assumption | exact Nat.zero_lt_one | omega) rfl rfl (Nat.le_of_ble_eq_true rfl) ⟨by decide, by decide⟩ ⟨rfl, rfl⟩ ⟨by decide, by decide⟩ ?_
          intro r49 S49 L49 R49 p49
          obtain ⟨rfl, rfl, rfl, rfl⟩ := p49
          first | with_reducible refine z_if_eqB C 52 57 dX9_waitsFor_52 (by decide) (fun h52 => by omega) (fun h52 => ?_) | with_reducible refine z_if_eqN C 52 57 dX9_waitsFor_52 (by decide) (by omega) (fun h52 => by omega) (fun h52 => ?_) | refine z_if_eq C 52 57 dX9_waitsFor_52 (by decide) (fun h52 => by omega) (fun h52 => ?_)
          · refine z_iconst (v := nI 0) C 55 dX9_waitsFor_55 (by decide) ?_
            exact ret 56 _ _ _ _ _ dX9_waitsFor_56 (by first | rfl | exact bI_n | decide) (⟨(by first | exact rQ_t _ _ | (simp only [up3_up3]; exact rQ_t _ _)), rfl, rfl⟩)
