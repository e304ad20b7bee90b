theorem bI_tt {P Q : Prop} (hp : P) (hq : Q) : bI P = bI Q := (bI_t hp).trans (bI_t hq).symm
theorem bI_ff {P Q : Prop} (hp : ¬ P) (hq : ¬ Q) : bI P = bI Q := (bI_f hp).trans (bI_f hq).symm
theorem rpol_f {un : Nat → Nat} {len p : Nat} {D : PD} (h : ¬ D.dp = 0) : (yPol un len D p).1 = (2, nI (tS un len p), tE un len p) := by
  have e1 : yOn un len p D.dp = (2, nI (tS un len p), tE un len p) := if_neg h
  have e2 : yT un len (yOn un len p D.dp) 1 = (2, nI (tS un len p), tE un len p) := by
    rw [e1]
    exact yT_f (show ¬ (2 : Nat) = 0 by decide)
  rw [pol_f (by rw [e2]; exact (show ¬ (2 : Nat) = 0 by decide)), e2]
theorem rpol_w {un : Nat → Nat} {len p v : Nat} {D : PD} (h : D.dp = 0) (hk : tK un len (tE un len p) = 1) (hv : (yK un len (tE un len p) 5 ∧ v = 0) ∨ (¬ yK un len (tE un len p) 5 ∧ yK un len (tE un len p) 6 ∧ v = 1) ∨ (¬ yK un len (tE un len p) 5 ∧ ¬ yK un len (tE un len p) 6 ∧ yK un len (tE un len p) 7 ∧ v = 2)) : yPol un len D p = (yA un len (y0 (tE un len p)), pol_v D v) := by
  have e1 : yOn un len p D.dp = y0 (tE un len p) := if_pos h
  unfold yPol
  rw [e1, yT_k (q := y0 (tE un len p)) rfl hk]
  dsimp only
  rcases hv with ⟨a, rfl⟩ | ⟨a, b, rfl⟩ | ⟨a, b, c, rfl⟩
  · rw [if_pos a]; rfl
  · rw [if_neg a, if_pos b]; rfl
  · rw [if_neg a, if_neg b, if_pos c]; rfl
theorem rpol_n {un : Nat → Nat} {len p : Nat} {D : PD} (h : D.dp = 0) (h5 : ¬ yK un len (tE un len p) 5) (h6 : ¬ yK un len (tE un len p) 6) (h7 : ¬ yK un len (tE un len p) 7) : ∃ x, (yPol un len D p).1 = (1, nI (tS un len (tE un len p)), x) := by
  have e1 : yOn un len p D.dp = y0 (tE un len p) := if_pos h
  unfold yPol
  dsimp only
  rw [if_neg h5, if_neg h6, if_neg h7, e1]
  by_cases hk : tK un len (tE un len p) = 1
  · rw [yT_k (q := y0 (tE un len p)) rfl hk]
    have t := yE_c (q := (0, (y0 (tE un len p)).2.1, tE un len (y0 (tE un len p)).2.2)) (c := 1) (a := nI (tS un len (tE un len p))) rfl
    exact ⟨_, t⟩
  · rw [yT_e (q := y0 (tE un len p)) rfl hk]
    have t := yE_f (q := (1, nI (tS un len (y0 (tE un len p)).2.2), (y0 (tE un len p)).2.2)) (c := 1) (a := nI (tS un len (tE un len p))) (show ¬ (1 : Nat) = 0 by decide)
    exact ⟨_, t⟩
theorem rpol_end {S S1 S2 : mS} {L L1 L2 : mL} {v : Nat} {D : PD} (hD : rD S L D) (hdp : D.dp = 0) (hF : RO S S1) (hG : LG L L1) (h20 : S1 40 0 20 = nI (if (D.dc + 2 * D.dp) / 2 ^ 1 % 2 = 0 then D.dc + 2 * D.dp + 2 ^ 1 else D.dc + 2 * D.dp)) (hF2 : RE (up3 S1 40 0 19 (nI v)) S2) (hG2 : LG L1 L2) : rD S2 L2 (pol_v D v) := by
  obtain ⟨d1, d2, d3, d4, d5, d6, d7, d8, d9⟩ := hD
  rw [hdp, if_pos (by omega)] at h20
  exact ⟨d1, by rw [hF2.2 18 (by omega) (by omega), up3_j _ (by omega), hF.2 18 (by omega) (by omega) (by omega)]; exact d2, fun j hj => by rw [hF2.1 48 0 (by omega), up3_k _ (by omega), hF.1 48 0 (by omega)]; exact d3 j hj, by rw [hF2.2 19 (by omega) (by omega), up3_s]; rfl, fun j hj => by rw [hG2 47 0 (by omega), hG 47 0 (by omega)]; exact d5 j hj, fun j w hj hw => by rw [hF2.1 46 0 (by omega), up3_k _ (by omega), hF.1 46 0 (by omega)]; exact d6 j w hj hw, by rw [hF2.2 20 (by omega) (by omega), up3_j _ (by omega), h20]; show nI (D.dc + 2 * 0 + 2 ^ 1) = nI (D.dc + 2 * 1); rw [show D.dc + 2 * 0 + 2 ^ 1 = D.dc + 2 * 1 by omega], d8, Nat.le_refl 1⟩
theorem rpol_fin {S S1 S2 : mS} {L L1 L2 : mL} {un : Nat → Nat} {len p v : Nat} {D : PD} {P : Prop} (hD : rD S L D) (hdp : D.dp = 0) (hF : RO S S1) (hG : LG L L1) (h20 : S1 40 0 20 = nI (if (D.dc + 2 * D.dp) / 2 ^ 1 % 2 = 0 then D.dc + 2 * D.dp + 2 ^ 1 else D.dc + 2 * D.dp)) (hF2 : RE (up3 S1 40 0 19 (nI v)) S2) (hG2 : LG L1 L2) (e : yPol un len D p = (yA un len (y0 (tE un len p)), pol_v D v)) (hP : P) (ha : rSt S2 L2 un len (yA un len (y0 (tE un len p)))) : bI P = bI ((yPol un len D p).1.1 = 0) ∧ rSt S2 L2 un len (yPol un len D p).1 ∧ ((yPol un len D p).1.1 = 0 → rD S2 L2 (yPol un len D p).2) ∧ RS S S2 ∧ LW L L2 := by
  rw [e]
  refine ⟨?_, ?_, ?_, ?_, ?_⟩
  · exact bI_tt hP rfl
  · exact ha
  · exact fun _ => rpol_end hD hdp hF hG h20 hF2 hG2
  · exact (hF.rs.u40 (by omega)).tr hF2.rs
  · exact (hG.tr hG2).ls

def rm_X9_policyLine : Room := { frames := 5, cells := 0, slots := 0, locals := 163 }
set_option maxHeartbeats 4000000 in
set_option maxRecDepth 100000 in
theorem c_X9_policyLine {l : Launch} {G : mG} {ad : mA} {S : mS} {L : mL} {R : mR} {un : Nat → Nat} {len p : Nat} {D : PD} (hR : mlk R) (hU : rU S un len) (hq : rSt S L un len (y0 p)) (hD : rD S L D) (hok : dOK D) : Ki l yX9_policyLine cX9_policyLine 1 .boolean rm_X9_policyLine G ad mdm [.ref (ad 40 0)] S L R (fun r_ S2 L2 R2 => r_ = bI ((yPol un len D p).1.1 = 0) ∧ rSt S2 L2 un len (yPol un len D p).1 ∧ ((yPol un len D p).1.1 = 0 → rD S2 L2 (yPol un len D p).2) ∧ RS S S2 ∧ LW L L2 ∧ R = R2) := by
  refine Ki.of RX9 (by decide) rfl (Nat.le_of_ble_eq_true rfl) ?_
  intro X hXl hXG C ret
  subst hXl; subst hXG
  change Z X 1 ad mdm S L R 0 0 0 [(0, _)] []
  have hk4 := tK_le (un := un) (len := len) (p := tE un len p)
  have ld0 : rLd S L un len p := (hq.2.2.2 rfl).1
  have hpl : p ≤ len := (hq.2.2.2 rfl).2
  have hk10 := hD.1
  have hdp := hD.2.2.2.2.2.2.2
  refine z_aload_n C 0 0 0 dX9_policyLine_0 rfl rfl ?_
  refine z_iconst (v := nI 1) C 1 dX9_policyLine_1 (by decide) ?_
  refine z_cVi0 C 2 dX9_policyLine_2 cv_X9_149 (c_X9_once (un := un) (len := len) (b := 1) (d := D.dc + 2 * D.dp) (q := y0 p) hR hU hq rfl hD.2.2.2.2.2.2.1 (by omega) (by decide)) rfl ⟨by decide, rfl⟩ (by first | assumption | exact Nat.zero_lt_one | exact (show (15 : Nat) < 16 by decide) | exact Nat.lt_succ_of_lt (by assumption) | omega) rfl rfl (Nat.le_of_ble_eq_true rfl) ⟨by decide, by decide⟩ ⟨rfl, rfl⟩ ⟨by decide, by decide⟩ ?_
  intro r2 S2 L2 R2 p2
  obtain ⟨rfl, a2, b2, c2, F2, G2, rfl⟩ := p2
  first | with_reducible refine z_if_neB C 5 10 dX9_policyLine_5 (by decide) (fun h5 => ?_) (fun h5 => ?_) | with_reducible refine z_if_neN C 5 10 dX9_policyLine_5 (by decide) (by omega) (fun h5 => ?_) (fun h5 => ?_) | refine z_if_ne C 5 10 dX9_policyLine_5 (by decide) (fun h5 => ?_) (fun h5 => ?_)
  · have hdp0 : D.dp = 0 := by omega
    have q1 : rSt S2 L2 un len (y0 (tE un len p)) := a2 h5
    have ld : rLd S2 L2 un len (tE un len p) := (q1.2.2.2 rfl).1
    have hU2 := hU.rs F2.rs
    refine z_aload_n C 10 0 0 dX9_policyLine_10 rfl rfl ?_
    refine z_aload_n C 11 0 0 dX9_policyLine_11 rfl rfl ?_
    refine z_sldc (n := 5) (tx := "promise") C 12 dX9_policyLine_12 (List.mem_of_getElem? (i := 13) rfl) ?_
    refine z_cVi0 C 14 dX9_policyLine_14 cv_X9_154 (c_X9_isWord (un := un) (len := len) (p := tE un len p) (i := 5) hR (by decide) hU2 ld (tE_le hpl)) rfl ⟨by decide, rfl⟩ (by first | assumption | exact Nat.zero_lt_one | exact (show (15 : Nat) < 16 by decide) | exact Nat.lt_succ_of_lt (by assumption) | omega) rfl rfl (Nat.le_of_ble_eq_true rfl) ⟨by decide, by decide⟩ ⟨rfl, rfl⟩ ⟨by decide, by decide⟩ ?_
    intro r14 S14 L14 R14 p14
    obtain ⟨rfl, rfl, rfl, rfl⟩ := p14
    first | with_reducible refine z_if_eqB C 17 24 dX9_policyLine_17 (by decide) (fun h17 => ?_) (fun h17 => ?_) | with_reducible refine z_if_eqN C 17 24 dX9_policyLine_17 (by decide) (by omega) (fun h17 => ?_) (fun h17 => ?_) | refine z_if_eq C 17 24 dX9_policyLine_17 (by decide) (fun h17 => ?_) (fun h17 => ?_)
    · have y5 : ¬ yK un len (tE un len p) 5 := h17
      refine z_aload_n C 24 0 0 dX9_policyLine_24 rfl rfl ?_
      refine z_sldc (n := 6) (tx := "size") C 25 dX9_policyLine_25 (List.mem_of_getElem? (i := 14) rfl) ?_
      refine z_cVi0 C 27 dX9_policyLine_27 cv_X9_154 (c_X9_isWord (un := un) (len := len) (p := tE un len p) (i := 6) hR (by decide) hU2 ld (tE_le hpl)) rfl ⟨by decide, rfl⟩ (by first | assumption | exact Nat.zero_lt_one | exact (show (15 : Nat) < 16 by decide) | exact Nat.lt_succ_of_lt (by assumption) | omega) rfl rfl (Nat.le_of_ble_eq_true rfl) ⟨by decide, by decide⟩ ⟨rfl, rfl⟩ ⟨by decide, by decide⟩ ?_
      intro r27 S27 L27 R27 p27
      obtain ⟨rfl, rfl, rfl, rfl⟩ := p27
      first | with_reducible refine z_if_eqB C 30 37 dX9_policyLine_30 (by decide) (fun h30 => ?_) (fun h30 => ?_) | with_reducible refine z_if_eqN C 30 37 dX9_policyLine_30 (by decide) (by omega) (fun h30 => ?_) (fun h30 => ?_) | refine z_if_eq C 30 37 dX9_policyLine_30 (by decide) (fun h30 => ?_) (fun h30 => ?_)
      · have y6 : ¬ yK un len (tE un len p) 6 := h30
        refine z_aload_n C 37 0 0 dX9_policyLine_37 rfl rfl ?_
        refine z_sldc (n := 7) (tx := "recent") C 38 dX9_policyLine_38 (List.mem_of_getElem? (i := 15) rfl) ?_
        refine z_cVi0 C 40 dX9_policyLine_40 cv_X9_154 (c_X9_isWord (un := un) (len := len) (p := tE un len p) (i := 7) hR (by decide) hU2 ld (tE_le hpl)) rfl ⟨by decide, rfl⟩ (by first | assumption | exact Nat.zero_lt_one | exact (show (15 : Nat) < 16 by decide) | exact Nat.lt_succ_of_lt (by assumption) | omega) rfl rfl (Nat.le_of_ble_eq_true rfl) ⟨by decide, by decide⟩ ⟨rfl, rfl⟩ ⟨by decide, by decide⟩ ?_
        intro r40 S40 L40 R40 p40
        obtain ⟨rfl, rfl, rfl, rfl⟩ := p40
        first | with_reducible refine z_if_eqB C 43 50 dX9_policyLine_43 (by decide) (fun h43 => ?_) (fun h43 => ?_) | with_reducible refine z_if_eqN C 43 50 dX9_policyLine_43 (by decide) (by omega) (fun h43 => ?_) (fun h43 => ?_) | refine z_if_eq C 43 50 dX9_policyLine_43 (by decide) (fun h43 => ?_) (fun h43 => ?_)
        · have y7 : ¬ yK un len (tE un len p) 7 := h43
          refine z_iconst (v := (-1)) C 50 dX9_policyLine_50 (by decide) ?_
          refine z_puti C 51 dX9_policyLine_51 gf_X9_162 ⟨rfl, rfl⟩ rfl (by first | assumption | exact Nat.zero_lt_one | exact (show (15 : Nat) < 16 by decide) | exact Nat.lt_succ_of_lt (by assumption) | omega) ?_
          refine z_aload_n C 54 0 0 dX9_policyLine_54 rfl rfl ?_
          refine z_iconst (v := nI 1) C 55 dX9_policyLine_55 (by decide) ?_
          refine z_aload_n C 56 0 0 dX9_policyLine_56 rfl rfl ?_
          refine z_getiv C 57 dX9_policyLine_57 gf_X9_162 rfl (by first | assumption | exact Nat.zero_lt_one | exact (show (15 : Nat) < 16 by decide) | exact Nat.lt_succ_of_lt (by assumption) | omega) (up3_s _ _ _ _ _) ?_
          refine z_iconst (v := (-1)) C 60 dX9_policyLine_60 (by decide) ?_
          first | with_reducible refine z_icmp_eqN C 61 68 dX9_policyLine_61 (by decide) (by omega) (by omega) (fun h61 => ?_) (fun h61 => absurd rfl h61) | refine z_icmp_eq C 61 68 dX9_policyLine_61 (by decide) (fun h61 => ?_) (fun h61 => absurd rfl h61)
          · refine z_iconst (v := nI 0) C 68 dX9_policyLine_68 (by decide) ?_
            refine z_cVi0 C 69 dX9_policyLine_69 cv_X9_131 (c_X9_starts (un := un) (len := len) (c := 1) (q := y0 (tE un len p)) (P := (yK un len (tE un len p) 5 ∨ yK un len (tE un len p) 6 ∨ yK un len (tE un len p) 7)) hR ⟨(up3_j _ (by omega)).trans hU2.1, hU2.2.1, hU2.2.2.1, fun j hj => by rw [up3_k _ (by omega)]; exact hU2.2.2.2 j hj⟩ (q1.k (fun j hj => up3_j _ (by omega)) rfl) rfl (by first | exact bI_1 (Or.inl y5) | exact bI_1 (Or.inr (Or.inl y6)) | exact bI_1 (Or.inr (Or.inr y7)) | exact bI_0 (fun z => z.elim y5 (fun z => z.elim y6 y7))) (by decide) (by decide)) rfl ⟨by decide, rfl⟩ (by first | assumption | exact Nat.zero_lt_one | exact (show (15 : Nat) < 16 by decide) | exact Nat.lt_succ_of_lt (by assumption) | omega) rfl rfl (Nat.le_of_ble_eq_true rfl) ⟨by decide, by decide⟩ ⟨rfl, rfl⟩ ⟨by decide, by decide⟩ ?_
            intro r69 S69 L69 R69 p69
            obtain ⟨rfl, a69, b69, F69, G69, rfl⟩ := p69
            exact ret 72 _ _ _ _ _ dX9_policyLine_72 (by first | rfl | exact bI_n | decide) ((by first
      | (have e := rpol_w (v := 0) hdp0 y5.1 (Or.inl ⟨y5, rfl⟩)
         have hP : (yK un len (tE un len p) 5 ∨ yK un len (tE un len p) 6 ∨ yK un len (tE un len p) 7) := Or.inl y5
         exact (let t := rpol_fin hD hdp0 F2 G2 c2 F69 G69 e hP (a69 hP); ⟨t.1, t.2.1, t.2.2.1, t.2.2.2.1, t.2.2.2.2, rfl⟩))
      | (have e := rpol_w (v := 1) hdp0 y6.1 (Or.inr (Or.inl ⟨y5, y6, rfl⟩))
         have hP : (yK un len (tE un len p) 5 ∨ yK un len (tE un len p) 6 ∨ yK un len (tE un len p) 7) := Or.inr (Or.inl y6)
         exact (let t := rpol_fin hD hdp0 F2 G2 c2 F69 G69 e hP (a69 hP); ⟨t.1, t.2.1, t.2.2.1, t.2.2.2.1, t.2.2.2.2, rfl⟩))
      | (have e := rpol_w (v := 2) hdp0 y7.1 (Or.inr (Or.inr ⟨y5, y6, y7, rfl⟩))
         have hP : (yK un len (tE un len p) 5 ∨ yK un len (tE un len p) 6 ∨ yK un len (tE un len p) 7) := Or.inr (Or.inr y7)
         exact (let t := rpol_fin hD hdp0 F2 G2 c2 F69 G69 e hP (a69 hP); ⟨t.1, t.2.1, t.2.2.1, t.2.2.2.1, t.2.2.2.2, rfl⟩))
      | (obtain ⟨x, e⟩ := rpol_n hdp0 y5 y6 y7
         have hP : ¬ (yK un len (tE un len p) 5 ∨ yK un len (tE un len p) 6 ∨ yK un len (tE un len p) 7) := fun z => z.elim y5 (fun z => z.elim y6 y7)
         rw [e]
         exact ⟨bI_ff hP (fun z => nomatch z), (b69 hP).pl (by decide) _, fun z => (nomatch z), (F2.rs.u40 (j := 19) (by omega)).tr F69.rs, (G2.tr G69).ls, rfl⟩)))
        · have y7 : yK un len (tE un len p) 7 := h43
          refine z_iconst (v := nI 2) C 46 dX9_policyLine_46 (by decide) ?_
          refine z_goto C 47 51 dX9_policyLine_47 (by decide) ?_
          refine z_puti C 51 dX9_policyLine_51 gf_X9_162 ⟨rfl, rfl⟩ rfl (by first | assumption | exact Nat.zero_lt_one | exact (show (15 : Nat) < 16 by decide) | exact Nat.lt_succ_of_lt (by assumption) | omega) ?_
          refine z_aload_n C 54 0 0 dX9_policyLine_54 rfl rfl ?_
          refine z_iconst (v := nI 1) C 55 dX9_policyLine_55 (by decide) ?_
          refine z_aload_n C 56 0 0 dX9_policyLine_56 rfl rfl ?_
          refine z_getiv C 57 dX9_policyLine_57 gf_X9_162 rfl (by first | assumption | exact Nat.zero_lt_one | exact (show (15 : Nat) < 16 by decide) | exact Nat.lt_succ_of_lt (by assumption) | omega) (up3_s _ _ _ _ _) ?_
          refine z_iconst (v := (-1)) C 60 dX9_policyLine_60 (by decide) ?_
          first | with_reducible refine z_icmp_eqN C 61 68 dX9_policyLine_61 (by decide) (by omega) (by omega) (fun h61 => absurd h61 (nI_m1 (by decide))) (fun h61 => ?_) | refine z_icmp_eq C 61 68 dX9_policyLine_61 (by decide) (fun h61 => absurd h61 (nI_m1 (by decide))) (fun h61 => ?_)
          · refine z_iconst (v := nI 1) C 64 dX9_policyLine_64 (by decide) ?_
            refine z_goto C 65 69 dX9_policyLine_65 (by decide) ?_
            refine z_cVi0 C 69 dX9_policyLine_69 cv_X9_131 (c_X9_starts (un := un) (len := len) (c := 1) (q := y0 (tE un len p)) (P := (yK un len (tE un len p) 5 ∨ yK un len (tE un len p) 6 ∨ yK un len (tE un len p) 7)) hR ⟨(up3_j _ (by omega)).trans hU2.1, hU2.2.1, hU2.2.2.1, fun j hj => by rw [up3_k _ (by omega)]; exact hU2.2.2.2 j hj⟩ (q1.k (fun j hj => up3_j _ (by omega)) rfl) rfl (by first | exact bI_1 (Or.inl y5) | exact bI_1 (Or.inr (Or.inl y6)) | exact bI_1 (Or.inr (Or.inr y7)) | exact bI_0 (fun z => z.elim y5 (fun z => z.elim y6 y7))) (by decide) (by decide)) rfl ⟨by decide, rfl⟩ (by first | assumption | exact Nat.zero_lt_one | exact (show (15 : Nat) < 16 by decide) | exact Nat.lt_succ_of_lt (by assumption) | omega) rfl rfl (Nat.le_of_ble_eq_true rfl) ⟨by decide, by decide⟩ ⟨rfl, rfl⟩ ⟨by decide, by decide⟩ ?_
            intro r69 S69 L69 R69 p69
            obtain ⟨rfl, a69, b69, F69, G69, rfl⟩ := p69
            exact ret 72 _ _ _ _ _ dX9_policyLine_72 (by first | rfl | exact bI_n | decide) ((by first
      | (have e := rpol_w (v := 0) hdp0 y5.1 (Or.inl ⟨y5, rfl⟩)
         have hP : (yK un len (tE un len p) 5 ∨ yK un len (tE un len p) 6 ∨ yK un len (tE un len p) 7) := Or.inl y5
         exact (let t := rpol_fin hD hdp0 F2 G2 c2 F69 G69 e hP (a69 hP); ⟨t.1, t.2.1, t.2.2.1, t.2.2.2.1, t.2.2.2.2, rfl⟩))
      | (have e := rpol_w (v := 1) hdp0 y6.1 (Or.inr (Or.inl ⟨y5, y6, rfl⟩))
         have hP : (yK un len (tE un len p) 5 ∨ yK un len (tE un len p) 6 ∨ yK un len (tE un len p) 7) := Or.inr (Or.inl y6)
         exact (let t := rpol_fin hD hdp0 F2 G2 c2 F69 G69 e hP (a69 hP); ⟨t.1, t.2.1, t.2.2.1, t.2.2.2.1, t.2.2.2.2, rfl⟩))
      | (have e := rpol_w (v := 2) hdp0 y7.1 (Or.inr (Or.inr ⟨y5, y6, y7, rfl⟩))
         have hP : (yK un len (tE un len p) 5 ∨ yK un len (tE un len p) 6 ∨ yK un len (tE un len p) 7) := Or.inr (Or.inr y7)
         exact (let t := rpol_fin hD hdp0 F2 G2 c2 F69 G69 e hP (a69 hP); ⟨t.1, t.2.1, t.2.2.1, t.2.2.2.1, t.2.2.2.2, rfl⟩))
      | (obtain ⟨x, e⟩ := rpol_n hdp0 y5 y6 y7
         have hP : ¬ (yK un len (tE un len p) 5 ∨ yK un len (tE un len p) 6 ∨ yK un len (tE un len p) 7) := fun z => z.elim y5 (fun z => z.elim y6 y7)
         rw [e]
         exact ⟨bI_ff hP (fun z => nomatch z), (b69 hP).pl (by decide) _, fun z => (nomatch z), (F2.rs.u40 (j := 19) (by omega)).tr F69.rs, (G2.tr G69).ls, rfl⟩)))
      · have y6 : yK un len (tE un len p) 6 := h30
        refine z_iconst (v := nI 1) C 33 dX9_policyLine_33 (by decide) ?_
        refine z_goto C 34 51 dX9_policyLine_34 (by decide) ?_
        refine z_puti C 51 dX9_policyLine_51 gf_X9_162 ⟨rfl, rfl⟩ rfl (by first | assumption | exact Nat.zero_lt_one | exact (show (15 : Nat) < 16 by decide) | exact Nat.lt_succ_of_lt (by assumption) | omega) ?_
        refine z_aload_n C 54 0 0 dX9_policyLine_54 rfl rfl ?_
        refine z_iconst (v := nI 1) C 55 dX9_policyLine_55 (by decide) ?_
        refine z_aload_n C 56 0 0 dX9_policyLine_56 rfl rfl ?_
        refine z_getiv C 57 dX9_policyLine_57 gf_X9_162 rfl (by first | assumption | exact Nat.zero_lt_one | exact (show (15 : Nat) < 16 by decide) | exact Nat.lt_succ_of_lt (by assumption) | omega) (up3_s _ _ _ _ _) ?_
        refine z_iconst (v := (-1)) C 60 dX9_policyLine_60 (by decide) ?_
        first | with_reducible refine z_icmp_eqN C 61 68 dX9_policyLine_61 (by decide) (by omega) (by omega) (fun h61 => absurd h61 (nI_m1 (by decide))) (fun h61 => ?_) | refine z_icmp_eq C 61 68 dX9_policyLine_61 (by decide) (fun h61 => absurd h61 (nI_m1 (by decide))) (fun h61 => ?_)
        · refine z_iconst (v := nI 1) C 64 dX9_policyLine_64 (by decide) ?_
          refine z_goto C 65 69 dX9_policyLine_65 (by decide) ?_
          refine z_cVi0 C 69 dX9_policyLine_69 cv_X9_131 (c_X9_starts (un := un) (len := len) (c := 1) (q := y0 (tE un len p)) (P := (yK un len (tE un len p) 5 ∨ yK un len (tE un len p) 6 ∨ yK un len (tE un len p) 7)) hR ⟨(up3_j _ (by omega)).trans hU2.1, hU2.2.1, hU2.2.2.1, fun j hj => by rw [up3_k _ (by omega)]; exact hU2.2.2.2 j hj⟩ (q1.k (fun j hj => up3_j _ (by omega)) rfl) rfl (by first | exact bI_1 (Or.inl y5) | exact bI_1 (Or.inr (Or.inl y6)) | exact bI_1 (Or.inr (Or.inr y7)) | exact bI_0 (fun z => z.elim y5 (fun z => z.elim y6 y7))) (by decide) (by decide)) rfl ⟨by decide, rfl⟩ (by first | assumption | exact Nat.zero_lt_one | exact (show (15 : Nat) < 16 by decide) | exact Nat.lt_succ_of_lt (by assumption) | omega) rfl rfl (Nat.le_of_ble_eq_true rfl) ⟨by decide, by decide⟩ ⟨rfl, rfl⟩ ⟨by decide, by decide⟩ ?_
          intro r69 S69 L69 R69 p69
          obtain ⟨rfl, a69, b69, F69, G69, rfl⟩ := p69
          exact ret 72 _ _ _ _ _ dX9_policyLine_72 (by first | rfl | exact bI_n | decide) ((by first
      | (have e := rpol_w (v := 0) hdp0 y5.1 (Or.inl ⟨y5, rfl⟩)
         have hP : (yK un len (tE un len p) 5 ∨ yK un len (tE un len p) 6 ∨ yK un len (tE un len p) 7) := Or.inl y5
         exact (let t := rpol_fin hD hdp0 F2 G2 c2 F69 G69 e hP (a69 hP); ⟨t.1, t.2.1, t.2.2.1, t.2.2.2.1, t.2.2.2.2, rfl⟩))
      | (have e := rpol_w (v := 1) hdp0 y6.1 (Or.inr (Or.inl ⟨y5, y6, rfl⟩))
         have hP : (yK un len (tE un len p) 5 ∨ yK un len (tE un len p) 6 ∨ yK un len (tE un len p) 7) := Or.inr (Or.inl y6)
         exact (let t := rpol_fin hD hdp0 F2 G2 c2 F69 G69 e hP (a69 hP); ⟨t.1, t.2.1, t.2.2.1, t.2.2.2.1, t.2.2.2.2, rfl⟩))
      | (have e := rpol_w (v := 2) hdp0 y7.1 (Or.inr (Or.inr ⟨y5, y6, y7, rfl⟩))
         have hP : (yK un len (tE un len p) 5 ∨ yK un len (tE un len p) 6 ∨ yK un len (tE un len p) 7) := Or.inr (Or.inr y7)
         exact (let t := rpol_fin hD hdp0 F2 G2 c2 F69 G69 e hP (a69 hP); ⟨t.1, t.2.1, t.2.2.1, t.2.2.2.1, t.2.2.2.2, rfl⟩))
      | (obtain ⟨x, e⟩ := rpol_n hdp0 y5 y6 y7
         have hP : ¬ (yK un len (tE un len p) 5 ∨ yK un len (tE un len p) 6 ∨ yK un len (tE un len p) 7) := fun z => z.elim y5 (fun z => z.elim y6 y7)
         rw [e]
         exact ⟨bI_ff hP (fun z => nomatch z), (b69 hP).pl (by decide) _, fun z => (nomatch z), (F2.rs.u40 (j := 19) (by omega)).tr F69.rs, (G2.tr G69).ls, rfl⟩)))
    · have y5 : yK un len (tE un len p) 5 := h17
      refine z_iconst (v := nI 0) C 20 dX9_policyLine_20 (by decide) ?_
      refine z_goto C 21 51 dX9_policyLine_21 (by decide) ?_
      refine z_puti C 51 dX9_policyLine_51 gf_X9_162 ⟨rfl, rfl⟩ rfl (by first | assumption | exact Nat.zero_lt_one | exact (show (15 : Nat) < 16 by decide) | exact Nat.lt_succ_of_lt (by assumption) | omega) ?_
      refine z_aload_n C 54 0 0 dX9_policyLine_54 rfl rfl ?_
      refine z_iconst (v := nI 1) C 55 dX9_policyLine_55 (by decide) ?_
      refine z_aload_n C 56 0 0 dX9_policyLine_56 rfl rfl ?_
      refine z_getiv C 57 dX9_policyLine_57 gf_X9_162 rfl (by first | assumption | exact Nat.zero_lt_one | exact (show (15 : Nat) < 16 by decide) | exact Nat.lt_succ_of_lt (by assumption) | omega) (up3_s _ _ _ _ _) ?_
      refine z_iconst (v := (-1)) C 60 dX9_policyLine_60 (by decide) ?_
      first | with_reducible refine z_icmp_eqN C 61 68 dX9_policyLine_61 (by decide) (by omega) (by omega) (fun h61 => absurd h61 (nI_m1 (by decide))) (fun h61 => ?_) | refine z_icmp_eq C 61 68 dX9_policyLine_61 (by decide) (fun h61 => absurd h61 (nI_m1 (by decide))) (fun h61 => ?_)
      · refine z_iconst (v := nI 1) C 64 dX9_policyLine_64 (by decide) ?_
        refine z_goto C 65 69 dX9_policyLine_65 (by decide) ?_
        refine z_cVi0 C 69 dX9_policyLine_69 cv_X9_131 (c_X9_starts (un := un) (len := len) (c := 1) (q := y0 (tE un len p)) (P := (yK un len (tE un len p) 5 ∨ yK un len (tE un len p) 6 ∨ yK un len (tE un len p) 7)) hR ⟨(up3_j _ (by omega)).trans hU2.1, hU2.2.1, hU2.2.2.1, fun j hj => by rw [up3_k _ (by omega)]; exact hU2.2.2.2 j hj⟩ (q1.k (fun j hj => up3_j _ (by omega)) rfl) rfl (by first | exact bI_1 (Or.inl y5) | exact bI_1 (Or.inr (Or.inl y6)) | exact bI_1 (Or.inr (Or.inr y7)) | exact bI_0 (fun z => z.elim y5 (fun z => z.elim y6 y7))) (by decide) (by decide)) rfl ⟨by decide, rfl⟩ (by first | assumption | exact Nat.zero_lt_one | exact (show (15 : Nat) < 16 by decide) | exact Nat.lt_succ_of_lt (by assumption) | omega) rfl rfl (Nat.le_of_ble_eq_true rfl) ⟨by decide, by decide⟩ ⟨rfl, rfl⟩ ⟨by decide, by decide⟩ ?_
        intro r69 S69 L69 R69 p69
        obtain ⟨rfl, a69, b69, F69, G69, rfl⟩ := p69
        exact ret 72 _ _ _ _ _ dX9_policyLine_72 (by first | rfl | exact bI_n | decide) ((by first
      | (have e := rpol_w (v := 0) hdp0 y5.1 (Or.inl ⟨y5, rfl⟩)
         have hP : (yK un len (tE un len p) 5 ∨ yK un len (tE un len p) 6 ∨ yK un len (tE un len p) 7) := Or.inl y5
         exact (let t := rpol_fin hD hdp0 F2 G2 c2 F69 G69 e hP (a69 hP); ⟨t.1, t.2.1, t.2.2.1, t.2.2.2.1, t.2.2.2.2, rfl⟩))
      | (have e := rpol_w (v := 1) hdp0 y6.1 (Or.inr (Or.inl ⟨y5, y6, rfl⟩))
         have hP : (yK un len (tE un len p) 5 ∨ yK un len (tE un len p) 6 ∨ yK un len (tE un len p) 7) := Or.inr (Or.inl y6)
         exact (let t := rpol_fin hD hdp0 F2 G2 c2 F69 G69 e hP (a69 hP); ⟨t.1, t.2.1, t.2.2.1, t.2.2.2.1, t.2.2.2.2, rfl⟩))
      | (have e := rpol_w (v := 2) hdp0 y7.1 (Or.inr (Or.inr ⟨y5, y6, y7, rfl⟩))
         have hP : (yK un len (tE un len p) 5 ∨ yK un len (tE un len p) 6 ∨ yK un len (tE un len p) 7) := Or.inr (Or.inr y7)
         exact (let t := rpol_fin hD hdp0 F2 G2 c2 F69 G69 e hP (a69 hP); ⟨t.1, t.2.1, t.2.2.1, t.2.2.2.1, t.2.2.2.2, rfl⟩))
      | (obtain ⟨x, e⟩ := rpol_n hdp0 y5 y6 y7
         have hP : ¬ (yK un len (tE un len p) 5 ∨ yK un len (tE un len p) 6 ∨ yK un len (tE un len p) 7) := fun z => z.elim y5 (fun z => z.elim y6 y7)
         rw [e]
         exact ⟨bI_ff hP (fun z => nomatch z), (b69 hP).pl (by decide) _, fun z => (nomatch z), (F2.rs.u40 (j := 19) (by omega)).tr F69.rs, (G2.tr G69).ls, rfl⟩)))
  · have hdp1 : ¬ D.dp = 0 := by omega
    refine z_iconst (v := nI 0) C 8 dX9_policyLine_8 (by decide) ?_
    exact ret 9 _ _ _ _ _ dX9_policyLine_9 (by first | rfl | exact bI_n | decide) ((by rw [rpol_f hdp1]; exact ⟨bI_0 (fun z => nomatch z), (b2 h5).pl (by decide) _, fun z => (nomatch z), F2.rs, G2.ls, rfl⟩))
def rm_X9_statement : Room := { frames := 6, cells := 0, slots := 0, locals := 183 }
set_option maxHeartbeats 4000000 in
set_option maxRecDepth 100000 in
theorem c_X9_statement {l : Launch} {G : mG} {ad : mA} {S : mS} {L : mL} {R : mR} {un : Nat → Nat} {len p : Nat} {D : PD} (hR : mlk R) (hU : rU S un len) (hq : rSt S L un len (y0 p)) (hD : rD S L D) (hok : dOK D) : Ki l yX9_statement cX9_statement 1 .boolean rm_X9_statement G ad mdm [.ref (ad 40 0)] S L R (fun r_ S2 L2 R2 => r_ = bI ((yStm un len D p).1.1 = 0) ∧ rSt S2 L2 un len (yStm un len D p).1 ∧ ((yStm un len D p).1.1 = 0 → rD S2 L2 (yStm un len D p).2) ∧ RS S S2 ∧ LW L L2 ∧ R = R2) := by
  refine Ki.of RX9 (by decide) rfl (Nat.le_of_ble_eq_true rfl) ?_
  intro X hXl hXG C ret
  subst hXl; subst hXG
  change Z X 1 ad mdm S L R 0 0 0 [(0, _)] []
  have hk4 := tK_le (un := un) (len := len) (p := tE un len p)
  have ld0 : rLd S L un len p := (hq.2.2.2 rfl).1
  have hpl : p ≤ len := (hq.2.2.2 rfl).2
  have hk10 := hD.1
  refine z_aload_n C 0 0 0 dX9_statement_0 rfl rfl ?_
  refine z_sldc (n := 1) (tx := "program") C 1 dX9_statement_1 (List.mem_of_getElem? (i := 9) rfl) ?_
  refine z_cVi0 C 3 dX9_statement_3 cv_X9_154 (c_X9_isWord (un := un) (len := len) (p := p) (i := 1) hR (by decide) hU ld0 hpl) rfl ⟨by decide, rfl⟩ (by first | assumption | exact Nat.zero_lt_one | exact (show (15 : Nat) < 16 by decide) | exact Nat.lt_succ_of_lt (by assumption) | omega) rfl rfl (Nat.le_of_ble_eq_true rfl) ⟨by decide, by decide⟩ ⟨rfl, rfl⟩ ⟨by decide, by decide⟩ ?_
  intro r3 S3 L3 R3 p3
  obtain ⟨rfl, rfl, rfl, rfl⟩ := p3
  first | with_reducible refine z_if_eqB C 6 14 dX9_statement_6 (by decide) (fun h6 => ?_) (fun h6 => ?_) | with_reducible refine z_if_eqN C 6 14 dX9_statement_6 (by decide) (by omega) (fun h6 => ?_) (fun h6 => ?_) | refine z_if_eq C 6 14 dX9_statement_6 (by decide) (fun h6 => ?_) (fun h6 => ?_)
  · refine z_aload_n C 14 0 0 dX9_statement_14 rfl rfl ?_
    refine z_sldc (n := 2) (tx := "work") C 15 dX9_statement_15 (List.mem_of_getElem? (i := 10) rfl) ?_
    refine z_cVi0 C 17 dX9_statement_17 cv_X9_154 (c_X9_isWord (un := un) (len := len) (p := p) (i := 2) hR (by decide) hU ld0 hpl) rfl ⟨by decide, rfl⟩ (by first | assumption | exact Nat.zero_lt_one | exact (show (15 : Nat) < 16 by decide) | exact Nat.lt_succ_of_lt (by assumption) | omega) rfl rfl (Nat.le_of_ble_eq_true rfl) ⟨by decide, by decide⟩ ⟨rfl, rfl⟩ ⟨by decide, by decide⟩ ?_
    intro r17 S17 L17 R17 p17
    obtain ⟨rfl, rfl, rfl, rfl⟩ := p17
    first | with_reducible refine z_if_eqB C 20 28 dX9_statement_20 (by decide) (fun h20 => ?_) (fun h20 => ?_) | with_reducible refine z_if_eqN C 20 28 dX9_statement_20 (by decide) (by omega) (fun h20 => ?_) (fun h20 => ?_) | refine z_if_eq C 20 28 dX9_statement_20 (by decide) (fun h20 => ?_) (fun h20 => ?_)
    · refine z_aload_n C 28 0 0 dX9_statement_28 rfl rfl ?_
      refine z_sldc (n := 3) (tx := "costs") C 29 dX9_statement_29 (List.mem_of_getElem? (i := 11) rfl) ?_
      refine z_cVi0 C 31 dX9_statement_31 cv_X9_154 (c_X9_isWord (un := un) (len := len) (p := p) (i := 3) hR (by decide) hU ld0 hpl) rfl ⟨by decide, rfl⟩ (by first | assumption | exact Nat.zero_lt_one | exact (show (15 : Nat) < 16 by decide) | exact Nat.lt_succ_of_lt (by assumption) | omega) rfl rfl (Nat.le_of_ble_eq_true rfl) ⟨by decide, by decide⟩ ⟨rfl, rfl⟩ ⟨by decide, by decide⟩ ?_
      intro r31 S31 L31 R31 p31
      obtain ⟨rfl, rfl, rfl, rfl⟩ := p31
      first | with_reducible refine z_if_eqB C 34 44 dX9_statement_34 (by decide) (fun h34 => ?_) (fun h34 => ?_) | with_reducible refine z_if_eqN C 34 44 dX9_statement_34 (by decide) (by omega) (fun h34 => ?_) (fun h34 => ?_) | refine z_if_eq C 34 44 dX9_statement_34 (by decide) (fun h34 => ?_) (fun h34 => ?_)
      · refine z_aload_n C 44 0 0 dX9_statement_44 rfl rfl ?_
        refine z_sldc (n := 4) (tx := "policy") C 45 dX9_statement_45 (List.mem_of_getElem? (i := 12) rfl) ?_
        refine z_cVi0 C 47 dX9_statement_47 cv_X9_154 (c_X9_isWord (un := un) (len := len) (p := p) (i := 4) hR (by decide) hU ld0 hpl) rfl ⟨by decide, rfl⟩ (by first | assumption | exact Nat.zero_lt_one | exact (show (15 : Nat) < 16 by decide) | exact Nat.lt_succ_of_lt (by assumption) | omega) rfl rfl (Nat.le_of_ble_eq_true rfl) ⟨by decide, by decide⟩ ⟨rfl, rfl⟩ ⟨by decide, by decide⟩ ?_
        intro r47 S47 L47 R47 p47
        obtain ⟨rfl, rfl, rfl, rfl⟩ := p47
        first | with_reducible refine z_if_eqB C 50 60 dX9_statement_50 (by decide) (fun h50 => ?_) (fun h50 => ?_) | with_reducible refine z_if_eqN C 50 60 dX9_statement_50 (by decide) (by omega) (fun h50 => ?_) (fun h50 => ?_) | refine z_if_eq C 50 60 dX9_statement_50 (by decide) (fun h50 => ?_) (fun h50 => ?_)
        · refine z_aload_n C 60 0 0 dX9_statement_60 rfl rfl ?_
          refine z_iconst (v := nI 1) C 61 dX9_statement_61 (by decide) ?_
          refine z_cVi0 C 62 dX9_statement_62 cv_X9_117 (c_X9_fails hR (show S 40 0 14 = nI 0 from hq.1)) rfl ⟨by decide, rfl⟩ (by first | assumption | exact Nat.zero_lt_one | exact (show (15 : Nat) < 16 by decide) | exact Nat.lt_succ_of_lt (by assumption) | omega) rfl rfl (Nat.le_of_ble_eq_true rfl) ⟨by decide, by decide⟩ ⟨rfl, rfl⟩ ⟨by decide, by decide⟩ ?_
          intro r62 S62 L62 R62 p62
          obtain ⟨rfl, rfl, rfl, rfl⟩ := p62
          exact ret 65 _ _ _ _ _ dX9_statement_65 (by first | rfl | exact bI_n | decide) ((by first
      | (rw [stm_3 (D := D) h6 h20 h34]; exact ⟨rfl, tq, dq, Fq, Gq, rfl⟩)
      | (rw [stm_4 (D := D) h6 h20 h34 h50]; exact ⟨rfl, tq, dq, Fq, Gq, rfl⟩)
      | (rw [stm_5 (D := D) h6 h20 h34 h50, ld0.1]; exact ⟨bI_0 (fun z => nomatch z), rFl_st (by decide) (by decide), fun z => (nomatch z), rFl_re.rs, LW.rf _, rfl⟩)))
        · refine z_aload_n C 53 0 0 dX9_statement_53 rfl rfl ?_
          refine z_cVi0 C 54 dX9_statement_54 cv_X9_182 (c_X9_policyLine (un := un) (len := len) (p := p) (D := D) hR hU hq hD hok) rfl ⟨by decide, rfl⟩ (by first | assumption | exact Nat.zero_lt_one | exact (show (15 : Nat) < 16 by decide) | exact Nat.lt_succ_of_lt (by assumption) | omega) rfl rfl (Nat.le_of_ble_eq_true rfl) ⟨by decide, by decide⟩ ⟨rfl, rfl⟩ ⟨by decide, by decide⟩ ?_
          intro r54 S54 L54 R54 p54
          obtain ⟨rfl, tq, dq, Fq, Gq, rfl⟩ := p54
          refine z_goto C 57 65 dX9_statement_57 (by decide) ?_
          exact ret 65 _ _ _ _ _ dX9_statement_65 (by first | rfl | exact bI_n | decide) ((by first
      | (rw [stm_3 (D := D) h6 h20 h34]; exact ⟨rfl, tq, dq, Fq, Gq, rfl⟩)
      | (rw [stm_4 (D := D) h6 h20 h34 h50]; exact ⟨rfl, tq, dq, Fq, Gq, rfl⟩)
      | (rw [stm_5 (D := D) h6 h20 h34 h50, ld0.1]; exact ⟨bI_0 (fun z => nomatch z), rFl_st (by decide) (by decide), fun z => (nomatch z), rFl_re.rs, LW.rf _, rfl⟩)))
      · refine z_aload_n C 37 0 0 dX9_statement_37 rfl rfl ?_
        refine z_cVi0 C 38 dX9_statement_38 cv_X9_177 (c_X9_costsLine (un := un) (len := len) (p := p) (D := D) hR hU hq hD hok) rfl ⟨by decide, rfl⟩ (by first | assumption | exact Nat.zero_lt_one | exact (show (15 : Nat) < 16 by decide) | exact Nat.lt_succ_of_lt (by assumption) | omega) rfl rfl (Nat.le_of_ble_eq_true rfl) ⟨by decide, by decide⟩ ⟨rfl, rfl⟩ ⟨by decide, by decide⟩ ?_
        intro r38 S38 L38 R38 p38
        obtain ⟨rfl, tq, dq, Fq, Gq, rfl⟩ := p38
        refine z_goto C 41 65 dX9_statement_41 (by decide) ?_
        exact ret 65 _ _ _ _ _ dX9_statement_65 (by first | rfl | exact bI_n | decide) ((by first
      | (rw [stm_3 (D := D) h6 h20 h34]; exact ⟨rfl, tq, dq, Fq, Gq, rfl⟩)
      | (rw [stm_4 (D := D) h6 h20 h34 h50]; exact ⟨rfl, tq, dq, Fq, Gq, rfl⟩)
      | (rw [stm_5 (D := D) h6 h20 h34 h50, ld0.1]; exact ⟨bI_0 (fun z => nomatch z), rFl_st (by decide) (by decide), fun z => (nomatch z), rFl_re.rs, LW.rf _, rfl⟩)))
    · refine z_aload_n C 23 0 0 dX9_statement_23 rfl rfl ?_
      refine z_cVi0 C 24 dX9_statement_24 cv_X9_173 (c_X9_workLine (un := un) (len := len) (p := p) (D := D) hR hU hq hD hok) rfl ⟨by decide, rfl⟩ (by first | assumption | exact Nat.zero_lt_one | exact (show (15 : Nat) < 16 by decide) | exact Nat.lt_succ_of_lt (by assumption) | omega) rfl rfl (Nat.le_of_ble_eq_true rfl) ⟨by decide, by decide⟩ ⟨rfl, rfl⟩ ⟨by decide, by decide⟩ ?_
      intro r24 S24 L24 R24 p24
      obtain ⟨rfl, tq, dq, Fq, Gq, rfl⟩ := p24
      exact ret 27 _ _ _ _ _ dX9_statement_27 (by first | rfl | exact bI_n | decide) ((by rw [stm_2 (D := D) h6 h20]; exact ⟨rfl, tq, dq, Fq, Gq, rfl⟩))
  · refine z_aload_n C 9 0 0 dX9_statement_9 rfl rfl ?_
    refine z_cVi0 C 10 dX9_statement_10 cv_X9_167 (c_X9_programLine (un := un) (len := len) (p := p) (D := D) hR hU hq hD hok) rfl ⟨by decide, rfl⟩ (by first | assumption | exact Nat.zero_lt_one | exact (show (15 : Nat) < 16 by decide) | exact Nat.lt_succ_of_lt (by assumption) | omega) rfl rfl (Nat.le_of_ble_eq_true rfl) ⟨by decide, by decide⟩ ⟨rfl, rfl⟩ ⟨by decide, by decide⟩ ?_
    intro r10 S10 L10 R10 p10
    obtain ⟨rfl, tq, dq, Fq, Gq, rfl⟩ := p10
    exact ret 13 _ _ _ _ _ dX9_statement_13 (by first | rfl | exact bI_n | decide) ((by rw [stm_1 (D := D) h6]; exact ⟨rfl, tq, dq, Fq, Gq, rfl⟩))
/-- the draft cleared -/
def cDr (S : mS) : mS := up3 (up3 (up3 (up3 (up3 (up3 (up3 S 40 0 18 (nI 0)) 40 0 19 (nI 0)) 40 0 20 (nI 0)) 48 0 0 (nI 10)) 48 0 1 (nI 2)) 48 0 2 (nI 5)) 48 0 3 (nI 20)
/-- a phone begun: a numbers, c costs, n of now's numbers written -/
def BG (S S1 : mS) (a c n : Nat) : Prop := (∀ x, x < a → S1 41 0 x = S 46 0 x) ∧ (∀ x, x < c → S1 43 0 x = S 48 0 x) ∧ (∀ x, x < n → S1 44 0 x = nI 0) ∧ (∀ k i, k ≠ 40 → k ≠ 41 → k ≠ 43 → k ≠ 44 → S1 k i = S k i) ∧ (∀ x, x ≠ 1 → S1 40 0 x = S 40 0 x) ∧ S1 40 0 1 = S 40 0 18
theorem BG.a {S S1 : mS} {a c n : Nat} (h : BG S S1 a c n) : BG S (up3 S1 41 0 a (S1 46 0 a)) (a + 1) c n := by
  obtain ⟨h1, h2, h3, h4, h5, h6⟩ := h
  refine ⟨fun x hx => ?_, fun x hx => by rw [up3_k _ (by omega)]; exact h2 x hx, fun x hx => by rw [up3_k _ (by omega)]; exact h3 x hx, fun k i e0 e1 e2 e3 => by rw [up3_k _ e1]; exact h4 k i e0 e1 e2 e3, fun x hx => by rw [up3_k _ (by omega)]; exact h5 x hx, by rw [up3_k _ (by omega)]; exact h6⟩
  rw [up3_at]
  by_cases e : x = a
  · rw [if_pos ⟨rfl, rfl, e⟩, e, h4 46 0 (by omega) (by omega) (by omega) (by omega)]
  · rw [if_neg (fun z => e z.2.2)]
    exact h1 x (by omega)
theorem BG.c {S S1 : mS} {a c n : Nat} (h : BG S S1 a c n) : BG S (up3 S1 43 0 c (S1 48 0 c)) a (c + 1) n := by
  obtain ⟨h1, h2, h3, h4, h5, h6⟩ := h
  refine ⟨fun x hx => by rw [up3_k _ (by omega)]; exact h1 x hx, fun x hx => ?_, fun x hx => by rw [up3_k _ (by omega)]; exact h3 x hx, fun k i e0 e1 e2 e3 => by rw [up3_k _ e2]; exact h4 k i e0 e1 e2 e3, fun x hx => by rw [up3_k _ (by omega)]; exact h5 x hx, by rw [up3_k _ (by omega)]; exact h6⟩
  rw [up3_at]
  by_cases e : x = c
  · rw [if_pos ⟨rfl, rfl, e⟩, e, h4 48 0 (by omega) (by omega) (by omega) (by omega)]
  · rw [if_neg (fun z => e z.2.2)]
    exact h2 x (by omega)
theorem BG.n {S S1 : mS} {a c n : Nat} (h : BG S S1 a c n) : BG S (up3 S1 44 0 n (nI 0)) a c (n + 1) := by
  obtain ⟨h1, h2, h3, h4, h5, h6⟩ := h
  refine ⟨fun x hx => by rw [up3_k _ (by omega)]; exact h1 x hx, fun x hx => by rw [up3_k _ (by omega)]; exact h2 x hx, fun x hx => ?_, fun k i e0 e1 e2 e3 => by rw [up3_k _ e3]; exact h4 k i e0 e1 e2 e3, fun x hx => by rw [up3_k _ (by omega)]; exact h5 x hx, by rw [up3_k _ (by omega)]; exact h6⟩
  rw [up3_at]
  by_cases e : x = n
  · rw [if_pos ⟨rfl, rfl, e⟩]
  · rw [if_neg (fun z => e z.2.2)]
    exact h3 x (by omega)
/-- behind begins -/
def BZ (S S2 : mS) (L L2 : mL) : Prop := (∀ x, x < 80 → S2 41 0 x = S 46 0 x) ∧ (∀ x, x < 4 → S2 43 0 x = S 48 0 x) ∧ S2 44 0 = fBeg (S 40 0 17) (S 40 0 19) ∧ (∀ k i, k ≠ 40 → k ≠ 41 → k ≠ 43 → k ≠ 44 → k ≠ 53 → S2 k i = S k i) ∧ (∀ x, x ≠ 1 → x ≠ 27 → S2 40 0 x = S 40 0 x) ∧ S2 40 0 1 = S 40 0 18 ∧ S2 40 0 27 = nI 0 ∧ (∀ s, s < 2 → S2 53 0 s = nI 0) ∧ (∀ x, x < 10 → L2 42 0 x = L 47 0 x) ∧ ∀ k i, k ≠ 42 → L2 k i = L k i
def bgM (S1 : mS) (l p : Int32) : mS := up3 (up3 (up3 (up3 (up3 (up3 (up3 S1 44 0 0 l) 44 0 2 (-1)) 44 0 3 (-1)) 44 0 4 p) 40 0 27 (nI 0)) 53 0 0 (nI 0)) 53 0 1 (nI 0)
theorem bgM_e {S S1 : mS} {l p : Int32} (h : BG S S1 80 4 438) : ∀ k i j, mrg k j → bgM S1 l p k i j = sA (bgM S1 l p) 44 (fBeg l p) k i j := by
  intro k i j hj
  unfold sA
  split
  · rename_i e
    obtain ⟨rfl, rfl⟩ := e
    have hj : j < 438 := hj
    simp only [bgM, up3_at, fBeg]
    by_cases e0 : j = 0
    · simp [e0]
    · by_cases e2 : j = 2
      · simp [e2]
      · by_cases e3 : j = 3
        · simp [e3]
        · by_cases e4 : j = 4
          · simp [e4]
          · simp [e0, e2, e3, e4]
            exact h.2.2.1 j hj
  · rfl
theorem bgM_z {S S1 : mS} {L L2 : mL} (h : BG S S1 80 4 438) (hL : ∀ x, x < 10 → L2 42 0 x = L 47 0 x) (hG : ∀ k i, k ≠ 42 → L2 k i = L k i) : BZ S (sA (bgM S1 (S1 40 0 17) (S1 40 0 19)) 44 (fBeg (S1 40 0 17) (S1 40 0 19))) L L2 := by
  obtain ⟨h1, h2, h3, h4, h5, h6⟩ := h
  refine ⟨fun x hx => ?_, fun x hx => ?_, ?_, fun k i e0 e1 e2 e3 e4 => ?_, fun x hx hx2 => ?_, ?_, ?_, fun s hs => ?_, hL, hG⟩
  · rw [← h1 x hx]; simp [sA, bgM, up3_at]
  · rw [← h2 x hx]; simp [sA, bgM, up3_at]
  · funext x
    rw [← h5 17 (by omega), ← h5 19 (by omega)]
    simp [sA]
  · rw [← h4 k i e0 e1 e2 e3]
    funext j
    simp [sA, bgM, up3_at, e0, e3, e4]
  · rw [← h5 x hx]
    simp [sA, bgM, up3_at, hx2]
  · rw [← h6]
    simp [sA, bgM, up3_at]
  · simp [sA, bgM, up3_at]
  · rcases (show s = 0 ∨ s = 1 by omega) with rfl | rfl <;> simp [sA, bgM, up3_at]

def rm_X9_clearsDraft : Room := { frames := 0, cells := 0, slots := 0, locals := 0 }
set_option maxHeartbeats 4000000 in
set_option maxRecDepth 100000 in
theorem c_X9_clearsDraft {l : Launch} {G : mG} {ad : mA} {S : mS} {L : mL} {R : mR} {dm : mD} (hdm : ∀ k, 40 ≤ k → k ≤ 53 → dm k 0) (hV : ∀ j q, mlf 40 0 j = some q → R 40 0 j = some q) : Kv l yX9_clearsDraft cX9_clearsDraft 1 rm_X9_clearsDraft G ad dm [.ref (ad 40 0)] S L R (fun S2 L2 R2 => cDr S = S2 ∧ L = L2 ∧ R = R2) := by
  refine Kv.of RX9 (by decide) rfl (Nat.le_of_ble_eq_true rfl) ?_
  intro X hXl hXG C ret
  subst hXl; subst hXG
  change Z X 1 ad dm S L R 0 0 0 [(0, _)] []
  refine z_aload_n C 0 0 0 dX9_clearsDraft_0 rfl rfl ?_
  refine z_iconst (v := nI 0) C 1 dX9_clearsDraft_1 (by decide) ?_
  refine z_puti C 2 dX9_clearsDraft_2 gf_X9_135 ⟨rfl, rfl⟩ rfl (by first | exact hdm _ (by decide) (by decide) | omega) ?_
  refine z_aload_n C 5 0 0 dX9_clearsDraft_5 rfl rfl ?_
  refine z_iconst (v := nI 0) C 6 dX9_clearsDraft_6 (by decide) ?_
  refine z_puti C 7 dX9_clearsDraft_7 gf_X9_162 ⟨rfl, rfl⟩ rfl (by first | exact hdm _ (by decide) (by decide) | omega) ?_
  refine z_aload_n C 10 0 0 dX9_clearsDraft_10 rfl rfl ?_
  refine z_iconst (v := nI 0) C 11 dX9_clearsDraft_11 (by decide) ?_
  refine z_puti C 12 dX9_clearsDraft_12 gf_X9_146 ⟨rfl, rfl⟩ rfl (by first | exact hdm _ (by decide) (by decide) | omega) ?_
  refine z_aload_n C 15 0 0 dX9_clearsDraft_15 rfl rfl ?_
  refine z_getr C 16 dX9_clearsDraft_16 gf_X9_37 rfl (by first | exact hdm _ (by decide) (by decide) | omega) (by first | exact hV _ _ rfl) ?_
  refine z_iconst (v := nI 0) C 19 dX9_clearsDraft_19 (by decide) ?_
  refine z_bipush (v := nI 10) C 20 dX9_clearsDraft_20 (by decide +kernel) ?_
  refine z_iast C 22 dX9_clearsDraft_22 (by first | rfl | assumption) (by first | exact hdm _ (by decide) (by decide) | omega)  (by first | rfl | assumption) (by first | decide | omega) (by first | assumption | omega) ?_
  refine z_aload_n C 23 0 0 dX9_clearsDraft_23 rfl rfl ?_
  refine z_getr C 24 dX9_clearsDraft_24 gf_X9_37 rfl (by first | exact hdm _ (by decide) (by decide) | omega) (by first | exact hV _ _ rfl) ?_
  refine z_iconst (v := nI 1) C 27 dX9_clearsDraft_27 (by decide) ?_
  refine z_iconst (v := nI 2) C 28 dX9_clearsDraft_28 (by decide) ?_
  refine z_iast C 29 dX9_clearsDraft_29 (by first | rfl | assumption) (by first | exact hdm _ (by decide) (by decide) | omega)  (by first | rfl | assumption) (by first | decide | omega) (by first | assumption | omega) ?_
  refine z_aload_n C 30 0 0 dX9_clearsDraft_30 rfl rfl ?_
  refine z_getr C 31 dX9_clearsDraft_31 gf_X9_37 rfl (by first | exact hdm _ (by decide) (by decide) | omega) (by first | exact hV _ _ rfl) ?_
  refine z_iconst (v := nI 2) C 34 dX9_clearsDraft_34 (by decide) ?_
  refine z_iconst (v := nI 5) C 35 dX9_clearsDraft_35 (by decide) ?_
  refine z_iast C 36 dX9_clearsDraft_36 (by first | rfl | assumption) (by first | exact hdm _ (by decide) (by decide) | omega)  (by first | rfl | assumption) (by first | decide | omega) (by first | assumption | omega) ?_
  refine z_aload_n C 37 0 0 dX9_clearsDraft_37 rfl rfl ?_
  refine z_getr C 38 dX9_clearsDraft_38 gf_X9_37 rfl (by first | exact hdm _ (by decide) (by decide) | omega) (by first | exact hV _ _ rfl) ?_
  refine z_iconst (v := nI 3) C 41 dX9_clearsDraft_41 (by decide) ?_
  refine z_bipush (v := nI 20) C 42 dX9_clearsDraft_42 (by decide +kernel) ?_
  refine z_iast C 44 dX9_clearsDraft_44 (by first | rfl | assumption) (by first | exact hdm _ (by decide) (by decide) | omega)  (by first | rfl | assumption) (by first | decide | omega) (by first | assumption | omega) ?_
  exact ret 45 _ _ _ _ dX9_clearsDraft_45 (⟨rfl, rfl, rfl⟩)
def rm_X9_begins : Room := { frames := 0, cells := 0, slots := 0, locals := 0 }
set_option maxHeartbeats 4000000 in
set_option maxRecDepth 100000 in
theorem c_X9_begins {l : Launch} {G : mG} {ad : mA} {S : mS} {L : mL} {R : mR} {dm : mD} (hdm : ∀ k, 40 ≤ k → k ≤ 53 → dm k 0) (hV : ∀ j q, mlf 40 0 j = some q → R 40 0 j = some q) : Kv l yX9_begins cX9_begins 2 rm_X9_begins G ad dm [.ref (ad 40 0)] S L R (fun S2 L2 R2 => BZ S S2 L L2 ∧ R = R2) := by
  refine Kv.of RX9 (by decide) rfl (Nat.le_of_ble_eq_true rfl) ?_
  intro X hXl hXG C ret
  subst hXl; subst hXG
  change Z X 2 ad dm S L R 0 0 0 [(0, _)] []
  refine z_aload_n C 0 0 0 dX9_begins_0 rfl rfl ?_
  refine z_aload_n C 1 0 0 dX9_begins_1 rfl rfl ?_
  refine z_geti C 2 dX9_begins_2 gf_X9_135 rfl (by first | exact hdm _ (by decide) (by decide) | omega) ?_
  refine z_puti C 5 dX9_begins_5 gf_X9_197 ⟨rfl, rfl⟩ rfl (by first | exact hdm _ (by decide) (by decide) | omega) ?_
  refine z_iconst (v := nI 0) C 8 dX9_begins_8 (by decide) ?_
  refine z_istore_n C 9 1 [(1, _), (0, _)] dX9_begins_9 rfl (by decide) rfl ?_
  have loop_10 : ∀ (n_10 : Nat) (j : Nat) (S1 : mS), j ≤ 80 → BG S S1 j 0 0 → 80 - j < n_10 → Z X 2 ad dm S1 L R 0 0 10 [(1, .int (nI j)), (0, .ref (ad 40 0))] [] := by
    intro n_10
    induction n_10 with
    | zero => intro j S1 hj g hm10; exact absurd hm10 (Nat.not_lt_zero _)
    | succ n_10 ih10 =>
      intro j S1 hj g hm10
      refine z_iload_n C 10 1 0 dX9_begins_10 rfl rfl ?_
      refine z_bipush (v := nI 80) C 11 dX9_begins_11 (by decide +kernel) ?_
      first | with_reducible refine z_icmp_geN C 13 34 dX9_begins_13 (by decide) (by omega) (by omega) (fun h13 => ?_) (fun h13 => ?_) | refine z_icmp_ge C 13 34 dX9_begins_13 (by decide) (fun h13 => ?_) (fun h13 => ?_)
      · have ej : j = 80 := by omega
        subst ej
        refine z_iconst (v := nI 0) C 34 dX9_begins_34 (by decide) ?_
        refine z_istore_n C 35 1 [(1, _), (0, _)] dX9_begins_35 rfl (by decide) rfl ?_
        have loop_36 : ∀ (n_36 : Nat) (j : Nat) (L1 : mL), j ≤ 10 → (∀ x, x < j → L1 42 0 x = L 47 0 x) → (∀ k i, k ≠ 42 → L1 k i = L k i) → 10 - j < n_36 → Z X 2 ad dm S1 L1 R 0 0 36 [(1, .int (nI j)), (0, .ref (ad 40 0))] [] := by
          intro n_36
          induction n_36 with
          | zero => intro j L1 hj2 hL hG hm36; exact absurd hm36 (Nat.not_lt_zero _)
          | succ n_36 ih36 =>
            intro j L1 hj2 hL hG hm36
            refine z_iload_n C 36 1 0 dX9_begins_36 rfl rfl ?_
            refine z_bipush (v := nI 10) C 37 dX9_begins_37 (by decide +kernel) ?_
            first | with_reducible refine z_icmp_geN C 39 60 dX9_begins_39 (by decide) (by omega) (by omega) (fun h39 => ?_) (fun h39 => ?_) | refine z_icmp_ge C 39 60 dX9_begins_39 (by decide) (fun h39 => ?_) (fun h39 => ?_)
            · have ej : j = 10 := by omega
              subst ej
              refine z_iconst (v := nI 0) C 60 dX9_begins_60 (by decide) ?_
              refine z_istore_n C 61 1 [(1, _), (0, _)] dX9_begins_61 rfl (by decide) rfl ?_
              have loop_62 : ∀ (n_62 : Nat) (j : Nat) (S1 : mS), j ≤ 4 → BG S S1 80 j 0 → 4 - j < n_62 → Z X 2 ad dm S1 L1 R 0 0 62 [(1, .int (nI j)), (0, .ref (ad 40 0))] [] := by
                intro n_62
                induction n_62 with
                | zero => intro j S1 hj3 g hm62; exact absurd hm62 (Nat.not_lt_zero _)
                | succ n_62 ih62 =>
                  intro j S1 hj3 g hm62
                  refine z_iload_n C 62 1 0 dX9_begins_62 rfl rfl ?_
                  refine z_iconst (v := nI 4) C 63 dX9_begins_63 (by decide) ?_
                  first | with_reducible refine z_icmp_geN C 64 85 dX9_begins_64 (by decide) (by omega) (by omega) (fun h64 => ?_) (fun h64 => ?_) | refine z_icmp_ge C 64 85 dX9_begins_64 (by decide) (fun h64 => ?_) (fun h64 => ?_)
                  · have ej : j = 4 := by omega
                    subst ej
                    refine z_iconst (v := nI 0) C 85 dX9_begins_85 (by decide) ?_
                    refine z_istore_n C 86 1 [(1, _), (0, _)] dX9_begins_86 rfl (by decide) rfl ?_
                    have loop_87 : ∀ (n_87 : Nat) (j : Nat) (S1 : mS), j ≤ 438 → BG S S1 80 4 j → 438 - j < n_87 → Z X 2 ad dm S1 L1 R 0 0 87 [(1, .int (nI j)), (0, .ref (ad 40 0))] [] := by
                      intro n_87
                      induction n_87 with
                      | zero => intro j S1 hj4 g hm87; exact absurd hm87 (Nat.not_lt_zero _)
                      | succ n_87 ih87 =>
                        intro j S1 hj4 g hm87
                        refine z_iload_n C 87 1 0 dX9_begins_87 rfl rfl ?_
                        refine z_sipush (v := nI 438) C 88 dX9_begins_88 (by decide +kernel) ?_
                        first | with_reducible refine z_icmp_geN C 91 107 dX9_begins_91 (by decide) (by omega) (by omega) (fun h91 => ?_) (fun h91 => ?_) | refine z_icmp_ge C 91 107 dX9_begins_91 (by decide) (fun h91 => ?_) (fun h91 => ?_)
                        · have ej : j = 438 := by omega
                          subst ej
                          refine z_aload_n C 107 0 1 dX9_begins_107 rfl rfl ?_
                          refine z_getr C 108 dX9_begins_108 gf_X9_20 rfl (by first | exact hdm _ (by decide) (by decide) | omega) (by first | exact hV _ _ rfl) ?_
                          refine z_iconst (v := nI 0) C 111 dX9_begins_111 (by decide) ?_
                          refine z_aload_n C 112 0 1 dX9_begins_112 rfl rfl ?_
                          refine z_geti C 113 dX9_begins_113 gf_X9_56 rfl (by first | exact hdm _ (by decide) (by decide) | omega) ?_
                          refine z_iast C 116 dX9_begins_116 (by first | rfl | assumption) (by first | exact hdm _ (by decide) (by decide) | omega)  (by first | rfl | assumption) (by first | decide | omega) (by first | assumption | omega) ?_
                          refine z_aload_n C 117 0 1 dX9_begins_117 rfl rfl ?_
                          refine z_getr C 118 dX9_begins_118 gf_X9_20 rfl (by first | exact hdm _ (by decide) (by decide) | omega) (by first | exact hV _ _ rfl) ?_
                          refine z_iconst (v := nI 2) C 121 dX9_begins_121 (by decide) ?_
                          refine z_iconst (v := (-1)) C 122 dX9_begins_122 (by decide) ?_
                          refine z_iast C 123 dX9_begins_123 (by first | rfl | assumption) (by first | exact hdm _ (by decide) (by decide) | omega)  (by first | rfl | assumption) (by first | decide | omega) (by first | assumption | omega) ?_
                          refine z_aload_n C 124 0 1 dX9_begins_124 rfl rfl ?_
                          refine z_getr C 125 dX9_begins_125 gf_X9_20 rfl (by first | exact hdm _ (by decide) (by decide) | omega) (by first | exact hV _ _ rfl) ?_
                          refine z_iconst (v := nI 3) C 128 dX9_begins_128 (by decide) ?_
                          refine z_iconst (v := (-1)) C 129 dX9_begins_129 (by decide) ?_
                          refine z_iast C 130 dX9_begins_130 (by first | rfl | assumption) (by first | exact hdm _ (by decide) (by decide) | omega)  (by first | rfl | assumption) (by first | decide | omega) (by first | assumption | omega) ?_
                          refine z_aload_n C 131 0 1 dX9_begins_131 rfl rfl ?_
                          refine z_getr C 132 dX9_begins_132 gf_X9_20 rfl (by first | exact hdm _ (by decide) (by decide) | omega) (by first | exact hV _ _ rfl) ?_
                          refine z_iconst (v := nI 4) C 135 dX9_begins_135 (by decide) ?_
                          refine z_aload_n C 136 0 1 dX9_begins_136 rfl rfl ?_
                          refine z_geti C 137 dX9_begins_137 gf_X9_162 rfl (by first | exact hdm _ (by decide) (by decide) | omega) ?_
                          refine z_iast C 140 dX9_begins_140 (by first | rfl | assumption) (by first | exact hdm _ (by decide) (by decide) | omega)  (by first | rfl | assumption) (by first | decide | omega) (by first | assumption | omega) ?_
                          refine z_aload_n C 141 0 1 dX9_begins_141 rfl rfl ?_
                          refine z_iconst (v := nI 0) C 142 dX9_begins_142 (by decide) ?_
                          refine z_puti C 143 dX9_begins_143 gf_X9_200 ⟨rfl, rfl⟩ rfl (by first | exact hdm _ (by decide) (by decide) | omega) ?_
                          refine z_aload_n C 146 0 1 dX9_begins_146 rfl rfl ?_
                          refine z_getr C 147 dX9_begins_147 gf_X9_52 rfl (by first | exact hdm _ (by decide) (by decide) | omega) (by first | exact hV _ _ rfl) ?_
                          refine z_iconst (v := nI 0) C 150 dX9_begins_150 (by decide) ?_
                          refine z_iconst (v := nI 0) C 151 dX9_begins_151 (by decide) ?_
                          refine z_zast C 152 dX9_begins_152 (by first | rfl | assumption) (by first | exact hdm _ (by decide) (by decide) | omega)  (by first | rfl | assumption) (by first | decide | omega) (by first | assumption | omega) (by first | exact bI_01 | exact Or.inl rfl | exact Or.inr rfl | assumption) ?_
                          refine z_aload_n C 153 0 1 dX9_begins_153 rfl rfl ?_
                          refine z_getr C 154 dX9_begins_154 gf_X9_52 rfl (by first | exact hdm _ (by decide) (by decide) | omega) (by first | exact hV _ _ rfl) ?_
                          refine z_iconst (v := nI 1) C 157 dX9_begins_157 (by decide) ?_
                          refine z_iconst (v := nI 0) C 158 dX9_begins_158 (by decide) ?_
                          refine z_zast C 159 dX9_begins_159 (by first | rfl | assumption) (by first | exact hdm _ (by decide) (by decide) | omega)  (by first | rfl | assumption) (by first | decide | omega) (by first | assumption | omega) (by first | exact bI_01 | exact Or.inl rfl | exact Or.inr rfl | assumption) ?_
                          refine z_mem (bgM S1 (S1 40 0 17) (S1 40 0 19)) (by rfl) ?_
                          refine z_ext (sA (bgM S1 (S1 40 0 17) (S1 40 0 19)) 44 (fBeg (S1 40 0 17) (S1 40 0 19))) (bgM_e g) ?_
                          exact ret 160 _ _ _ _ dX9_begins_160 (⟨bgM_z g hL hG, rfl⟩)
                        · refine z_aload_n C 94 0 1 dX9_begins_94 rfl rfl ?_
                          refine z_getr C 95 dX9_begins_95 gf_X9_20 rfl (by first | exact hdm _ (by decide) (by decide) | omega) (by first | exact hV _ _ rfl) ?_
                          refine z_iload_n C 98 1 0 dX9_begins_98 rfl rfl ?_
                          refine z_iconst (v := nI 0) C 99 dX9_begins_99 (by decide) ?_
                          refine z_iast C 100 dX9_begins_100 (by first | rfl | assumption) (by first | exact hdm _ (by decide) (by decide) | omega)  (by first | rfl | assumption) (by first | decide | omega) (by first | assumption | omega) ?_
                          refine z_iinc C 101 1 0 [(1, _), (0, _)] dX9_begins_101 rfl (by first | exact nI_1 _ | rfl) (by decide) rfl ?_
                          refine z_goto C 104 87 dX9_begins_104 (by decide) ?_
                          refine z_sub [(1, _), (0, _)] [0, 1] rfl ?_
                          exact ih87 (j + 1) _ (by omega) g.n (by omega)
                    refine z_sub [(1, _), (0, _)] [0, 1] rfl ?_
                    exact loop_87 439 0 _ (by omega) g (by omega)
                  · refine z_aload_n C 67 0 1 dX9_begins_67 rfl rfl ?_
                    refine z_getr C 68 dX9_begins_68 gf_X9_17 rfl (by first | exact hdm _ (by decide) (by decide) | omega) (by first | exact hV _ _ rfl) ?_
                    refine z_iload_n C 71 1 0 dX9_begins_71 rfl rfl ?_
                    refine z_aload_n C 72 0 1 dX9_begins_72 rfl rfl ?_
                    refine z_getr C 73 dX9_begins_73 gf_X9_37 rfl (by first | exact hdm _ (by decide) (by decide) | omega) (by first | exact hV _ _ rfl) ?_
                    refine z_iload_n C 76 1 0 dX9_begins_76 rfl rfl ?_
                    refine z_iald C 77 dX9_begins_77 (by first | rfl | assumption) (by first | exact hdm _ (by decide) (by decide) | omega) (by first | rfl | assumption) (by first | decide | omega) (by first | assumption | omega) ?_
                    refine z_iast C 78 dX9_begins_78 (by first | rfl | assumption) (by first | exact hdm _ (by decide) (by decide) | omega)  (by first | rfl | assumption) (by first | decide | omega) (by first | assumption | omega) ?_
                    refine z_iinc C 79 1 0 [(1, _), (0, _)] dX9_begins_79 rfl (by first | exact nI_1 _ | rfl) (by decide) rfl ?_
                    refine z_goto C 82 62 dX9_begins_82 (by decide) ?_
                    refine z_sub [(1, _), (0, _)] [0, 1] rfl ?_
                    exact ih62 (j + 1) _ (by omega) g.c (by omega)
              refine z_sub [(1, _), (0, _)] [0, 1] rfl ?_
              exact loop_62 5 0 _ (by omega) g (by omega)
            · refine z_aload_n C 42 0 1 dX9_begins_42 rfl rfl ?_
              refine z_getr C 43 dX9_begins_43 gf_X9_13 rfl (by first | exact hdm _ (by decide) (by decide) | omega) (by first | exact hV _ _ rfl) ?_
              refine z_iload_n C 46 1 0 dX9_begins_46 rfl rfl ?_
              refine z_aload_n C 47 0 1 dX9_begins_47 rfl rfl ?_
              refine z_getr C 48 dX9_begins_48 gf_X9_34 rfl (by first | exact hdm _ (by decide) (by decide) | omega) (by first | exact hV _ _ rfl) ?_
              refine z_iload_n C 51 1 0 dX9_begins_51 rfl rfl ?_
              refine z_lald C 52 dX9_begins_52 rfl (by first | exact hdm _ (by decide) (by decide) | omega) (by first | rfl | assumption) (by first | decide | omega) (by first | assumption | omega) ?_
              refine z_last C 53 dX9_begins_53 (by first | rfl | assumption) (by first | exact hdm _ (by decide) (by decide) | omega)  (by first | rfl | assumption) (by first | decide | omega) (by first | assumption | omega) ?_
              refine z_iinc C 54 1 0 [(1, _), (0, _)] dX9_begins_54 rfl (by first | exact nI_1 _ | rfl) (by decide) rfl ?_
              refine z_goto C 57 36 dX9_begins_57 (by decide) ?_
              refine z_sub [(1, _), (0, _)] [0, 1] rfl ?_
              exact ih36 (j + 1) _ (by omega) (fun x hx => by rw [up3_at]; by_cases e : x = j; rw [if_pos ⟨rfl, rfl, e⟩, e, hG 47 0 (by omega)]; rw [if_neg (fun z => e z.2.2)]; exact hL x (by omega)) (fun k i a => by rw [up3_k _ a]; exact hG k i a) (by omega)
        refine z_sub [(1, _), (0, _)] [0, 1] rfl ?_
        exact loop_36 11 0 L (by omega) (fun x hx => absurd hx (Nat.not_lt_zero _)) (fun _ _ _ => rfl) (by omega)
      · refine z_aload_n C 16 0 1 dX9_begins_16 rfl rfl ?_
        refine z_getr C 17 dX9_begins_17 gf_X9_7 rfl (by first | exact hdm _ (by decide) (by decide) | omega) (by first | exact hV _ _ rfl) ?_
        refine z_iload_n C 20 1 0 dX9_begins_20 rfl rfl ?_
        refine z_aload_n C 21 0 1 dX9_begins_21 rfl rfl ?_
        refine z_getr C 22 dX9_begins_22 gf_X9_31 rfl (by first | exact hdm _ (by decide) (by decide) | omega) (by first | exact hV _ _ rfl) ?_
        refine z_iload_n C 25 1 0 dX9_begins_25 rfl rfl ?_
        refine z_iald C 26 dX9_begins_26 (by first | rfl | assumption) (by first | exact hdm _ (by decide) (by decide) | omega) (by first | rfl | assumption) (by first | decide | omega) (by first | assumption | omega) ?_
        refine z_iast C 27 dX9_begins_27 (by first | rfl | assumption) (by first | exact hdm _ (by decide) (by decide) | omega)  (by first | rfl | assumption) (by first | decide | omega) (by first | assumption | omega) ?_
        refine z_iinc C 28 1 0 [(1, _), (0, _)] dX9_begins_28 rfl (by first | exact nI_1 _ | rfl) (by decide) rfl ?_
        refine z_goto C 31 10 dX9_begins_31 (by decide) ?_
        refine z_sub [(1, _), (0, _)] [0, 1] rfl ?_
        exact ih10 (j + 1) _ (by omega) g.a (by omega)
  refine z_sub [(1, _), (0, _)] [0, 1] rfl ?_
  exact loop_10 81 0 _ (by omega) ⟨fun x hx => absurd hx (Nat.not_lt_zero _), fun x hx => absurd hx (Nat.not_lt_zero _), fun x hx => absurd hx (Nat.not_lt_zero _), fun k i a _ _ _ => by rw [up3_k _ a], fun x hx => up3_j _ hx, up3_s _ _ _ _ _⟩ (by omega)
