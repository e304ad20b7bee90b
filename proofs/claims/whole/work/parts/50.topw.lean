/-- the outcome of a showing that is tried in phone v -/
def TSr (S2 : mS) (R2 : mR) (T c N : NN) (d n B v p : Nat) (r : Int32) : Prop := (r = nI 1 ∧ ∃ M, VR S2 R2 T d n B v M ∧ ((fo N p 0 = nI 1 ∧ M = N) ∨ (¬ fo N p 0 = nI 1 ∧ ∃ m, fShow N T c n p = some (m, M)))) ∨ (r = nI 0 ∧ ¬ fo N p 0 = nI 1 ∧ fShow N T c n p = none)
theorem TSr.of {S2 : mS} {R2 : mR} {T c N : NN} {d n B v p : Nat} {r : Int32} (hT : tI T n) (hn : n ≤ 10) (hp : p < n) (hJ : JI N T n B) (h1 : R2 25 v 1 = some (3, d)) (h2 : R2 12 v 0 = some (3, d)) (h : if fo N p 0 = nI 1 then r = nI 1 ∧ AB S2 v N n else match fShow N T c n p with | some q => r = nI 1 ∧ AB S2 v q.2 n | none => r = nI 0) : TSr S2 R2 T c N d n B v p r := by
  by_cases e : fo N p 0 = nI 1
  · rw [if_pos e] at h
    exact Or.inl ⟨h.1, N, ⟨h.2, h1, h2, hJ⟩, Or.inl ⟨e, rfl⟩⟩
  · rw [if_neg e] at h
    cases hq : fShow N T c n p with
    | none => rw [hq] at h; exact Or.inr ⟨h, e, hq⟩
    | some q => rw [hq] at h; exact Or.inl ⟨h.1, q.2, ⟨h.2, h1, h2, hJ.show hT hn hp hq⟩, Or.inr ⟨e, q.1, hq⟩⟩
/-- shown: the row behind it -/
theorem TSr.row {T c N M : NN} {n p : Nat} (h : (fo N p 0 = nI 1 ∧ M = N) ∨ (¬ fo N p 0 = nI 1 ∧ ∃ m, fShow N T c n p = some (m, M))) : (fShowR N T c n p).2.2 = M ∧ (fShowR N T c n p).1 = fWait N T c p := by
  rcases h with ⟨h, rfl⟩ | ⟨h, m, hm⟩
  · rw [fShowR_0 h, fWait_1 h]
    exact ⟨rfl, rfl⟩
  · rw [fShowR_y h hm]
    exact ⟨rfl, rfl⟩
abbrev tsO (T c N M : NN) (n p : Nat) : Prop := (fo N p 0 = nI 1 ∧ M = N) ∨ (¬ fo N p 0 = nI 1 ∧ ∃ m, fShow N T c n p = some (m, M))
theorem qWhy_y {T c N M : NN} {n p B : Nat} (hJ : JI N T n B) (hT : tI T n) (hn : n ≤ 10) (hp : p < n) (nw : ¬ fWait N T c p = -1) (h : tsO T c N M n p) : nI 0 = qWhy N T c n p := by
  unfold qWhy
  rcases h with ⟨e, -⟩ | ⟨e, m, hm⟩
  · rw [if_pos e]
  · rw [if_neg e, if_neg (fShow_fits hJ hT hn hp e hm), fShowR_y e hm, if_neg nw]
theorem qTrims_y {T c N M : NN} {n p : Nat} (hI : rI N n) (hn : n ≤ 10) (hp : p < n) (nw : ¬ fWait N T c p = -1) (h : tsO T c N M n p) : fSt M - fSt N = qTrims N T c n p := by
  unfold qTrims
  rcases h with ⟨e, rfl⟩ | ⟨e, m, hm⟩
  · rw [fShowR_0 e, if_neg (show ¬ nI 0 = -1 by decide), Int32.sub_self]
    rfl
  · rw [fShowR_y e hm, if_neg nw, fSt_show hI hn hp hm, i_sub]
theorem qState_y {T c N M : NN} {n p w : Nat} (nw : ¬ fWait N T c p = -1) (h : tsO T c N M n p) : fo M w 0 = qState N T c n p w := by
  unfold qState
  rcases h with ⟨e, rfl⟩ | ⟨e, m, hm⟩
  · rw [fShowR_0 e, if_neg (show ¬ nI 0 = -1 by decide)]
  · rw [fShowR_y e hm, if_neg nw]
theorem RX_l1 {R : mR} {v d : Nat} : (up3 (up3 R 25 v 1 (some (3, d))) 12 v 0 (some (3, d))) 25 v 1 = some (3, d) := by rw [up3_k _ (by omega), up3_s]
theorem RX_l2 {R : mR} {v d : Nat} : (up3 (up3 R 25 v 1 (some (3, d))) 12 v 0 (some (3, d))) 12 v 0 = some (3, d) := up3_s _ _ _ _ _

def rm_X8_acceptTrial : Room := { frames := 2, cells := 0, slots := 0, locals := 43 }
set_option maxHeartbeats 4000000 in
set_option maxRecDepth 100000 in
theorem c_X8_acceptTrial {l : Launch} {G : mG} {ad : mA} {S : mS} {L : mL} {R : mR} {T c N : NN} {d n B x u : Nat} {ph : Nat → Nat} {UR SR : Nat → NN} {sf : Nat → Nat} {M : NN} (h : CS S R T c d n B x u ph N UR SR sf) (hM : VR S R T d n B (ph 1) M) : Kv l yX8_acceptTrial cX8_acceptTrial 2 rm_X8_acceptTrial G ad mdm [.ref (ad 0 0)] S L R (fun S2 L2 R2 => CQ S S2 R2 T c d n B (uN u) M (pU UR N u) SR sf ∧ L = L2) := by
  refine Kv.of RX8 (by decide) rfl (Nat.le_of_ble_eq_true rfl) ?_
  intro X hXl hXG C ret
  subst hXl; subst hXG
  change Z X 2 ad mdm S L R 0 0 0 [(0, _)] []
  have hR := h.1
  obtain ⟨hP1, hP2, r5, r6, r7, r32, r33⟩ := h.2.1
  obtain ⟨hd2, rD, rE, hAT, hAC, hn10, hT⟩ := h.2.2.1
  obtain ⟨hx, hx10, hu, hu10⟩ := h.2.2.2.1
  obtain ⟨hB, hv1, hv2, hJ⟩ := h.2.2.2.2.1
  have hB31 := h.2.2.2.2.2.2.2
  have hI := hJ.1.1
  have hp0 : ph 0 < 15 := hP1 0 (by omega)
  have hp1 : ph 1 < 15 := hP1 1 (by omega)
  have hp2 : ph 2 < 15 := hP1 2 (by omega)
  have h10 : ph 1 ≠ ph 0 := h.ne (by omega) (by omega) (by omega)
  have h01 : ph 0 ≠ ph 1 := h.ne (by omega) (by omega) (by omega)
  have hd : d < 3 := by omega
  have hcn := hAT.1
  have hP := hB.2.2.2.2
  have hp3 : ph (3 + x) < 15 := hP1 (3 + x) (by omega)
  refine z_aload_n C 0 0 0 dX8_acceptTrial_0 rfl rfl ?_
  refine z_getr C 1 dX8_acceptTrial_1 gf_X8_55 rfl (by first | assumption | exact Nat.zero_lt_one | exact (show (15 : Nat) < 16 by decide) | exact Nat.lt_succ_of_lt (by assumption) | omega) (by first | exact hR _ _ _ _ rfl | exact hR2 _ _ _ _ rfl | assumption) ?_
  refine z_aload_n C 4 0 0 dX8_acceptTrial_4 rfl rfl ?_
  refine z_getr C 5 dX8_acceptTrial_5 gf_X8_42 rfl (by first | assumption | exact Nat.zero_lt_one | exact (show (15 : Nat) < 16 by decide) | exact Nat.lt_succ_of_lt (by assumption) | omega) (by first | exact hR _ _ _ _ rfl | exact hR2 _ _ _ _ rfl | assumption) ?_
  refine z_cVr0 C 8 dX8_acceptTrial_8 cv_X8_264 (c_X2_keep (a := ph 0) (b := ph (3 + x)) (x := x) (u := u) hR hp0 hp3 hx hx10 hu hu10 (r32 x hx10)) rfl ⟨by decide, rfl⟩ (by first | assumption | exact Nat.zero_lt_one | exact (show (15 : Nat) < 16 by decide) | exact Nat.lt_succ_of_lt (by assumption) | omega) rfl rfl (Nat.le_of_ble_eq_true rfl) ⟨by decide, by decide⟩ ⟨rfl, rfl⟩ ⟨by decide, by decide⟩ ?_
  intro k8 i8 S8 L8 R8 p8
  obtain ⟨hk, rfl, rfl, rfl⟩ := p8
  cases hk
  have r6b : (up3 R 32 0 x (some (25, ph 0))) 0 0 6 = some (25, ph 1) := by rw [up3_k _ (by omega)]; exact r6
  have hR2 : mlk (up3 R 32 0 x (some (25, ph 0))) := hR.up rfl
  refine z_astore_n C 11 1 [(1, _), (0, _)] dX8_acceptTrial_11 rfl (by decide) rfl ?_
  refine z_aload_n C 12 0 1 dX8_acceptTrial_12 rfl rfl ?_
  refine z_aload_n C 13 0 1 dX8_acceptTrial_13 rfl rfl ?_
  refine z_getr C 14 dX8_acceptTrial_14 gf_X8_46 rfl (by first | assumption | exact Nat.zero_lt_one | exact (show (15 : Nat) < 16 by decide) | exact Nat.lt_succ_of_lt (by assumption) | omega) (by first | exact hR _ _ _ _ rfl | exact hR2 _ _ _ _ rfl | assumption) ?_
  refine z_putr C 17 dX8_acceptTrial_17 gf_X8_42 ⟨rfl, fun _ => ⟨rfl, rfl⟩⟩ rfl (by first | assumption | exact Nat.zero_lt_one | exact (show (15 : Nat) < 16 by decide) | exact Nat.lt_succ_of_lt (by assumption) | omega) ?_
  refine z_aload_n C 20 0 1 dX8_acceptTrial_20 rfl rfl ?_
  refine z_aload_n C 21 1 0 dX8_acceptTrial_21 rfl rfl ?_
  refine z_putr C 22 dX8_acceptTrial_22 gf_X8_46 ⟨rfl, fun _ => ⟨rfl, rfl⟩⟩ rfl (by first | assumption | exact Nat.zero_lt_one | exact (show (15 : Nat) < 16 by decide) | exact Nat.lt_succ_of_lt (by assumption) | omega) ?_
  exact ret 25 _ _ _ _ dX8_acceptTrial_25 (⟨⟨((FC.rf S).up (by omega)).up (by omega), _, _, h.accept hM⟩, rfl⟩)
def rm_X8_triedShowing : Room := { frames := 5, cells := 0, slots := 0, locals := 147 }
set_option maxHeartbeats 4000000 in
set_option maxRecDepth 100000 in
theorem c_X8_triedShowing {l : Launch} {G : mG} {ad : mA} {S : mS} {L : mL} {R : mR} {T c N : NN} {d n B x u : Nat} {ph : Nat → Nat} {UR SR : Nat → NN} {sf : Nat → Nat} {p : Nat} (h : CS S R T c d n B x u ph N UR SR sf) (hp : p < n) : Ki l yX8_triedShowing cX8_triedShowing 2 .boolean rm_X8_triedShowing G ad mdm [.ref (ad 0 0), .int (nI p)] S L R (fun r_ S2 L2 R2 => TSr S2 R2 T c N d n B (ph 1) p r_ ∧ (FC S S2 ∧ CS S2 R2 T c d n B x u ph N UR SR sf) ∧ L = L2) := by
  refine Ki.of RX8 (by decide) rfl (Nat.le_of_ble_eq_true rfl) ?_
  intro X hXl hXG C ret
  subst hXl; subst hXG
  change Z X 2 ad mdm S L R 0 0 0 [(0, _), (1, _)] []
  have hR := h.1
  obtain ⟨hP1, hP2, r5, r6, r7, r32, r33⟩ := h.2.1
  obtain ⟨hd2, rD, rE, hAT, hAC, hn10, hT⟩ := h.2.2.1
  obtain ⟨hx, hx10, hu, hu10⟩ := h.2.2.2.1
  obtain ⟨hB, hv1, hv2, hJ⟩ := h.2.2.2.2.1
  have hB31 := h.2.2.2.2.2.2.2
  have hI := hJ.1.1
  have hp0 : ph 0 < 15 := hP1 0 (by omega)
  have hp1 : ph 1 < 15 := hP1 1 (by omega)
  have hp2 : ph 2 < 15 := hP1 2 (by omega)
  have h10 : ph 1 ≠ ph 0 := h.ne (by omega) (by omega) (by omega)
  have h01 : ph 0 ≠ ph 1 := h.ne (by omega) (by omega) (by omega)
  have hd : d < 3 := by omega
  have hcn := hAT.1
  have hP := hB.2.2.2.2
  refine z_aload_n C 0 0 0 dX8_triedShowing_0 rfl rfl ?_
  refine z_getr C 1 dX8_triedShowing_1 gf_X8_46 rfl (by first | assumption | exact Nat.zero_lt_one | exact (show (15 : Nat) < 16 by decide) | exact Nat.lt_succ_of_lt (by assumption) | omega) (by first | exact hR _ _ _ _ rfl | exact hR2 _ _ _ _ rfl | assumption) ?_
  refine z_aload_n C 4 0 0 dX8_triedShowing_4 rfl rfl ?_
  refine z_getr C 5 dX8_triedShowing_5 gf_X8_42 rfl (by first | assumption | exact Nat.zero_lt_one | exact (show (15 : Nat) < 16 by decide) | exact Nat.lt_succ_of_lt (by assumption) | omega) (by first | exact hR _ _ _ _ rfl | exact hR2 _ _ _ _ rfl | assumption) ?_
  refine z_cVv0 C 8 dX8_triedShowing_8 cv_X8_244 (c_X4_copyFrom (N := N) (n := n) (q := ph 0) (v := ph 1) (d := d) hR hp1 hp0 h01 hv1 hv2 hB hI) rfl ⟨by decide, rfl⟩ (by first | assumption | exact Nat.zero_lt_one | exact (show (15 : Nat) < 16 by decide) | exact Nat.lt_succ_of_lt (by assumption) | omega) rfl rfl (Nat.le_of_ble_eq_true rfl) ⟨by decide, by decide⟩ ⟨rfl, rfl⟩ ⟨by decide, by decide⟩ ?_
  intro S8 L8 R8 p8
  obtain ⟨hB8, hF8, rfl, rfl⟩ := p8
  have hRX : RX R (up3 (up3 R 25 (ph 1) 1 (some (3, d))) 12 (ph 1) 0 (some (3, d))) (ph 1) := RX.cp hR
  have hR2 := hRX.1
  have h8 := h.fv (Or.inl rfl) hF8.fv hRX
  have r5b := h8.2.1.2.2.1
  have r6b := h8.2.1.2.2.2.1
  have hw1 : (up3 (up3 R 25 (ph 1) 1 (some (3, d))) 12 (ph 1) 0 (some (3, d))) 25 (ph 1) 1 = some (3, d) := RX_l1
  have hw2 : (up3 (up3 R 25 (ph 1) 1 (some (3, d))) 12 (ph 1) 0 (some (3, d))) 12 (ph 1) 0 = some (3, d) := RX_l2
  have hAT8 := h8.2.2.1.2.2.2.1
  have hAC8 := h8.2.2.1.2.2.2.2.1
  refine z_aload_n C 11 0 0 dX8_triedShowing_11 rfl rfl ?_
  refine z_getr C 12 dX8_triedShowing_12 gf_X8_46 rfl (by first | assumption | exact Nat.zero_lt_one | exact (show (15 : Nat) < 16 by decide) | exact Nat.lt_succ_of_lt (by assumption) | omega) (by first | exact hR _ _ _ _ rfl | exact hR2 _ _ _ _ rfl | assumption) ?_
  refine z_iload_n C 15 1 1 dX8_triedShowing_15 rfl rfl ?_
  refine z_cVi0 C 16 dX8_triedShowing_16 cv_X8_251 (c_X4_bringUp (N := N) (T := T) (c := c) (n := n) (v := ph 1) (d := d) (B := B) hR2 hp1 hd hw1 hw2 hAT8 hn10 hJ.1 hB8 hAC8 (by omega) hp) rfl ⟨by decide, rfl⟩ (by first | assumption | exact Nat.zero_lt_one | exact (show (15 : Nat) < 16 by decide) | exact Nat.lt_succ_of_lt (by assumption) | omega) rfl rfl (Nat.le_of_ble_eq_true rfl) ⟨by decide, by decide⟩ ⟨rfl, rfl⟩ ⟨by decide, by decide⟩ ?_
  intro r16 S16 L16 R16 p16
  obtain ⟨hb, hF16, rfl, hR16⟩ := p16
  have hts := TSr.of hT hn10 hp hJ ((hR16.2 25 (ph 1) 1 (by omega)).trans hw1) ((hR16.2 12 (ph 1) 0 (by omega)).trans hw2) hb
  exact ret 19 _ _ _ _ _ dX8_triedShowing_19 (by rcases hts with z | z <;> rw [z.1] <;> rfl) (⟨hts, ⟨(hF8.fv.tr hF16).fc, h8.fv (Or.inl rfl) hF16 hR16.rx⟩, rfl⟩)
def rm_X8_whyNotShow : Room := { frames := 7, cells := 0, slots := 0, locals := 221 }
set_option maxHeartbeats 4000000 in
set_option maxRecDepth 100000 in
theorem c_X8_whyNotShow {l : Launch} {G : mG} {ad : mA} {S : mS} {L : mL} {R : mR} {T c N : NN} {d n B x u : Nat} {ph : Nat → Nat} {UR SR : Nat → NN} {sf : Nat → Nat} {p : Nat} (h : CS S R T c d n B x u ph N UR SR sf) (hp : p < n) (hc : cO c) : Ki l yX8_whyNotShow cX8_whyNotShow 2 .int rm_X8_whyNotShow G ad mdm [.ref (ad 0 0), .int (nI p)] S L R (fun r_ S2 L2 R2 => r_ = qWhy N T c n p ∧ (FC S S2 ∧ CS S2 R2 T c d n B x u ph N UR SR sf) ∧ L = L2) := by
  refine Ki.of RX8 (by decide) rfl (Nat.le_of_ble_eq_true rfl) ?_
  intro X hXl hXG C ret
  subst hXl; subst hXG
  change Z X 2 ad mdm S L R 0 0 0 [(0, _), (1, _)] []
  have hR := h.1
  obtain ⟨hP1, hP2, r5, r6, r7, r32, r33⟩ := h.2.1
  obtain ⟨hd2, rD, rE, hAT, hAC, hn10, hT⟩ := h.2.2.1
  obtain ⟨hx, hx10, hu, hu10⟩ := h.2.2.2.1
  obtain ⟨hB, hv1, hv2, hJ⟩ := h.2.2.2.2.1
  have hB31 := h.2.2.2.2.2.2.2
  have hI := hJ.1.1
  have hp0 : ph 0 < 15 := hP1 0 (by omega)
  have hp1 : ph 1 < 15 := hP1 1 (by omega)
  have hp2 : ph 2 < 15 := hP1 2 (by omega)
  have h10 : ph 1 ≠ ph 0 := h.ne (by omega) (by omega) (by omega)
  have h01 : ph 0 ≠ ph 1 := h.ne (by omega) (by omega) (by omega)
  have hd : d < 3 := by omega
  have hcn := hAT.1
  have hP := hB.2.2.2.2
  have nw : ¬ fWait N T c p = -1 := by
    obtain ⟨w, hw, ew⟩ := fWait_N hc hT hJ.2.1 hp
    rw [ew]
    exact nI_m1 (by omega)
  refine z_aload_n C 0 0 0 dX8_whyNotShow_0 rfl rfl ?_
  refine z_iload_n C 1 1 1 dX8_whyNotShow_1 rfl rfl ?_
  refine z_cVv0 C 2 dX8_whyNotShow_2 cv_X8_151 (c_X8_checkProgram (d := d) (n := n) (by assumption) hd2 (by assumption) (by assumption) hn10 (by assumption)) rfl ⟨by decide, rfl⟩ (by first | assumption | exact Nat.zero_lt_one | exact (show (15 : Nat) < 16 by decide) | exact Nat.lt_succ_of_lt (by assumption) | omega) rfl rfl (Nat.le_of_ble_eq_true rfl) ⟨by decide, by decide⟩ ⟨rfl, rfl⟩ ⟨by decide, by decide⟩ ?_
  intro S2 L2 R2 p2
  obtain ⟨rfl, rfl, rfl⟩ := p2
  refine z_aload_n C 5 0 0 dX8_whyNotShow_5 rfl rfl ?_
  refine z_iload_n C 6 1 1 dX8_whyNotShow_6 rfl rfl ?_
  refine z_cVi0 C 7 dX8_whyNotShow_7 cv_X8_226 (c_X8_triedShowing (p := p) h hp) rfl ⟨by decide, rfl⟩ (by first | assumption | exact Nat.zero_lt_one | exact (show (15 : Nat) < 16 by decide) | exact Nat.lt_succ_of_lt (by assumption) | omega) rfl rfl (Nat.le_of_ble_eq_true rfl) ⟨by decide, by decide⟩ ⟨rfl, rfl⟩ ⟨by decide, by decide⟩ ?_
  intro r7 S7 L7 R7 p7
  obtain ⟨ht, ⟨hF7, h7⟩, rfl⟩ := p7
  have hRb := h7.1
  have s5 := h7.2.1.2.2.1
  have s6 := h7.2.1.2.2.2.1
  have hBb := h7.2.2.2.2.1.1
  have g1 := h7.2.2.2.2.1.2.1
  have g2 := h7.2.2.2.2.1.2.2.1
  first | with_reducible refine z_if_eqB C 10 15 dX8_whyNotShow_10 (by decide) (fun h10 => ?_) (fun h10 => ?_) | with_reducible refine z_if_eqN C 10 15 dX8_whyNotShow_10 (by decide) (by omega) (fun h10 => ?_) (fun h10 => ?_) | refine z_if_eq C 10 15 dX8_whyNotShow_10 (by decide) (fun h10 => ?_) (fun h10 => ?_)
  · obtain ⟨-, h1, hno⟩ := ht.resolve_left (fun z => by rw [z.1] at h10; exact absurd h10 (by decide))
    refine z_aload_n C 15 0 0 dX8_whyNotShow_15 rfl rfl ?_
    refine z_getr C 16 dX8_whyNotShow_16 gf_X8_42 rfl (by first | assumption | exact Nat.zero_lt_one | exact (show (15 : Nat) < 16 by decide) | exact Nat.lt_succ_of_lt (by assumption) | omega) (by first | exact hRb _ _ _ _ rfl | exact hR2 _ _ _ _ rfl | exact hR _ _ _ _ rfl | assumption) ?_
    refine z_getr C 19 dX8_whyNotShow_19 gf_X8_101 rfl (by first | assumption | exact Nat.zero_lt_one | exact (show (15 : Nat) < 16 by decide) | exact Nat.lt_succ_of_lt (by assumption) | omega) (by first | exact hRb _ _ _ _ rfl | exact hR2 _ _ _ _ rfl | exact hR _ _ _ _ rfl | assumption) ?_
    refine z_iload_n C 22 1 1 dX8_whyNotShow_22 rfl rfl ?_
    refine z_cVi0 C 23 dX8_whyNotShow_23 cv_X8_229 (c_X6_pagesWhenShown (r := ph 0) (d := d) hRb (by omega) hd g2 (by omega)) rfl ⟨by decide, rfl⟩ (by first | assumption | exact Nat.zero_lt_one | exact (show (15 : Nat) < 16 by decide) | exact Nat.lt_succ_of_lt (by assumption) | omega) rfl rfl (Nat.le_of_ble_eq_true rfl) ⟨by decide, by decide⟩ ⟨rfl, rfl⟩ ⟨by decide, by decide⟩ ?_
    intro r23 S23 L23 R23 p23
    obtain ⟨rfl, rfl, rfl, rfl⟩ := p23
    rw [show (if S7 13 (ph 0) p = 0 ∨ S7 13 (ph 0) p = nI 5 then S7 6 (10 * d + p) 0 else S7 14 (ph 0) p) = fPgs N T p from (by unfold fPgs; rw [(hBb.1.2 p (by omega)).1, (hBb.1.2 p (by omega)).2.1, h7.2.2.1.2.2.2.1.2 p 0 (by omega) (by omega)]; rfl)]
    refine z_aload_n C 26 0 0 dX8_whyNotShow_26 rfl rfl ?_
    refine z_getr C 27 dX8_whyNotShow_27 gf_X8_42 rfl (by first | assumption | exact Nat.zero_lt_one | exact (show (15 : Nat) < 16 by decide) | exact Nat.lt_succ_of_lt (by assumption) | omega) (by first | exact hRb _ _ _ _ rfl | exact hR2 _ _ _ _ rfl | exact hR _ _ _ _ rfl | assumption) ?_
    refine z_getr C 30 dX8_whyNotShow_30 gf_X8_101 rfl (by first | assumption | exact Nat.zero_lt_one | exact (show (15 : Nat) < 16 by decide) | exact Nat.lt_succ_of_lt (by assumption) | omega) (by first | exact hRb _ _ _ _ rfl | exact hR2 _ _ _ _ rfl | exact hR _ _ _ _ rfl | assumption) ?_
    refine z_getiv C 33 dX8_whyNotShow_33 gf_X8_105 rfl (by first | assumption | exact Nat.zero_lt_one | exact (show (15 : Nat) < 16 by decide) | exact Nat.lt_succ_of_lt (by assumption) | omega) hBb.1.1 ?_
    first | with_reducible refine z_icmp_leN C 36 43 dX8_whyNotShow_36 (by decide) (by omega) (by omega) (fun h36 => ?_) (fun h36 => ?_) | refine z_icmp_le C 36 43 dX8_whyNotShow_36 (by decide) (fun h36 => ?_) (fun h36 => ?_)
    · refine z_iconst (v := nI 2) C 43 dX8_whyNotShow_43 (by decide) ?_
      exact ret 44 _ _ _ _ _ dX8_whyNotShow_44 (by first | rfl | exact bI_n | decide) (⟨(by unfold qWhy; rw [if_neg h1]; first | rw [if_pos (Int32.not_le.mp h36)] | rw [if_neg (Int32.not_lt.mpr h36), fShowR_r h1 hno, if_pos rfl]), ⟨hF7, h7⟩, rfl⟩)
    · refine z_iconst (v := nI 1) C 39 dX8_whyNotShow_39 (by decide) ?_
      refine z_goto C 40 44 dX8_whyNotShow_40 (by decide) ?_
      exact ret 44 _ _ _ _ _ dX8_whyNotShow_44 (by first | rfl | exact bI_n | decide) (⟨(by unfold qWhy; rw [if_neg h1]; first | rw [if_pos (Int32.not_le.mp h36)] | rw [if_neg (Int32.not_lt.mpr h36), fShowR_r h1 hno, if_pos rfl]), ⟨hF7, h7⟩, rfl⟩)
  · obtain ⟨-, M, hM, hor⟩ := ht.resolve_right (fun z => h10 z.1)
    refine z_iconst (v := nI 0) C 13 dX8_whyNotShow_13 (by decide) ?_
    exact ret 14 _ _ _ _ _ dX8_whyNotShow_14 (by first | rfl | exact bI_n | decide) (⟨qWhy_y hJ hT hn10 hp nw hor, ⟨hF7, h7⟩, rfl⟩)
def rm_X8_trimsFor : Room := { frames := 7, cells := 0, slots := 0, locals := 221 }
set_option maxHeartbeats 4000000 in
set_option maxRecDepth 100000 in
theorem c_X8_trimsFor {l : Launch} {G : mG} {ad : mA} {S : mS} {L : mL} {R : mR} {T c N : NN} {d n B x u : Nat} {ph : Nat → Nat} {UR SR : Nat → NN} {sf : Nat → Nat} {p : Nat} (h : CS S R T c d n B x u ph N UR SR sf) (hp : p < n) (hc : cO c) : Ki l yX8_trimsFor cX8_trimsFor 2 .int rm_X8_trimsFor G ad mdm [.ref (ad 0 0), .int (nI p)] S L R (fun r_ S2 L2 R2 => r_ = qTrims N T c n p ∧ (FC S S2 ∧ CS S2 R2 T c d n B x u ph N UR SR sf) ∧ L = L2) := by
  refine Ki.of RX8 (by decide) rfl (Nat.le_of_ble_eq_true rfl) ?_
  intro X hXl hXG C ret
  subst hXl; subst hXG
  change Z X 2 ad mdm S L R 0 0 0 [(0, _), (1, _)] []
  have hR := h.1
  obtain ⟨hP1, hP2, r5, r6, r7, r32, r33⟩ := h.2.1
  obtain ⟨hd2, rD, rE, hAT, hAC, hn10, hT⟩ := h.2.2.1
  obtain ⟨hx, hx10, hu, hu10⟩ := h.2.2.2.1
  obtain ⟨hB, hv1, hv2, hJ⟩ := h.2.2.2.2.1
  have hB31 := h.2.2.2.2.2.2.2
  have hI := hJ.1.1
  have hp0 : ph 0 < 15 := hP1 0 (by omega)
  have hp1 : ph 1 < 15 := hP1 1 (by omega)
  have hp2 : ph 2 < 15 := hP1 2 (by omega)
  have h10 : ph 1 ≠ ph 0 := h.ne (by omega) (by omega) (by omega)
  have h01 : ph 0 ≠ ph 1 := h.ne (by omega) (by omega) (by omega)
  have hd : d < 3 := by omega
  have hcn := hAT.1
  have hP := hB.2.2.2.2
  have nw : ¬ fWait N T c p = -1 := by
    obtain ⟨w, hw, ew⟩ := fWait_N hc hT hJ.2.1 hp
    rw [ew]
    exact nI_m1 (by omega)
  refine z_aload_n C 0 0 0 dX8_trimsFor_0 rfl rfl ?_
  refine z_iload_n C 1 1 1 dX8_trimsFor_1 rfl rfl ?_
  refine z_cVv0 C 2 dX8_trimsFor_2 cv_X8_151 (c_X8_checkProgram (d := d) (n := n) (by assumption) hd2 (by assumption) (by assumption) hn10 (by assumption)) rfl ⟨by decide, rfl⟩ (by first | assumption | exact Nat.zero_lt_one | exact (show (15 : Nat) < 16 by decide) | exact Nat.lt_succ_of_lt (by assumption) | omega) rfl rfl (Nat.le_of_ble_eq_true rfl) ⟨by decide, by decide⟩ ⟨rfl, rfl⟩ ⟨by decide, by decide⟩ ?_
  intro S2 L2 R2 p2
  obtain ⟨rfl, rfl, rfl⟩ := p2
  refine z_aload_n C 5 0 0 dX8_trimsFor_5 rfl rfl ?_
  refine z_iload_n C 6 1 1 dX8_trimsFor_6 rfl rfl ?_
  refine z_cVi0 C 7 dX8_trimsFor_7 cv_X8_226 (c_X8_triedShowing (p := p) h hp) rfl ⟨by decide, rfl⟩ (by first | assumption | exact Nat.zero_lt_one | exact (show (15 : Nat) < 16 by decide) | exact Nat.lt_succ_of_lt (by assumption) | omega) rfl rfl (Nat.le_of_ble_eq_true rfl) ⟨by decide, by decide⟩ ⟨rfl, rfl⟩ ⟨by decide, by decide⟩ ?_
  intro r7 S7 L7 R7 p7
  obtain ⟨ht, ⟨hF7, h7⟩, rfl⟩ := p7
  have hRb := h7.1
  have s5 := h7.2.1.2.2.1
  have s6 := h7.2.1.2.2.2.1
  have hBb := h7.2.2.2.2.1.1
  have g1 := h7.2.2.2.2.1.2.1
  have g2 := h7.2.2.2.2.1.2.2.1
  first | with_reducible refine z_if_eqB C 10 37 dX8_trimsFor_10 (by decide) (fun h10 => ?_) (fun h10 => ?_) | with_reducible refine z_if_eqN C 10 37 dX8_trimsFor_10 (by decide) (by omega) (fun h10 => ?_) (fun h10 => ?_) | refine z_if_eq C 10 37 dX8_trimsFor_10 (by decide) (fun h10 => ?_) (fun h10 => ?_)
  · obtain ⟨-, h1, hno⟩ := ht.resolve_left (fun z => by rw [z.1] at h10; exact absurd h10 (by decide))
    refine z_iconst (v := (-1)) C 37 dX8_trimsFor_37 (by decide) ?_
    exact ret 38 _ _ _ _ _ dX8_trimsFor_38 (by first | rfl | exact bI_n | decide) ((by first | exact ⟨(by unfold qTrims; rw [fShowR_r h1 hno, if_pos rfl]), ⟨hF7, h7⟩, rfl⟩ | exact ⟨qTrims_y hI hn10 hp nw hor, ⟨hF7, h7⟩, rfl⟩))
  · obtain ⟨-, M, hM, hor⟩ := ht.resolve_right (fun z => h10 z.1)
    refine z_aload_n C 13 0 0 dX8_trimsFor_13 rfl rfl ?_
    refine z_getr C 14 dX8_trimsFor_14 gf_X8_46 rfl (by first | assumption | exact Nat.zero_lt_one | exact (show (15 : Nat) < 16 by decide) | exact Nat.lt_succ_of_lt (by assumption) | omega) (by first | exact hRb _ _ _ _ rfl | exact hR2 _ _ _ _ rfl | exact hR _ _ _ _ rfl | assumption) ?_
    refine z_getr C 17 dX8_trimsFor_17 gf_X8_232 rfl (by first | assumption | exact Nat.zero_lt_one | exact (show (15 : Nat) < 16 by decide) | exact Nat.lt_succ_of_lt (by assumption) | omega) (by first | exact hRb _ _ _ _ rfl | exact hR2 _ _ _ _ rfl | exact hR _ _ _ _ rfl | assumption) ?_
    refine z_cVi0 C 20 dX8_trimsFor_20 cv_X8_236 (c_X3_steps hRb (by assumption)) rfl ⟨by decide, rfl⟩ (by first | assumption | exact Nat.zero_lt_one | exact (show (15 : Nat) < 16 by decide) | exact Nat.lt_succ_of_lt (by assumption) | omega) rfl rfl (Nat.le_of_ble_eq_true rfl) ⟨by decide, by decide⟩ ⟨rfl, rfl⟩ ⟨by decide, by decide⟩ ?_
    intro r20 S20 L20 R20 p20
    obtain ⟨rfl, rfl, rfl, rfl⟩ := p20
    rw [hM.1.2.2.2.1.st6]
    refine z_aload_n C 23 0 0 dX8_trimsFor_23 rfl rfl ?_
    refine z_getr C 24 dX8_trimsFor_24 gf_X8_42 rfl (by first | assumption | exact Nat.zero_lt_one | exact (show (15 : Nat) < 16 by decide) | exact Nat.lt_succ_of_lt (by assumption) | omega) (by first | exact hRb _ _ _ _ rfl | exact hR2 _ _ _ _ rfl | exact hR _ _ _ _ rfl | assumption) ?_
    refine z_getr C 27 dX8_trimsFor_27 gf_X8_232 rfl (by first | assumption | exact Nat.zero_lt_one | exact (show (15 : Nat) < 16 by decide) | exact Nat.lt_succ_of_lt (by assumption) | omega) (by first | exact hRb _ _ _ _ rfl | exact hR2 _ _ _ _ rfl | exact hR _ _ _ _ rfl | assumption) ?_
    refine z_cVi0 C 30 dX8_trimsFor_30 cv_X8_236 (c_X3_steps hRb (by assumption)) rfl ⟨by decide, rfl⟩ (by first | assumption | exact Nat.zero_lt_one | exact (show (15 : Nat) < 16 by decide) | exact Nat.lt_succ_of_lt (by assumption) | omega) rfl rfl (Nat.le_of_ble_eq_true rfl) ⟨by decide, by decide⟩ ⟨rfl, rfl⟩ ⟨by decide, by decide⟩ ?_
    intro r30 S30 L30 R30 p30
    obtain ⟨rfl, rfl, rfl, rfl⟩ := p30
    rw [hBb.2.2.2.1.st6]
    first | with_reducible refine z_isubN C 33 dX8_trimsFor_33 (by omega) ?_ | refine z_isub C 33 dX8_trimsFor_33 ?_
    refine z_goto C 34 38 dX8_trimsFor_34 (by decide) ?_
    exact ret 38 _ _ _ _ _ dX8_trimsFor_38 (by first | rfl | exact bI_n | decide) ((by first | exact ⟨(by unfold qTrims; rw [fShowR_r h1 hno, if_pos rfl]), ⟨hF7, h7⟩, rfl⟩ | exact ⟨qTrims_y hI hn10 hp nw hor, ⟨hF7, h7⟩, rfl⟩))
def rm_X8_stateAfter : Room := { frames := 7, cells := 0, slots := 0, locals := 221 }
set_option maxHeartbeats 4000000 in
set_option maxRecDepth 100000 in
theorem c_X8_stateAfter {l : Launch} {G : mG} {ad : mA} {S : mS} {L : mL} {R : mR} {T c N : NN} {d n B x u : Nat} {ph : Nat → Nat} {UR SR : Nat → NN} {sf : Nat → Nat} {p w : Nat} (h : CS S R T c d n B x u ph N UR SR sf) (hp : p < n) (hw : w < n) (hc : cO c) : Ki l yX8_stateAfter cX8_stateAfter 3 .int rm_X8_stateAfter G ad mdm [.ref (ad 0 0), .int (nI p), .int (nI w)] S L R (fun r_ S2 L2 R2 => r_ = qState N T c n p w ∧ (FC S S2 ∧ CS S2 R2 T c d n B x u ph N UR SR sf) ∧ L = L2) := by
  refine Ki.of RX8 (by decide) rfl (Nat.le_of_ble_eq_true rfl) ?_
  intro X hXl hXG C ret
  subst hXl; subst hXG
  change Z X 3 ad mdm S L R 0 0 0 [(0, _), (1, _), (2, _)] []
  have hR := h.1
  obtain ⟨hP1, hP2, r5, r6, r7, r32, r33⟩ := h.2.1
  obtain ⟨hd2, rD, rE, hAT, hAC, hn10, hT⟩ := h.2.2.1
  obtain ⟨hx, hx10, hu, hu10⟩ := h.2.2.2.1
  obtain ⟨hB, hv1, hv2, hJ⟩ := h.2.2.2.2.1
  have hB31 := h.2.2.2.2.2.2.2
  have hI := hJ.1.1
  have hp0 : ph 0 < 15 := hP1 0 (by omega)
  have hp1 : ph 1 < 15 := hP1 1 (by omega)
  have hp2 : ph 2 < 15 := hP1 2 (by omega)
  have h10 : ph 1 ≠ ph 0 := h.ne (by omega) (by omega) (by omega)
  have h01 : ph 0 ≠ ph 1 := h.ne (by omega) (by omega) (by omega)
  have hd : d < 3 := by omega
  have hcn := hAT.1
  have hP := hB.2.2.2.2
  have nw : ¬ fWait N T c p = -1 := by
    obtain ⟨w, hw, ew⟩ := fWait_N hc hT hJ.2.1 hp
    rw [ew]
    exact nI_m1 (by omega)
  refine z_aload_n C 0 0 0 dX8_stateAfter_0 rfl rfl ?_
  refine z_iload_n C 1 1 1 dX8_stateAfter_1 rfl rfl ?_
  refine z_cVv0 C 2 dX8_stateAfter_2 cv_X8_151 (c_X8_checkProgram (d := d) (n := n) (by assumption) hd2 (by assumption) (by assumption) hn10 (by assumption)) rfl ⟨by decide, rfl⟩ (by first | assumption | exact Nat.zero_lt_one | exact (show (15 : Nat) < 16 by decide) | exact Nat.lt_succ_of_lt (by assumption) | omega) rfl rfl (Nat.le_of_ble_eq_true rfl) ⟨by decide, by decide⟩ ⟨rfl, rfl⟩ ⟨by decide, by decide⟩ ?_
  intro S2 L2 R2 p2
  obtain ⟨rfl, rfl, rfl⟩ := p2
  refine z_aload_n C 5 0 0 dX8_stateAfter_5 rfl rfl ?_
  refine z_iload_n C 6 2 2 dX8_stateAfter_6 rfl rfl ?_
  refine z_cVv0 C 7 dX8_stateAfter_7 cv_X8_151 (c_X8_checkProgram (d := d) (n := n) (by assumption) hd2 (by assumption) (by assumption) hn10 (by assumption)) rfl ⟨by decide, rfl⟩ (by first | assumption | exact Nat.zero_lt_one | exact (show (15 : Nat) < 16 by decide) | exact Nat.lt_succ_of_lt (by assumption) | omega) rfl rfl (Nat.le_of_ble_eq_true rfl) ⟨by decide, by decide⟩ ⟨rfl, rfl⟩ ⟨by decide, by decide⟩ ?_
  intro S7 L7 R7 p7
  obtain ⟨rfl, rfl, rfl⟩ := p7
  refine z_aload_n C 10 0 0 dX8_stateAfter_10 rfl rfl ?_
  refine z_iload_n C 11 1 1 dX8_stateAfter_11 rfl rfl ?_
  refine z_cVi0 C 12 dX8_stateAfter_12 cv_X8_226 (c_X8_triedShowing (p := p) h hp) rfl ⟨by decide, rfl⟩ (by first | assumption | exact Nat.zero_lt_one | exact (show (15 : Nat) < 16 by decide) | exact Nat.lt_succ_of_lt (by assumption) | omega) rfl rfl (Nat.le_of_ble_eq_true rfl) ⟨by decide, by decide⟩ ⟨rfl, rfl⟩ ⟨by decide, by decide⟩ ?_
  intro r12 S12 L12 R12 p12
  obtain ⟨ht, ⟨hF7, h7⟩, rfl⟩ := p12
  have hRb := h7.1
  have s5 := h7.2.1.2.2.1
  have s6 := h7.2.1.2.2.2.1
  have hBb := h7.2.2.2.2.1.1
  have g1 := h7.2.2.2.2.1.2.1
  have g2 := h7.2.2.2.2.1.2.2.1
  first | with_reducible refine z_if_eqB C 15 33 dX8_stateAfter_15 (by decide) (fun h15 => ?_) (fun h15 => ?_) | with_reducible refine z_if_eqN C 15 33 dX8_stateAfter_15 (by decide) (by omega) (fun h15 => ?_) (fun h15 => ?_) | refine z_if_eq C 15 33 dX8_stateAfter_15 (by decide) (fun h15 => ?_) (fun h15 => ?_)
  · obtain ⟨-, h1, hno⟩ := ht.resolve_left (fun z => by rw [z.1] at h15; exact absurd h15 (by decide))
    refine z_iconst (v := (-1)) C 33 dX8_stateAfter_33 (by decide) ?_
    exact ret 34 _ _ _ _ _ dX8_stateAfter_34 (by first | rfl | exact bI_n | decide) ((by first | exact ⟨(by unfold qState; rw [fShowR_r h1 hno, if_pos rfl]), ⟨hF7, h7⟩, rfl⟩ | exact ⟨qState_y nw hor, ⟨hF7, h7⟩, rfl⟩))
  · obtain ⟨-, M, hM, hor⟩ := ht.resolve_right (fun z => h15 z.1)
    refine z_aload_n C 18 0 0 dX8_stateAfter_18 rfl rfl ?_
    refine z_getr C 19 dX8_stateAfter_19 gf_X8_46 rfl (by first | assumption | exact Nat.zero_lt_one | exact (show (15 : Nat) < 16 by decide) | exact Nat.lt_succ_of_lt (by assumption) | omega) (by first | exact hRb _ _ _ _ rfl | exact hR2 _ _ _ _ rfl | exact hR _ _ _ _ rfl | assumption) ?_
    refine z_getr C 22 dX8_stateAfter_22 gf_X8_101 rfl (by first | assumption | exact Nat.zero_lt_one | exact (show (15 : Nat) < 16 by decide) | exact Nat.lt_succ_of_lt (by assumption) | omega) (by first | exact hRb _ _ _ _ rfl | exact hR2 _ _ _ _ rfl | exact hR _ _ _ _ rfl | assumption) ?_
    refine z_getr C 25 dX8_stateAfter_25 gf_X8_154 rfl (by first | assumption | exact Nat.zero_lt_one | exact (show (15 : Nat) < 16 by decide) | exact Nat.lt_succ_of_lt (by assumption) | omega) (by first | exact hRb _ _ _ _ rfl | exact hR2 _ _ _ _ rfl | exact hR _ _ _ _ rfl | assumption) ?_
    refine z_iload_n C 28 2 2 dX8_stateAfter_28 rfl rfl ?_
    refine z_iald C 29 dX8_stateAfter_29 (by first | rfl | assumption) (by first | assumption | exact Nat.zero_lt_one | exact (show (15 : Nat) < 16 by decide) | exact Nat.lt_succ_of_lt (by assumption) | omega) (by first | rfl | assumption) (by first | decide | omega) (by first | assumption | omega) ?_
    rw [(hM.1.1.2 w (by omega)).1]
    refine z_goto C 30 34 dX8_stateAfter_30 (by decide) ?_
    exact ret 34 _ _ _ _ _ dX8_stateAfter_34 (by first | rfl | exact bI_n | decide) ((by first | exact ⟨(by unfold qState; rw [fShowR_r h1 hno, if_pos rfl]), ⟨hF7, h7⟩, rfl⟩ | exact ⟨qState_y nw hor, ⟨hF7, h7⟩, rfl⟩))
def rm_X8_waitInSpare : Room := { frames := 5, cells := 0, slots := 0, locals := 147 }
set_option maxHeartbeats 4000000 in
set_option maxRecDepth 100000 in
theorem c_X8_waitInSpare {l : Launch} {G : mG} {ad : mA} {S : mS} {L : mL} {R : mR} {T c N : NN} {d n B x u : Nat} {ph : Nat → Nat} {UR SR : Nat → NN} {sf : Nat → Nat} {p : Nat} {M : NN} (h : CS S R T c d n B x u ph N UR SR sf) (hp : p < n) (hc : cO c) (hM : VR S R T d n B (ph 2) M) : Ki l yX8_waitInSpare cX8_waitInSpare 4 .int rm_X8_waitInSpare G ad mdm [.ref (ad 0 0), .int (nI p)] S L R (fun r_ S2 L2 R2 => r_ = qW1 M T c n p ∧ (FC S S2 ∧ ∃ ph2, CS S2 R2 T c d n B x u ph2 N UR SR sf ∧ VR S2 R2 T d n B (ph2 2) (fShowR M T c n p).2.2) ∧ L = L2) := by
  refine Ki.of RX8 (by decide) rfl (Nat.le_of_ble_eq_true rfl) ?_
  intro X hXl hXG C ret
  subst hXl; subst hXG
  change Z X 4 ad mdm S L R 0 0 0 [(0, _), (1, _)] []
  have hR := h.1
  obtain ⟨hP1, hP2, r5, r6, r7, r32, r33⟩ := h.2.1
  obtain ⟨hd2, rD, rE, hAT, hAC, hn10, hT⟩ := h.2.2.1
  obtain ⟨hx, hx10, hu, hu10⟩ := h.2.2.2.1
  obtain ⟨hB, hv1, hv2, hJ⟩ := h.2.2.2.2.1
  have hB31 := h.2.2.2.2.2.2.2
  have hI := hJ.1.1
  have hp0 : ph 0 < 15 := hP1 0 (by omega)
  have hp1 : ph 1 < 15 := hP1 1 (by omega)
  have hp2 : ph 2 < 15 := hP1 2 (by omega)
  have h10 : ph 1 ≠ ph 0 := h.ne (by omega) (by omega) (by omega)
  have h01 : ph 0 ≠ ph 1 := h.ne (by omega) (by omega) (by omega)
  have hd : d < 3 := by omega
  have hcn := hAT.1
  have hP := hB.2.2.2.2
  have nw : ¬ fWait M T c p = -1 := by
    obtain ⟨w, hw, ew⟩ := fWait_N hc hT hM.2.2.2.2.1 hp
    rw [ew]
    exact nI_m1 (by omega)
  obtain ⟨hBM, k1, k2, hJM⟩ := hM
  have h21 : ph 2 ≠ ph 1 := h.ne (by omega) (by omega) (by omega)
  refine z_aload_n C 0 0 0 dX8_waitInSpare_0 rfl rfl ?_
  refine z_getr C 1 dX8_waitInSpare_1 gf_X8_49 rfl (by first | assumption | exact Nat.zero_lt_one | exact (show (15 : Nat) < 16 by decide) | exact Nat.lt_succ_of_lt (by assumption) | omega) (by first | exact hRb _ _ _ _ rfl | exact hR2 _ _ _ _ rfl | exact hR _ _ _ _ rfl | assumption) ?_
  refine z_iload_n C 4 1 1 dX8_waitInSpare_4 rfl rfl ?_
  refine z_cVi0 C 5 dX8_waitInSpare_5 cv_X8_223 (c_X4_waitFor (N := M) (T := T) (c := c) (n := n) (d := d) hR hp2 hd k1 k2 hAT hn10 hJM.1.1 hBM hAC (by omega)) rfl ⟨by decide, rfl⟩ (by first | assumption | exact Nat.zero_lt_one | exact (show (15 : Nat) < 16 by decide) | exact Nat.lt_succ_of_lt (by assumption) | omega) rfl rfl (Nat.le_of_ble_eq_true rfl) ⟨by decide, by decide⟩ ⟨rfl, rfl⟩ ⟨by decide, by decide⟩ ?_
  intro r5 S5 L5 R5 p5
  obtain ⟨rfl, rfl, rfl, rfl⟩ := p5
  refine z_istore_n C 8 2 [(2, _), (0, _), (1, _)] dX8_waitInSpare_8 rfl (by decide) rfl ?_
  refine z_aload_n C 9 0 1 dX8_waitInSpare_9 rfl rfl ?_
  refine z_getr C 10 dX8_waitInSpare_10 gf_X8_46 rfl (by first | assumption | exact Nat.zero_lt_one | exact (show (15 : Nat) < 16 by decide) | exact Nat.lt_succ_of_lt (by assumption) | omega) (by first | exact hRb _ _ _ _ rfl | exact hR2 _ _ _ _ rfl | exact hR _ _ _ _ rfl | assumption) ?_
  refine z_aload_n C 13 0 1 dX8_waitInSpare_13 rfl rfl ?_
  refine z_getr C 14 dX8_waitInSpare_14 gf_X8_49 rfl (by first | assumption | exact Nat.zero_lt_one | exact (show (15 : Nat) < 16 by decide) | exact Nat.lt_succ_of_lt (by assumption) | omega) (by first | exact hRb _ _ _ _ rfl | exact hR2 _ _ _ _ rfl | exact hR _ _ _ _ rfl | assumption) ?_
  refine z_cVv0 C 17 dX8_waitInSpare_17 cv_X8_244 (c_X4_copyFrom (N := M) (n := n) (q := ph 2) (v := ph 1) (d := d) hR hp1 hp2 h21 k1 k2 hBM hJM.1.1) rfl ⟨by decide, rfl⟩ (by first | assumption | exact Nat.zero_lt_one | exact (show (15 : Nat) < 16 by decide) | exact Nat.lt_succ_of_lt (by assumption) | omega) rfl rfl (Nat.le_of_ble_eq_true rfl) ⟨by decide, by decide⟩ ⟨rfl, rfl⟩ ⟨by decide, by decide⟩ ?_
  intro S17 L17 R17 p17
  obtain ⟨hB8, hF8, rfl, rfl⟩ := p17
  have hRX : RX R (up3 (up3 R 25 (ph 1) 1 (some (3, d))) 12 (ph 1) 0 (some (3, d))) (ph 1) := RX.cp hR
  have hR2 := hRX.1
  have h8 := h.fv (Or.inl rfl) hF8.fv hRX
  have r5b := h8.2.1.2.2.1
  have r6b := h8.2.1.2.2.2.1
  have hw1 : (up3 (up3 R 25 (ph 1) 1 (some (3, d))) 12 (ph 1) 0 (some (3, d))) 25 (ph 1) 1 = some (3, d) := RX_l1
  have hw2 : (up3 (up3 R 25 (ph 1) 1 (some (3, d))) 12 (ph 1) 0 (some (3, d))) 12 (ph 1) 0 = some (3, d) := RX_l2
  have hAT8 := h8.2.2.1.2.2.2.1
  have hAC8 := h8.2.2.1.2.2.2.2.1
  refine z_aload_n C 20 0 1 dX8_waitInSpare_20 rfl rfl ?_
  refine z_getr C 21 dX8_waitInSpare_21 gf_X8_46 rfl (by first | assumption | exact Nat.zero_lt_one | exact (show (15 : Nat) < 16 by decide) | exact Nat.lt_succ_of_lt (by assumption) | omega) (by first | exact hRb _ _ _ _ rfl | exact hR2 _ _ _ _ rfl | exact hR _ _ _ _ rfl | assumption) ?_
  refine z_iload_n C 24 1 2 dX8_waitInSpare_24 rfl rfl ?_
  refine z_cVi0 C 25 dX8_waitInSpare_25 cv_X8_251 (c_X4_bringUp (N := M) (T := T) (c := c) (n := n) (v := ph 1) (d := d) (B := B) hR2 hp1 hd hw1 hw2 hAT8 hn10 hJM.1 hB8 hAC8 (by omega) hp) rfl ⟨by decide, rfl⟩ (by first | assumption | exact Nat.zero_lt_one | exact (show (15 : Nat) < 16 by decide) | exact Nat.lt_succ_of_lt (by assumption) | omega) rfl rfl (Nat.le_of_ble_eq_true rfl) ⟨by decide, by decide⟩ ⟨rfl, rfl⟩ ⟨by decide, by decide⟩ ?_
  intro r25 S25 L25 R25 p25
  obtain ⟨hb, hF16, rfl, hR16⟩ := p25
  have hts := TSr.of hT hn10 hp hJM ((hR16.2 25 (ph 1) 1 (by omega)).trans hw1) ((hR16.2 12 (ph 1) 0 (by omega)).trans hw2) hb
  have h25 := h8.fv (Or.inl rfl) hF16 hR16.rx
  have hFF := (hF8.fv.tr hF16)
  have hMs : VR S25 R25 T d n B (ph 2) M := VR.fv (VR.fv ⟨hBM, k1, k2, hJM⟩ hp2 h21 hF8.fv hRX) hp2 h21 hF16 hR16.rx
  have hRb := h25.1
  have s6 := h25.2.1.2.2.2.1
  have s7 := h25.2.1.2.2.2.2.1
  first | with_reducible refine z_if_neB C 28 33 dX8_waitInSpare_28 (by decide) (fun h28 => ?_) (fun h28 => ?_) | with_reducible refine z_if_neN C 28 33 dX8_waitInSpare_28 (by decide) (by omega) (fun h28 => ?_) (fun h28 => ?_) | refine z_if_ne C 28 33 dX8_waitInSpare_28 (by decide) (fun h28 => ?_) (fun h28 => ?_)
  · obtain ⟨-, M2, hM2, hor⟩ := hts.resolve_right (fun z => h28 z.1)
    have hrow := TSr.row hor
    refine z_aload_n C 33 0 1 dX8_waitInSpare_33 rfl rfl ?_
    refine z_getr C 34 dX8_waitInSpare_34 gf_X8_46 rfl (by first | assumption | exact Nat.zero_lt_one | exact (show (15 : Nat) < 16 by decide) | exact Nat.lt_succ_of_lt (by assumption) | omega) (by first | exact hRb _ _ _ _ rfl | exact hR2 _ _ _ _ rfl | exact hR _ _ _ _ rfl | assumption) ?_
    refine z_astore_n C 37 3 [(3, _), (2, _), (0, _), (1, _)] dX8_waitInSpare_37 rfl (by decide) rfl ?_
    refine z_aload_n C 38 0 2 dX8_waitInSpare_38 rfl rfl ?_
    refine z_aload_n C 39 0 2 dX8_waitInSpare_39 rfl rfl ?_
    refine z_getr C 40 dX8_waitInSpare_40 gf_X8_49 rfl (by first | assumption | exact Nat.zero_lt_one | exact (show (15 : Nat) < 16 by decide) | exact Nat.lt_succ_of_lt (by assumption) | omega) (by first | exact hRb _ _ _ _ rfl | exact hR2 _ _ _ _ rfl | exact hR _ _ _ _ rfl | assumption) ?_
    refine z_putr C 43 dX8_waitInSpare_43 gf_X8_46 ⟨rfl, fun _ => ⟨rfl, rfl⟩⟩ rfl (by first | assumption | exact Nat.zero_lt_one | exact (show (15 : Nat) < 16 by decide) | exact Nat.lt_succ_of_lt (by assumption) | omega) ?_
    have t6 : (up3 R25 0 0 6 (some (25, ph 2))) 0 0 7 = some (25, ph 2) := by rw [up3_j _ (by omega)]; exact s7
    refine z_aload_n C 46 0 2 dX8_waitInSpare_46 rfl rfl ?_
    refine z_aload_n C 47 3 0 dX8_waitInSpare_47 rfl rfl ?_
    refine z_putr C 48 dX8_waitInSpare_48 gf_X8_49 ⟨rfl, fun _ => ⟨rfl, rfl⟩⟩ rfl (by first | assumption | exact Nat.zero_lt_one | exact (show (15 : Nat) < 16 by decide) | exact Nat.lt_succ_of_lt (by assumption) | omega) ?_
    refine z_iload_n C 51 2 1 dX8_waitInSpare_51 rfl rfl ?_
    exact ret 52 _ _ _ _ _ dX8_waitInSpare_52 (by first | rfl | exact bI_n | decide) (⟨(by unfold qW1; rw [hrow.2, if_neg nw]), ⟨hFF.fc, _, h25.swap, (by rw [hrow.1]; exact hM2.off (fun k a b => rfl) (by rw [up3_k _ (by omega), up3_k _ (by omega)]) (by rw [up3_k _ (by omega), up3_k _ (by omega)]))⟩, rfl⟩)
  · obtain ⟨-, h1, hno⟩ := hts.resolve_left (fun z => by rw [z.1] at h28; exact absurd h28 (by decide))
    refine z_iconst (v := nI 0) C 31 dX8_waitInSpare_31 (by decide) ?_
    exact ret 32 _ _ _ _ _ dX8_waitInSpare_32 (by first | rfl | exact bI_n | decide) (⟨(by unfold qW1; rw [fShowR_r h1 hno, if_pos rfl]), ⟨hFF.fc, ph, h25, (by rw [fShowR_r h1 hno]; exact hMs)⟩, rfl⟩)
def rm_X8_waitsFor : Room := { frames := 7, cells := 0, slots := 0, locals := 221 }
set_option maxHeartbeats 4000000 in
set_option maxRecDepth 100000 in
theorem c_X8_waitsFor {l : Launch} {G : mG} {ad : mA} {S : mS} {L : mL} {R : mR} {T c N : NN} {d n B x u : Nat} {ph : Nat → Nat} {UR SR : Nat → NN} {sf : Nat → Nat} {a b e w : Nat} (h : CS S R T c d n B x u ph N UR SR sf) (ha : a < n) (hb : b < n) (he : e < n) (hw : w ≤ 2) (hc : cO c) : Ki l yX8_waitsFor cX8_waitsFor 5 .int rm_X8_waitsFor G ad mdm [.ref (ad 0 0), .int (nI w), .int (nI a), .int (nI b), .int (nI e)] S L R (fun r_ S2 L2 R2 => r_ = qWaits N T c n (nI w) a b e ∧ CQ S S2 R2 T c d n B u N UR SR sf ∧ L = L2) := by
  refine Ki.of RX8 (by decide) rfl (Nat.le_of_ble_eq_true rfl) ?_
  intro X hXl hXG C ret
  subst hXl; subst hXG
  change Z X 5 ad mdm S L R 0 0 0 [(0, _), (1, _), (2, _), (3, _), (4, _)] []
  have hR := h.1
  obtain ⟨hP1, hP2, r5, r6, r7, r32, r33⟩ := h.2.1
  obtain ⟨hd2, rD, rE, hAT, hAC, hn10, hT⟩ := h.2.2.1
  obtain ⟨hx, hx10, hu, hu10⟩ := h.2.2.2.1
  obtain ⟨hB, hv1, hv2, hJ⟩ := h.2.2.2.2.1
  have hB31 := h.2.2.2.2.2.2.2
  have hI := hJ.1.1
  have hp0 : ph 0 < 15 := hP1 0 (by omega)
  have hp1 : ph 1 < 15 := hP1 1 (by omega)
  have hp2 : ph 2 < 15 := hP1 2 (by omega)
  have h10 : ph 1 ≠ ph 0 := h.ne (by omega) (by omega) (by omega)
  have h01 : ph 0 ≠ ph 1 := h.ne (by omega) (by omega) (by omega)
  have hd : d < 3 := by omega
  have hcn := hAT.1
  have hP := hB.2.2.2.2
  have h02 : ph 0 ≠ ph 2 := h.ne (by omega) (by omega) (by omega)
  refine z_aload_n C 0 0 0 dX8_waitsFor_0 rfl rfl ?_
  refine z_iload_n C 1 2 2 dX8_waitsFor_1 rfl rfl ?_
  refine z_cVv0 C 2 dX8_waitsFor_2 cv_X8_151 (c_X8_checkProgram (d := d) (n := n) (by assumption) hd2 (by assumption) (by assumption) hn10 (by assumption)) rfl ⟨by decide, rfl⟩ (by first | assumption | exact Nat.zero_lt_one | exact (show (15 : Nat) < 16 by decide) | exact Nat.lt_succ_of_lt (by assumption) | omega) rfl rfl (Nat.le_of_ble_eq_true rfl) ⟨by decide, by decide⟩ ⟨rfl, rfl⟩ ⟨by decide, by decide⟩ ?_
  intro S2 L2 R2 p2
  obtain ⟨rfl, rfl, rfl⟩ := p2
  refine z_aload_n C 5 0 0 dX8_waitsFor_5 rfl rfl ?_
  refine z_iload_n C 6 3 3 dX8_waitsFor_6 rfl rfl ?_
  refine z_cVv0 C 7 dX8_waitsFor_7 cv_X8_151 (c_X8_checkProgram (d := d) (n := n) (by assumption) hd2 (by assumption) (by assumption) hn10 (by assumption)) rfl ⟨by decide, rfl⟩ (by first | assumption | exact Nat.zero_lt_one | exact (show (15 : Nat) < 16 by decide) | exact Nat.lt_succ_of_lt (by assumption) | omega) rfl rfl (Nat.le_of_ble_eq_true rfl) ⟨by decide, by decide⟩ ⟨rfl, rfl⟩ ⟨by decide, by decide⟩ ?_
  intro S7 L7 R7 p7
  obtain ⟨rfl, rfl, rfl⟩ := p7
  refine z_aload_n C 10 0 0 dX8_waitsFor_10 rfl rfl ?_
  refine z_iload C 11 4 4 dX8_waitsFor_11 rfl ?_
  refine z_cVv0 C 13 dX8_waitsFor_13 cv_X8_151 (c_X8_checkProgram (d := d) (n := n) (by assumption) hd2 (by assumption) (by assumption) hn10 (by assumption)) rfl ⟨by decide, rfl⟩ (by first | assumption | exact Nat.zero_lt_one | exact (show (15 : Nat) < 16 by decide) | exact Nat.lt_succ_of_lt (by assumption) | omega) rfl rfl (Nat.le_of_ble_eq_true rfl) ⟨by decide, by decide⟩ ⟨rfl, rfl⟩ ⟨by decide, by decide⟩ ?_
  intro S13 L13 R13 p13
  obtain ⟨rfl, rfl, rfl⟩ := p13
  refine z_iload_n C 16 1 1 dX8_waitsFor_16 rfl rfl ?_
  refine z_cSv0 C 17 dX8_waitsFor_17 cs_X8_241 (c_X8_checkPolicy hw) rfl rfl (Nat.le_of_ble_eq_true rfl) ⟨by decide, by decide⟩ ⟨rfl, rfl⟩ ⟨by decide, by decide⟩ ?_
  intro S17 L17 R17 p17
  obtain ⟨rfl, rfl, rfl⟩ := p17
  refine z_aload_n C 20 0 0 dX8_waitsFor_20 rfl rfl ?_
  refine z_getr C 21 dX8_waitsFor_21 gf_X8_49 rfl (by first | assumption | exact Nat.zero_lt_one | exact (show (15 : Nat) < 16 by decide) | exact Nat.lt_succ_of_lt (by assumption) | omega) (by first | exact hRb _ _ _ _ rfl | exact hR2 _ _ _ _ rfl | exact hR _ _ _ _ rfl | assumption) ?_
  refine z_aload_n C 24 0 0 dX8_waitsFor_24 rfl rfl ?_
  refine z_getr C 25 dX8_waitsFor_25 gf_X8_42 rfl (by first | assumption | exact Nat.zero_lt_one | exact (show (15 : Nat) < 16 by decide) | exact Nat.lt_succ_of_lt (by assumption) | omega) (by first | exact hRb _ _ _ _ rfl | exact hR2 _ _ _ _ rfl | exact hR _ _ _ _ rfl | assumption) ?_
  refine z_cVv0 C 28 dX8_waitsFor_28 cv_X8_244 (c_X4_copyFrom (N := N) (n := n) (q := ph 0) (v := ph 2) (d := d) hR hp2 hp0 h02 hv1 hv2 hB hI) rfl ⟨by decide, rfl⟩ (by first | assumption | exact Nat.zero_lt_one | exact (show (15 : Nat) < 16 by decide) | exact Nat.lt_succ_of_lt (by assumption) | omega) rfl rfl (Nat.le_of_ble_eq_true rfl) ⟨by decide, by decide⟩ ⟨rfl, rfl⟩ ⟨by decide, by decide⟩ ?_
  intro S28 L28 R28 p28
  obtain ⟨hB8, hF8, rfl, rfl⟩ := p28
  have hRX : RX R (up3 (up3 R 25 (ph 2) 1 (some (3, d))) 12 (ph 2) 0 (some (3, d))) (ph 2) := RX.cp hR
  have hRb := hRX.1
  have h8 := h.fv (Or.inr rfl) hF8.fv hRX
  have s7 := h8.2.1.2.2.2.2.1
  refine z_aload_n C 31 0 0 dX8_waitsFor_31 rfl rfl ?_
  refine z_getr C 32 dX8_waitsFor_32 gf_X8_49 rfl (by first | assumption | exact Nat.zero_lt_one | exact (show (15 : Nat) < 16 by decide) | exact Nat.lt_succ_of_lt (by assumption) | omega) (by first | exact hRb _ _ _ _ rfl | exact hR2 _ _ _ _ rfl | exact hR _ _ _ _ rfl | assumption) ?_
  refine z_iload_n C 35 1 1 dX8_waitsFor_35 rfl rfl ?_
  refine z_puti C 36 dX8_waitsFor_36 gf_X8_129 ⟨rfl, rfl⟩ rfl (by first | assumption | exact Nat.zero_lt_one | exact (show (15 : Nat) < 16 by decide) | exact Nat.lt_succ_of_lt (by assumption) | omega) ?_
  have hF39 : FV S28 (up3 S28 25 (ph 2) 6 (nI w)) (ph 2) := (FV.rf _ _).up (by omega)
  have h39 := h8.fv (Or.inr rfl) hF39 (RX.rf hRb)
  have hV39 : VR (up3 S28 25 (ph 2) 6 (nI w)) (up3 (up3 R 25 (ph 2) 1 (some (3, d))) 12 (ph 2) 0 (some (3, d))) T d n B (ph 2) (upd N 4 (nI w)) := ⟨hB8.pol, RX_l1, RX_l2, hJ.pol hn10 hw⟩
  refine z_aload_n C 39 0 0 dX8_waitsFor_39 rfl rfl ?_
  refine z_iload_n C 40 2 2 dX8_waitsFor_40 rfl rfl ?_
  refine z_cVi0 C 41 dX8_waitsFor_41 cv_X8_248 (c_X8_waitInSpare (p := a) (M := upd N 4 (nI w)) h39 ha hc hV39) rfl ⟨by decide, rfl⟩ (by first | assumption | exact Nat.zero_lt_one | exact (show (15 : Nat) < 16 by decide) | exact Nat.lt_succ_of_lt (by assumption) | omega) rfl rfl (Nat.le_of_ble_eq_true rfl) ⟨by decide, by decide⟩ ⟨rfl, rfl⟩ ⟨by decide, by decide⟩ ?_
  intro r41 S41 L41 R41 p41
  obtain ⟨hr41, ⟨hF41, ph41, h41, hV41⟩, rfl⟩ := p41
  refine z_aload_n C 44 0 0 dX8_waitsFor_44 rfl rfl ?_
  refine z_iload_n C 45 3 3 dX8_waitsFor_45 rfl rfl ?_
  refine z_cVi0 C 46 dX8_waitsFor_46 cv_X8_248 (c_X8_waitInSpare (p := b) (M := _) h41 hb hc hV41) rfl ⟨by decide, rfl⟩ (by first | assumption | exact Nat.zero_lt_one | exact (show (15 : Nat) < 16 by decide) | exact Nat.lt_succ_of_lt (by assumption) | omega) rfl rfl (Nat.le_of_ble_eq_true rfl) ⟨by decide, by decide⟩ ⟨rfl, rfl⟩ ⟨by decide, by decide⟩ ?_
  intro r46 S46 L46 R46 p46
  obtain ⟨hr46, ⟨hF46, ph46, h46, hV46⟩, rfl⟩ := p46
  first | with_reducible refine z_iaddN C 49 dX8_waitsFor_49 ?_ | refine z_iadd C 49 dX8_waitsFor_49 ?_
  refine z_aload_n C 50 0 0 dX8_waitsFor_50 rfl rfl ?_
  refine z_iload C 51 4 4 dX8_waitsFor_51 rfl ?_
  refine z_cVi0 C 53 dX8_waitsFor_53 cv_X8_248 (c_X8_waitInSpare (p := e) (M := _) h46 he hc hV46) rfl ⟨by decide, rfl⟩ (by first | assumption | exact Nat.zero_lt_one | exact (show (15 : Nat) < 16 by decide) | exact Nat.lt_succ_of_lt (by assumption) | omega) rfl rfl (Nat.le_of_ble_eq_true rfl) ⟨by decide, by decide⟩ ⟨rfl, rfl⟩ ⟨by decide, by decide⟩ ?_
  intro r53 S53 L53 R53 p53
  obtain ⟨hr53, ⟨hF53, ph53, h53, hV53⟩, rfl⟩ := p53
  first | with_reducible refine z_iaddN C 56 dX8_waitsFor_56 ?_ | refine z_iadd C 56 dX8_waitsFor_56 ?_
  exact ret 57 _ _ _ _ _ dX8_waitsFor_57 (by first | rfl | exact bI_n | decide) (⟨(by unfold qWaits; rw [hr41, hr46, hr53]), ⟨((hF8.fv.fc.tr hF39.fc).tr hF41).tr (hF46.tr hF53), _, _, h53⟩, rfl⟩)
