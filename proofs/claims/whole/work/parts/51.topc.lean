def lP (S S1 : mS) (R1 : mR) (T c : NN) (d n B x u : Nat) (ph : Nat → Nat) (N : NN) (UR SR : Nat → NN) (sf : Nat → Nat) (i : Nat) : Prop := FC S S1 ∧ CS S1 R1 T c d n (B + 240) x u ph N UR SR sf ∧ VR S1 R1 T d n (B + i) (ph 1) (fPassN N T n i).2

def rm_X8_show : Room := { frames := 7, cells := 0, slots := 0, locals := 221 }
set_option maxHeartbeats 4000000 in
set_option maxRecDepth 100000 in
theorem c_X8_show {l : Launch} {G : mG} {ad : mA} {S : mS} {L : mL} {R : mR} {T c N : NN} {d n B x u : Nat} {ph : Nat → Nat} {UR SR : Nat → NN} {sf : Nat → Nat} {p : Nat} (h : CS S R T c d n B x u ph N UR SR sf) (hp : p < n) (hw : ¬ (fShowR N T c n p).1 = -1) : Ki l yX8_show cX8_show 3 .int rm_X8_show G ad mdm [.ref (ad 0 0), .int (nI p)] S L R (fun r_ S2 L2 R2 => r_ = (fShowR N T c n p).1 ∧ CQ S S2 R2 T c d n B (uN u) (fShowR N T c n p).2.2 (pU UR N u) SR sf ∧ L = L2) := by
  refine Ki.of RX8 (by decide) rfl (Nat.le_of_ble_eq_true rfl) ?_
  intro X hXl hXG C ret
  subst hXl; subst hXG
  change Z X 3 ad mdm S L R 0 0 0 [(0, _), (1, _)] []
  have hR := h.1
  obtain ⟨hP1, hP2, r5, r6, r7, r32, r33⟩ := h.2.1
  obtain ⟨hd2, rD, rE, hAT, hAC, hn10, hT⟩ := h.2.2.1
  obtain ⟨hx, hx10, hu, hu10⟩ := h.2.2.2.1
  obtain ⟨hB, hv1, hv2, hJ⟩ := h.2.2.2.2.1
  have hB31 := h.2.2.2.2.2.2.2
  have hI := hJ.1.1
  have hp0 : ph 0 < 15 := hP1 0 (by omega)
  have hp1 : ph 1 < 15 := hP1 1 (by omega)
  have hp2 : ph 2 < 15 := hP1 2 (by omega)
  have h10 : ph 1 ≠ ph 0 := h.ne (by omega) (by omega) (by omega)
  have h01 : ph 0 ≠ ph 1 := h.ne (by omega) (by omega) (by omega)
  have hd : d < 3 := by omega
  have hcn := hAT.1
  have hP := hB.2.2.2.2
  refine z_aload_n C 0 0 0 dX8_show_0 rfl rfl ?_
  refine z_iload_n C 1 1 1 dX8_show_1 rfl rfl ?_
  refine z_cVv0 C 2 dX8_show_2 cv_X8_151 (c_X8_checkProgram (d := d) (n := n) (by assumption) hd2 (by assumption) (by assumption) hn10 (by assumption)) rfl ⟨by decide, rfl⟩ (by first | assumption | exact Nat.zero_lt_one | exact (show (15 : Nat) < 16 by decide) | exact Nat.lt_succ_of_lt (by assumption) | omega) rfl rfl (Nat.le_of_ble_eq_true rfl) ⟨by decide, by decide⟩ ⟨rfl, rfl⟩ ⟨by decide, by decide⟩ ?_
  intro S2 L2 R2 p2
  obtain ⟨rfl, rfl, rfl⟩ := p2
  refine z_aload_n C 5 0 0 dX8_show_5 rfl rfl ?_
  refine z_getr C 6 dX8_show_6 gf_X8_42 rfl (by first | assumption | exact Nat.zero_lt_one | exact (show (15 : Nat) < 16 by decide) | exact Nat.lt_succ_of_lt (by assumption) | omega) (by first | exact hRb _ _ _ _ rfl | exact hR2 _ _ _ _ rfl | exact hR _ _ _ _ rfl | assumption) ?_
  refine z_iload_n C 9 1 1 dX8_show_9 rfl rfl ?_
  refine z_cVi0 C 10 dX8_show_10 cv_X8_223 (c_X4_waitFor (N := N) (T := T) (c := c) (n := n) (d := d) hR hp0 hd hv1 hv2 hAT hn10 hI hB hAC (by omega)) rfl ⟨by decide, rfl⟩ (by first | assumption | exact Nat.zero_lt_one | exact (show (15 : Nat) < 16 by decide) | exact Nat.lt_succ_of_lt (by assumption) | omega) rfl rfl (Nat.le_of_ble_eq_true rfl) ⟨by decide, by decide⟩ ⟨rfl, rfl⟩ ⟨by decide, by decide⟩ ?_
  intro r10 S10 L10 R10 p10
  obtain ⟨rfl, rfl, rfl, rfl⟩ := p10
  refine z_istore_n C 13 2 [(2, _), (0, _), (1, _)] dX8_show_13 rfl (by decide) rfl ?_
  refine z_aload_n C 14 0 1 dX8_show_14 rfl rfl ?_
  refine z_iload_n C 15 1 2 dX8_show_15 rfl rfl ?_
  refine z_cVi0 C 16 dX8_show_16 cv_X8_226 (c_X8_triedShowing (p := p) h hp) rfl ⟨by decide, rfl⟩ (by first | assumption | exact Nat.zero_lt_one | exact (show (15 : Nat) < 16 by decide) | exact Nat.lt_succ_of_lt (by assumption) | omega) rfl rfl (Nat.le_of_ble_eq_true rfl) ⟨by decide, by decide⟩ ⟨rfl, rfl⟩ ⟨by decide, by decide⟩ ?_
  intro r16 S16 L16 R16 p16
  obtain ⟨ht, ⟨hF16, h16⟩, rfl⟩ := p16
  first | with_reducible refine z_if_neB C 19 33 dX8_show_19 (by decide) (fun h19 => ?_) (fun h19 => (by exfalso; have z := ht.resolve_left (fun z => by rw [z.1] at h19; exact absurd h19 (by decide)); exact hw (by rw [fShowR_r z.2.1 z.2.2]))) | with_reducible refine z_if_neN C 19 33 dX8_show_19 (by decide) (by omega) (fun h19 => ?_) (fun h19 => (by exfalso; have z := ht.resolve_left (fun z => by rw [z.1] at h19; exact absurd h19 (by decide)); exact hw (by rw [fShowR_r z.2.1 z.2.2]))) | refine z_if_ne C 19 33 dX8_show_19 (by decide) (fun h19 => ?_) (fun h19 => (by exfalso; have z := ht.resolve_left (fun z => by rw [z.1] at h19; exact absurd h19 (by decide)); exact hw (by rw [fShowR_r z.2.1 z.2.2])))
  · obtain ⟨-, M, hM, hor⟩ := ht.resolve_right (fun z => h19 z.1)
    have hrow := TSr.row hor
    refine z_aload_n C 33 0 1 dX8_show_33 rfl rfl ?_
    refine z_cVv0 C 34 dX8_show_34 cv_X8_273 (c_X8_acceptTrial (M := M) (T := T) (c := c) (d := d) (N := N) h16 hM) rfl ⟨by decide, rfl⟩ (by first | assumption | exact Nat.zero_lt_one | exact (show (15 : Nat) < 16 by decide) | exact Nat.lt_succ_of_lt (by assumption) | omega) rfl rfl (Nat.le_of_ble_eq_true rfl) ⟨by decide, by decide⟩ ⟨rfl, rfl⟩ ⟨by decide, by decide⟩ ?_
    intro S34 L34 R34 p34
    obtain ⟨⟨hFa, xa, pha, hA⟩, rfl⟩ := p34
    refine z_iload_n C 37 2 0 dX8_show_37 rfl rfl ?_
    exact ret 38 _ _ _ _ _ dX8_show_38 (by first | rfl | exact bI_n | decide) (⟨hrow.2.symm, (by rw [hrow.1]; exact ⟨hF16.tr hFa, xa, pha, hA⟩), rfl⟩)
def rm_X8_home : Room := { frames := 3, cells := 0, slots := 0, locals := 103 }
set_option maxHeartbeats 4000000 in
set_option maxRecDepth 100000 in
theorem c_X8_home {l : Launch} {G : mG} {ad : mA} {S : mS} {L : mL} {R : mR} {T c N : NN} {d n B x u : Nat} {ph : Nat → Nat} {UR SR : Nat → NN} {sf : Nat → Nat}  (h : CS S R T c d n B x u ph N UR SR sf)  : Ki l yX8_home cX8_home 2 .int rm_X8_home G ad mdm [.ref (ad 0 0)] S L R (fun r_ S2 L2 R2 => r_ = N 2 ∧ CQ S S2 R2 T c d n B (uN u) (fHome N) (pU UR N u) SR sf ∧ L = L2) := by
  refine Ki.of RX8 (by decide) rfl (Nat.le_of_ble_eq_true rfl) ?_
  intro X hXl hXG C ret
  subst hXl; subst hXG
  change Z X 2 ad mdm S L R 0 0 0 [(0, _)] []
  have hR := h.1
  obtain ⟨hP1, hP2, r5, r6, r7, r32, r33⟩ := h.2.1
  obtain ⟨hd2, rD, rE, hAT, hAC, hn10, hT⟩ := h.2.2.1
  obtain ⟨hx, hx10, hu, hu10⟩ := h.2.2.2.1
  obtain ⟨hB, hv1, hv2, hJ⟩ := h.2.2.2.2.1
  have hB31 := h.2.2.2.2.2.2.2
  have hI := hJ.1.1
  have hp0 : ph 0 < 15 := hP1 0 (by omega)
  have hp1 : ph 1 < 15 := hP1 1 (by omega)
  have hp2 : ph 2 < 15 := hP1 2 (by omega)
  have h10 : ph 1 ≠ ph 0 := h.ne (by omega) (by omega) (by omega)
  have h01 : ph 0 ≠ ph 1 := h.ne (by omega) (by omega) (by omega)
  have hd : d < 3 := by omega
  have hcn := hAT.1
  have hP := hB.2.2.2.2
  obtain ⟨t, htB, htt, -, -⟩ := hJ.1.2.2.1.1
  refine z_aload_n C 0 0 0 dX8_home_0 rfl rfl ?_
  refine z_getr C 1 dX8_home_1 gf_X8_42 rfl (by first | assumption | exact Nat.zero_lt_one | exact (show (15 : Nat) < 16 by decide) | exact Nat.lt_succ_of_lt (by assumption) | omega) (by first | exact hRb _ _ _ _ rfl | exact hR2 _ _ _ _ rfl | exact hR _ _ _ _ rfl | assumption) ?_
  refine z_getiv C 4 dX8_home_4 gf_X8_117 rfl (by first | assumption | exact Nat.zero_lt_one | exact (show (15 : Nat) < 16 by decide) | exact Nat.lt_succ_of_lt (by assumption) | omega) hP.2.2.1 ?_
  refine z_istore_n C 7 1 [(1, _), (0, _)] dX8_home_7 rfl (by decide) rfl ?_
  refine z_aload_n C 8 0 1 dX8_home_8 rfl rfl ?_
  refine z_getr C 9 dX8_home_9 gf_X8_46 rfl (by first | assumption | exact Nat.zero_lt_one | exact (show (15 : Nat) < 16 by decide) | exact Nat.lt_succ_of_lt (by assumption) | omega) (by first | exact hRb _ _ _ _ rfl | exact hR2 _ _ _ _ rfl | exact hR _ _ _ _ rfl | assumption) ?_
  refine z_aload_n C 12 0 1 dX8_home_12 rfl rfl ?_
  refine z_getr C 13 dX8_home_13 gf_X8_42 rfl (by first | assumption | exact Nat.zero_lt_one | exact (show (15 : Nat) < 16 by decide) | exact Nat.lt_succ_of_lt (by assumption) | omega) (by first | exact hRb _ _ _ _ rfl | exact hR2 _ _ _ _ rfl | exact hR _ _ _ _ rfl | assumption) ?_
  refine z_cVv0 C 16 dX8_home_16 cv_X8_244 (c_X4_copyFrom (N := N) (n := n) (q := ph 0) (v := ph 1) (d := d) hR hp1 hp0 h01 hv1 hv2 hB hI) rfl ⟨by decide, rfl⟩ (by first | assumption | exact Nat.zero_lt_one | exact (show (15 : Nat) < 16 by decide) | exact Nat.lt_succ_of_lt (by assumption) | omega) rfl rfl (Nat.le_of_ble_eq_true rfl) ⟨by decide, by decide⟩ ⟨rfl, rfl⟩ ⟨by decide, by decide⟩ ?_
  intro S16 L16 R16 p16
  obtain ⟨hB8, hF8, rfl, rfl⟩ := p16
  have hRX : RX R (up3 (up3 R 25 (ph 1) 1 (some (3, d))) 12 (ph 1) 0 (some (3, d))) (ph 1) := RX.cp hR
  have hR2 := hRX.1
  have h8 := h.fv (Or.inl rfl) hF8.fv hRX
  have r5b := h8.2.1.2.2.1
  have r6b := h8.2.1.2.2.2.1
  have hw1 : (up3 (up3 R 25 (ph 1) 1 (some (3, d))) 12 (ph 1) 0 (some (3, d))) 25 (ph 1) 1 = some (3, d) := RX_l1
  have hw2 : (up3 (up3 R 25 (ph 1) 1 (some (3, d))) 12 (ph 1) 0 (some (3, d))) 12 (ph 1) 0 = some (3, d) := RX_l2
  have hAT8 := h8.2.2.1.2.2.2.1
  have hAC8 := h8.2.2.1.2.2.2.2.1
  refine z_aload_n C 19 0 1 dX8_home_19 rfl rfl ?_
  refine z_getr C 20 dX8_home_20 gf_X8_46 rfl (by first | assumption | exact Nat.zero_lt_one | exact (show (15 : Nat) < 16 by decide) | exact Nat.lt_succ_of_lt (by assumption) | omega) (by first | exact hRb _ _ _ _ rfl | exact hR2 _ _ _ _ rfl | exact hR _ _ _ _ rfl | assumption) ?_
  refine z_cVv0 C 23 dX8_home_23 cv_X8_276 (c_X4_letShownRest (N := N) (n := n) (t := t) hR2 hp1 hI hB8 hn10 hJ.1.2.2.2 htt (by omega)) rfl ⟨by decide, rfl⟩ (by first | assumption | exact Nat.zero_lt_one | exact (show (15 : Nat) < 16 by decide) | exact Nat.lt_succ_of_lt (by assumption) | omega) rfl rfl (Nat.le_of_ble_eq_true rfl) ⟨by decide, by decide⟩ ⟨rfl, rfl⟩ ⟨by decide, by decide⟩ ?_
  intro S23 L23 R23 p23
  obtain ⟨hB23, hF23, rfl, rfl⟩ := p23
  refine z_aload_n C 26 0 1 dX8_home_26 rfl rfl ?_
  refine z_cVv0 C 27 dX8_home_27 cv_X8_273 (c_X8_acceptTrial (M := fHome N) (T := T) (c := c) (d := d) (N := N) (h8.fv (Or.inl rfl) hF23.fv (RX.rf hR2)) ⟨hB23, hw1, hw2, hJ.home hn10⟩) rfl ⟨by decide, rfl⟩ (by first | assumption | exact Nat.zero_lt_one | exact (show (15 : Nat) < 16 by decide) | exact Nat.lt_succ_of_lt (by assumption) | omega) rfl rfl (Nat.le_of_ble_eq_true rfl) ⟨by decide, by decide⟩ ⟨rfl, rfl⟩ ⟨by decide, by decide⟩ ?_
  intro S27 L27 R27 p27
  obtain ⟨⟨hFa, xa, pha, hA⟩, rfl⟩ := p27
  refine z_iload_n C 30 1 0 dX8_home_30 rfl rfl ?_
  exact ret 31 _ _ _ _ _ dX8_home_31 (by first | rfl | exact bI_n | decide) (⟨rfl, ⟨(hF8.fv.fc.tr hF23.fv.fc).tr hFa, xa, pha, hA⟩, rfl⟩)
def rm_X8_pass : Room := { frames := 6, cells := 0, slots := 0, locals := 200 }
set_option maxHeartbeats 4000000 in
set_option maxRecDepth 100000 in
theorem c_X8_pass {l : Launch} {G : mG} {ad : mA} {S : mS} {L : mL} {R : mR} {T c N : NN} {d n B x u : Nat} {ph : Nat → Nat} {UR SR : Nat → NN} {sf : Nat → Nat} {w : Nat} (h : CS S R T c d n B x u ph N UR SR sf) (hw0 : 1 ≤ w) (hw : w ≤ 240) (hB2 : B + 240 < 2147000000) : Ki l yX8_pass cX8_pass 4 .int rm_X8_pass G ad mdm [.ref (ad 0 0), .int (nI w)] S L R (fun r_ S2 L2 R2 => r_ = nI (fPassN N T n w).1 ∧ CQ S S2 R2 T c d n (B + 240) (uN u) (fPassN N T n w).2 (pU UR N u) SR sf ∧ L = L2) := by
  refine Ki.of RX8 (by decide) rfl (Nat.le_of_ble_eq_true rfl) ?_
  intro X hXl hXG C ret
  subst hXl; subst hXG
  change Z X 4 ad mdm S L R 0 0 0 [(0, _), (1, _)] []
  have hR := h.1
  obtain ⟨hP1, hP2, r5, r6, r7, r32, r33⟩ := h.2.1
  obtain ⟨hd2, rD, rE, hAT, hAC, hn10, hT⟩ := h.2.2.1
  obtain ⟨hx, hx10, hu, hu10⟩ := h.2.2.2.1
  obtain ⟨hB, hv1, hv2, hJ⟩ := h.2.2.2.2.1
  have hB31 := h.2.2.2.2.2.2.2
  have hI := hJ.1.1
  have hp0 : ph 0 < 15 := hP1 0 (by omega)
  have hp1 : ph 1 < 15 := hP1 1 (by omega)
  have hp2 : ph 2 < 15 := hP1 2 (by omega)
  have h10 : ph 1 ≠ ph 0 := h.ne (by omega) (by omega) (by omega)
  have h01 : ph 0 ≠ ph 1 := h.ne (by omega) (by omega) (by omega)
  have hd : d < 3 := by omega
  have hcn := hAT.1
  have hP := hB.2.2.2.2
  refine z_iload_n C 0 1 1 dX8_pass_0 rfl rfl ?_
  refine z_iconst (v := nI 1) C 1 dX8_pass_1 (by decide) ?_
  first | with_reducible refine z_icmp_ltN C 2 12 dX8_pass_2 (by decide) (by omega) (by omega) (fun h2 => absurd hw0 (by omega)) (fun h2 => ?_) | refine z_icmp_lt C 2 12 dX8_pass_2 (by decide) (fun h2 => absurd hw0 (by omega)) (fun h2 => ?_)
  · refine z_iload_n C 5 1 1 dX8_pass_5 rfl rfl ?_
    refine z_sipush (v := nI 240) C 6 dX8_pass_6 (by decide +kernel) ?_
    first | with_reducible refine z_icmp_leN C 9 23 dX8_pass_9 (by decide) (by omega) (by omega) (fun h9 => ?_) (fun h9 => absurd hw (by omega)) | refine z_icmp_le C 9 23 dX8_pass_9 (by decide) (fun h9 => ?_) (fun h9 => absurd hw (by omega))
    · refine z_aload_n C 23 0 0 dX8_pass_23 rfl rfl ?_
      refine z_getr C 24 dX8_pass_24 gf_X8_42 rfl (by first | assumption | exact Nat.zero_lt_one | exact (show (15 : Nat) < 16 by decide) | exact Nat.lt_succ_of_lt (by assumption) | omega) (by first | exact hRb _ _ _ _ rfl | exact hR2 _ _ _ _ rfl | exact hR _ _ _ _ rfl | assumption) ?_
      refine z_getr C 27 dX8_pass_27 gf_X8_232 rfl (by first | assumption | exact Nat.zero_lt_one | exact (show (15 : Nat) < 16 by decide) | exact Nat.lt_succ_of_lt (by assumption) | omega) (by first | exact hRb _ _ _ _ rfl | exact hR2 _ _ _ _ rfl | exact hR _ _ _ _ rfl | assumption) ?_
      refine z_cVi0 C 30 dX8_pass_30 cv_X8_236 (c_X3_steps (v := ph 0) hR hp0) rfl ⟨by decide, rfl⟩ (by first | assumption | exact Nat.zero_lt_one | exact (show (15 : Nat) < 16 by decide) | exact Nat.lt_succ_of_lt (by assumption) | omega) rfl rfl (Nat.le_of_ble_eq_true rfl) ⟨by decide, by decide⟩ ⟨rfl, rfl⟩ ⟨by decide, by decide⟩ ?_
      intro r30 S30 L30 R30 p30
      obtain ⟨rfl, rfl, rfl, rfl⟩ := p30
      rw [hB.2.2.2.1.st6]
      refine z_istore_n C 33 2 [(2, _), (0, _), (1, _)] dX8_pass_33 rfl (by decide) rfl ?_
      refine z_aload_n C 34 0 1 dX8_pass_34 rfl rfl ?_
      refine z_getr C 35 dX8_pass_35 gf_X8_46 rfl (by first | assumption | exact Nat.zero_lt_one | exact (show (15 : Nat) < 16 by decide) | exact Nat.lt_succ_of_lt (by assumption) | omega) (by first | exact hRb _ _ _ _ rfl | exact hR2 _ _ _ _ rfl | exact hR _ _ _ _ rfl | assumption) ?_
      refine z_aload_n C 38 0 1 dX8_pass_38 rfl rfl ?_
      refine z_getr C 39 dX8_pass_39 gf_X8_42 rfl (by first | assumption | exact Nat.zero_lt_one | exact (show (15 : Nat) < 16 by decide) | exact Nat.lt_succ_of_lt (by assumption) | omega) (by first | exact hRb _ _ _ _ rfl | exact hR2 _ _ _ _ rfl | exact hR _ _ _ _ rfl | assumption) ?_
      refine z_cVv0 C 42 dX8_pass_42 cv_X8_244 (c_X4_copyFrom (N := N) (n := n) (q := ph 0) (v := ph 1) (d := d) hR hp1 hp0 h01 hv1 hv2 hB hI) rfl ⟨by decide, rfl⟩ (by first | assumption | exact Nat.zero_lt_one | exact (show (15 : Nat) < 16 by decide) | exact Nat.lt_succ_of_lt (by assumption) | omega) rfl rfl (Nat.le_of_ble_eq_true rfl) ⟨by decide, by decide⟩ ⟨rfl, rfl⟩ ⟨by decide, by decide⟩ ?_
      intro S42 L42 R42 p42
      obtain ⟨hB8, hF8, rfl, rfl⟩ := p42
      have hRX : RX R (up3 (up3 R 25 (ph 1) 1 (some (3, d))) 12 (ph 1) 0 (some (3, d))) (ph 1) := RX.cp hR
      have hR2 := hRX.1
      have h8 := h.fv (Or.inl rfl) hF8.fv hRX
      have r5b := h8.2.1.2.2.1
      have r6b := h8.2.1.2.2.2.1
      have hw1 : (up3 (up3 R 25 (ph 1) 1 (some (3, d))) 12 (ph 1) 0 (some (3, d))) 25 (ph 1) 1 = some (3, d) := RX_l1
      have hw2 : (up3 (up3 R 25 (ph 1) 1 (some (3, d))) 12 (ph 1) 0 (some (3, d))) 12 (ph 1) 0 = some (3, d) := RX_l2
      have hAT8 := h8.2.2.1.2.2.2.1
      have hAC8 := h8.2.2.1.2.2.2.2.1
      refine z_iconst (v := nI 0) C 45 dX8_pass_45 (by decide) ?_
      refine z_istore_n C 46 3 [(3, _), (2, _), (0, _), (1, _)] dX8_pass_46 rfl (by decide) rfl ?_
      have loop_47 : ∀ (n_47 : Nat) (i : Nat) (S1 : mS) (R1 : mR), i ≤ w → lP S S1 R1 T c d n B x u ph N UR SR sf i → w - i < n_47 → Z X 4 ad mdm S1 L R1 0 0 47 [(0, .ref (ad 0 0)), (1, .int (nI w)), (2, .int (fSt N)), (3, .int (nI i))] [] := by
        intro n_47
        induction n_47 with
        | zero => intro i S1 R1 hi hM hm47; exact absurd hm47 (Nat.not_lt_zero _)
        | succ n_47 ih47 =>
          intro i S1 R1 hi hM hm47
          have hRb := hM.2.1.1
          have s6 := hM.2.1.2.1.2.2.2.1
          refine z_iload_n C 47 3 3 dX8_pass_47 rfl rfl ?_
          refine z_iload_n C 48 1 1 dX8_pass_48 rfl rfl ?_
          first | with_reducible refine z_icmp_geN C 49 65 dX8_pass_49 (by decide) (by omega) (by omega) (fun h49 => ?_) (fun h49 => ?_) | refine z_icmp_ge C 49 65 dX8_pass_49 (by decide) (fun h49 => ?_) (fun h49 => ?_)
          · obtain rfl : i = w := by omega
            refine z_aload_n C 65 0 0 dX8_pass_65 rfl rfl ?_
            refine z_cVv0 C 66 dX8_pass_66 cv_X8_273 (c_X8_acceptTrial (M := (fPassN N T n i).2) (T := T) (c := c) (d := d) (N := N) hM.2.1 (hM.2.2.up (by omega))) rfl ⟨by decide, rfl⟩ (by first | assumption | exact Nat.zero_lt_one | exact (show (15 : Nat) < 16 by decide) | exact Nat.lt_succ_of_lt (by assumption) | omega) rfl rfl (Nat.le_of_ble_eq_true rfl) ⟨by decide, by decide⟩ ⟨rfl, rfl⟩ ⟨by decide, by decide⟩ ?_
            intro S66 L66 R66 p66
            obtain ⟨⟨hFa, xa, pha, hA⟩, rfl⟩ := p66
            have s5 := hA.2.1.2.2.1
            have hRb := hA.1
            have hpa : pha 0 < 15 := hA.ph (by omega)
            have hBa := hA.2.2.2.2.1.1
            have hPa := hBa.2.2.2.2
            refine z_aload_n C 69 0 0 dX8_pass_69 rfl rfl ?_
            refine z_getr C 70 dX8_pass_70 gf_X8_42 rfl (by first | assumption | exact Nat.zero_lt_one | exact (show (15 : Nat) < 16 by decide) | exact Nat.lt_succ_of_lt (by assumption) | omega) (by first | exact hRb _ _ _ _ rfl | exact hR2 _ _ _ _ rfl | exact hR _ _ _ _ rfl | assumption) ?_
            refine z_getr C 73 dX8_pass_73 gf_X8_232 rfl (by first | assumption | exact Nat.zero_lt_one | exact (show (15 : Nat) < 16 by decide) | exact Nat.lt_succ_of_lt (by assumption) | omega) (by first | exact hRb _ _ _ _ rfl | exact hR2 _ _ _ _ rfl | exact hR _ _ _ _ rfl | assumption) ?_
            refine z_cVi0 C 76 dX8_pass_76 cv_X8_236 (c_X3_steps (v := pha 0) hRb hpa) rfl ⟨by decide, rfl⟩ (by first | assumption | exact Nat.zero_lt_one | exact (show (15 : Nat) < 16 by decide) | exact Nat.lt_succ_of_lt (by assumption) | omega) rfl rfl (Nat.le_of_ble_eq_true rfl) ⟨by decide, by decide⟩ ⟨rfl, rfl⟩ ⟨by decide, by decide⟩ ?_
            intro r76 S76 L76 R76 p76
            obtain ⟨rfl, rfl, rfl, rfl⟩ := p76
            rw [hBa.2.2.2.1.st6]
            refine z_iload_n C 79 2 2 dX8_pass_79 rfl rfl ?_
            first | with_reducible refine z_isubN C 80 dX8_pass_80 (by omega) ?_ | refine z_isub C 80 dX8_pass_80 ?_
            exact ret 81 _ _ _ _ _ dX8_pass_81 (by first | rfl | exact bI_n | decide) (⟨(by rw [fSt_passN hI hn10, i_sub]), ⟨hM.1.tr hFa, xa, pha, hA⟩, rfl⟩)
          · refine z_aload_n C 52 0 0 dX8_pass_52 rfl rfl ?_
            refine z_getr C 53 dX8_pass_53 gf_X8_46 rfl (by first | assumption | exact Nat.zero_lt_one | exact (show (15 : Nat) < 16 by decide) | exact Nat.lt_succ_of_lt (by assumption) | omega) (by first | exact hRb _ _ _ _ rfl | exact hR2 _ _ _ _ rfl | exact hR _ _ _ _ rfl | assumption) ?_
            refine z_cVv0 C 56 dX8_pass_56 cv_X8_281 (c_X4_passMinute (N := (fPassN N T n i).2) (T := T) (n := n) (d := d) (B := B + i) hM.2.1.1 hp1 hd hM.2.2.2.1 hM.2.2.2.2.1 hM.2.1.2.2.1.2.2.2.1 hn10 hM.2.2.2.2.2 hM.2.2.1 (by omega) hT) rfl ⟨by decide, rfl⟩ (by first | assumption | exact Nat.zero_lt_one | exact (show (15 : Nat) < 16 by decide) | exact Nat.lt_succ_of_lt (by assumption) | omega) rfl rfl (Nat.le_of_ble_eq_true rfl) ⟨by decide, by decide⟩ ⟨rfl, rfl⟩ ⟨by decide, by decide⟩ ?_
            intro S56 L56 R56 p56
            obtain ⟨hB56, hF56, rfl, hR56⟩ := p56
            refine z_iinc C 59 3 3 [(3, _), (0, _), (1, _), (2, _)] dX8_pass_59 rfl (by first | exact nI_1 _ | rfl) (by decide) rfl ?_
            refine z_goto C 62 47 dX8_pass_62 (by decide) ?_
            refine z_sub [(0, _), (1, _), (2, _), (3, _)] [1, 2, 3, 0] rfl ?_
            exact ih47 (i + 1) _ _ (by omega) ⟨hM.1.tr hF56.fc, hM.2.1.fv (Or.inl rfl) hF56 hR56.rx, hB56, (hR56.2 25 (ph 1) 1 (by omega)).trans hM.2.2.2.1, (hR56.2 12 (ph 1) 0 (by omega)).trans hM.2.2.2.2.1, hM.2.2.2.2.2.pass hn10 hT⟩ (by omega)
      refine z_sub [(0, _), (1, _), (2, _), (3, _)] [2, 3, 1, 0] rfl ?_
      exact loop_47 (w + 1) 0 _ _ (Nat.zero_le _) ⟨hF8.fv.fc, h8.upB (by omega) hB2, hB8, hw1, hw2, hJ⟩ (by omega)
def rm_X8_touch : Room := { frames := 7, cells := 0, slots := 0, locals := 220 }
set_option maxHeartbeats 4000000 in
set_option maxRecDepth 100000 in
theorem c_X8_touch {l : Launch} {G : mG} {ad : mA} {S : mS} {L : mL} {R : mR} {T c N : NN} {d n B x u : Nat} {ph : Nat → Nat} {UR SR : Nat → NN} {sf : Nat → Nat} {p w : Nat} (h : CS S R T c d n B x u ph N UR SR sf) (hq : p < n) (hqe : N 2 = nI p) (hw : w ≤ 999) : Ki l yX8_touch cX8_touch 3 .int rm_X8_touch G ad mdm [.ref (ad 0 0), .int (nI w)] S L R (fun r_ S2 L2 R2 => r_ = nI 31 * fo N p 3 + nI w ∧ CQ S S2 R2 T c d n B (uN u) (fTake N p (nI w)) (pU UR N u) SR sf ∧ L = L2) := by
  refine Ki.of RX8 (by decide) rfl (Nat.le_of_ble_eq_true rfl) ?_
  intro X hXl hXG C ret
  subst hXl; subst hXG
  change Z X 3 ad mdm S L R 0 0 0 [(0, _), (1, _)] []
  have hR := h.1
  obtain ⟨hP1, hP2, r5, r6, r7, r32, r33⟩ := h.2.1
  obtain ⟨hd2, rD, rE, hAT, hAC, hn10, hT⟩ := h.2.2.1
  obtain ⟨hx, hx10, hu, hu10⟩ := h.2.2.2.1
  obtain ⟨hB, hv1, hv2, hJ⟩ := h.2.2.2.2.1
  have hB31 := h.2.2.2.2.2.2.2
  have hI := hJ.1.1
  have hp0 : ph 0 < 15 := hP1 0 (by omega)
  have hp1 : ph 1 < 15 := hP1 1 (by omega)
  have hp2 : ph 2 < 15 := hP1 2 (by omega)
  have h10 : ph 1 ≠ ph 0 := h.ne (by omega) (by omega) (by omega)
  have h01 : ph 0 ≠ ph 1 := h.ne (by omega) (by omega) (by omega)
  have hd : d < 3 := by omega
  have hcn := hAT.1
  have hP := hB.2.2.2.2
  refine z_iload_n C 0 1 1 dX8_touch_0 rfl rfl ?_
  refine z_cSv0 C 1 dX8_touch_1 cs_X8_286 (c_X8_checkNotice hw) rfl rfl (Nat.le_of_ble_eq_true rfl) ⟨by decide, by decide⟩ ⟨rfl, rfl⟩ ⟨by decide, by decide⟩ ?_
  intro S1 L1 R1 p1
  obtain ⟨rfl, rfl, rfl⟩ := p1
  refine z_aload_n C 4 0 0 dX8_touch_4 rfl rfl ?_
  refine z_getr C 5 dX8_touch_5 gf_X8_42 rfl (by first | assumption | exact Nat.zero_lt_one | exact (show (15 : Nat) < 16 by decide) | exact Nat.lt_succ_of_lt (by assumption) | omega) (by first | exact hRb _ _ _ _ rfl | exact hR2 _ _ _ _ rfl | exact hR _ _ _ _ rfl | assumption) ?_
  refine z_getiv C 8 dX8_touch_8 gf_X8_117 rfl (by first | assumption | exact Nat.zero_lt_one | exact (show (15 : Nat) < 16 by decide) | exact Nat.lt_succ_of_lt (by assumption) | omega) (hP.2.2.1.trans hqe) ?_
  refine z_istore_n C 11 2 [(2, _), (0, _), (1, _)] dX8_touch_11 rfl (by decide) rfl ?_
  refine z_iload_n C 12 2 0 dX8_touch_12 rfl rfl ?_
  refine z_if_ge C 13 27 dX8_touch_13 (by decide) (fun h13 => ?_) (fun h13 => absurd (nI_pos' (by omega)) h13)
  · refine z_aload_n C 27 0 1 dX8_touch_27 rfl rfl ?_
    refine z_getr C 28 dX8_touch_28 gf_X8_46 rfl (by first | assumption | exact Nat.zero_lt_one | exact (show (15 : Nat) < 16 by decide) | exact Nat.lt_succ_of_lt (by assumption) | omega) (by first | exact hRb _ _ _ _ rfl | exact hR2 _ _ _ _ rfl | exact hR _ _ _ _ rfl | assumption) ?_
    refine z_aload_n C 31 0 1 dX8_touch_31 rfl rfl ?_
    refine z_getr C 32 dX8_touch_32 gf_X8_42 rfl (by first | assumption | exact Nat.zero_lt_one | exact (show (15 : Nat) < 16 by decide) | exact Nat.lt_succ_of_lt (by assumption) | omega) (by first | exact hRb _ _ _ _ rfl | exact hR2 _ _ _ _ rfl | exact hR _ _ _ _ rfl | assumption) ?_
    refine z_cVv0 C 35 dX8_touch_35 cv_X8_244 (c_X4_copyFrom (N := N) (n := n) (q := ph 0) (v := ph 1) (d := d) hR hp1 hp0 h01 hv1 hv2 hB hI) rfl ⟨by decide, rfl⟩ (by first | assumption | exact Nat.zero_lt_one | exact (show (15 : Nat) < 16 by decide) | exact Nat.lt_succ_of_lt (by assumption) | omega) rfl rfl (Nat.le_of_ble_eq_true rfl) ⟨by decide, by decide⟩ ⟨rfl, rfl⟩ ⟨by decide, by decide⟩ ?_
    intro S35 L35 R35 p35
    obtain ⟨hB8, hF8, rfl, rfl⟩ := p35
    have hRX : RX R (up3 (up3 R 25 (ph 1) 1 (some (3, d))) 12 (ph 1) 0 (some (3, d))) (ph 1) := RX.cp hR
    have hR2 := hRX.1
    have h8 := h.fv (Or.inl rfl) hF8.fv hRX
    have r5b := h8.2.1.2.2.1
    have r6b := h8.2.1.2.2.2.1
    have hw1 : (up3 (up3 R 25 (ph 1) 1 (some (3, d))) 12 (ph 1) 0 (some (3, d))) 25 (ph 1) 1 = some (3, d) := RX_l1
    have hw2 : (up3 (up3 R 25 (ph 1) 1 (some (3, d))) 12 (ph 1) 0 (some (3, d))) 12 (ph 1) 0 = some (3, d) := RX_l2
    have hAT8 := h8.2.2.1.2.2.2.1
    have hAC8 := h8.2.2.1.2.2.2.2.1
    refine z_aload_n C 38 0 1 dX8_touch_38 rfl rfl ?_
    refine z_getr C 39 dX8_touch_39 gf_X8_46 rfl (by first | assumption | exact Nat.zero_lt_one | exact (show (15 : Nat) < 16 by decide) | exact Nat.lt_succ_of_lt (by assumption) | omega) (by first | exact hRb _ _ _ _ rfl | exact hR2 _ _ _ _ rfl | exact hR _ _ _ _ rfl | assumption) ?_
    refine z_iload_n C 42 2 0 dX8_touch_42 rfl rfl ?_
    refine z_iload_n C 43 1 2 dX8_touch_43 rfl rfl ?_
    refine z_cVv0 C 44 dX8_touch_44 cv_X8_291 (c_X4_takeIn (N := N) (n := n) hR2 hp1 hB8 (by omega)) rfl ⟨by decide, rfl⟩ (by first | assumption | exact Nat.zero_lt_one | exact (show (15 : Nat) < 16 by decide) | exact Nat.lt_succ_of_lt (by assumption) | omega) rfl rfl (Nat.le_of_ble_eq_true rfl) ⟨by decide, by decide⟩ ⟨rfl, rfl⟩ ⟨by decide, by decide⟩ ?_
    intro S44 L44 R44 p44
    obtain ⟨hB44, hF44, rfl, rfl⟩ := p44
    refine z_aload_n C 47 0 1 dX8_touch_47 rfl rfl ?_
    refine z_cVv0 C 48 dX8_touch_48 cv_X8_273 (c_X8_acceptTrial (M := fTake N p (nI w)) (T := T) (c := c) (d := d) (N := N) (h8.fv (Or.inl rfl) hF44.fv (RX.rf hR2)) ⟨hB44, hw1, hw2, hJ.take hn10 (by omega) (by rw [(hI.2.2.2.1 p (by omega)).mpr hqe]; decide)⟩) rfl ⟨by decide, rfl⟩ (by first | assumption | exact Nat.zero_lt_one | exact (show (15 : Nat) < 16 by decide) | exact Nat.lt_succ_of_lt (by assumption) | omega) rfl rfl (Nat.le_of_ble_eq_true rfl) ⟨by decide, by decide⟩ ⟨rfl, rfl⟩ ⟨by decide, by decide⟩ ?_
    intro S48 L48 R48 p48
    obtain ⟨⟨hFa, xa, pha, hA⟩, rfl⟩ := p48
    have s5 := hA.2.1.2.2.1
    have hRb := hA.1
    have hpa : pha 0 < 15 := hA.ph (by omega)
    have hBa := hA.2.2.2.2.1.1
    have hPa := hBa.2.2.2.2
    refine z_aload_n C 51 0 1 dX8_touch_51 rfl rfl ?_
    refine z_getr C 52 dX8_touch_52 gf_X8_42 rfl (by first | assumption | exact Nat.zero_lt_one | exact (show (15 : Nat) < 16 by decide) | exact Nat.lt_succ_of_lt (by assumption) | omega) (by first | exact hRb _ _ _ _ rfl | exact hR2 _ _ _ _ rfl | exact hR _ _ _ _ rfl | assumption) ?_
    refine z_getr C 55 dX8_touch_55 gf_X8_189 rfl (by first | assumption | exact Nat.zero_lt_one | exact (show (15 : Nat) < 16 by decide) | exact Nat.lt_succ_of_lt (by assumption) | omega) (by first | exact hRb _ _ _ _ rfl | exact hR2 _ _ _ _ rfl | exact hR _ _ _ _ rfl | assumption) ?_
    refine z_iload_n C 58 2 0 dX8_touch_58 rfl rfl ?_
    refine z_iald C 59 dX8_touch_59 (by first | rfl | assumption) (by first | assumption | exact Nat.zero_lt_one | exact (show (15 : Nat) < 16 by decide) | exact Nat.lt_succ_of_lt (by assumption) | omega) (by first | rfl | assumption) (by first | decide | omega) (by first | assumption | omega) ?_
    rw [(hPa.2.2.2 p (by omega)).1]
    exact ret 60 _ _ _ _ _ dX8_touch_60 (by first | rfl | exact bI_n | decide) (⟨fo_set_s _ _ _ _, ⟨(hF8.fv.fc.tr hF44.fv.fc).tr hFa, xa, pha, hA⟩, rfl⟩)
def rm_X8_send : Room := { frames := 7, cells := 0, slots := 0, locals := 221 }
set_option maxHeartbeats 4000000 in
set_option maxRecDepth 100000 in
theorem c_X8_send {l : Launch} {G : mG} {ad : mA} {S : mS} {L : mL} {R : mR} {T c N : NN} {d n B x u : Nat} {ph : Nat → Nat} {UR SR : Nat → NN} {sf : Nat → Nat} {p w g : Nat} (h : CS S R T c d n B x u ph N UR SR sf) (hp : p < n) (hw : w ≤ 999) (hg : fo N p 15 = nI g) (hg5 : g ≤ 5) : Ki l yX8_send cX8_send 3 .int rm_X8_send G ad mdm [.ref (ad 0 0), .int (nI p), .int (nI w)] S L R (fun r_ S2 L2 R2 => r_ = fo (fSend N p g (nI w)) p 15 ∧ CQ S S2 R2 T c d n B (uN u) (fSend N p g (nI w)) (pU UR N u) SR sf ∧ L = L2) := by
  refine Ki.of RX8 (by decide) rfl (Nat.le_of_ble_eq_true rfl) ?_
  intro X hXl hXG C ret
  subst hXl; subst hXG
  change Z X 3 ad mdm S L R 0 0 0 [(0, _), (1, _), (2, _)] []
  have hR := h.1
  obtain ⟨hP1, hP2, r5, r6, r7, r32, r33⟩ := h.2.1
  obtain ⟨hd2, rD, rE, hAT, hAC, hn10, hT⟩ := h.2.2.1
  obtain ⟨hx, hx10, hu, hu10⟩ := h.2.2.2.1
  obtain ⟨hB, hv1, hv2, hJ⟩ := h.2.2.2.2.1
  have hB31 := h.2.2.2.2.2.2.2
  have hI := hJ.1.1
  have hp0 : ph 0 < 15 := hP1 0 (by omega)
  have hp1 : ph 1 < 15 := hP1 1 (by omega)
  have hp2 : ph 2 < 15 := hP1 2 (by omega)
  have h10 : ph 1 ≠ ph 0 := h.ne (by omega) (by omega) (by omega)
  have h01 : ph 0 ≠ ph 1 := h.ne (by omega) (by omega) (by omega)
  have hd : d < 3 := by omega
  have hcn := hAT.1
  have hP := hB.2.2.2.2
  refine z_aload_n C 0 0 0 dX8_send_0 rfl rfl ?_
  refine z_iload_n C 1 1 1 dX8_send_1 rfl rfl ?_
  refine z_cVv0 C 2 dX8_send_2 cv_X8_151 (c_X8_checkProgram (d := d) (n := n) (by assumption) hd2 (by assumption) (by assumption) hn10 (by assumption)) rfl ⟨by decide, rfl⟩ (by first | assumption | exact Nat.zero_lt_one | exact (show (15 : Nat) < 16 by decide) | exact Nat.lt_succ_of_lt (by assumption) | omega) rfl rfl (Nat.le_of_ble_eq_true rfl) ⟨by decide, by decide⟩ ⟨rfl, rfl⟩ ⟨by decide, by decide⟩ ?_
  intro S2 L2 R2 p2
  obtain ⟨rfl, rfl, rfl⟩ := p2
  refine z_iload_n C 5 2 2 dX8_send_5 rfl rfl ?_
  refine z_cSv0 C 6 dX8_send_6 cs_X8_286 (c_X8_checkNotice hw) rfl rfl (Nat.le_of_ble_eq_true rfl) ⟨by decide, by decide⟩ ⟨rfl, rfl⟩ ⟨by decide, by decide⟩ ?_
  intro S6 L6 R6 p6
  obtain ⟨rfl, rfl, rfl⟩ := p6
  refine z_aload_n C 9 0 0 dX8_send_9 rfl rfl ?_
  refine z_getr C 10 dX8_send_10 gf_X8_46 rfl (by first | assumption | exact Nat.zero_lt_one | exact (show (15 : Nat) < 16 by decide) | exact Nat.lt_succ_of_lt (by assumption) | omega) (by first | exact hRb _ _ _ _ rfl | exact hR2 _ _ _ _ rfl | exact hR _ _ _ _ rfl | assumption) ?_
  refine z_aload_n C 13 0 0 dX8_send_13 rfl rfl ?_
  refine z_getr C 14 dX8_send_14 gf_X8_42 rfl (by first | assumption | exact Nat.zero_lt_one | exact (show (15 : Nat) < 16 by decide) | exact Nat.lt_succ_of_lt (by assumption) | omega) (by first | exact hRb _ _ _ _ rfl | exact hR2 _ _ _ _ rfl | exact hR _ _ _ _ rfl | assumption) ?_
  refine z_cVv0 C 17 dX8_send_17 cv_X8_244 (c_X4_copyFrom (N := N) (n := n) (q := ph 0) (v := ph 1) (d := d) hR hp1 hp0 h01 hv1 hv2 hB hI) rfl ⟨by decide, rfl⟩ (by first | assumption | exact Nat.zero_lt_one | exact (show (15 : Nat) < 16 by decide) | exact Nat.lt_succ_of_lt (by assumption) | omega) rfl rfl (Nat.le_of_ble_eq_true rfl) ⟨by decide, by decide⟩ ⟨rfl, rfl⟩ ⟨by decide, by decide⟩ ?_
  intro S17 L17 R17 p17
  obtain ⟨hB8, hF8, rfl, rfl⟩ := p17
  have hRX : RX R (up3 (up3 R 25 (ph 1) 1 (some (3, d))) 12 (ph 1) 0 (some (3, d))) (ph 1) := RX.cp hR
  have hR2 := hRX.1
  have h8 := h.fv (Or.inl rfl) hF8.fv hRX
  have r5b := h8.2.1.2.2.1
  have r6b := h8.2.1.2.2.2.1
  have hw1 : (up3 (up3 R 25 (ph 1) 1 (some (3, d))) 12 (ph 1) 0 (some (3, d))) 25 (ph 1) 1 = some (3, d) := RX_l1
  have hw2 : (up3 (up3 R 25 (ph 1) 1 (some (3, d))) 12 (ph 1) 0 (some (3, d))) 12 (ph 1) 0 = some (3, d) := RX_l2
  have hAT8 := h8.2.2.1.2.2.2.1
  have hAC8 := h8.2.2.1.2.2.2.2.1
  refine z_aload_n C 20 0 0 dX8_send_20 rfl rfl ?_
  refine z_getr C 21 dX8_send_21 gf_X8_46 rfl (by first | assumption | exact Nat.zero_lt_one | exact (show (15 : Nat) < 16 by decide) | exact Nat.lt_succ_of_lt (by assumption) | omega) (by first | exact hRb _ _ _ _ rfl | exact hR2 _ _ _ _ rfl | exact hR _ _ _ _ rfl | assumption) ?_
  refine z_iload_n C 24 1 1 dX8_send_24 rfl rfl ?_
  refine z_iload_n C 25 2 2 dX8_send_25 rfl rfl ?_
  refine z_cVv0 C 26 dX8_send_26 cv_X8_295 (c_X4_deliver (N := N) (n := n) (w := g) hR2 hp1 hB8 (by omega) hg hg5) rfl ⟨by decide, rfl⟩ (by first | assumption | exact Nat.zero_lt_one | exact (show (15 : Nat) < 16 by decide) | exact Nat.lt_succ_of_lt (by assumption) | omega) rfl rfl (Nat.le_of_ble_eq_true rfl) ⟨by decide, by decide⟩ ⟨rfl, rfl⟩ ⟨by decide, by decide⟩ ?_
  intro S26 L26 R26 p26
  obtain ⟨hB44, hF44, rfl, rfl⟩ := p26
  refine z_aload_n C 29 0 0 dX8_send_29 rfl rfl ?_
  refine z_cVv0 C 30 dX8_send_30 cv_X8_273 (c_X8_acceptTrial (M := fSend N p g (nI w)) (T := T) (c := c) (d := d) (N := N) (h8.fv (Or.inl rfl) hF44.fv (RX.rf hR2)) ⟨hB44, hw1, hw2, hJ.send hn10 (by omega) hg5⟩) rfl ⟨by decide, rfl⟩ (by first | assumption | exact Nat.zero_lt_one | exact (show (15 : Nat) < 16 by decide) | exact Nat.lt_succ_of_lt (by assumption) | omega) rfl rfl (Nat.le_of_ble_eq_true rfl) ⟨by decide, by decide⟩ ⟨rfl, rfl⟩ ⟨by decide, by decide⟩ ?_
  intro S30 L30 R30 p30
  obtain ⟨⟨hFa, xa, pha, hA⟩, rfl⟩ := p30
  have s5 := hA.2.1.2.2.1
  have hRb := hA.1
  have hpa : pha 0 < 15 := hA.ph (by omega)
  have hBa := hA.2.2.2.2.1.1
  have hPa := hBa.2.2.2.2
  refine z_aload_n C 33 0 0 dX8_send_33 rfl rfl ?_
  refine z_getr C 34 dX8_send_34 gf_X8_42 rfl (by first | assumption | exact Nat.zero_lt_one | exact (show (15 : Nat) < 16 by decide) | exact Nat.lt_succ_of_lt (by assumption) | omega) (by first | exact hRb _ _ _ _ rfl | exact hR2 _ _ _ _ rfl | exact hR _ _ _ _ rfl | assumption) ?_
  refine z_getr C 37 dX8_send_37 gf_X8_171 rfl (by first | assumption | exact Nat.zero_lt_one | exact (show (15 : Nat) < 16 by decide) | exact Nat.lt_succ_of_lt (by assumption) | omega) (by first | exact hRb _ _ _ _ rfl | exact hR2 _ _ _ _ rfl | exact hR _ _ _ _ rfl | assumption) ?_
  refine z_iload_n C 40 1 1 dX8_send_40 rfl rfl ?_
  refine z_iald C 41 dX8_send_41 (by first | rfl | assumption) (by first | assumption | exact Nat.zero_lt_one | exact (show (15 : Nat) < 16 by decide) | exact Nat.lt_succ_of_lt (by assumption) | omega) (by first | rfl | assumption) (by first | decide | omega) (by first | assumption | omega) ?_
  rw [(hPa.2.2.2 p (by omega)).2.2.2.1]
  exact ret 42 _ _ _ _ _ dX8_send_42 (by first | rfl | exact bI_n | decide) (⟨rfl, ⟨(hF8.fv.fc.tr hF44.fv.fc).tr hFa, xa, pha, hA⟩, rfl⟩)
def rm_X8_read : Room := { frames := 6, cells := 0, slots := 0, locals := 200 }
set_option maxHeartbeats 4000000 in
set_option maxRecDepth 100000 in
theorem c_X8_read {l : Launch} {G : mG} {ad : mA} {S : mS} {L : mL} {R : mR} {T c N : NN} {d n B x u : Nat} {ph : Nat → Nat} {UR SR : Nat → NN} {sf : Nat → Nat} {p w : Nat} (h : CS S R T c d n B x u ph N UR SR sf) (hq : p < n) (hqe : N 2 = nI p) (hw : fo N p 15 = nI w) (hw0 : 1 ≤ w) (hw5 : w ≤ 5) : Ki l yX8_read cX8_read 2 .int rm_X8_read G ad mdm [.ref (ad 0 0)] S L R (fun r_ S2 L2 R2 => r_ = nI 31 * fo (fLeave N p w) p 3 + N (388 + 5 * p) ∧ CQ S S2 R2 T c d n B (uN u) (fTake (fLeave N p w) p (N (388 + 5 * p))) (pU UR N u) SR sf ∧ L = L2) := by
  refine Ki.of RX8 (by decide) rfl (Nat.le_of_ble_eq_true rfl) ?_
  intro X hXl hXG C ret
  subst hXl; subst hXG
  change Z X 2 ad mdm S L R 0 0 0 [(0, _)] []
  have hR := h.1
  obtain ⟨hP1, hP2, r5, r6, r7, r32, r33⟩ := h.2.1
  obtain ⟨hd2, rD, rE, hAT, hAC, hn10, hT⟩ := h.2.2.1
  obtain ⟨hx, hx10, hu, hu10⟩ := h.2.2.2.1
  obtain ⟨hB, hv1, hv2, hJ⟩ := h.2.2.2.2.1
  have hB31 := h.2.2.2.2.2.2.2
  have hI := hJ.1.1
  have hp0 : ph 0 < 15 := hP1 0 (by omega)
  have hp1 : ph 1 < 15 := hP1 1 (by omega)
  have hp2 : ph 2 < 15 := hP1 2 (by omega)
  have h10 : ph 1 ≠ ph 0 := h.ne (by omega) (by omega) (by omega)
  have h01 : ph 0 ≠ ph 1 := h.ne (by omega) (by omega) (by omega)
  have hd : d < 3 := by omega
  have hcn := hAT.1
  have hP := hB.2.2.2.2
  have hc1 : fo (fLeave N p w) p 0 = nI 1 := by
    unfold fLeave
    rw [fLv_fo (by omega) (by omega), fo_set_w _ (by omega) (by omega) (by omega)]
    exact (hI.2.2.2.1 p (by omega)).mpr hqe
  refine z_aload_n C 0 0 0 dX8_read_0 rfl rfl ?_
  refine z_getr C 1 dX8_read_1 gf_X8_42 rfl (by first | assumption | exact Nat.zero_lt_one | exact (show (15 : Nat) < 16 by decide) | exact Nat.lt_succ_of_lt (by assumption) | omega) (by first | exact hRb _ _ _ _ rfl | exact hR2 _ _ _ _ rfl | exact hR _ _ _ _ rfl | assumption) ?_
  refine z_getiv C 4 dX8_read_4 gf_X8_117 rfl (by first | assumption | exact Nat.zero_lt_one | exact (show (15 : Nat) < 16 by decide) | exact Nat.lt_succ_of_lt (by assumption) | omega) (hP.2.2.1.trans hqe) ?_
  refine z_istore_n C 7 1 [(1, _), (0, _)] dX8_read_7 rfl (by decide) rfl ?_
  refine z_iload_n C 8 1 0 dX8_read_8 rfl rfl ?_
  refine z_if_ge C 9 23 dX8_read_9 (by decide) (fun h9 => ?_) (fun h9 => absurd (nI_pos' (by omega)) h9)
  · refine z_aload_n C 23 0 1 dX8_read_23 rfl rfl ?_
    refine z_getr C 24 dX8_read_24 gf_X8_42 rfl (by first | assumption | exact Nat.zero_lt_one | exact (show (15 : Nat) < 16 by decide) | exact Nat.lt_succ_of_lt (by assumption) | omega) (by first | exact hRb _ _ _ _ rfl | exact hR2 _ _ _ _ rfl | exact hR _ _ _ _ rfl | assumption) ?_
    refine z_getr C 27 dX8_read_27 gf_X8_171 rfl (by first | assumption | exact Nat.zero_lt_one | exact (show (15 : Nat) < 16 by decide) | exact Nat.lt_succ_of_lt (by assumption) | omega) (by first | exact hRb _ _ _ _ rfl | exact hR2 _ _ _ _ rfl | exact hR _ _ _ _ rfl | assumption) ?_
    refine z_iload_n C 30 1 0 dX8_read_30 rfl rfl ?_
    refine z_iald C 31 dX8_read_31 (by first | rfl | assumption) (by first | assumption | exact Nat.zero_lt_one | exact (show (15 : Nat) < 16 by decide) | exact Nat.lt_succ_of_lt (by assumption) | omega) (by first | rfl | assumption) (by first | decide | omega) (by first | assumption | omega) ?_
    rw [(hP.2.2.2 p (by omega)).2.2.2.1, hw]
    refine z_iconst (v := nI 1) C 32 dX8_read_32 (by decide) ?_
    first | with_reducible refine z_icmp_geN C 33 47 dX8_read_33 (by decide) (by omega) (by omega) (fun h33 => ?_) (fun h33 => absurd hw0 (by omega)) | refine z_icmp_ge C 33 47 dX8_read_33 (by decide) (fun h33 => ?_) (fun h33 => absurd hw0 (by omega))
    · refine z_aload_n C 47 0 1 dX8_read_47 rfl rfl ?_
      refine z_getr C 48 dX8_read_48 gf_X8_46 rfl (by first | assumption | exact Nat.zero_lt_one | exact (show (15 : Nat) < 16 by decide) | exact Nat.lt_succ_of_lt (by assumption) | omega) (by first | exact hRb _ _ _ _ rfl | exact hR2 _ _ _ _ rfl | exact hR _ _ _ _ rfl | assumption) ?_
      refine z_aload_n C 51 0 1 dX8_read_51 rfl rfl ?_
      refine z_getr C 52 dX8_read_52 gf_X8_42 rfl (by first | assumption | exact Nat.zero_lt_one | exact (show (15 : Nat) < 16 by decide) | exact Nat.lt_succ_of_lt (by assumption) | omega) (by first | exact hRb _ _ _ _ rfl | exact hR2 _ _ _ _ rfl | exact hR _ _ _ _ rfl | assumption) ?_
      refine z_cVv0 C 55 dX8_read_55 cv_X8_244 (c_X4_copyFrom (N := N) (n := n) (q := ph 0) (v := ph 1) (d := d) hR hp1 hp0 h01 hv1 hv2 hB hI) rfl ⟨by decide, rfl⟩ (by first | assumption | exact Nat.zero_lt_one | exact (show (15 : Nat) < 16 by decide) | exact Nat.lt_succ_of_lt (by assumption) | omega) rfl rfl (Nat.le_of_ble_eq_true rfl) ⟨by decide, by decide⟩ ⟨rfl, rfl⟩ ⟨by decide, by decide⟩ ?_
      intro S55 L55 R55 p55
      obtain ⟨hB8, hF8, rfl, rfl⟩ := p55
      have hRX : RX R (up3 (up3 R 25 (ph 1) 1 (some (3, d))) 12 (ph 1) 0 (some (3, d))) (ph 1) := RX.cp hR
      have hR2 := hRX.1
      have h8 := h.fv (Or.inl rfl) hF8.fv hRX
      have r5b := h8.2.1.2.2.1
      have r6b := h8.2.1.2.2.2.1
      have hw1 : (up3 (up3 R 25 (ph 1) 1 (some (3, d))) 12 (ph 1) 0 (some (3, d))) 25 (ph 1) 1 = some (3, d) := RX_l1
      have hw2 : (up3 (up3 R 25 (ph 1) 1 (some (3, d))) 12 (ph 1) 0 (some (3, d))) 12 (ph 1) 0 = some (3, d) := RX_l2
      have hAT8 := h8.2.2.1.2.2.2.1
      have hAC8 := h8.2.2.1.2.2.2.2.1
      refine z_aload_n C 58 0 1 dX8_read_58 rfl rfl ?_
      refine z_getr C 59 dX8_read_59 gf_X8_46 rfl (by first | assumption | exact Nat.zero_lt_one | exact (show (15 : Nat) < 16 by decide) | exact Nat.lt_succ_of_lt (by assumption) | omega) (by first | exact hRb _ _ _ _ rfl | exact hR2 _ _ _ _ rfl | exact hR _ _ _ _ rfl | assumption) ?_
      refine z_iload_n C 62 1 0 dX8_read_62 rfl rfl ?_
      refine z_cVv0 C 63 dX8_read_63 cv_X8_300 (c_X4_takeInFirst (N := N) (n := n) (w := w) hR2 hp1 hB8 (by omega) hw hw0 hw5) rfl ⟨by decide, rfl⟩ (by first | assumption | exact Nat.zero_lt_one | exact (show (15 : Nat) < 16 by decide) | exact Nat.lt_succ_of_lt (by assumption) | omega) rfl rfl (Nat.le_of_ble_eq_true rfl) ⟨by decide, by decide⟩ ⟨rfl, rfl⟩ ⟨by decide, by decide⟩ ?_
      intro S63 L63 R63 p63
      obtain ⟨hB44, hF44, rfl, rfl⟩ := p63
      refine z_aload_n C 66 0 1 dX8_read_66 rfl rfl ?_
      refine z_cVv0 C 67 dX8_read_67 cv_X8_273 (c_X8_acceptTrial (M := fTake (fLeave N p w) p (N (388 + 5 * p))) (T := T) (c := c) (d := d) (N := N) (h8.fv (Or.inl rfl) hF44.fv (RX.rf hR2)) ⟨hB44, hw1, hw2, (hJ.leave hn10 (by omega) (by omega)).take hn10 (by omega) (by rw [hc1]; decide)⟩) rfl ⟨by decide, rfl⟩ (by first | assumption | exact Nat.zero_lt_one | exact (show (15 : Nat) < 16 by decide) | exact Nat.lt_succ_of_lt (by assumption) | omega) rfl rfl (Nat.le_of_ble_eq_true rfl) ⟨by decide, by decide⟩ ⟨rfl, rfl⟩ ⟨by decide, by decide⟩ ?_
      intro S67 L67 R67 p67
      obtain ⟨⟨hFa, xa, pha, hA⟩, rfl⟩ := p67
      have s5 := hA.2.1.2.2.1
      have hRb := hA.1
      have hpa : pha 0 < 15 := hA.ph (by omega)
      have hBa := hA.2.2.2.2.1.1
      have hPa := hBa.2.2.2.2
      refine z_aload_n C 70 0 1 dX8_read_70 rfl rfl ?_
      refine z_getr C 71 dX8_read_71 gf_X8_42 rfl (by first | assumption | exact Nat.zero_lt_one | exact (show (15 : Nat) < 16 by decide) | exact Nat.lt_succ_of_lt (by assumption) | omega) (by first | exact hRb _ _ _ _ rfl | exact hR2 _ _ _ _ rfl | exact hR _ _ _ _ rfl | assumption) ?_
      refine z_getr C 74 dX8_read_74 gf_X8_189 rfl (by first | assumption | exact Nat.zero_lt_one | exact (show (15 : Nat) < 16 by decide) | exact Nat.lt_succ_of_lt (by assumption) | omega) (by first | exact hRb _ _ _ _ rfl | exact hR2 _ _ _ _ rfl | exact hR _ _ _ _ rfl | assumption) ?_
      refine z_iload_n C 77 1 0 dX8_read_77 rfl rfl ?_
      refine z_iald C 78 dX8_read_78 (by first | rfl | assumption) (by first | assumption | exact Nat.zero_lt_one | exact (show (15 : Nat) < 16 by decide) | exact Nat.lt_succ_of_lt (by assumption) | omega) (by first | rfl | assumption) (by first | decide | omega) (by first | assumption | omega) ?_
      rw [(hPa.2.2.2 p (by omega)).1]
      exact ret 79 _ _ _ _ _ dX8_read_79 (by first | rfl | exact bI_n | decide) (⟨fo_set_s _ _ _ _, ⟨(hF8.fv.fc.tr hF44.fv.fc).tr hFa, xa, pha, hA⟩, rfl⟩)
def rm_X8_pin : Room := { frames := 7, cells := 0, slots := 0, locals := 221 }
set_option maxHeartbeats 4000000 in
set_option maxRecDepth 100000 in
theorem c_X8_pin {l : Launch} {G : mG} {ad : mA} {S : mS} {L : mL} {R : mR} {T c N : NN} {d n B x u : Nat} {ph : Nat → Nat} {UR SR : Nat → NN} {sf : Nat → Nat} {p b : Nat} (h : CS S R T c d n B x u ph N UR SR sf) (hp : p < n) (hb : b ≤ 1) : Ki l yX8_pin cX8_pin 4 .boolean rm_X8_pin G ad mdm [.ref (ad 0 0), .int (nI p), .int (nI b)] S L R (fun r_ S2 L2 R2 => r_ = fo N p 6 ∧ CQ S S2 R2 T c d n B (uN u) (fset N p 6 (nI b)) (pU UR N u) SR sf ∧ L = L2) := by
  refine Ki.of RX8 (by decide) rfl (Nat.le_of_ble_eq_true rfl) ?_
  intro X hXl hXG C ret
  subst hXl; subst hXG
  change Z X 4 ad mdm S L R 0 0 0 [(0, _), (1, _), (2, _)] []
  have hR := h.1
  obtain ⟨hP1, hP2, r5, r6, r7, r32, r33⟩ := h.2.1
  obtain ⟨hd2, rD, rE, hAT, hAC, hn10, hT⟩ := h.2.2.1
  obtain ⟨hx, hx10, hu, hu10⟩ := h.2.2.2.1
  obtain ⟨hB, hv1, hv2, hJ⟩ := h.2.2.2.2.1
  have hB31 := h.2.2.2.2.2.2.2
  have hI := hJ.1.1
  have hp0 : ph 0 < 15 := hP1 0 (by omega)
  have hp1 : ph 1 < 15 := hP1 1 (by omega)
  have hp2 : ph 2 < 15 := hP1 2 (by omega)
  have h10 : ph 1 ≠ ph 0 := h.ne (by omega) (by omega) (by omega)
  have h01 : ph 0 ≠ ph 1 := h.ne (by omega) (by omega) (by omega)
  have hd : d < 3 := by omega
  have hcn := hAT.1
  have hP := hB.2.2.2.2
  have hb01 : nI b = 0 ∨ nI b = 1 := by
    rcases (show b = 0 ∨ b = 1 by omega) with rfl | rfl
    · exact Or.inl rfl
    · exact Or.inr rfl
  refine z_aload_n C 0 0 0 dX8_pin_0 rfl rfl ?_
  refine z_iload_n C 1 1 1 dX8_pin_1 rfl rfl ?_
  refine z_cVv0 C 2 dX8_pin_2 cv_X8_151 (c_X8_checkProgram (d := d) (n := n) (by assumption) hd2 (by assumption) (by assumption) hn10 (by assumption)) rfl ⟨by decide, rfl⟩ (by first | assumption | exact Nat.zero_lt_one | exact (show (15 : Nat) < 16 by decide) | exact Nat.lt_succ_of_lt (by assumption) | omega) rfl rfl (Nat.le_of_ble_eq_true rfl) ⟨by decide, by decide⟩ ⟨rfl, rfl⟩ ⟨by decide, by decide⟩ ?_
  intro S2 L2 R2 p2
  obtain ⟨rfl, rfl, rfl⟩ := p2
  refine z_aload_n C 5 0 0 dX8_pin_5 rfl rfl ?_
  refine z_getr C 6 dX8_pin_6 gf_X8_42 rfl (by first | assumption | exact Nat.zero_lt_one | exact (show (15 : Nat) < 16 by decide) | exact Nat.lt_succ_of_lt (by assumption) | omega) (by first | exact hRb _ _ _ _ rfl | exact hR2 _ _ _ _ rfl | exact hR _ _ _ _ rfl | assumption) ?_
  refine z_getr C 9 dX8_pin_9 gf_X8_101 rfl (by first | assumption | exact Nat.zero_lt_one | exact (show (15 : Nat) < 16 by decide) | exact Nat.lt_succ_of_lt (by assumption) | omega) (by first | exact hRb _ _ _ _ rfl | exact hR2 _ _ _ _ rfl | exact hR _ _ _ _ rfl | assumption) ?_
  refine z_getr C 12 dX8_pin_12 gf_X8_174 rfl (by first | assumption | exact Nat.zero_lt_one | exact (show (15 : Nat) < 16 by decide) | exact Nat.lt_succ_of_lt (by assumption) | omega) (by first | exact hRb _ _ _ _ rfl | exact hR2 _ _ _ _ rfl | exact hR _ _ _ _ rfl | assumption) ?_
  refine z_iload_n C 15 1 1 dX8_pin_15 rfl rfl ?_
  refine z_zald C 16 dX8_pin_16 rfl (by first | assumption | exact Nat.zero_lt_one | exact (show (15 : Nat) < 16 by decide) | exact Nat.lt_succ_of_lt (by assumption) | omega) (by first | rfl | assumption) (by first | decide | omega) (by first | assumption | omega) ?_
  rw [(hB.1.2 p (by omega)).2.2.2]
  refine z_istore_n C 17 3 [(3, _), (0, _), (1, _), (2, _)] dX8_pin_17 rfl (by decide) rfl ?_
  refine z_aload_n C 18 0 1 dX8_pin_18 rfl rfl ?_
  refine z_getr C 19 dX8_pin_19 gf_X8_46 rfl (by first | assumption | exact Nat.zero_lt_one | exact (show (15 : Nat) < 16 by decide) | exact Nat.lt_succ_of_lt (by assumption) | omega) (by first | exact hRb _ _ _ _ rfl | exact hR2 _ _ _ _ rfl | exact hR _ _ _ _ rfl | assumption) ?_
  refine z_aload_n C 22 0 1 dX8_pin_22 rfl rfl ?_
  refine z_getr C 23 dX8_pin_23 gf_X8_42 rfl (by first | assumption | exact Nat.zero_lt_one | exact (show (15 : Nat) < 16 by decide) | exact Nat.lt_succ_of_lt (by assumption) | omega) (by first | exact hRb _ _ _ _ rfl | exact hR2 _ _ _ _ rfl | exact hR _ _ _ _ rfl | assumption) ?_
  refine z_cVv0 C 26 dX8_pin_26 cv_X8_244 (c_X4_copyFrom (N := N) (n := n) (q := ph 0) (v := ph 1) (d := d) hR hp1 hp0 h01 hv1 hv2 hB hI) rfl ⟨by decide, rfl⟩ (by first | assumption | exact Nat.zero_lt_one | exact (show (15 : Nat) < 16 by decide) | exact Nat.lt_succ_of_lt (by assumption) | omega) rfl rfl (Nat.le_of_ble_eq_true rfl) ⟨by decide, by decide⟩ ⟨rfl, rfl⟩ ⟨by decide, by decide⟩ ?_
  intro S26 L26 R26 p26
  obtain ⟨hB8, hF8, rfl, rfl⟩ := p26
  have hRX : RX R (up3 (up3 R 25 (ph 1) 1 (some (3, d))) 12 (ph 1) 0 (some (3, d))) (ph 1) := RX.cp hR
  have hR2 := hRX.1
  have h8 := h.fv (Or.inl rfl) hF8.fv hRX
  have r5b := h8.2.1.2.2.1
  have r6b := h8.2.1.2.2.2.1
  have hw1 : (up3 (up3 R 25 (ph 1) 1 (some (3, d))) 12 (ph 1) 0 (some (3, d))) 25 (ph 1) 1 = some (3, d) := RX_l1
  have hw2 : (up3 (up3 R 25 (ph 1) 1 (some (3, d))) 12 (ph 1) 0 (some (3, d))) 12 (ph 1) 0 = some (3, d) := RX_l2
  have hAT8 := h8.2.2.1.2.2.2.1
  have hAC8 := h8.2.2.1.2.2.2.2.1
  refine z_aload_n C 29 0 1 dX8_pin_29 rfl rfl ?_
  refine z_getr C 30 dX8_pin_30 gf_X8_46 rfl (by first | assumption | exact Nat.zero_lt_one | exact (show (15 : Nat) < 16 by decide) | exact Nat.lt_succ_of_lt (by assumption) | omega) (by first | exact hRb _ _ _ _ rfl | exact hR2 _ _ _ _ rfl | exact hR _ _ _ _ rfl | assumption) ?_
  refine z_getr C 33 dX8_pin_33 gf_X8_101 rfl (by first | assumption | exact Nat.zero_lt_one | exact (show (15 : Nat) < 16 by decide) | exact Nat.lt_succ_of_lt (by assumption) | omega) (by first | exact hRb _ _ _ _ rfl | exact hR2 _ _ _ _ rfl | exact hR _ _ _ _ rfl | assumption) ?_
  refine z_getr C 36 dX8_pin_36 gf_X8_174 rfl (by first | assumption | exact Nat.zero_lt_one | exact (show (15 : Nat) < 16 by decide) | exact Nat.lt_succ_of_lt (by assumption) | omega) (by first | exact hRb _ _ _ _ rfl | exact hR2 _ _ _ _ rfl | exact hR _ _ _ _ rfl | assumption) ?_
  refine z_iload_n C 39 1 2 dX8_pin_39 rfl rfl ?_
  refine z_iload_n C 40 2 3 dX8_pin_40 rfl rfl ?_
  refine z_zast C 41 dX8_pin_41 (by first | rfl | assumption) (by first | assumption | exact Nat.zero_lt_one | exact (show (15 : Nat) < 16 by decide) | exact Nat.lt_succ_of_lt (by assumption) | omega)  (by first | rfl | assumption) (by first | decide | omega) (by first | assumption | omega) (by first | exact bI_01 | exact Or.inl rfl | exact Or.inr rfl | assumption) ?_
  have hF41 : FV S26 (up3 S26 16 (ph 1) p (nI b)) (ph 1) := (FV.rf _ _).up (by omega)
  refine z_aload_n C 42 0 1 dX8_pin_42 rfl rfl ?_
  refine z_cVv0 C 43 dX8_pin_43 cv_X8_273 (c_X8_acceptTrial (M := fset N p 6 (nI b)) (T := T) (c := c) (d := d) (N := N) (h8.fv (Or.inl rfl) hF41 (RX.rf hR2)) ⟨hB8.set6 (by omega), hw1, hw2, hJ.set hn10 (by omega) (by omega) (fun z => by omega) (fun z => by omega) (fun _ => hb01)⟩) rfl ⟨by decide, rfl⟩ (by first | assumption | exact Nat.zero_lt_one | exact (show (15 : Nat) < 16 by decide) | exact Nat.lt_succ_of_lt (by assumption) | omega) rfl rfl (Nat.le_of_ble_eq_true rfl) ⟨by decide, by decide⟩ ⟨rfl, rfl⟩ ⟨by decide, by decide⟩ ?_
  intro S43 L43 R43 p43
  obtain ⟨⟨hFa, xa, pha, hA⟩, rfl⟩ := p43
  refine z_iload_n C 46 3 0 dX8_pin_46 rfl rfl ?_
  exact ret 47 _ _ _ _ _ dX8_pin_47 (by rcases hI.2.2.2.2.2.2.1 p (by omega) with z | z <;> rw [z] <;> rfl) (⟨rfl, ⟨(hF8.fv.fc.tr hF41.fc).tr hFa, xa, pha, hA⟩, rfl⟩)
def rm_X8_trim : Room := { frames := 7, cells := 0, slots := 0, locals := 220 }
set_option maxHeartbeats 4000000 in
set_option maxRecDepth 100000 in
theorem c_X8_trim {l : Launch} {G : mG} {ad : mA} {S : mS} {L : mL} {R : mR} {T c N : NN} {d n B x u : Nat} {ph : Nat → Nat} {UR SR : Nat → NN} {sf : Nat → Nat} {k p : Nat} (h : CS S R T c d n B x u ph N UR SR sf) (hk : 1 ≤ k) (hk6 : k ≤ 6) (hv : fVic N T n k = some p) (ho : ¬ fStep N p k 0 < fAll (fStep N p k) T n) : Ki l yX8_trim cX8_trim 3 .int rm_X8_trim G ad mdm [.ref (ad 0 0), .int (nI k)] S L R (fun r_ S2 L2 R2 => r_ = nI p ∧ CQ S S2 R2 T c d n B (uN u) (fStep N p k) (pU UR N u) SR sf ∧ L = L2) := by
  refine Ki.of RX8 (by decide) rfl (Nat.le_of_ble_eq_true rfl) ?_
  intro X hXl hXG C ret
  subst hXl; subst hXG
  change Z X 3 ad mdm S L R 0 0 0 [(0, _), (1, _)] []
  have hR := h.1
  obtain ⟨hP1, hP2, r5, r6, r7, r32, r33⟩ := h.2.1
  obtain ⟨hd2, rD, rE, hAT, hAC, hn10, hT⟩ := h.2.2.1
  obtain ⟨hx, hx10, hu, hu10⟩ := h.2.2.2.1
  obtain ⟨hB, hv1, hv2, hJ⟩ := h.2.2.2.2.1
  have hB31 := h.2.2.2.2.2.2.2
  have hI := hJ.1.1
  have hp0 : ph 0 < 15 := hP1 0 (by omega)
  have hp1 : ph 1 < 15 := hP1 1 (by omega)
  have hp2 : ph 2 < 15 := hP1 2 (by omega)
  have h10 : ph 1 ≠ ph 0 := h.ne (by omega) (by omega) (by omega)
  have h01 : ph 0 ≠ ph 1 := h.ne (by omega) (by omega) (by omega)
  have hd : d < 3 := by omega
  have hcn := hAT.1
  have hP := hB.2.2.2.2
  have hpn : p < n := fVic_lt hv
  refine z_iload_n C 0 1 1 dX8_trim_0 rfl rfl ?_
  refine z_cSv0 C 1 dX8_trim_1 cs_X8_211 (c_X8_checkStep hk hk6) rfl rfl (Nat.le_of_ble_eq_true rfl) ⟨by decide, by decide⟩ ⟨rfl, rfl⟩ ⟨by decide, by decide⟩ ?_
  intro S1 L1 R1 p1
  obtain ⟨rfl, rfl, rfl⟩ := p1
  refine z_aload_n C 4 0 0 dX8_trim_4 rfl rfl ?_
  refine z_getr C 5 dX8_trim_5 gf_X8_42 rfl (by first | assumption | exact Nat.zero_lt_one | exact (show (15 : Nat) < 16 by decide) | exact Nat.lt_succ_of_lt (by assumption) | omega) (by first | exact hRb _ _ _ _ rfl | exact hR2 _ _ _ _ rfl | exact hR _ _ _ _ rfl | assumption) ?_
  refine z_cVv0 C 8 dX8_trim_8 cv_X8_214 (c_X4_prepareTrims (N := N) (T := T) (n := n) (d := d) (B := B) hR hp0 hd hv1 hv2 hAT hn10 hI hB hJ.1.2.2.1 (by omega)) rfl ⟨by decide, rfl⟩ (by first | assumption | exact Nat.zero_lt_one | exact (show (15 : Nat) < 16 by decide) | exact Nat.lt_succ_of_lt (by assumption) | omega) rfl rfl (Nat.le_of_ble_eq_true rfl) ⟨by decide, by decide⟩ ⟨rfl, rfl⟩ ⟨by decide, by decide⟩ ?_
  intro S8 L8 R8 p8
  obtain ⟨hTR, hFT, rfl, rfl⟩ := p8
  have hFR : FR R (up3 R 12 15 0 (some (3, d))) := FR.up hR
  have hT8 := h.ft hFT hFR
  have hRb := hT8.1
  have s5 := hT8.2.1.2.2.1
  have s6 := hT8.2.1.2.2.2.1
  refine z_aload_n C 11 0 0 dX8_trim_11 rfl rfl ?_
  refine z_getr C 12 dX8_trim_12 gf_X8_33 rfl (by first | assumption | exact Nat.zero_lt_one | exact (show (15 : Nat) < 16 by decide) | exact Nat.lt_succ_of_lt (by assumption) | omega) (by first | exact hRb _ _ _ _ rfl | exact hR2 _ _ _ _ rfl | exact hR _ _ _ _ rfl | assumption) ?_
  refine z_iload_n C 15 1 1 dX8_trim_15 rfl rfl ?_
  refine z_cVi0 C 16 dX8_trim_16 cv_X8_217 (c_X7_victimOf (N := N) (T := T) (n := n) (d := d) hRb hd (up3_s _ _ _ _ _) (hAT.ft hFT) hn10 hI hTR hk hk6) rfl ⟨by decide, rfl⟩ (by first | assumption | exact Nat.zero_lt_one | exact (show (15 : Nat) < 16 by decide) | exact Nat.lt_succ_of_lt (by assumption) | omega) rfl rfl (Nat.le_of_ble_eq_true rfl) ⟨by decide, by decide⟩ ⟨rfl, rfl⟩ ⟨by decide, by decide⟩ ?_
  intro r16 S16 L16 R16 p16
  obtain ⟨rfl, rfl, rfl, rfl⟩ := p16
  rw [hv, show oI (some p) = nI p from rfl]
  refine z_istore_n C 19 2 [(2, _), (0, _), (1, _)] dX8_trim_19 rfl (by decide) rfl ?_
  refine z_iload_n C 20 2 0 dX8_trim_20 rfl rfl ?_
  refine z_iconst (v := (-1)) C 21 dX8_trim_21 (by decide) ?_
  first | with_reducible refine z_icmp_neN C 22 36 dX8_trim_22 (by decide) (by omega) (by omega) (fun h22 => ?_) (fun h22 => absurd h22 (nI_m1 (by omega))) | refine z_icmp_ne C 22 36 dX8_trim_22 (by decide) (fun h22 => ?_) (fun h22 => absurd h22 (nI_m1 (by omega)))
  · refine z_aload_n C 36 0 1 dX8_trim_36 rfl rfl ?_
    refine z_getr C 37 dX8_trim_37 gf_X8_46 rfl (by first | assumption | exact Nat.zero_lt_one | exact (show (15 : Nat) < 16 by decide) | exact Nat.lt_succ_of_lt (by assumption) | omega) (by first | exact hRb _ _ _ _ rfl | exact hR2 _ _ _ _ rfl | exact hR _ _ _ _ rfl | assumption) ?_
    refine z_aload_n C 40 0 1 dX8_trim_40 rfl rfl ?_
    refine z_getr C 41 dX8_trim_41 gf_X8_42 rfl (by first | assumption | exact Nat.zero_lt_one | exact (show (15 : Nat) < 16 by decide) | exact Nat.lt_succ_of_lt (by assumption) | omega) (by first | exact hRb _ _ _ _ rfl | exact hR2 _ _ _ _ rfl | exact hR _ _ _ _ rfl | assumption) ?_
    refine z_cVv0 C 44 dX8_trim_44 cv_X8_244 (c_X4_copyFrom (N := N) (n := n) (q := ph 0) (v := ph 1) (d := d) hRb hp1 hp0 h01 hT8.2.2.2.2.1.2.1 hT8.2.2.2.2.1.2.2.1 hT8.2.2.2.2.1.1 hI) rfl ⟨by decide, rfl⟩ (by first | assumption | exact Nat.zero_lt_one | exact (show (15 : Nat) < 16 by decide) | exact Nat.lt_succ_of_lt (by assumption) | omega) rfl rfl (Nat.le_of_ble_eq_true rfl) ⟨by decide, by decide⟩ ⟨rfl, rfl⟩ ⟨by decide, by decide⟩ ?_
    intro S44 L44 R44 p44
    obtain ⟨hB8, hF8, rfl, rfl⟩ := p44
    have hRX : RX (up3 R 12 15 0 (some (3, d))) (up3 (up3 (up3 R 12 15 0 (some (3, d))) 25 (ph 1) 1 (some (3, d))) 12 (ph 1) 0 (some (3, d))) (ph 1) := RX.cp hRb
    have hR2 := hRX.1
    have h8 := hT8.fv (Or.inl rfl) hF8.fv hRX
    have r5b := h8.2.1.2.2.1
    have r6b := h8.2.1.2.2.2.1
    have hw1 : (up3 (up3 (up3 R 12 15 0 (some (3, d))) 25 (ph 1) 1 (some (3, d))) 12 (ph 1) 0 (some (3, d))) 25 (ph 1) 1 = some (3, d) := RX_l1
    have hw2 : (up3 (up3 (up3 R 12 15 0 (some (3, d))) 25 (ph 1) 1 (some (3, d))) 12 (ph 1) 0 (some (3, d))) 12 (ph 1) 0 = some (3, d) := RX_l2
    have hAT8 := h8.2.2.1.2.2.2.1
    have hAC8 := h8.2.2.1.2.2.2.2.1
    refine z_aload_n C 47 0 1 dX8_trim_47 rfl rfl ?_
    refine z_getr C 48 dX8_trim_48 gf_X8_46 rfl (by first | assumption | exact Nat.zero_lt_one | exact (show (15 : Nat) < 16 by decide) | exact Nat.lt_succ_of_lt (by assumption) | omega) (by first | exact hRb _ _ _ _ rfl | exact hR2 _ _ _ _ rfl | exact hR _ _ _ _ rfl | assumption) ?_
    refine z_iload_n C 51 1 2 dX8_trim_51 rfl rfl ?_
    refine z_iload_n C 52 2 0 dX8_trim_52 rfl rfl ?_
    refine z_cVv0 C 53 dX8_trim_53 cv_X8_305 (c_X4_doStep (N := N) (n := n) hR2 hp1 hI hB8 hJ.1.2.1 (by omega) hk hk6 (fVic_can hv)) rfl ⟨by decide, rfl⟩ (by first | assumption | exact Nat.zero_lt_one | exact (show (15 : Nat) < 16 by decide) | exact Nat.lt_succ_of_lt (by assumption) | omega) rfl rfl (Nat.le_of_ble_eq_true rfl) ⟨by decide, by decide⟩ ⟨rfl, rfl⟩ ⟨by decide, by decide⟩ ?_
    intro S53 L53 R53 p53
    obtain ⟨hB53, hF53, hU53, rfl, rfl⟩ := p53
    have hAT53 := hAT8.fv hF53.fv
    refine z_aload_n C 56 0 1 dX8_trim_56 rfl rfl ?_
    refine z_getr C 57 dX8_trim_57 gf_X8_46 rfl (by first | assumption | exact Nat.zero_lt_one | exact (show (15 : Nat) < 16 by decide) | exact Nat.lt_succ_of_lt (by assumption) | omega) (by first | exact hRb _ _ _ _ rfl | exact hR2 _ _ _ _ rfl | exact hR _ _ _ _ rfl | assumption) ?_
    refine z_getr C 60 dX8_trim_60 gf_X8_101 rfl (by first | assumption | exact Nat.zero_lt_one | exact (show (15 : Nat) < 16 by decide) | exact Nat.lt_succ_of_lt (by assumption) | omega) (by first | exact hRb _ _ _ _ rfl | exact hR2 _ _ _ _ rfl | exact hR _ _ _ _ rfl | assumption) ?_
    refine z_cVi0 C 63 dX8_trim_63 cv_X8_308 (c_X6_isOverLimit (r := ph 1) (d := d) (n := n) hR2 (by omega) hd hw2 hAT53.1 hn10) rfl ⟨by decide, rfl⟩ (by first | assumption | exact Nat.zero_lt_one | exact (show (15 : Nat) < 16 by decide) | exact Nat.lt_succ_of_lt (by assumption) | omega) rfl rfl (Nat.le_of_ble_eq_true rfl) ⟨by decide, by decide⟩ ⟨rfl, rfl⟩ ⟨by decide, by decide⟩ ?_
    intro r63 S63 L63 R63 p63
    obtain ⟨rfl, rfl, rfl, rfl⟩ := p63
    rw [hB53.1.1, rAll_eq hB53.1 hAT53 hn10 (hI.step (by omega) hk hk6 (fVic_can hv))]
    first | with_reducible refine z_if_eqB C 66 80 dX8_trim_66 (by decide) (fun h66 => ?_) (fun h66 => absurd h66 ho) | with_reducible refine z_if_eqN C 66 80 dX8_trim_66 (by decide) (by omega) (fun h66 => ?_) (fun h66 => absurd h66 ho) | refine z_if_eq C 66 80 dX8_trim_66 (by decide) (fun h66 => ?_) (fun h66 => absurd h66 ho)
    · refine z_aload_n C 80 0 1 dX8_trim_80 rfl rfl ?_
      refine z_cVv0 C 81 dX8_trim_81 cv_X8_273 (c_X8_acceptTrial (M := fStep N p k) (T := T) (c := c) (d := d) (N := N) (h8.fv (Or.inl rfl) hF53.fv (RX.rf hR2)) ⟨hB53, hw1, hw2, hJ.step hn10 hpn hk hk6 (fVic_can hv) ho⟩) rfl ⟨by decide, rfl⟩ (by first | assumption | exact Nat.zero_lt_one | exact (show (15 : Nat) < 16 by decide) | exact Nat.lt_succ_of_lt (by assumption) | omega) rfl rfl (Nat.le_of_ble_eq_true rfl) ⟨by decide, by decide⟩ ⟨rfl, rfl⟩ ⟨by decide, by decide⟩ ?_
      intro S81 L81 R81 p81
      obtain ⟨⟨hFa, xa, pha, hA⟩, rfl⟩ := p81
      refine z_iload_n C 84 2 0 dX8_trim_84 rfl rfl ?_
      exact ret 85 _ _ _ _ _ dX8_trim_85 (by first | rfl | exact bI_n | decide) (⟨rfl, ⟨((hFT.fc.tr hF8.fv.fc).tr hF53.fv.fc).tr hFa, xa, pha, hA⟩, rfl⟩)
def rm_X8_close : Room := { frames := 7, cells := 0, slots := 0, locals := 221 }
set_option maxHeartbeats 4000000 in
set_option maxRecDepth 100000 in
theorem c_X8_close {l : Launch} {G : mG} {ad : mA} {S : mS} {L : mL} {R : mR} {T c N : NN} {d n B x u : Nat} {ph : Nat → Nat} {UR SR : Nat → NN} {sf : Nat → Nat} {p : Nat} (h : CS S R T c d n B x u ph N UR SR sf) (hp : p < n) (hc : ¬ fo N p 0 = 0) : Ki l yX8_close cX8_close 3 .int rm_X8_close G ad mdm [.ref (ad 0 0), .int (nI p)] S L R (fun r_ S2 L2 R2 => r_ = fUses N T p ∧ CQ S S2 R2 T c d n B (uN u) (fShut N p) (pU UR N u) SR sf ∧ L = L2) := by
  refine Ki.of RX8 (by decide) rfl (Nat.le_of_ble_eq_true rfl) ?_
  intro X hXl hXG C ret
  subst hXl; subst hXG
  change Z X 3 ad mdm S L R 0 0 0 [(0, _), (1, _)] []
  have hR := h.1
  obtain ⟨hP1, hP2, r5, r6, r7, r32, r33⟩ := h.2.1
  obtain ⟨hd2, rD, rE, hAT, hAC, hn10, hT⟩ := h.2.2.1
  obtain ⟨hx, hx10, hu, hu10⟩ := h.2.2.2.1
  obtain ⟨hB, hv1, hv2, hJ⟩ := h.2.2.2.2.1
  have hB31 := h.2.2.2.2.2.2.2
  have hI := hJ.1.1
  have hp0 : ph 0 < 15 := hP1 0 (by omega)
  have hp1 : ph 1 < 15 := hP1 1 (by omega)
  have hp2 : ph 2 < 15 := hP1 2 (by omega)
  have h10 : ph 1 ≠ ph 0 := h.ne (by omega) (by omega) (by omega)
  have h01 : ph 0 ≠ ph 1 := h.ne (by omega) (by omega) (by omega)
  have hd : d < 3 := by omega
  have hcn := hAT.1
  have hP := hB.2.2.2.2
  obtain ⟨t, htB, htt, -, -⟩ := hJ.1.2.2.1.1
  refine z_aload_n C 0 0 0 dX8_close_0 rfl rfl ?_
  refine z_iload_n C 1 1 1 dX8_close_1 rfl rfl ?_
  refine z_cVv0 C 2 dX8_close_2 cv_X8_151 (c_X8_checkProgram (d := d) (n := n) (by assumption) hd2 (by assumption) (by assumption) hn10 (by assumption)) rfl ⟨by decide, rfl⟩ (by first | assumption | exact Nat.zero_lt_one | exact (show (15 : Nat) < 16 by decide) | exact Nat.lt_succ_of_lt (by assumption) | omega) rfl rfl (Nat.le_of_ble_eq_true rfl) ⟨by decide, by decide⟩ ⟨rfl, rfl⟩ ⟨by decide, by decide⟩ ?_
  intro S2 L2 R2 p2
  obtain ⟨rfl, rfl, rfl⟩ := p2
  refine z_aload_n C 5 0 0 dX8_close_5 rfl rfl ?_
  refine z_getr C 6 dX8_close_6 gf_X8_42 rfl (by first | assumption | exact Nat.zero_lt_one | exact (show (15 : Nat) < 16 by decide) | exact Nat.lt_succ_of_lt (by assumption) | omega) (by first | exact hRb _ _ _ _ rfl | exact hR2 _ _ _ _ rfl | exact hR _ _ _ _ rfl | assumption) ?_
  refine z_getr C 9 dX8_close_9 gf_X8_101 rfl (by first | assumption | exact Nat.zero_lt_one | exact (show (15 : Nat) < 16 by decide) | exact Nat.lt_succ_of_lt (by assumption) | omega) (by first | exact hRb _ _ _ _ rfl | exact hR2 _ _ _ _ rfl | exact hR _ _ _ _ rfl | assumption) ?_
  refine z_getr C 12 dX8_close_12 gf_X8_154 rfl (by first | assumption | exact Nat.zero_lt_one | exact (show (15 : Nat) < 16 by decide) | exact Nat.lt_succ_of_lt (by assumption) | omega) (by first | exact hRb _ _ _ _ rfl | exact hR2 _ _ _ _ rfl | exact hR _ _ _ _ rfl | assumption) ?_
  refine z_iload_n C 15 1 1 dX8_close_15 rfl rfl ?_
  refine z_iald C 16 dX8_close_16 (by first | rfl | assumption) (by first | assumption | exact Nat.zero_lt_one | exact (show (15 : Nat) < 16 by decide) | exact Nat.lt_succ_of_lt (by assumption) | omega) (by first | rfl | assumption) (by first | decide | omega) (by first | assumption | omega) ?_
  rw [(hB.1.2 p (by omega)).1]
  first | with_reducible refine z_if_neB C 17 31 dX8_close_17 (by decide) (fun h17 => ?_) (fun h17 => absurd h17 hc) | with_reducible refine z_if_neN C 17 31 dX8_close_17 (by decide) (by omega) (fun h17 => ?_) (fun h17 => absurd h17 hc) | refine z_if_ne C 17 31 dX8_close_17 (by decide) (fun h17 => ?_) (fun h17 => absurd h17 hc)
  · refine z_aload_n C 31 0 0 dX8_close_31 rfl rfl ?_
    refine z_getr C 32 dX8_close_32 gf_X8_42 rfl (by first | assumption | exact Nat.zero_lt_one | exact (show (15 : Nat) < 16 by decide) | exact Nat.lt_succ_of_lt (by assumption) | omega) (by first | exact hRb _ _ _ _ rfl | exact hR2 _ _ _ _ rfl | exact hR _ _ _ _ rfl | assumption) ?_
    refine z_getr C 35 dX8_close_35 gf_X8_101 rfl (by first | assumption | exact Nat.zero_lt_one | exact (show (15 : Nat) < 16 by decide) | exact Nat.lt_succ_of_lt (by assumption) | omega) (by first | exact hRb _ _ _ _ rfl | exact hR2 _ _ _ _ rfl | exact hR _ _ _ _ rfl | assumption) ?_
    refine z_iload_n C 38 1 1 dX8_close_38 rfl rfl ?_
    refine z_cVi0 C 39 dX8_close_39 cv_X8_164 (c_X6_usedBy (r := ph 0) (d := d) hR (by omega) hd hv2 (by omega)) rfl ⟨by decide, rfl⟩ (by first | assumption | exact Nat.zero_lt_one | exact (show (15 : Nat) < 16 by decide) | exact Nat.lt_succ_of_lt (by assumption) | omega) rfl rfl (Nat.le_of_ble_eq_true rfl) ⟨by decide, by decide⟩ ⟨rfl, rfl⟩ ⟨by decide, by decide⟩ ?_
    intro r39 S39 L39 R39 p39
    obtain ⟨rfl, rfl, rfl, rfl⟩ := p39
    rw [rUses_eq hB.1 hAT (by omega) (hI.2.2.1 p (by omega))]
    refine z_istore_n C 42 2 [(2, _), (0, _), (1, _)] dX8_close_42 rfl (by decide) rfl ?_
    refine z_aload_n C 43 0 1 dX8_close_43 rfl rfl ?_
    refine z_getr C 44 dX8_close_44 gf_X8_46 rfl (by first | assumption | exact Nat.zero_lt_one | exact (show (15 : Nat) < 16 by decide) | exact Nat.lt_succ_of_lt (by assumption) | omega) (by first | exact hRb _ _ _ _ rfl | exact hR2 _ _ _ _ rfl | exact hR _ _ _ _ rfl | assumption) ?_
    refine z_aload_n C 47 0 1 dX8_close_47 rfl rfl ?_
    refine z_getr C 48 dX8_close_48 gf_X8_42 rfl (by first | assumption | exact Nat.zero_lt_one | exact (show (15 : Nat) < 16 by decide) | exact Nat.lt_succ_of_lt (by assumption) | omega) (by first | exact hRb _ _ _ _ rfl | exact hR2 _ _ _ _ rfl | exact hR _ _ _ _ rfl | assumption) ?_
    refine z_cVv0 C 51 dX8_close_51 cv_X8_244 (c_X4_copyFrom (N := N) (n := n) (q := ph 0) (v := ph 1) (d := d) hR hp1 hp0 h01 hv1 hv2 hB hI) rfl ⟨by decide, rfl⟩ (by first | assumption | exact Nat.zero_lt_one | exact (show (15 : Nat) < 16 by decide) | exact Nat.lt_succ_of_lt (by assumption) | omega) rfl rfl (Nat.le_of_ble_eq_true rfl) ⟨by decide, by decide⟩ ⟨rfl, rfl⟩ ⟨by decide, by decide⟩ ?_
    intro S51 L51 R51 p51
    obtain ⟨hB8, hF8, rfl, rfl⟩ := p51
    have hRX : RX R (up3 (up3 R 25 (ph 1) 1 (some (3, d))) 12 (ph 1) 0 (some (3, d))) (ph 1) := RX.cp hR
    have hR2 := hRX.1
    have h8 := h.fv (Or.inl rfl) hF8.fv hRX
    have r5b := h8.2.1.2.2.1
    have r6b := h8.2.1.2.2.2.1
    have hw1 : (up3 (up3 R 25 (ph 1) 1 (some (3, d))) 12 (ph 1) 0 (some (3, d))) 25 (ph 1) 1 = some (3, d) := RX_l1
    have hw2 : (up3 (up3 R 25 (ph 1) 1 (some (3, d))) 12 (ph 1) 0 (some (3, d))) 12 (ph 1) 0 = some (3, d) := RX_l2
    have hAT8 := h8.2.2.1.2.2.2.1
    have hAC8 := h8.2.2.1.2.2.2.2.1
    refine z_aload_n C 54 0 1 dX8_close_54 rfl rfl ?_
    refine z_getr C 55 dX8_close_55 gf_X8_46 rfl (by first | assumption | exact Nat.zero_lt_one | exact (show (15 : Nat) < 16 by decide) | exact Nat.lt_succ_of_lt (by assumption) | omega) (by first | exact hRb _ _ _ _ rfl | exact hR2 _ _ _ _ rfl | exact hR _ _ _ _ rfl | assumption) ?_
    refine z_iload_n C 58 1 2 dX8_close_58 rfl rfl ?_
    refine z_cVv0 C 59 dX8_close_59 cv_X8_314 (c_X4_shut (N := N) (n := n) (t := t) hR2 hp1 hI hB8 hn10 hJ.1.2.2.2 htt (by omega) (by omega)) rfl ⟨by decide, rfl⟩ (by first | assumption | exact Nat.zero_lt_one | exact (show (15 : Nat) < 16 by decide) | exact Nat.lt_succ_of_lt (by assumption) | omega) rfl rfl (Nat.le_of_ble_eq_true rfl) ⟨by decide, by decide⟩ ⟨rfl, rfl⟩ ⟨by decide, by decide⟩ ?_
    intro S59 L59 R59 p59
    obtain ⟨hB44, hF44, rfl, rfl⟩ := p59
    refine z_aload_n C 62 0 1 dX8_close_62 rfl rfl ?_
    refine z_cVv0 C 63 dX8_close_63 cv_X8_273 (c_X8_acceptTrial (M := fShut N p) (T := T) (c := c) (d := d) (N := N) (h8.fv (Or.inl rfl) hF44.fv (RX.rf hR2)) ⟨hB44, hw1, hw2, hJ.shut hn10 hT hp⟩) rfl ⟨by decide, rfl⟩ (by first | assumption | exact Nat.zero_lt_one | exact (show (15 : Nat) < 16 by decide) | exact Nat.lt_succ_of_lt (by assumption) | omega) rfl rfl (Nat.le_of_ble_eq_true rfl) ⟨by decide, by decide⟩ ⟨rfl, rfl⟩ ⟨by decide, by decide⟩ ?_
    intro S63 L63 R63 p63
    obtain ⟨⟨hFa, xa, pha, hA⟩, rfl⟩ := p63
    refine z_iload_n C 66 2 0 dX8_close_66 rfl rfl ?_
    exact ret 67 _ _ _ _ _ dX8_close_67 (by first | rfl | exact bI_n | decide) (⟨rfl, ⟨(hF8.fv.fc.tr hF44.fv.fc).tr hFa, xa, pha, hA⟩, rfl⟩)
def rm_X8_setLimit : Room := { frames := 6, cells := 0, slots := 0, locals := 200 }
set_option maxHeartbeats 4000000 in
set_option maxRecDepth 100000 in
theorem c_X8_setLimit {l : Launch} {G : mG} {ad : mA} {S : mS} {L : mL} {R : mR} {T c N : NN} {d n B x u : Nat} {ph : Nat → Nat} {UR SR : Nat → NN} {sf : Nat → Nat} {w m : Nat} {M : NN} (h : CS S R T c d n B x u ph N UR SR sf) (hw0 : 50 ≤ w) (hw : w ≤ 2000) (hm : fMem (upd N 0 (nI w)) T n = some (m, M)) : Ki l yX8_setLimit cX8_setLimit 3 .int rm_X8_setLimit G ad mdm [.ref (ad 0 0), .int (nI w)] S L R (fun r_ S2 L2 R2 => r_ = nI m ∧ CQ S S2 R2 T c d n B (uN u) M (pU UR N u) SR sf ∧ L = L2) := by
  refine Ki.of RX8 (by decide) rfl (Nat.le_of_ble_eq_true rfl) ?_
  intro X hXl hXG C ret
  subst hXl; subst hXG
  change Z X 3 ad mdm S L R 0 0 0 [(0, _), (1, _)] []
  have hR := h.1
  obtain ⟨hP1, hP2, r5, r6, r7, r32, r33⟩ := h.2.1
  obtain ⟨hd2, rD, rE, hAT, hAC, hn10, hT⟩ := h.2.2.1
  obtain ⟨hx, hx10, hu, hu10⟩ := h.2.2.2.1
  obtain ⟨hB, hv1, hv2, hJ⟩ := h.2.2.2.2.1
  have hB31 := h.2.2.2.2.2.2.2
  have hI := hJ.1.1
  have hp0 : ph 0 < 15 := hP1 0 (by omega)
  have hp1 : ph 1 < 15 := hP1 1 (by omega)
  have hp2 : ph 2 < 15 := hP1 2 (by omega)
  have h10 : ph 1 ≠ ph 0 := h.ne (by omega) (by omega) (by omega)
  have h01 : ph 0 ≠ ph 1 := h.ne (by omega) (by omega) (by omega)
  have hd : d < 3 := by omega
  have hcn := hAT.1
  have hP := hB.2.2.2.2
  refine z_iload_n C 0 1 1 dX8_setLimit_0 rfl rfl ?_
  refine z_bipush (v := nI 50) C 1 dX8_setLimit_1 (by decide +kernel) ?_
  first | with_reducible refine z_icmp_ltN C 3 13 dX8_setLimit_3 (by decide) (by omega) (by omega) (fun h3 => absurd hw0 (by omega)) (fun h3 => ?_) | refine z_icmp_lt C 3 13 dX8_setLimit_3 (by decide) (fun h3 => absurd hw0 (by omega)) (fun h3 => ?_)
  · refine z_iload_n C 6 1 1 dX8_setLimit_6 rfl rfl ?_
    refine z_sipush (v := nI 2000) C 7 dX8_setLimit_7 (by decide +kernel) ?_
    first | with_reducible refine z_icmp_leN C 10 24 dX8_setLimit_10 (by decide) (by omega) (by omega) (fun h10 => ?_) (fun h10 => absurd hw (by omega)) | refine z_icmp_le C 10 24 dX8_setLimit_10 (by decide) (fun h10 => ?_) (fun h10 => absurd hw (by omega))
    · refine z_aload_n C 24 0 0 dX8_setLimit_24 rfl rfl ?_
      refine z_getr C 25 dX8_setLimit_25 gf_X8_42 rfl (by first | assumption | exact Nat.zero_lt_one | exact (show (15 : Nat) < 16 by decide) | exact Nat.lt_succ_of_lt (by assumption) | omega) (by first | exact hRb _ _ _ _ rfl | exact hR2 _ _ _ _ rfl | exact hR _ _ _ _ rfl | assumption) ?_
      refine z_getr C 28 dX8_setLimit_28 gf_X8_232 rfl (by first | assumption | exact Nat.zero_lt_one | exact (show (15 : Nat) < 16 by decide) | exact Nat.lt_succ_of_lt (by assumption) | omega) (by first | exact hRb _ _ _ _ rfl | exact hR2 _ _ _ _ rfl | exact hR _ _ _ _ rfl | assumption) ?_
      refine z_cVi0 C 31 dX8_setLimit_31 cv_X8_236 (c_X3_steps (v := ph 0) hR hp0) rfl ⟨by decide, rfl⟩ (by first | assumption | exact Nat.zero_lt_one | exact (show (15 : Nat) < 16 by decide) | exact Nat.lt_succ_of_lt (by assumption) | omega) rfl rfl (Nat.le_of_ble_eq_true rfl) ⟨by decide, by decide⟩ ⟨rfl, rfl⟩ ⟨by decide, by decide⟩ ?_
      intro r31 S31 L31 R31 p31
      obtain ⟨rfl, rfl, rfl, rfl⟩ := p31
      rw [hB.2.2.2.1.st6]
      refine z_istore_n C 34 2 [(2, _), (0, _), (1, _)] dX8_setLimit_34 rfl (by decide) rfl ?_
      refine z_aload_n C 35 0 1 dX8_setLimit_35 rfl rfl ?_
      refine z_getr C 36 dX8_setLimit_36 gf_X8_46 rfl (by first | assumption | exact Nat.zero_lt_one | exact (show (15 : Nat) < 16 by decide) | exact Nat.lt_succ_of_lt (by assumption) | omega) (by first | exact hRb _ _ _ _ rfl | exact hR2 _ _ _ _ rfl | exact hR _ _ _ _ rfl | assumption) ?_
      refine z_aload_n C 39 0 1 dX8_setLimit_39 rfl rfl ?_
      refine z_getr C 40 dX8_setLimit_40 gf_X8_42 rfl (by first | assumption | exact Nat.zero_lt_one | exact (show (15 : Nat) < 16 by decide) | exact Nat.lt_succ_of_lt (by assumption) | omega) (by first | exact hRb _ _ _ _ rfl | exact hR2 _ _ _ _ rfl | exact hR _ _ _ _ rfl | assumption) ?_
      refine z_cVv0 C 43 dX8_setLimit_43 cv_X8_244 (c_X4_copyFrom (N := N) (n := n) (q := ph 0) (v := ph 1) (d := d) hR hp1 hp0 h01 hv1 hv2 hB hI) rfl ⟨by decide, rfl⟩ (by first | assumption | exact Nat.zero_lt_one | exact (show (15 : Nat) < 16 by decide) | exact Nat.lt_succ_of_lt (by assumption) | omega) rfl rfl (Nat.le_of_ble_eq_true rfl) ⟨by decide, by decide⟩ ⟨rfl, rfl⟩ ⟨by decide, by decide⟩ ?_
      intro S43 L43 R43 p43
      obtain ⟨hB8, hF8, rfl, rfl⟩ := p43
      have hRX : RX R (up3 (up3 R 25 (ph 1) 1 (some (3, d))) 12 (ph 1) 0 (some (3, d))) (ph 1) := RX.cp hR
      have hR2 := hRX.1
      have h8 := h.fv (Or.inl rfl) hF8.fv hRX
      have r5b := h8.2.1.2.2.1
      have r6b := h8.2.1.2.2.2.1
      have hw1 : (up3 (up3 R 25 (ph 1) 1 (some (3, d))) 12 (ph 1) 0 (some (3, d))) 25 (ph 1) 1 = some (3, d) := RX_l1
      have hw2 : (up3 (up3 R 25 (ph 1) 1 (some (3, d))) 12 (ph 1) 0 (some (3, d))) 12 (ph 1) 0 = some (3, d) := RX_l2
      have hAT8 := h8.2.2.1.2.2.2.1
      have hAC8 := h8.2.2.1.2.2.2.2.1
      refine z_aload_n C 46 0 1 dX8_setLimit_46 rfl rfl ?_
      refine z_getr C 47 dX8_setLimit_47 gf_X8_46 rfl (by first | assumption | exact Nat.zero_lt_one | exact (show (15 : Nat) < 16 by decide) | exact Nat.lt_succ_of_lt (by assumption) | omega) (by first | exact hRb _ _ _ _ rfl | exact hR2 _ _ _ _ rfl | exact hR _ _ _ _ rfl | assumption) ?_
      refine z_getr C 50 dX8_setLimit_50 gf_X8_101 rfl (by first | assumption | exact Nat.zero_lt_one | exact (show (15 : Nat) < 16 by decide) | exact Nat.lt_succ_of_lt (by assumption) | omega) (by first | exact hRb _ _ _ _ rfl | exact hR2 _ _ _ _ rfl | exact hR _ _ _ _ rfl | assumption) ?_
      refine z_iload_n C 53 1 2 dX8_setLimit_53 rfl rfl ?_
      refine z_puti C 54 dX8_setLimit_54 gf_X8_105 ⟨rfl, rfl⟩ rfl (by first | assumption | exact Nat.zero_lt_one | exact (show (15 : Nat) < 16 by decide) | exact Nat.lt_succ_of_lt (by assumption) | omega) ?_
      have hF57 : FV S43 (up3 S43 12 (ph 1) 1 (nI w)) (ph 1) := (FV.rf _ _).up (by omega)
      have h57 := h8.fv (Or.inl rfl) hF57 (RX.rf hR2)
      have hAT57 := h57.2.2.1.2.2.2.1
      refine z_aload_n C 57 0 1 dX8_setLimit_57 rfl rfl ?_
      refine z_getr C 58 dX8_setLimit_58 gf_X8_46 rfl (by first | assumption | exact Nat.zero_lt_one | exact (show (15 : Nat) < 16 by decide) | exact Nat.lt_succ_of_lt (by assumption) | omega) (by first | exact hRb _ _ _ _ rfl | exact hR2 _ _ _ _ rfl | exact hR _ _ _ _ rfl | assumption) ?_
      refine z_cVi0 C 61 dX8_setLimit_61 cv_X8_319 (c_X4_makeMemory (N := upd N 0 (nI w)) (T := T) (n := n) (d := d) (B := B) hR2 hp1 hd hw1 hw2 hAT57 hn10 hJ.1.lim.1 hB8.lim hJ.1.lim.2.1 hJ.1.lim.2.2.1 (by omega)) rfl ⟨by decide, rfl⟩ (by first | assumption | exact Nat.zero_lt_one | exact (show (15 : Nat) < 16 by decide) | exact Nat.lt_succ_of_lt (by assumption) | omega) rfl rfl (Nat.le_of_ble_eq_true rfl) ⟨by decide, by decide⟩ ⟨rfl, rfl⟩ ⟨by decide, by decide⟩ ?_
      intro r61 S61 L61 R61 p61
      obtain ⟨hmm, hFV, rfl, hFR⟩ := p61
      rw [hm] at hmm
      first | with_reducible refine z_if_neB C 64 78 dX8_setLimit_64 (by decide) (fun h64 => ?_) (fun h64 => (by exfalso; rw [hmm.1] at h64; exact absurd h64 (by decide))) | with_reducible refine z_if_neN C 64 78 dX8_setLimit_64 (by decide) (by omega) (fun h64 => ?_) (fun h64 => (by exfalso; rw [hmm.1] at h64; exact absurd h64 (by decide))) | refine z_if_ne C 64 78 dX8_setLimit_64 (by decide) (fun h64 => ?_) (fun h64 => (by exfalso; rw [hmm.1] at h64; exact absurd h64 (by decide)))
      · have hRc := hFR.1
        have h61 := h57.fv (Or.inl rfl) hFV (hFR.rx (v := ph 1))
        refine z_aload_n C 78 0 1 dX8_setLimit_78 rfl rfl ?_
        refine z_cVv0 C 79 dX8_setLimit_79 cv_X8_273 (c_X8_acceptTrial (M := M) (T := T) (c := c) (d := d) (N := N) (h57.fv (Or.inl rfl) hFV hFR.rx) ⟨hmm.2.1, (hFR.2 25 (ph 1) 1 (by omega)).trans hw1, (hFR.2 12 (ph 1) 0 (by omega)).trans hw2, hJ.lim hn10 hw hm⟩) rfl ⟨by decide, rfl⟩ (by first | assumption | exact Nat.zero_lt_one | exact (show (15 : Nat) < 16 by decide) | exact Nat.lt_succ_of_lt (by assumption) | omega) rfl rfl (Nat.le_of_ble_eq_true rfl) ⟨by decide, by decide⟩ ⟨rfl, rfl⟩ ⟨by decide, by decide⟩ ?_
        intro S79 L79 R79 p79
        obtain ⟨⟨hFa, xa, pha, hA⟩, rfl⟩ := p79
        have s5 := hA.2.1.2.2.1
        have hRb := hA.1
        have hpa : pha 0 < 15 := hA.ph (by omega)
        have hBa := hA.2.2.2.2.1.1
        have hPa := hBa.2.2.2.2
        refine z_aload_n C 82 0 1 dX8_setLimit_82 rfl rfl ?_
        refine z_getr C 83 dX8_setLimit_83 gf_X8_42 rfl (by first | assumption | exact Nat.zero_lt_one | exact (show (15 : Nat) < 16 by decide) | exact Nat.lt_succ_of_lt (by assumption) | omega) (by first | exact hRb _ _ _ _ rfl | exact hR2 _ _ _ _ rfl | exact hR _ _ _ _ rfl | assumption) ?_
        refine z_getr C 86 dX8_setLimit_86 gf_X8_232 rfl (by first | assumption | exact Nat.zero_lt_one | exact (show (15 : Nat) < 16 by decide) | exact Nat.lt_succ_of_lt (by assumption) | omega) (by first | exact hRb _ _ _ _ rfl | exact hR2 _ _ _ _ rfl | exact hR _ _ _ _ rfl | assumption) ?_
        refine z_cVi0 C 89 dX8_setLimit_89 cv_X8_236 (c_X3_steps (v := pha 0) hRb hpa) rfl ⟨by decide, rfl⟩ (by first | assumption | exact Nat.zero_lt_one | exact (show (15 : Nat) < 16 by decide) | exact Nat.lt_succ_of_lt (by assumption) | omega) rfl rfl (Nat.le_of_ble_eq_true rfl) ⟨by decide, by decide⟩ ⟨rfl, rfl⟩ ⟨by decide, by decide⟩ ?_
        intro r89 S89 L89 R89 p89
        obtain ⟨rfl, rfl, rfl, rfl⟩ := p89
        rw [hBa.2.2.2.1.st6]
        refine z_iload_n C 92 2 0 dX8_setLimit_92 rfl rfl ?_
        first | with_reducible refine z_isubN C 93 dX8_setLimit_93 (by omega) ?_ | refine z_isub C 93 dX8_setLimit_93 ?_
        exact ret 94 _ _ _ _ _ dX8_setLimit_94 (by first | rfl | exact bI_n | decide) (⟨(by have z := fSt_mem hn10 hm; rw [z, fSt_row (N := N) (fun j h1 _ => upd_n _ (by omega)), i_sub]), ⟨((hF8.fv.fc.tr hF57.fc).tr hFV.fc).tr hFa, xa, pha, hA⟩, rfl⟩)
def rm_X8_setPolicy : Room := { frames := 7, cells := 0, slots := 0, locals := 220 }
set_option maxHeartbeats 4000000 in
set_option maxRecDepth 100000 in
theorem c_X8_setPolicy {l : Launch} {G : mG} {ad : mA} {S : mS} {L : mL} {R : mR} {T c N : NN} {d n B x u : Nat} {ph : Nat → Nat} {UR SR : Nat → NN} {sf : Nat → Nat} {w : Nat} (h : CS S R T c d n B x u ph N UR SR sf) (hw : w ≤ 2) : Ki l yX8_setPolicy cX8_setPolicy 3 .int rm_X8_setPolicy G ad mdm [.ref (ad 0 0), .int (nI w)] S L R (fun r_ S2 L2 R2 => r_ = N 4 ∧ CQ S S2 R2 T c d n B (uN u) (upd N 4 (nI w)) (pU UR N u) SR sf ∧ L = L2) := by
  refine Ki.of RX8 (by decide) rfl (Nat.le_of_ble_eq_true rfl) ?_
  intro X hXl hXG C ret
  subst hXl; subst hXG
  change Z X 3 ad mdm S L R 0 0 0 [(0, _), (1, _)] []
  have hR := h.1
  obtain ⟨hP1, hP2, r5, r6, r7, r32, r33⟩ := h.2.1
  obtain ⟨hd2, rD, rE, hAT, hAC, hn10, hT⟩ := h.2.2.1
  obtain ⟨hx, hx10, hu, hu10⟩ := h.2.2.2.1
  obtain ⟨hB, hv1, hv2, hJ⟩ := h.2.2.2.2.1
  have hB31 := h.2.2.2.2.2.2.2
  have hI := hJ.1.1
  have hp0 : ph 0 < 15 := hP1 0 (by omega)
  have hp1 : ph 1 < 15 := hP1 1 (by omega)
  have hp2 : ph 2 < 15 := hP1 2 (by omega)
  have h10 : ph 1 ≠ ph 0 := h.ne (by omega) (by omega) (by omega)
  have h01 : ph 0 ≠ ph 1 := h.ne (by omega) (by omega) (by omega)
  have hd : d < 3 := by omega
  have hcn := hAT.1
  have hP := hB.2.2.2.2
  refine z_iload_n C 0 1 1 dX8_setPolicy_0 rfl rfl ?_
  refine z_cSv0 C 1 dX8_setPolicy_1 cs_X8_241 (c_X8_checkPolicy hw) rfl rfl (Nat.le_of_ble_eq_true rfl) ⟨by decide, by decide⟩ ⟨rfl, rfl⟩ ⟨by decide, by decide⟩ ?_
  intro S1 L1 R1 p1
  obtain ⟨rfl, rfl, rfl⟩ := p1
  refine z_aload_n C 4 0 0 dX8_setPolicy_4 rfl rfl ?_
  refine z_getr C 5 dX8_setPolicy_5 gf_X8_42 rfl (by first | assumption | exact Nat.zero_lt_one | exact (show (15 : Nat) < 16 by decide) | exact Nat.lt_succ_of_lt (by assumption) | omega) (by first | exact hRb _ _ _ _ rfl | exact hR2 _ _ _ _ rfl | exact hR _ _ _ _ rfl | assumption) ?_
  refine z_getiv C 8 dX8_setPolicy_8 gf_X8_129 rfl (by first | assumption | exact Nat.zero_lt_one | exact (show (15 : Nat) < 16 by decide) | exact Nat.lt_succ_of_lt (by assumption) | omega) hP.2.1 ?_
  refine z_istore_n C 11 2 [(2, _), (0, _), (1, _)] dX8_setPolicy_11 rfl (by decide) rfl ?_
  refine z_aload_n C 12 0 1 dX8_setPolicy_12 rfl rfl ?_
  refine z_getr C 13 dX8_setPolicy_13 gf_X8_46 rfl (by first | assumption | exact Nat.zero_lt_one | exact (show (15 : Nat) < 16 by decide) | exact Nat.lt_succ_of_lt (by assumption) | omega) (by first | exact hRb _ _ _ _ rfl | exact hR2 _ _ _ _ rfl | exact hR _ _ _ _ rfl | assumption) ?_
  refine z_aload_n C 16 0 1 dX8_setPolicy_16 rfl rfl ?_
  refine z_getr C 17 dX8_setPolicy_17 gf_X8_42 rfl (by first | assumption | exact Nat.zero_lt_one | exact (show (15 : Nat) < 16 by decide) | exact Nat.lt_succ_of_lt (by assumption) | omega) (by first | exact hRb _ _ _ _ rfl | exact hR2 _ _ _ _ rfl | exact hR _ _ _ _ rfl | assumption) ?_
  refine z_cVv0 C 20 dX8_setPolicy_20 cv_X8_244 (c_X4_copyFrom (N := N) (n := n) (q := ph 0) (v := ph 1) (d := d) hR hp1 hp0 h01 hv1 hv2 hB hI) rfl ⟨by decide, rfl⟩ (by first | assumption | exact Nat.zero_lt_one | exact (show (15 : Nat) < 16 by decide) | exact Nat.lt_succ_of_lt (by assumption) | omega) rfl rfl (Nat.le_of_ble_eq_true rfl) ⟨by decide, by decide⟩ ⟨rfl, rfl⟩ ⟨by decide, by decide⟩ ?_
  intro S20 L20 R20 p20
  obtain ⟨hB8, hF8, rfl, rfl⟩ := p20
  have hRX : RX R (up3 (up3 R 25 (ph 1) 1 (some (3, d))) 12 (ph 1) 0 (some (3, d))) (ph 1) := RX.cp hR
  have hR2 := hRX.1
  have h8 := h.fv (Or.inl rfl) hF8.fv hRX
  have r5b := h8.2.1.2.2.1
  have r6b := h8.2.1.2.2.2.1
  have hw1 : (up3 (up3 R 25 (ph 1) 1 (some (3, d))) 12 (ph 1) 0 (some (3, d))) 25 (ph 1) 1 = some (3, d) := RX_l1
  have hw2 : (up3 (up3 R 25 (ph 1) 1 (some (3, d))) 12 (ph 1) 0 (some (3, d))) 12 (ph 1) 0 = some (3, d) := RX_l2
  have hAT8 := h8.2.2.1.2.2.2.1
  have hAC8 := h8.2.2.1.2.2.2.2.1
  refine z_aload_n C 23 0 1 dX8_setPolicy_23 rfl rfl ?_
  refine z_getr C 24 dX8_setPolicy_24 gf_X8_46 rfl (by first | assumption | exact Nat.zero_lt_one | exact (show (15 : Nat) < 16 by decide) | exact Nat.lt_succ_of_lt (by assumption) | omega) (by first | exact hRb _ _ _ _ rfl | exact hR2 _ _ _ _ rfl | exact hR _ _ _ _ rfl | assumption) ?_
  refine z_iload_n C 27 1 2 dX8_setPolicy_27 rfl rfl ?_
  refine z_puti C 28 dX8_setPolicy_28 gf_X8_129 ⟨rfl, rfl⟩ rfl (by first | assumption | exact Nat.zero_lt_one | exact (show (15 : Nat) < 16 by decide) | exact Nat.lt_succ_of_lt (by assumption) | omega) ?_
  have hF31 : FV S20 (up3 S20 25 (ph 1) 6 (nI w)) (ph 1) := (FV.rf _ _).up (by omega)
  refine z_aload_n C 31 0 1 dX8_setPolicy_31 rfl rfl ?_
  refine z_cVv0 C 32 dX8_setPolicy_32 cv_X8_273 (c_X8_acceptTrial (M := upd N 4 (nI w)) (T := T) (c := c) (d := d) (N := N) (h8.fv (Or.inl rfl) hF31 (RX.rf hR2)) ⟨hB8.pol, hw1, hw2, hJ.pol hn10 hw⟩) rfl ⟨by decide, rfl⟩ (by first | assumption | exact Nat.zero_lt_one | exact (show (15 : Nat) < 16 by decide) | exact Nat.lt_succ_of_lt (by assumption) | omega) rfl rfl (Nat.le_of_ble_eq_true rfl) ⟨by decide, by decide⟩ ⟨rfl, rfl⟩ ⟨by decide, by decide⟩ ?_
  intro S32 L32 R32 p32
  obtain ⟨⟨hFa, xa, pha, hA⟩, rfl⟩ := p32
  refine z_iload_n C 35 2 0 dX8_setPolicy_35 rfl rfl ?_
  exact ret 36 _ _ _ _ _ dX8_setPolicy_36 (by first | rfl | exact bI_n | decide) (⟨rfl, ⟨(hF8.fv.fc.tr hF31.fc).tr hFa, xa, pha, hA⟩, rfl⟩)
def rm_X8_undo : Room := { frames := 1, cells := 0, slots := 0, locals := 60 }
set_option maxHeartbeats 4000000 in
set_option maxRecDepth 100000 in
theorem c_X8_undo {l : Launch} {G : mG} {ad : mA} {S : mS} {L : mL} {R : mR} {T c N : NN} {d n B x u : Nat} {ph : Nat → Nat} {UR SR : Nat → NN} {sf : Nat → Nat}  (h : CS S R T c d n B x u ph N UR SR sf) (hu0 : u = 0) : Ki l yX8_undo cX8_undo 1 .int rm_X8_undo G ad mdm [.ref (ad 0 0)] S L R (fun r_ S2 L2 R2 => r_ = -1 ∧ S = S2 ∧ L = L2 ∧ R = R2) := by
  refine Ki.of RX8 (by decide) rfl (Nat.le_of_ble_eq_true rfl) ?_
  intro X hXl hXG C ret
  subst hXl; subst hXG
  change Z X 1 ad mdm S L R 0 0 0 [(0, _)] []
  have hR := h.1
  obtain ⟨hP1, hP2, r5, r6, r7, r32, r33⟩ := h.2.1
  obtain ⟨hd2, rD, rE, hAT, hAC, hn10, hT⟩ := h.2.2.1
  obtain ⟨hx, hx10, hu, hu10⟩ := h.2.2.2.1
  obtain ⟨hB, hv1, hv2, hJ⟩ := h.2.2.2.2.1
  have hB31 := h.2.2.2.2.2.2.2
  have hI := hJ.1.1
  have hp0 : ph 0 < 15 := hP1 0 (by omega)
  have hp1 : ph 1 < 15 := hP1 1 (by omega)
  have hp2 : ph 2 < 15 := hP1 2 (by omega)
  have h10 : ph 1 ≠ ph 0 := h.ne (by omega) (by omega) (by omega)
  have h01 : ph 0 ≠ ph 1 := h.ne (by omega) (by omega) (by omega)
  have hd : d < 3 := by omega
  have hcn := hAT.1
  have hP := hB.2.2.2.2
  refine z_aload_n C 0 0 0 dX8_undo_0 rfl rfl ?_
  refine z_getr C 1 dX8_undo_1 gf_X8_55 rfl (by first | assumption | exact Nat.zero_lt_one | exact (show (15 : Nat) < 16 by decide) | exact Nat.lt_succ_of_lt (by assumption) | omega) (by first | exact hRb _ _ _ _ rfl | exact hR2 _ _ _ _ rfl | exact hR _ _ _ _ rfl | assumption) ?_
  refine z_getiv C 4 dX8_undo_4 gf_X8_135 rfl (by first | assumption | exact Nat.zero_lt_one | exact (show (15 : Nat) < 16 by decide) | exact Nat.lt_succ_of_lt (by assumption) | omega) hu ?_
  refine z_iconst (v := nI 1) C 7 dX8_undo_7 (by decide) ?_
  first | with_reducible refine z_icmp_geN C 8 13 dX8_undo_8 (by decide) (by omega) (by omega) (fun h8 => (by exfalso; omega)) (fun h8 => ?_) | refine z_icmp_ge C 8 13 dX8_undo_8 (by decide) (fun h8 => (by exfalso; omega)) (fun h8 => ?_)
  · refine z_iconst (v := (-1)) C 11 dX8_undo_11 (by decide) ?_
    exact ret 12 _ _ _ _ _ dX8_undo_12 (by first | rfl | exact bI_n | decide) (⟨rfl, rfl, rfl, rfl⟩)

set_option maxHeartbeats 4000000 in
set_option maxRecDepth 100000 in
theorem c_X8_undo_1 {l : Launch} {G : mG} {ad : mA} {S : mS} {L : mL} {R : mR} {T c N : NN} {d n B x u : Nat} {ph : Nat → Nat} {UR SR : Nat → NN} {sf : Nat → Nat} (h : CS S R T c d n B x (u + 1) ph N UR SR sf) : Ki l yX8_undo cX8_undo 1 .int rm_X8_undo G ad mdm [.ref (ad 0 0)] S L R (fun r_ S2 L2 R2 => r_ = nI u ∧ CQ S S2 R2 T c d n B u (UR u) UR SR sf ∧ L = L2) := by
  refine Ki.of RX8 (by decide) rfl (Nat.le_of_ble_eq_true rfl) ?_
  intro X hXl hXG C ret
  subst hXl; subst hXG
  change Z X 1 ad mdm S L R 0 0 0 [(0, _)] []
  have hR := h.1
  obtain ⟨hP1, hP2, r5, r6, r7, r32, r33⟩ := h.2.1
  obtain ⟨hd2, rD, rE, hAT, hAC, hn10, hT⟩ := h.2.2.1
  obtain ⟨hx, hx10, hu, hu10⟩ := h.2.2.2.1
  obtain ⟨hB, hv1, hv2, hJ⟩ := h.2.2.2.2.1
  have hB31 := h.2.2.2.2.2.2.2
  have hI := hJ.1.1
  have hp0 : ph 0 < 15 := hP1 0 (by omega)
  have hp1 : ph 1 < 15 := hP1 1 (by omega)
  have hp2 : ph 2 < 15 := hP1 2 (by omega)
  have h10 : ph 1 ≠ ph 0 := h.ne (by omega) (by omega) (by omega)
  have h01 : ph 0 ≠ ph 1 := h.ne (by omega) (by omega) (by omega)
  have hd : d < 3 := by omega
  have hcn := hAT.1
  have hP := hB.2.2.2.2
  have hpx : ph (3 + (x + 9) % 10) < 15 := hP1 _ (by omega)
  refine z_aload_n C 0 0 0 dX8_undo_0 rfl rfl ?_
  refine z_getr C 1 dX8_undo_1 gf_X8_55 rfl (by first | assumption | exact Nat.zero_lt_one | exact (show (15 : Nat) < 16 by decide) | exact Nat.lt_succ_of_lt (by assumption) | omega) (by first | exact hRb _ _ _ _ rfl | exact hR2 _ _ _ _ rfl | exact hR _ _ _ _ rfl | assumption) ?_
  refine z_getiv C 4 dX8_undo_4 gf_X8_135 rfl (by first | assumption | exact Nat.zero_lt_one | exact (show (15 : Nat) < 16 by decide) | exact Nat.lt_succ_of_lt (by assumption) | omega) hu ?_
  refine z_iconst (v := nI 1) C 7 dX8_undo_7 (by decide) ?_
  first | with_reducible refine z_icmp_geN C 8 13 dX8_undo_8 (by decide) (by omega) (by omega) (fun h8 => ?_) (fun h8 => (by exfalso; omega)) | refine z_icmp_ge C 8 13 dX8_undo_8 (by decide) (fun h8 => ?_) (fun h8 => (by exfalso; omega))
  · refine z_aload_n C 13 0 0 dX8_undo_13 rfl rfl ?_
    refine z_aload_n C 14 0 0 dX8_undo_14 rfl rfl ?_
    refine z_getr C 15 dX8_undo_15 gf_X8_55 rfl (by first | assumption | exact Nat.zero_lt_one | exact (show (15 : Nat) < 16 by decide) | exact Nat.lt_succ_of_lt (by assumption) | omega) (by first | exact hRb _ _ _ _ rfl | exact hR2 _ _ _ _ rfl | exact hR _ _ _ _ rfl | assumption) ?_
    refine z_aload_n C 18 0 0 dX8_undo_18 rfl rfl ?_
    refine z_getr C 19 dX8_undo_19 gf_X8_42 rfl (by first | assumption | exact Nat.zero_lt_one | exact (show (15 : Nat) < 16 by decide) | exact Nat.lt_succ_of_lt (by assumption) | omega) (by first | exact hRb _ _ _ _ rfl | exact hR2 _ _ _ _ rfl | exact hR _ _ _ _ rfl | assumption) ?_
    refine z_cVr0 C 22 dX8_undo_22 cv_X8_324 (c_X2_takeBack (a := ph 0) (b := ph (3 + (x + 9) % 10)) (x := x) (u := u) hR hp0 hpx hx hx10 hu (by omega) (r32 _ (Nat.mod_lt _ (by omega)))) rfl ⟨by decide, rfl⟩ (by first | assumption | exact Nat.zero_lt_one | exact (show (15 : Nat) < 16 by decide) | exact Nat.lt_succ_of_lt (by assumption) | omega) rfl rfl (Nat.le_of_ble_eq_true rfl) ⟨by decide, by decide⟩ ⟨rfl, rfl⟩ ⟨by decide, by decide⟩ ?_
    intro k22 i22 S22 L22 R22 p22
    obtain ⟨hk, rfl, rfl, rfl⟩ := p22
    cases hk
    have hR2 : mlk (up3 R 32 0 ((x + 9) % 10) (some (25, ph 0))) := hR.up rfl
    refine z_putr C 25 dX8_undo_25 gf_X8_42 ⟨rfl, fun _ => ⟨rfl, rfl⟩⟩ rfl (by first | assumption | exact Nat.zero_lt_one | exact (show (15 : Nat) < 16 by decide) | exact Nat.lt_succ_of_lt (by assumption) | omega) ?_
    have hU := h.undo
    have hRb := hU.1
    refine z_aload_n C 28 0 0 dX8_undo_28 rfl rfl ?_
    refine z_getr C 29 dX8_undo_29 gf_X8_55 rfl (by first | assumption | exact Nat.zero_lt_one | exact (show (15 : Nat) < 16 by decide) | exact Nat.lt_succ_of_lt (by assumption) | omega) (by first | exact hRb _ _ _ _ rfl | exact hR2 _ _ _ _ rfl | exact hR _ _ _ _ rfl | assumption) ?_
    refine z_getiv C 32 dX8_undo_32 gf_X8_135 rfl (by first | assumption | exact Nat.zero_lt_one | exact (show (15 : Nat) < 16 by decide) | exact Nat.lt_succ_of_lt (by assumption) | omega) (up3_s _ _ _ _ _) ?_
    exact ret 35 _ _ _ _ _ dX8_undo_35 (by first | rfl | exact bI_n | decide) (⟨rfl, ⟨((FC.rf S).up (by omega)).up (by omega), _, _, hU⟩, rfl⟩)
def rm_X8_saveSnapshot : Room := { frames := 7, cells := 0, slots := 0, locals := 220 }
set_option maxHeartbeats 4000000 in
set_option maxRecDepth 100000 in
theorem c_X8_saveSnapshot {l : Launch} {G : mG} {ad : mA} {S : mS} {L : mL} {R : mR} {T c N : NN} {d n B x u : Nat} {ph : Nat → Nat} {UR SR : Nat → NN} {sf : Nat → Nat} {s : Nat} (h : CS S R T c d n B x u ph N UR SR sf) (hs : s < 2) : Ki l yX8_saveSnapshot cX8_saveSnapshot 3 .boolean rm_X8_saveSnapshot G ad mdm [.ref (ad 0 0), .int (nI s)] S L R (fun r_ S2 L2 R2 => r_ = nI (sf s) ∧ CQ S S2 R2 T c d n B u N UR (fun i => if i = s then N else SR i) (fun i => if i = s then 1 else sf i) ∧ L = L2) := by
  refine Ki.of RX8 (by decide) rfl (Nat.le_of_ble_eq_true rfl) ?_
  intro X hXl hXG C ret
  subst hXl; subst hXG
  change Z X 3 ad mdm S L R 0 0 0 [(0, _), (1, _)] []
  have hR := h.1
  obtain ⟨hP1, hP2, r5, r6, r7, r32, r33⟩ := h.2.1
  obtain ⟨hd2, rD, rE, hAT, hAC, hn10, hT⟩ := h.2.2.1
  obtain ⟨hx, hx10, hu, hu10⟩ := h.2.2.2.1
  obtain ⟨hB, hv1, hv2, hJ⟩ := h.2.2.2.2.1
  have hB31 := h.2.2.2.2.2.2.2
  have hI := hJ.1.1
  have hp0 : ph 0 < 15 := hP1 0 (by omega)
  have hp1 : ph 1 < 15 := hP1 1 (by omega)
  have hp2 : ph 2 < 15 := hP1 2 (by omega)
  have h10 : ph 1 ≠ ph 0 := h.ne (by omega) (by omega) (by omega)
  have h01 : ph 0 ≠ ph 1 := h.ne (by omega) (by omega) (by omega)
  have hd : d < 3 := by omega
  have hcn := hAT.1
  have hP := hB.2.2.2.2
  obtain ⟨hsf, hsf1, hsv⟩ := h.2.2.2.2.2.2.1 s hs
  have rs := r33 s hs
  have hps : ph (13 + s) < 15 := hP1 _ (by omega)
  have h0s : ph 0 ≠ ph (13 + s) := h.ne (by omega) (by omega) (by omega)
  refine z_iload_n C 0 1 1 dX8_saveSnapshot_0 rfl rfl ?_
  refine z_cSv0 C 1 dX8_saveSnapshot_1 cs_X8_329 (c_X8_checkSlot (by omega)) rfl rfl (Nat.le_of_ble_eq_true rfl) ⟨by decide, by decide⟩ ⟨rfl, rfl⟩ ⟨by decide, by decide⟩ ?_
  intro S1 L1 R1 p1
  obtain ⟨rfl, rfl, rfl⟩ := p1
  refine z_aload_n C 4 0 0 dX8_saveSnapshot_4 rfl rfl ?_
  refine z_getr C 5 dX8_saveSnapshot_5 gf_X8_63 rfl (by first | assumption | exact Nat.zero_lt_one | exact (show (15 : Nat) < 16 by decide) | exact Nat.lt_succ_of_lt (by assumption) | omega) (by first | exact hRb _ _ _ _ rfl | exact hR2 _ _ _ _ rfl | exact hR _ _ _ _ rfl | assumption) ?_
  refine z_iload_n C 8 1 1 dX8_saveSnapshot_8 rfl rfl ?_
  refine z_zald C 9 dX8_saveSnapshot_9 rfl (by first | assumption | exact Nat.zero_lt_one | exact (show (15 : Nat) < 16 by decide) | exact Nat.lt_succ_of_lt (by assumption) | omega) (by first | rfl | assumption) (by first | decide | omega) (by first | assumption | omega) ?_
  rw [hsf]
  refine z_istore_n C 10 2 [(2, _), (0, _), (1, _)] dX8_saveSnapshot_10 rfl (by decide) rfl ?_
  refine z_aload_n C 11 0 1 dX8_saveSnapshot_11 rfl rfl ?_
  refine z_getr C 12 dX8_saveSnapshot_12 gf_X8_59 rfl (by first | assumption | exact Nat.zero_lt_one | exact (show (15 : Nat) < 16 by decide) | exact Nat.lt_succ_of_lt (by assumption) | omega) (by first | exact hRb _ _ _ _ rfl | exact hR2 _ _ _ _ rfl | exact hR _ _ _ _ rfl | assumption) ?_
  refine z_iload_n C 15 1 2 dX8_saveSnapshot_15 rfl rfl ?_
  refine z_aald5 C 16 dX8_saveSnapshot_16 rfl (by first | assumption | exact Nat.zero_lt_one | exact (show (15 : Nat) < 16 by decide) | exact Nat.lt_succ_of_lt (by assumption) | omega) (by first | rfl | assumption) (by decide) (by first | assumption | omega) (by first | exact hRb _ _ _ _ rfl | exact hR2 _ _ _ _ rfl | exact hR _ _ _ _ rfl | assumption) ?_
  refine z_aload_n C 17 0 1 dX8_saveSnapshot_17 rfl rfl ?_
  refine z_getr C 18 dX8_saveSnapshot_18 gf_X8_42 rfl (by first | assumption | exact Nat.zero_lt_one | exact (show (15 : Nat) < 16 by decide) | exact Nat.lt_succ_of_lt (by assumption) | omega) (by first | exact hRb _ _ _ _ rfl | exact hR2 _ _ _ _ rfl | exact hR _ _ _ _ rfl | assumption) ?_
  refine z_cVv0 C 21 dX8_saveSnapshot_21 cv_X8_244 (c_X4_copyFrom (N := N) (n := n) (q := ph 0) (v := ph (13 + s)) (d := d) hR hps hp0 h0s hv1 hv2 hB hI) rfl ⟨by decide, rfl⟩ (by first | assumption | exact Nat.zero_lt_one | exact (show (15 : Nat) < 16 by decide) | exact Nat.lt_succ_of_lt (by assumption) | omega) rfl rfl (Nat.le_of_ble_eq_true rfl) ⟨by decide, by decide⟩ ⟨rfl, rfl⟩ ⟨by decide, by decide⟩ ?_
  intro S21 L21 R21 p21
  obtain ⟨hB8, hF8, rfl, rfl⟩ := p21
  have hRX : RX R (up3 (up3 R 25 (ph (13 + s)) 1 (some (3, d))) 12 (ph (13 + s)) 0 (some (3, d))) (ph (13 + s)) := RX.cp hR
  have hR2 := hRX.1
  refine z_aload_n C 24 0 1 dX8_saveSnapshot_24 rfl rfl ?_
  refine z_getr C 25 dX8_saveSnapshot_25 gf_X8_63 rfl (by first | assumption | exact Nat.zero_lt_one | exact (show (15 : Nat) < 16 by decide) | exact Nat.lt_succ_of_lt (by assumption) | omega) (by first | exact hRb _ _ _ _ rfl | exact hR2 _ _ _ _ rfl | exact hR _ _ _ _ rfl | assumption) ?_
  refine z_iload_n C 28 1 2 dX8_saveSnapshot_28 rfl rfl ?_
  refine z_iconst (v := nI 1) C 29 dX8_saveSnapshot_29 (by decide) ?_
  refine z_zast C 30 dX8_saveSnapshot_30 (by first | rfl | assumption) (by first | assumption | exact Nat.zero_lt_one | exact (show (15 : Nat) < 16 by decide) | exact Nat.lt_succ_of_lt (by assumption) | omega)  (by first | rfl | assumption) (by first | decide | omega) (by first | assumption | omega) (by first | exact bI_01 | exact Or.inl rfl | exact Or.inr rfl | assumption) ?_
  refine z_iload_n C 31 2 0 dX8_saveSnapshot_31 rfl rfl ?_
  exact ret 32 _ _ _ _ _ dX8_saveSnapshot_32 (by rcases (show sf s = 0 ∨ sf s = 1 by omega) with z | z <;> rw [z] <;> rfl) (⟨rfl, ⟨(hF8.fv.fc).up (by omega), _, _, h.save hs hB8 hF8 hRX RX_l1 RX_l2⟩, rfl⟩)
def rm_X8_restoreSnapshot : Room := { frames := 7, cells := 0, slots := 0, locals := 220 }
set_option maxHeartbeats 4000000 in
set_option maxRecDepth 100000 in
theorem c_X8_restoreSnapshot {l : Launch} {G : mG} {ad : mA} {S : mS} {L : mL} {R : mR} {T c N : NN} {d n B x u : Nat} {ph : Nat → Nat} {UR SR : Nat → NN} {sf : Nat → Nat} {s : Nat} (h : CS S R T c d n B x u ph N UR SR sf) (hs : s < 2) (hf : sf s = 1) : Ki l yX8_restoreSnapshot cX8_restoreSnapshot 2 .int rm_X8_restoreSnapshot G ad mdm [.ref (ad 0 0), .int (nI s)] S L R (fun r_ S2 L2 R2 => r_ = SR s 1 ∧ CQ S S2 R2 T c d n B 0 (SR s) UR SR sf ∧ L = L2) := by
  refine Ki.of RX8 (by decide) rfl (Nat.le_of_ble_eq_true rfl) ?_
  intro X hXl hXG C ret
  subst hXl; subst hXG
  change Z X 2 ad mdm S L R 0 0 0 [(0, _), (1, _)] []
  have hR := h.1
  obtain ⟨hP1, hP2, r5, r6, r7, r32, r33⟩ := h.2.1
  obtain ⟨hd2, rD, rE, hAT, hAC, hn10, hT⟩ := h.2.2.1
  obtain ⟨hx, hx10, hu, hu10⟩ := h.2.2.2.1
  obtain ⟨hB, hv1, hv2, hJ⟩ := h.2.2.2.2.1
  have hB31 := h.2.2.2.2.2.2.2
  have hI := hJ.1.1
  have hp0 : ph 0 < 15 := hP1 0 (by omega)
  have hp1 : ph 1 < 15 := hP1 1 (by omega)
  have hp2 : ph 2 < 15 := hP1 2 (by omega)
  have h10 : ph 1 ≠ ph 0 := h.ne (by omega) (by omega) (by omega)
  have h01 : ph 0 ≠ ph 1 := h.ne (by omega) (by omega) (by omega)
  have hd : d < 3 := by omega
  have hcn := hAT.1
  have hP := hB.2.2.2.2
  obtain ⟨hsf, hsf1, hsv⟩ := h.2.2.2.2.2.2.1 s hs
  have hV := hsv hf
  have rs := r33 s hs
  have hps : ph (13 + s) < 15 := hP1 _ (by omega)
  have h0s : ph (13 + s) ≠ ph 0 := h.ne (by omega) (by omega) (by omega)
  rw [hf] at hsf
  refine z_iload_n C 0 1 1 dX8_restoreSnapshot_0 rfl rfl ?_
  refine z_cSv0 C 1 dX8_restoreSnapshot_1 cs_X8_329 (c_X8_checkSlot (by omega)) rfl rfl (Nat.le_of_ble_eq_true rfl) ⟨by decide, by decide⟩ ⟨rfl, rfl⟩ ⟨by decide, by decide⟩ ?_
  intro S1 L1 R1 p1
  obtain ⟨rfl, rfl, rfl⟩ := p1
  refine z_aload_n C 4 0 0 dX8_restoreSnapshot_4 rfl rfl ?_
  refine z_getr C 5 dX8_restoreSnapshot_5 gf_X8_63 rfl (by first | assumption | exact Nat.zero_lt_one | exact (show (15 : Nat) < 16 by decide) | exact Nat.lt_succ_of_lt (by assumption) | omega) (by first | exact hRb _ _ _ _ rfl | exact hR2 _ _ _ _ rfl | exact hR _ _ _ _ rfl | assumption) ?_
  refine z_iload_n C 8 1 1 dX8_restoreSnapshot_8 rfl rfl ?_
  refine z_zald C 9 dX8_restoreSnapshot_9 rfl (by first | assumption | exact Nat.zero_lt_one | exact (show (15 : Nat) < 16 by decide) | exact Nat.lt_succ_of_lt (by assumption) | omega) (by first | rfl | assumption) (by first | decide | omega) (by first | assumption | omega) ?_
  rw [hsf]
  first | with_reducible refine z_if_neB C 10 24 dX8_restoreSnapshot_10 (by decide) (fun h10 => ?_) (fun h10 => (by exfalso; revert h10; decide)) | with_reducible refine z_if_neN C 10 24 dX8_restoreSnapshot_10 (by decide) (by omega) (fun h10 => ?_) (fun h10 => (by exfalso; revert h10; decide)) | refine z_if_ne C 10 24 dX8_restoreSnapshot_10 (by decide) (fun h10 => ?_) (fun h10 => (by exfalso; revert h10; decide))
  · refine z_aload_n C 24 0 0 dX8_restoreSnapshot_24 rfl rfl ?_
    refine z_getr C 25 dX8_restoreSnapshot_25 gf_X8_42 rfl (by first | assumption | exact Nat.zero_lt_one | exact (show (15 : Nat) < 16 by decide) | exact Nat.lt_succ_of_lt (by assumption) | omega) (by first | exact hRb _ _ _ _ rfl | exact hR2 _ _ _ _ rfl | exact hR _ _ _ _ rfl | assumption) ?_
    refine z_aload_n C 28 0 0 dX8_restoreSnapshot_28 rfl rfl ?_
    refine z_getr C 29 dX8_restoreSnapshot_29 gf_X8_59 rfl (by first | assumption | exact Nat.zero_lt_one | exact (show (15 : Nat) < 16 by decide) | exact Nat.lt_succ_of_lt (by assumption) | omega) (by first | exact hRb _ _ _ _ rfl | exact hR2 _ _ _ _ rfl | exact hR _ _ _ _ rfl | assumption) ?_
    refine z_iload_n C 32 1 1 dX8_restoreSnapshot_32 rfl rfl ?_
    refine z_aald5 C 33 dX8_restoreSnapshot_33 rfl (by first | assumption | exact Nat.zero_lt_one | exact (show (15 : Nat) < 16 by decide) | exact Nat.lt_succ_of_lt (by assumption) | omega) (by first | rfl | assumption) (by decide) (by first | assumption | omega) (by first | exact hRb _ _ _ _ rfl | exact hR2 _ _ _ _ rfl | exact hR _ _ _ _ rfl | assumption) ?_
    refine z_cVv0 C 34 dX8_restoreSnapshot_34 cv_X8_244 (c_X4_copyFrom (N := SR s) (n := n) (q := ph (13 + s)) (v := ph 0) (d := d) hR hp0 hps h0s hV.2.1 hV.2.2.1 hV.1 hV.2.2.2.1.1) rfl ⟨by decide, rfl⟩ (by first | assumption | exact Nat.zero_lt_one | exact (show (15 : Nat) < 16 by decide) | exact Nat.lt_succ_of_lt (by assumption) | omega) rfl rfl (Nat.le_of_ble_eq_true rfl) ⟨by decide, by decide⟩ ⟨rfl, rfl⟩ ⟨by decide, by decide⟩ ?_
    intro S34 L34 R34 p34
    obtain ⟨hB8, hF8, rfl, rfl⟩ := p34
    have hRX : RX R (up3 (up3 R 25 (ph 0) 1 (some (3, d))) 12 (ph 0) 0 (some (3, d))) (ph 0) := RX.cp hR
    have hR2 := hRX.1
    have hc34 := h.restore hs hf hB8 hF8 hRX RX_l1 RX_l2
    have hBr := hc34.2.2.2.2.1.1
    have s5 := hc34.2.1.2.2.1
    refine z_aload_n C 37 0 0 dX8_restoreSnapshot_37 rfl rfl ?_
    refine z_getr C 38 dX8_restoreSnapshot_38 gf_X8_55 rfl (by first | assumption | exact Nat.zero_lt_one | exact (show (15 : Nat) < 16 by decide) | exact Nat.lt_succ_of_lt (by assumption) | omega) (by first | exact hRb _ _ _ _ rfl | exact hR2 _ _ _ _ rfl | exact hR _ _ _ _ rfl | assumption) ?_
    refine z_cVv0 C 41 dX8_restoreSnapshot_41 cv_X8_95 (c_X2_clear hR2) rfl ⟨by decide, rfl⟩ (by first | assumption | exact Nat.zero_lt_one | exact (show (15 : Nat) < 16 by decide) | exact Nat.lt_succ_of_lt (by assumption) | omega) rfl rfl (Nat.le_of_ble_eq_true rfl) ⟨by decide, by decide⟩ ⟨rfl, rfl⟩ ⟨by decide, by decide⟩ ?_
    intro S41 L41 R41 p41
    obtain ⟨rfl, rfl, rfl⟩ := p41
    refine z_aload_n C 44 0 0 dX8_restoreSnapshot_44 rfl rfl ?_
    refine z_getr C 45 dX8_restoreSnapshot_45 gf_X8_42 rfl (by first | assumption | exact Nat.zero_lt_one | exact (show (15 : Nat) < 16 by decide) | exact Nat.lt_succ_of_lt (by assumption) | omega) (by first | exact hRb _ _ _ _ rfl | exact hR2 _ _ _ _ rfl | exact hR _ _ _ _ rfl | assumption) ?_
    refine z_getiv C 48 dX8_restoreSnapshot_48 gf_X8_114 rfl (by first | assumption | exact Nat.zero_lt_one | exact (show (15 : Nat) < 16 by decide) | exact Nat.lt_succ_of_lt (by assumption) | omega) hBr.2.2.2.2.1 ?_
    exact ret 51 _ _ _ _ _ dX8_restoreSnapshot_51 (by first | rfl | exact bI_n | decide) (⟨rfl, ⟨(hF8.fv.fc).up (by omega), _, _, hc34⟩, rfl⟩)
