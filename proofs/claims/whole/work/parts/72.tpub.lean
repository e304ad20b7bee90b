def rt_X8_parse : Room := { frames := 8, cells := 1, slots := 6, locals := 228 }
set_option maxHeartbeats 4000000 in
set_option maxRecDepth 100000 in
theorem c_X8_parse_t {l : Launch} {G : mG} {ad : mA} {S : mS} {L : mL} {R : mR} {T c N : NN} {d n B x u : Nat} {ph : Nat → Nat} {UR SR : Nat → NN} {sf : Nat → Nat} {un : Nat → Nat} {f : Nat} {y : Int32} (hlf : l.stackTraces = false) (h : CS S R T c d n B x u ph N UR SR sf) (hTx : cT S un f) (hxx : ¬ isR 0 f y) : Kt l yX8_parse cX8_parse 3 (some .int) rt_X8_parse G ad mdm [.ref (ad 0 0), .int y] S L R eIA (fun S2 L2 R2 => CQ S S2 R2 T c d n B u N UR SR sf ∧ L = L2) := by
  refine Kt.of RX8 hlf (by decide) rfl (Nat.le_of_ble_eq_true rfl) ?_
  intro X hXl hXG C hTX
  subst hXl; subst hXG
  change Z X 3 ad mdm S L R 0 0 0 [(0, _), (1, _)] []
  have hR := h.1
  obtain ⟨hP1, hP2, r5, r6, r7, r32, r33⟩ := h.2.1
  obtain ⟨hd2, rD, rE, hAT, hAC, hn10, hT⟩ := h.2.2.1
  obtain ⟨hx, hx10, hu, hu10⟩ := h.2.2.2.1
  obtain ⟨hB, hv1, hv2, hJ⟩ := h.2.2.2.2.1
  have hB31 := h.2.2.2.2.2.2.2
  have hI := hJ.1.1
  have hp0 : ph 0 < 15 := hP1 0 (by omega)
  have hp1 : ph 1 < 15 := hP1 1 (by omega)
  have hp2 : ph 2 < 15 := hP1 2 (by omega)
  have h10 : ph 1 ≠ ph 0 := h.ne (by omega) (by omega) (by omega)
  have h01 : ph 0 ≠ ph 1 := h.ne (by omega) (by omega) (by omega)
  have hd : d < 3 := by omega
  have hcn := hAT.1
  have hP := hB.2.2.2.2
  have hf7 := hTx.2.1
  refine z_iload_n C 0 1 1 dX8_parse_0 rfl rfl ?_
  refine z_if_lt C 1 15 dX8_parse_1 (by decide) (fun h1 => ?_) (fun h1 => ?_)
  · exact z_thr C hTX 15 (ik := 74) (is := 76) (ic := 78) (n := 8) (tx := "no such length") (List.mem_cons_self) tk_74 ti_eIA (List.mem_of_getElem? (i := 16) rfl) dX8_parse_15 dX8_parse_18 dX8_parse_19 dX8_parse_21 dX8_parse_24 ⟨by decide, by decide⟩ ⟨by decide, by decide⟩ (⟨⟨FC.rf _, x, ph, h⟩, rfl⟩)
  · refine z_iload_n C 4 1 1 dX8_parse_4 rfl rfl ?_
    refine z_aload_n C 5 0 0 dX8_parse_5 rfl rfl ?_
    refine z_getr C 6 dX8_parse_6 gf_X8_16 rfl (by first | assumption | exact Nat.zero_lt_one | exact (show (15 : Nat) < 16 by decide) | exact Nat.lt_succ_of_lt (by assumption) | omega) (by first | exact hRb _ _ _ _ rfl | exact hR2 _ _ _ _ rfl | exact hR _ _ _ _ rfl | assumption) ?_
    refine z_getiv C 9 dX8_parse_9 gf_X8_67 rfl (by first | assumption | exact Nat.zero_lt_one | exact (show (15 : Nat) < 16 by decide) | exact Nat.lt_succ_of_lt (by assumption) | omega) hTx.1 ?_
    first | with_reducible refine z_icmp_leN C 12 25 dX8_parse_12 (by decide) (by omega) (by omega) (fun h12 => (isR_0 hxx (by decide) (by omega) h1 (Int32.not_lt.mpr h12)).elim) (fun h12 => ?_) | refine z_icmp_le C 12 25 dX8_parse_12 (by decide) (fun h12 => (isR_0 hxx (by decide) (by omega) h1 (Int32.not_lt.mpr h12)).elim) (fun h12 => ?_)
    · exact z_thr C hTX 15 (ik := 74) (is := 76) (ic := 78) (n := 8) (tx := "no such length") (List.mem_cons_self) tk_74 ti_eIA (List.mem_of_getElem? (i := 16) rfl) dX8_parse_15 dX8_parse_18 dX8_parse_19 dX8_parse_21 dX8_parse_24 ⟨by decide, by decide⟩ ⟨by decide, by decide⟩ (⟨⟨FC.rf _, x, ph, h⟩, rfl⟩)
def rt_X8_size : Room := { frames := 6, cells := 1, slots := 6, locals := 200 }
set_option maxHeartbeats 4000000 in
set_option maxRecDepth 100000 in
theorem c_X8_size_t {l : Launch} {G : mG} {ad : mA} {S : mS} {L : mL} {R : mR} {T c N : NN} {d n B x u : Nat} {ph : Nat → Nat} {UR SR : Nat → NN} {sf : Nat → Nat} {y : Int32} (hlf : l.stackTraces = false) (h : CS S R T c d n B x u ph N UR SR sf) (hxx : ¬ isR 0 8 y) : Kt l yX8_size cX8_size 2 (some .int) rt_X8_size G ad mdm [.ref (ad 0 0), .int y] S L R eIA (fun S2 L2 R2 => CQ S S2 R2 T c d n B u N UR SR sf ∧ L = L2) := by
  refine Kt.of RX8 hlf (by decide) rfl (Nat.le_of_ble_eq_true rfl) ?_
  intro X hXl hXG C hTX
  subst hXl; subst hXG
  change Z X 2 ad mdm S L R 0 0 0 [(0, _), (1, _)] []
  have hR := h.1
  obtain ⟨hP1, hP2, r5, r6, r7, r32, r33⟩ := h.2.1
  obtain ⟨hd2, rD, rE, hAT, hAC, hn10, hT⟩ := h.2.2.1
  obtain ⟨hx, hx10, hu, hu10⟩ := h.2.2.2.1
  obtain ⟨hB, hv1, hv2, hJ⟩ := h.2.2.2.2.1
  have hB31 := h.2.2.2.2.2.2.2
  have hI := hJ.1.1
  have hp0 : ph 0 < 15 := hP1 0 (by omega)
  have hp1 : ph 1 < 15 := hP1 1 (by omega)
  have hp2 : ph 2 < 15 := hP1 2 (by omega)
  have h10 : ph 1 ≠ ph 0 := h.ne (by omega) (by omega) (by omega)
  have h01 : ph 0 ≠ ph 1 := h.ne (by omega) (by omega) (by omega)
  have hd : d < 3 := by omega
  have hcn := hAT.1
  have hP := hB.2.2.2.2
  refine z_iload_n C 0 1 1 dX8_size_0 rfl rfl ?_
  refine z_tab C 1 0 8 133 (fun n => [52, 60, 71, 82, 90, 98, 109, 117, 125].getD (n - 0) 0) dX8_size_1 (by decide) (by decide) (by decide) (fun n1 g1 k1 h1 => (hxx ⟨n1, g1, k1, h1⟩).elim) (fun h1 => ?_)
  exact z_thr C hTX 133 (ik := 74) (is := 136) (ic := 78) (n := 9) (tx := "no such count") (List.mem_cons_self) tk_74 ti_eIA (List.mem_of_getElem? (i := 17) rfl) dX8_size_133 dX8_size_136 dX8_size_137 dX8_size_139 dX8_size_142 ⟨by decide, by decide⟩ ⟨by decide, by decide⟩ (⟨⟨FC.rf _, x, ph, h⟩, rfl⟩)
def rt_X8_program : Room := { frames := 7, cells := 1, slots := 6, locals := 221 }
set_option maxHeartbeats 4000000 in
set_option maxRecDepth 100000 in
theorem c_X8_program_t {l : Launch} {G : mG} {ad : mA} {S : mS} {L : mL} {R : mR} {T c N : NN} {d n B x u : Nat} {ph : Nat → Nat} {UR SR : Nat → NN} {sf : Nat → Nat} {y : Int32} {w : Int32} (hlf : l.stackTraces = false) (h : CS S R T c d n B x u ph N UR SR sf) (hxx : ¬ isP n y) : Kt l yX8_program cX8_program 3 (some .int) rt_X8_program G ad mdm [.ref (ad 0 0), .int y, .int w] S L R eIO (fun S2 L2 R2 => CQ S S2 R2 T c d n B u N UR SR sf ∧ L = L2) := by
  refine Kt.of RX8 hlf (by decide) rfl (Nat.le_of_ble_eq_true rfl) ?_
  intro X hXl hXG C hTX
  subst hXl; subst hXG
  change Z X 3 ad mdm S L R 0 0 0 [(0, _), (1, _), (2, _)] []
  have hR := h.1
  obtain ⟨hP1, hP2, r5, r6, r7, r32, r33⟩ := h.2.1
  obtain ⟨hd2, rD, rE, hAT, hAC, hn10, hT⟩ := h.2.2.1
  obtain ⟨hx, hx10, hu, hu10⟩ := h.2.2.2.1
  obtain ⟨hB, hv1, hv2, hJ⟩ := h.2.2.2.2.1
  have hB31 := h.2.2.2.2.2.2.2
  have hI := hJ.1.1
  have hp0 : ph 0 < 15 := hP1 0 (by omega)
  have hp1 : ph 1 < 15 := hP1 1 (by omega)
  have hp2 : ph 2 < 15 := hP1 2 (by omega)
  have h10 : ph 1 ≠ ph 0 := h.ne (by omega) (by omega) (by omega)
  have h01 : ph 0 ≠ ph 1 := h.ne (by omega) (by omega) (by omega)
  have hd : d < 3 := by omega
  have hcn := hAT.1
  have hP := hB.2.2.2.2
  refine z_aload_n C 0 0 0 dX8_program_0 rfl rfl ?_
  refine z_iload_n C 1 1 1 dX8_program_1 rfl rfl ?_
  exact z_thV C hTX 2 dX8_program_2 cv_X8_151 (c_X8_checkProgram_t hlf (d := d) (n := n) hR hd2 rD hAT.1 hn10 hxx) rfl ⟨by decide, rfl⟩ (by first | assumption | exact Nat.zero_lt_one | exact (show (15 : Nat) < 16 by decide) | exact Nat.lt_succ_of_lt (by assumption) | omega) rfl rfl (Nat.le_of_ble_eq_true rfl) ⟨by decide, by decide⟩ ⟨by decide, by decide⟩ (fun S' L' R' q => by obtain ⟨rfl, rfl, rfl⟩ := q; exact ⟨⟨FC.rf _, x, ph, h⟩, rfl⟩)

set_option maxHeartbeats 4000000 in
set_option maxRecDepth 100000 in
theorem c_X8_program_t2 {l : Launch} {G : mG} {ad : mA} {S : mS} {L : mL} {R : mR} {T c N : NN} {d n B x u : Nat} {ph : Nat → Nat} {UR SR : Nat → NN} {sf : Nat → Nat} {p : Nat} {y : Int32} (hlf : l.stackTraces = false) (h : CS S R T c d n B x u ph N UR SR sf) (hp : p < n) (hxx : ¬ isR 0 7 y) : Kt l yX8_program cX8_program 3 (some .int) rt_X8_program G ad mdm [.ref (ad 0 0), .int (nI p), .int y] S L R eIA (fun S2 L2 R2 => CQ S S2 R2 T c d n B u N UR SR sf ∧ L = L2) := by
  refine Kt.of RX8 hlf (by decide) rfl (Nat.le_of_ble_eq_true rfl) ?_
  intro X hXl hXG C hTX
  subst hXl; subst hXG
  change Z X 3 ad mdm S L R 0 0 0 [(0, _), (1, _), (2, _)] []
  have hR := h.1
  obtain ⟨hP1, hP2, r5, r6, r7, r32, r33⟩ := h.2.1
  obtain ⟨hd2, rD, rE, hAT, hAC, hn10, hT⟩ := h.2.2.1
  obtain ⟨hx, hx10, hu, hu10⟩ := h.2.2.2.1
  obtain ⟨hB, hv1, hv2, hJ⟩ := h.2.2.2.2.1
  have hB31 := h.2.2.2.2.2.2.2
  have hI := hJ.1.1
  have hp0 : ph 0 < 15 := hP1 0 (by omega)
  have hp1 : ph 1 < 15 := hP1 1 (by omega)
  have hp2 : ph 2 < 15 := hP1 2 (by omega)
  have h10 : ph 1 ≠ ph 0 := h.ne (by omega) (by omega) (by omega)
  have h01 : ph 0 ≠ ph 1 := h.ne (by omega) (by omega) (by omega)
  have hd : d < 3 := by omega
  have hcn := hAT.1
  have hP := hB.2.2.2.2
  refine z_aload_n C 0 0 0 dX8_program_0 rfl rfl ?_
  refine z_iload_n C 1 1 1 dX8_program_1 rfl rfl ?_
  refine z_cVv0 C 2 dX8_program_2 cv_X8_151 (c_X8_checkProgram (d := d) (n := n) hR hd2 rD hAT.1 hn10 hp) rfl ⟨by decide, rfl⟩ (by first | assumption | exact Nat.zero_lt_one | exact (show (15 : Nat) < 16 by decide) | exact Nat.lt_succ_of_lt (by assumption) | omega) rfl rfl (Nat.le_of_ble_eq_true rfl) ⟨by decide, by decide⟩ ⟨rfl, rfl⟩ ⟨by decide, by decide⟩ ?_
  intro S2 L2 R2 p2
  obtain ⟨rfl, rfl, rfl⟩ := p2
  refine z_iload_n C 5 2 2 dX8_program_5 rfl rfl ?_
  refine z_tab C 6 0 7 161 (fun n => [52, 65, 78, 91, 103, 113, 123, 144].getD (n - 0) 0) dX8_program_6 (by decide) (by decide) (by decide) (fun n6 g6 k6 h6 => (hxx ⟨n6, g6, k6, h6⟩).elim) (fun h6 => ?_)
  exact z_thr C hTX 161 (ik := 74) (is := 181) (ic := 78) (n := 11) (tx := "no such property") (List.mem_cons_self) tk_74 ti_eIA (List.mem_of_getElem? (i := 19) rfl) dX8_program_161 dX8_program_164 dX8_program_165 dX8_program_167 dX8_program_170 ⟨by decide, by decide⟩ ⟨by decide, by decide⟩ (⟨⟨FC.rf _, x, ph, h⟩, rfl⟩)
def rt_X8_told : Room := { frames := 7, cells := 1, slots := 6, locals := 221 }
set_option maxHeartbeats 4000000 in
set_option maxRecDepth 100000 in
theorem c_X8_told_t {l : Launch} {G : mG} {ad : mA} {S : mS} {L : mL} {R : mR} {T c N : NN} {d n B x u : Nat} {ph : Nat → Nat} {UR SR : Nat → NN} {sf : Nat → Nat} {y : Int32} {w : Int32} (hlf : l.stackTraces = false) (h : CS S R T c d n B x u ph N UR SR sf) (hxx : ¬ isP n y) : Kt l yX8_told cX8_told 3 (some .int) rt_X8_told G ad mdm [.ref (ad 0 0), .int y, .int w] S L R eIO (fun S2 L2 R2 => CQ S S2 R2 T c d n B u N UR SR sf ∧ L = L2) := by
  refine Kt.of RX8 hlf (by decide) rfl (Nat.le_of_ble_eq_true rfl) ?_
  intro X hXl hXG C hTX
  subst hXl; subst hXG
  change Z X 3 ad mdm S L R 0 0 0 [(0, _), (1, _), (2, _)] []
  have hR := h.1
  obtain ⟨hP1, hP2, r5, r6, r7, r32, r33⟩ := h.2.1
  obtain ⟨hd2, rD, rE, hAT, hAC, hn10, hT⟩ := h.2.2.1
  obtain ⟨hx, hx10, hu, hu10⟩ := h.2.2.2.1
  obtain ⟨hB, hv1, hv2, hJ⟩ := h.2.2.2.2.1
  have hB31 := h.2.2.2.2.2.2.2
  have hI := hJ.1.1
  have hp0 : ph 0 < 15 := hP1 0 (by omega)
  have hp1 : ph 1 < 15 := hP1 1 (by omega)
  have hp2 : ph 2 < 15 := hP1 2 (by omega)
  have h10 : ph 1 ≠ ph 0 := h.ne (by omega) (by omega) (by omega)
  have h01 : ph 0 ≠ ph 1 := h.ne (by omega) (by omega) (by omega)
  have hd : d < 3 := by omega
  have hcn := hAT.1
  have hP := hB.2.2.2.2
  refine z_aload_n C 0 0 0 dX8_told_0 rfl rfl ?_
  refine z_iload_n C 1 1 1 dX8_told_1 rfl rfl ?_
  exact z_thV C hTX 2 dX8_told_2 cv_X8_151 (c_X8_checkProgram_t hlf (d := d) (n := n) hR hd2 rD hAT.1 hn10 hxx) rfl ⟨by decide, rfl⟩ (by first | assumption | exact Nat.zero_lt_one | exact (show (15 : Nat) < 16 by decide) | exact Nat.lt_succ_of_lt (by assumption) | omega) rfl rfl (Nat.le_of_ble_eq_true rfl) ⟨by decide, by decide⟩ ⟨by decide, by decide⟩ (fun S' L' R' q => by obtain ⟨rfl, rfl, rfl⟩ := q; exact ⟨⟨FC.rf _, x, ph, h⟩, rfl⟩)

set_option maxHeartbeats 4000000 in
set_option maxRecDepth 100000 in
theorem c_X8_told_t2 {l : Launch} {G : mG} {ad : mA} {S : mS} {L : mL} {R : mR} {T c N : NN} {d n B x u : Nat} {ph : Nat → Nat} {UR SR : Nat → NN} {sf : Nat → Nat} {p : Nat} {y : Int32} (hlf : l.stackTraces = false) (h : CS S R T c d n B x u ph N UR SR sf) (hp : p < n) (hxx : ¬ isP 8 y) : Kt l yX8_told cX8_told 3 (some .int) rt_X8_told G ad mdm [.ref (ad 0 0), .int (nI p), .int y] S L R eIA (fun S2 L2 R2 => CQ S S2 R2 T c d n B u N UR SR sf ∧ L = L2) := by
  refine Kt.of RX8 hlf (by decide) rfl (Nat.le_of_ble_eq_true rfl) ?_
  intro X hXl hXG C hTX
  subst hXl; subst hXG
  change Z X 3 ad mdm S L R 0 0 0 [(0, _), (1, _), (2, _)] []
  have hR := h.1
  obtain ⟨hP1, hP2, r5, r6, r7, r32, r33⟩ := h.2.1
  obtain ⟨hd2, rD, rE, hAT, hAC, hn10, hT⟩ := h.2.2.1
  obtain ⟨hx, hx10, hu, hu10⟩ := h.2.2.2.1
  obtain ⟨hB, hv1, hv2, hJ⟩ := h.2.2.2.2.1
  have hB31 := h.2.2.2.2.2.2.2
  have hI := hJ.1.1
  have hp0 : ph 0 < 15 := hP1 0 (by omega)
  have hp1 : ph 1 < 15 := hP1 1 (by omega)
  have hp2 : ph 2 < 15 := hP1 2 (by omega)
  have h10 : ph 1 ≠ ph 0 := h.ne (by omega) (by omega) (by omega)
  have h01 : ph 0 ≠ ph 1 := h.ne (by omega) (by omega) (by omega)
  have hd : d < 3 := by omega
  have hcn := hAT.1
  have hP := hB.2.2.2.2
  refine z_aload_n C 0 0 0 dX8_told_0 rfl rfl ?_
  refine z_iload_n C 1 1 1 dX8_told_1 rfl rfl ?_
  refine z_cVv0 C 2 dX8_told_2 cv_X8_151 (c_X8_checkProgram (d := d) (n := n) hR hd2 rD hAT.1 hn10 hp) rfl ⟨by decide, rfl⟩ (by first | assumption | exact Nat.zero_lt_one | exact (show (15 : Nat) < 16 by decide) | exact Nat.lt_succ_of_lt (by assumption) | omega) rfl rfl (Nat.le_of_ble_eq_true rfl) ⟨by decide, by decide⟩ ⟨rfl, rfl⟩ ⟨by decide, by decide⟩ ?_
  intro S2 L2 R2 p2
  obtain ⟨rfl, rfl, rfl⟩ := p2
  refine z_iload_n C 5 2 2 dX8_told_5 rfl rfl ?_
  refine z_if_lt C 6 15 dX8_told_6 (by decide) (fun h6 => ?_) (fun h6 => ?_)
  · exact z_thr C hTX 15 (ik := 74) (is := 183) (ic := 78) (n := 12) (tx := "no such number") (List.mem_cons_self) tk_74 ti_eIA (List.mem_of_getElem? (i := 20) rfl) dX8_told_15 dX8_told_18 dX8_told_19 dX8_told_21 dX8_told_24 ⟨by decide, by decide⟩ ⟨by decide, by decide⟩ (⟨⟨FC.rf _, x, ph, h⟩, rfl⟩)
  · refine z_iload_n C 9 2 2 dX8_told_9 rfl rfl ?_
    refine z_bipush (v := nI 8) C 10 dX8_told_10 (by decide +kernel) ?_
    first | with_reducible refine z_icmp_ltN C 12 25 dX8_told_12 (by decide) (by omega) (by omega) (fun h12 => (isP_R hxx h6 h12 (by decide)).elim) (fun h12 => ?_) | refine z_icmp_lt C 12 25 dX8_told_12 (by decide) (fun h12 => (isP_R hxx h6 h12 (by decide)).elim) (fun h12 => ?_)
    · exact z_thr C hTX 15 (ik := 74) (is := 183) (ic := 78) (n := 12) (tx := "no such number") (List.mem_cons_self) tk_74 ti_eIA (List.mem_of_getElem? (i := 20) rfl) dX8_told_15 dX8_told_18 dX8_told_19 dX8_told_21 dX8_told_24 ⟨by decide, by decide⟩ ⟨by decide, by decide⟩ (⟨⟨FC.rf _, x, ph, h⟩, rfl⟩)
def rt_X8_picture : Room := { frames := 7, cells := 1, slots := 6, locals := 221 }
set_option maxHeartbeats 4000000 in
set_option maxRecDepth 100000 in
theorem c_X8_picture_t {l : Launch} {G : mG} {ad : mA} {S : mS} {L : mL} {R : mR} {T c N : NN} {d n B x u : Nat} {ph : Nat → Nat} {UR SR : Nat → NN} {sf : Nat → Nat} {y : Int32} (hlf : l.stackTraces = false) (h : CS S R T c d n B x u ph N UR SR sf) (hxx : ¬ isP n y) : Kt l yX8_picture cX8_picture 2 (some .int) rt_X8_picture G ad mdm [.ref (ad 0 0), .int y] S L R eIO (fun S2 L2 R2 => CQ S S2 R2 T c d n B u N UR SR sf ∧ L = L2) := by
  refine Kt.of RX8 hlf (by decide) rfl (Nat.le_of_ble_eq_true rfl) ?_
  intro X hXl hXG C hTX
  subst hXl; subst hXG
  change Z X 2 ad mdm S L R 0 0 0 [(0, _), (1, _)] []
  have hR := h.1
  obtain ⟨hP1, hP2, r5, r6, r7, r32, r33⟩ := h.2.1
  obtain ⟨hd2, rD, rE, hAT, hAC, hn10, hT⟩ := h.2.2.1
  obtain ⟨hx, hx10, hu, hu10⟩ := h.2.2.2.1
  obtain ⟨hB, hv1, hv2, hJ⟩ := h.2.2.2.2.1
  have hB31 := h.2.2.2.2.2.2.2
  have hI := hJ.1.1
  have hp0 : ph 0 < 15 := hP1 0 (by omega)
  have hp1 : ph 1 < 15 := hP1 1 (by omega)
  have hp2 : ph 2 < 15 := hP1 2 (by omega)
  have h10 : ph 1 ≠ ph 0 := h.ne (by omega) (by omega) (by omega)
  have h01 : ph 0 ≠ ph 1 := h.ne (by omega) (by omega) (by omega)
  have hd : d < 3 := by omega
  have hcn := hAT.1
  have hP := hB.2.2.2.2
  refine z_aload_n C 0 0 0 dX8_picture_0 rfl rfl ?_
  refine z_iload_n C 1 1 1 dX8_picture_1 rfl rfl ?_
  exact z_thV C hTX 2 dX8_picture_2 cv_X8_151 (c_X8_checkProgram_t hlf (d := d) (n := n) hR hd2 rD hAT.1 hn10 hxx) rfl ⟨by decide, rfl⟩ (by first | assumption | exact Nat.zero_lt_one | exact (show (15 : Nat) < 16 by decide) | exact Nat.lt_succ_of_lt (by assumption) | omega) rfl rfl (Nat.le_of_ble_eq_true rfl) ⟨by decide, by decide⟩ ⟨by decide, by decide⟩ (fun S' L' R' q => by obtain ⟨rfl, rfl, rfl⟩ := q; exact ⟨⟨FC.rf _, x, ph, h⟩, rfl⟩)
def rt_X8_habit : Room := { frames := 7, cells := 1, slots := 6, locals := 221 }
set_option maxHeartbeats 4000000 in
set_option maxRecDepth 100000 in
theorem c_X8_habit_t {l : Launch} {G : mG} {ad : mA} {S : mS} {L : mL} {R : mR} {T c N : NN} {d n B x u : Nat} {ph : Nat → Nat} {UR SR : Nat → NN} {sf : Nat → Nat} {y : Int32} (hlf : l.stackTraces = false) (h : CS S R T c d n B x u ph N UR SR sf) (hxx : ¬ isP n y) : Kt l yX8_habit cX8_habit 2 (some .int) rt_X8_habit G ad mdm [.ref (ad 0 0), .int y] S L R eIO (fun S2 L2 R2 => CQ S S2 R2 T c d n B u N UR SR sf ∧ L = L2) := by
  refine Kt.of RX8 hlf (by decide) rfl (Nat.le_of_ble_eq_true rfl) ?_
  intro X hXl hXG C hTX
  subst hXl; subst hXG
  change Z X 2 ad mdm S L R 0 0 0 [(0, _), (1, _)] []
  have hR := h.1
  obtain ⟨hP1, hP2, r5, r6, r7, r32, r33⟩ := h.2.1
  obtain ⟨hd2, rD, rE, hAT, hAC, hn10, hT⟩ := h.2.2.1
  obtain ⟨hx, hx10, hu, hu10⟩ := h.2.2.2.1
  obtain ⟨hB, hv1, hv2, hJ⟩ := h.2.2.2.2.1
  have hB31 := h.2.2.2.2.2.2.2
  have hI := hJ.1.1
  have hp0 : ph 0 < 15 := hP1 0 (by omega)
  have hp1 : ph 1 < 15 := hP1 1 (by omega)
  have hp2 : ph 2 < 15 := hP1 2 (by omega)
  have h10 : ph 1 ≠ ph 0 := h.ne (by omega) (by omega) (by omega)
  have h01 : ph 0 ≠ ph 1 := h.ne (by omega) (by omega) (by omega)
  have hd : d < 3 := by omega
  have hcn := hAT.1
  have hP := hB.2.2.2.2
  refine z_aload_n C 0 0 0 dX8_habit_0 rfl rfl ?_
  refine z_iload_n C 1 1 1 dX8_habit_1 rfl rfl ?_
  exact z_thV C hTX 2 dX8_habit_2 cv_X8_151 (c_X8_checkProgram_t hlf (d := d) (n := n) hR hd2 rD hAT.1 hn10 hxx) rfl ⟨by decide, rfl⟩ (by first | assumption | exact Nat.zero_lt_one | exact (show (15 : Nat) < 16 by decide) | exact Nat.lt_succ_of_lt (by assumption) | omega) rfl rfl (Nat.le_of_ble_eq_true rfl) ⟨by decide, by decide⟩ ⟨by decide, by decide⟩ (fun S' L' R' q => by obtain ⟨rfl, rfl, rfl⟩ := q; exact ⟨⟨FC.rf _, x, ph, h⟩, rfl⟩)
def rt_X8_promise : Room := { frames := 7, cells := 1, slots := 6, locals := 221 }
set_option maxHeartbeats 4000000 in
set_option maxRecDepth 100000 in
theorem c_X8_promise_t {l : Launch} {G : mG} {ad : mA} {S : mS} {L : mL} {R : mR} {T c N : NN} {d n B x u : Nat} {ph : Nat → Nat} {UR SR : Nat → NN} {sf : Nat → Nat} {y : Int32} (hlf : l.stackTraces = false) (h : CS S R T c d n B x u ph N UR SR sf) (hxx : ¬ isP n y) : Kt l yX8_promise cX8_promise 2 (some .int) rt_X8_promise G ad mdm [.ref (ad 0 0), .int y] S L R eIO (fun S2 L2 R2 => CQ S S2 R2 T c d n B u N UR SR sf ∧ L = L2) := by
  refine Kt.of RX8 hlf (by decide) rfl (Nat.le_of_ble_eq_true rfl) ?_
  intro X hXl hXG C hTX
  subst hXl; subst hXG
  change Z X 2 ad mdm S L R 0 0 0 [(0, _), (1, _)] []
  have hR := h.1
  obtain ⟨hP1, hP2, r5, r6, r7, r32, r33⟩ := h.2.1
  obtain ⟨hd2, rD, rE, hAT, hAC, hn10, hT⟩ := h.2.2.1
  obtain ⟨hx, hx10, hu, hu10⟩ := h.2.2.2.1
  obtain ⟨hB, hv1, hv2, hJ⟩ := h.2.2.2.2.1
  have hB31 := h.2.2.2.2.2.2.2
  have hI := hJ.1.1
  have hp0 : ph 0 < 15 := hP1 0 (by omega)
  have hp1 : ph 1 < 15 := hP1 1 (by omega)
  have hp2 : ph 2 < 15 := hP1 2 (by omega)
  have h10 : ph 1 ≠ ph 0 := h.ne (by omega) (by omega) (by omega)
  have h01 : ph 0 ≠ ph 1 := h.ne (by omega) (by omega) (by omega)
  have hd : d < 3 := by omega
  have hcn := hAT.1
  have hP := hB.2.2.2.2
  refine z_aload_n C 0 0 0 dX8_promise_0 rfl rfl ?_
  refine z_iload_n C 1 1 1 dX8_promise_1 rfl rfl ?_
  exact z_thV C hTX 2 dX8_promise_2 cv_X8_151 (c_X8_checkProgram_t hlf (d := d) (n := n) hR hd2 rD hAT.1 hn10 hxx) rfl ⟨by decide, rfl⟩ (by first | assumption | exact Nat.zero_lt_one | exact (show (15 : Nat) < 16 by decide) | exact Nat.lt_succ_of_lt (by assumption) | omega) rfl rfl (Nat.le_of_ble_eq_true rfl) ⟨by decide, by decide⟩ ⟨by decide, by decide⟩ (fun S' L' R' q => by obtain ⟨rfl, rfl, rfl⟩ := q; exact ⟨⟨FC.rf _, x, ph, h⟩, rfl⟩)
def rt_X8_likeliest : Room := { frames := 7, cells := 1, slots := 6, locals := 221 }
set_option maxHeartbeats 4000000 in
set_option maxRecDepth 100000 in
theorem c_X8_likeliest_t {l : Launch} {G : mG} {ad : mA} {S : mS} {L : mL} {R : mR} {T c N : NN} {d n B x u : Nat} {ph : Nat → Nat} {UR SR : Nat → NN} {sf : Nat → Nat} {y : Int32} (hlf : l.stackTraces = false) (h : CS S R T c d n B x u ph N UR SR sf) (hxx : ¬ isP n y) : Kt l yX8_likeliest cX8_likeliest 2 (some .int) rt_X8_likeliest G ad mdm [.ref (ad 0 0), .int y] S L R eIO (fun S2 L2 R2 => CQ S S2 R2 T c d n B u N UR SR sf ∧ L = L2) := by
  refine Kt.of RX8 hlf (by decide) rfl (Nat.le_of_ble_eq_true rfl) ?_
  intro X hXl hXG C hTX
  subst hXl; subst hXG
  change Z X 2 ad mdm S L R 0 0 0 [(0, _), (1, _)] []
  have hR := h.1
  obtain ⟨hP1, hP2, r5, r6, r7, r32, r33⟩ := h.2.1
  obtain ⟨hd2, rD, rE, hAT, hAC, hn10, hT⟩ := h.2.2.1
  obtain ⟨hx, hx10, hu, hu10⟩ := h.2.2.2.1
  obtain ⟨hB, hv1, hv2, hJ⟩ := h.2.2.2.2.1
  have hB31 := h.2.2.2.2.2.2.2
  have hI := hJ.1.1
  have hp0 : ph 0 < 15 := hP1 0 (by omega)
  have hp1 : ph 1 < 15 := hP1 1 (by omega)
  have hp2 : ph 2 < 15 := hP1 2 (by omega)
  have h10 : ph 1 ≠ ph 0 := h.ne (by omega) (by omega) (by omega)
  have h01 : ph 0 ≠ ph 1 := h.ne (by omega) (by omega) (by omega)
  have hd : d < 3 := by omega
  have hcn := hAT.1
  have hP := hB.2.2.2.2
  refine z_aload_n C 0 0 0 dX8_likeliest_0 rfl rfl ?_
  refine z_iload_n C 1 1 1 dX8_likeliest_1 rfl rfl ?_
  exact z_thV C hTX 2 dX8_likeliest_2 cv_X8_151 (c_X8_checkProgram_t hlf (d := d) (n := n) hR hd2 rD hAT.1 hn10 hxx) rfl ⟨by decide, rfl⟩ (by first | assumption | exact Nat.zero_lt_one | exact (show (15 : Nat) < 16 by decide) | exact Nat.lt_succ_of_lt (by assumption) | omega) rfl rfl (Nat.le_of_ble_eq_true rfl) ⟨by decide, by decide⟩ ⟨by decide, by decide⟩ (fun S' L' R' q => by obtain ⟨rfl, rfl, rfl⟩ := q; exact ⟨⟨FC.rf _, x, ph, h⟩, rfl⟩)
def rt_X8_waitOf : Room := { frames := 7, cells := 1, slots := 6, locals := 221 }
set_option maxHeartbeats 4000000 in
set_option maxRecDepth 100000 in
theorem c_X8_waitOf_t {l : Launch} {G : mG} {ad : mA} {S : mS} {L : mL} {R : mR} {T c N : NN} {d n B x u : Nat} {ph : Nat → Nat} {UR SR : Nat → NN} {sf : Nat → Nat} {y : Int32} (hlf : l.stackTraces = false) (h : CS S R T c d n B x u ph N UR SR sf) (hxx : ¬ isP n y) : Kt l yX8_waitOf cX8_waitOf 2 (some .int) rt_X8_waitOf G ad mdm [.ref (ad 0 0), .int y] S L R eIO (fun S2 L2 R2 => CQ S S2 R2 T c d n B u N UR SR sf ∧ L = L2) := by
  refine Kt.of RX8 hlf (by decide) rfl (Nat.le_of_ble_eq_true rfl) ?_
  intro X hXl hXG C hTX
  subst hXl; subst hXG
  change Z X 2 ad mdm S L R 0 0 0 [(0, _), (1, _)] []
  have hR := h.1
  obtain ⟨hP1, hP2, r5, r6, r7, r32, r33⟩ := h.2.1
  obtain ⟨hd2, rD, rE, hAT, hAC, hn10, hT⟩ := h.2.2.1
  obtain ⟨hx, hx10, hu, hu10⟩ := h.2.2.2.1
  obtain ⟨hB, hv1, hv2, hJ⟩ := h.2.2.2.2.1
  have hB31 := h.2.2.2.2.2.2.2
  have hI := hJ.1.1
  have hp0 : ph 0 < 15 := hP1 0 (by omega)
  have hp1 : ph 1 < 15 := hP1 1 (by omega)
  have hp2 : ph 2 < 15 := hP1 2 (by omega)
  have h10 : ph 1 ≠ ph 0 := h.ne (by omega) (by omega) (by omega)
  have h01 : ph 0 ≠ ph 1 := h.ne (by omega) (by omega) (by omega)
  have hd : d < 3 := by omega
  have hcn := hAT.1
  have hP := hB.2.2.2.2
  refine z_aload_n C 0 0 0 dX8_waitOf_0 rfl rfl ?_
  refine z_iload_n C 1 1 1 dX8_waitOf_1 rfl rfl ?_
  exact z_thV C hTX 2 dX8_waitOf_2 cv_X8_151 (c_X8_checkProgram_t hlf (d := d) (n := n) hR hd2 rD hAT.1 hn10 hxx) rfl ⟨by decide, rfl⟩ (by first | assumption | exact Nat.zero_lt_one | exact (show (15 : Nat) < 16 by decide) | exact Nat.lt_succ_of_lt (by assumption) | omega) rfl rfl (Nat.le_of_ble_eq_true rfl) ⟨by decide, by decide⟩ ⟨by decide, by decide⟩ (fun S' L' R' q => by obtain ⟨rfl, rfl, rfl⟩ := q; exact ⟨⟨FC.rf _, x, ph, h⟩, rfl⟩)
def rt_X8_whyNotShow : Room := { frames := 7, cells := 1, slots := 6, locals := 221 }
set_option maxHeartbeats 4000000 in
set_option maxRecDepth 100000 in
theorem c_X8_whyNotShow_t {l : Launch} {G : mG} {ad : mA} {S : mS} {L : mL} {R : mR} {T c N : NN} {d n B x u : Nat} {ph : Nat → Nat} {UR SR : Nat → NN} {sf : Nat → Nat} {y : Int32} (hlf : l.stackTraces = false) (h : CS S R T c d n B x u ph N UR SR sf) (hxx : ¬ isP n y) : Kt l yX8_whyNotShow cX8_whyNotShow 2 (some .int) rt_X8_whyNotShow G ad mdm [.ref (ad 0 0), .int y] S L R eIO (fun S2 L2 R2 => CQ S S2 R2 T c d n B u N UR SR sf ∧ L = L2) := by
  refine Kt.of RX8 hlf (by decide) rfl (Nat.le_of_ble_eq_true rfl) ?_
  intro X hXl hXG C hTX
  subst hXl; subst hXG
  change Z X 2 ad mdm S L R 0 0 0 [(0, _), (1, _)] []
  have hR := h.1
  obtain ⟨hP1, hP2, r5, r6, r7, r32, r33⟩ := h.2.1
  obtain ⟨hd2, rD, rE, hAT, hAC, hn10, hT⟩ := h.2.2.1
  obtain ⟨hx, hx10, hu, hu10⟩ := h.2.2.2.1
  obtain ⟨hB, hv1, hv2, hJ⟩ := h.2.2.2.2.1
  have hB31 := h.2.2.2.2.2.2.2
  have hI := hJ.1.1
  have hp0 : ph 0 < 15 := hP1 0 (by omega)
  have hp1 : ph 1 < 15 := hP1 1 (by omega)
  have hp2 : ph 2 < 15 := hP1 2 (by omega)
  have h10 : ph 1 ≠ ph 0 := h.ne (by omega) (by omega) (by omega)
  have h01 : ph 0 ≠ ph 1 := h.ne (by omega) (by omega) (by omega)
  have hd : d < 3 := by omega
  have hcn := hAT.1
  have hP := hB.2.2.2.2
  refine z_aload_n C 0 0 0 dX8_whyNotShow_0 rfl rfl ?_
  refine z_iload_n C 1 1 1 dX8_whyNotShow_1 rfl rfl ?_
  exact z_thV C hTX 2 dX8_whyNotShow_2 cv_X8_151 (c_X8_checkProgram_t hlf (d := d) (n := n) hR hd2 rD hAT.1 hn10 hxx) rfl ⟨by decide, rfl⟩ (by first | assumption | exact Nat.zero_lt_one | exact (show (15 : Nat) < 16 by decide) | exact Nat.lt_succ_of_lt (by assumption) | omega) rfl rfl (Nat.le_of_ble_eq_true rfl) ⟨by decide, by decide⟩ ⟨by decide, by decide⟩ (fun S' L' R' q => by obtain ⟨rfl, rfl, rfl⟩ := q; exact ⟨⟨FC.rf _, x, ph, h⟩, rfl⟩)
def rt_X8_trimsFor : Room := { frames := 7, cells := 1, slots := 6, locals := 221 }
set_option maxHeartbeats 4000000 in
set_option maxRecDepth 100000 in
theorem c_X8_trimsFor_t {l : Launch} {G : mG} {ad : mA} {S : mS} {L : mL} {R : mR} {T c N : NN} {d n B x u : Nat} {ph : Nat → Nat} {UR SR : Nat → NN} {sf : Nat → Nat} {y : Int32} (hlf : l.stackTraces = false) (h : CS S R T c d n B x u ph N UR SR sf) (hxx : ¬ isP n y) : Kt l yX8_trimsFor cX8_trimsFor 2 (some .int) rt_X8_trimsFor G ad mdm [.ref (ad 0 0), .int y] S L R eIO (fun S2 L2 R2 => CQ S S2 R2 T c d n B u N UR SR sf ∧ L = L2) := by
  refine Kt.of RX8 hlf (by decide) rfl (Nat.le_of_ble_eq_true rfl) ?_
  intro X hXl hXG C hTX
  subst hXl; subst hXG
  change Z X 2 ad mdm S L R 0 0 0 [(0, _), (1, _)] []
  have hR := h.1
  obtain ⟨hP1, hP2, r5, r6, r7, r32, r33⟩ := h.2.1
  obtain ⟨hd2, rD, rE, hAT, hAC, hn10, hT⟩ := h.2.2.1
  obtain ⟨hx, hx10, hu, hu10⟩ := h.2.2.2.1
  obtain ⟨hB, hv1, hv2, hJ⟩ := h.2.2.2.2.1
  have hB31 := h.2.2.2.2.2.2.2
  have hI := hJ.1.1
  have hp0 : ph 0 < 15 := hP1 0 (by omega)
  have hp1 : ph 1 < 15 := hP1 1 (by omega)
  have hp2 : ph 2 < 15 := hP1 2 (by omega)
  have h10 : ph 1 ≠ ph 0 := h.ne (by omega) (by omega) (by omega)
  have h01 : ph 0 ≠ ph 1 := h.ne (by omega) (by omega) (by omega)
  have hd : d < 3 := by omega
  have hcn := hAT.1
  have hP := hB.2.2.2.2
  refine z_aload_n C 0 0 0 dX8_trimsFor_0 rfl rfl ?_
  refine z_iload_n C 1 1 1 dX8_trimsFor_1 rfl rfl ?_
  exact z_thV C hTX 2 dX8_trimsFor_2 cv_X8_151 (c_X8_checkProgram_t hlf (d := d) (n := n) hR hd2 rD hAT.1 hn10 hxx) rfl ⟨by decide, rfl⟩ (by first | assumption | exact Nat.zero_lt_one | exact (show (15 : Nat) < 16 by decide) | exact Nat.lt_succ_of_lt (by assumption) | omega) rfl rfl (Nat.le_of_ble_eq_true rfl) ⟨by decide, by decide⟩ ⟨by decide, by decide⟩ (fun S' L' R' q => by obtain ⟨rfl, rfl, rfl⟩ := q; exact ⟨⟨FC.rf _, x, ph, h⟩, rfl⟩)
def rt_X8_notice : Room := { frames := 7, cells := 1, slots := 6, locals := 221 }
set_option maxHeartbeats 4000000 in
set_option maxRecDepth 100000 in
theorem c_X8_notice_t {l : Launch} {G : mG} {ad : mA} {S : mS} {L : mL} {R : mR} {T c N : NN} {d n B x u : Nat} {ph : Nat → Nat} {UR SR : Nat → NN} {sf : Nat → Nat} {y : Int32} {w : Int32} (hlf : l.stackTraces = false) (h : CS S R T c d n B x u ph N UR SR sf) (hxx : ¬ isP n y) : Kt l yX8_notice cX8_notice 3 (some .int) rt_X8_notice G ad mdm [.ref (ad 0 0), .int y, .int w] S L R eIO (fun S2 L2 R2 => CQ S S2 R2 T c d n B u N UR SR sf ∧ L = L2) := by
  refine Kt.of RX8 hlf (by decide) rfl (Nat.le_of_ble_eq_true rfl) ?_
  intro X hXl hXG C hTX
  subst hXl; subst hXG
  change Z X 3 ad mdm S L R 0 0 0 [(0, _), (1, _), (2, _)] []
  have hR := h.1
  obtain ⟨hP1, hP2, r5, r6, r7, r32, r33⟩ := h.2.1
  obtain ⟨hd2, rD, rE, hAT, hAC, hn10, hT⟩ := h.2.2.1
  obtain ⟨hx, hx10, hu, hu10⟩ := h.2.2.2.1
  obtain ⟨hB, hv1, hv2, hJ⟩ := h.2.2.2.2.1
  have hB31 := h.2.2.2.2.2.2.2
  have hI := hJ.1.1
  have hp0 : ph 0 < 15 := hP1 0 (by omega)
  have hp1 : ph 1 < 15 := hP1 1 (by omega)
  have hp2 : ph 2 < 15 := hP1 2 (by omega)
  have h10 : ph 1 ≠ ph 0 := h.ne (by omega) (by omega) (by omega)
  have h01 : ph 0 ≠ ph 1 := h.ne (by omega) (by omega) (by omega)
  have hd : d < 3 := by omega
  have hcn := hAT.1
  have hP := hB.2.2.2.2
  refine z_aload_n C 0 0 0 dX8_notice_0 rfl rfl ?_
  refine z_iload_n C 1 1 1 dX8_notice_1 rfl rfl ?_
  exact z_thV C hTX 2 dX8_notice_2 cv_X8_151 (c_X8_checkProgram_t hlf (d := d) (n := n) hR hd2 rD hAT.1 hn10 hxx) rfl ⟨by decide, rfl⟩ (by first | assumption | exact Nat.zero_lt_one | exact (show (15 : Nat) < 16 by decide) | exact Nat.lt_succ_of_lt (by assumption) | omega) rfl rfl (Nat.le_of_ble_eq_true rfl) ⟨by decide, by decide⟩ ⟨by decide, by decide⟩ (fun S' L' R' q => by obtain ⟨rfl, rfl, rfl⟩ := q; exact ⟨⟨FC.rf _, x, ph, h⟩, rfl⟩)
def rt_X8_followed : Room := { frames := 7, cells := 1, slots := 6, locals := 221 }
set_option maxHeartbeats 4000000 in
set_option maxRecDepth 100000 in
theorem c_X8_followed_t {l : Launch} {G : mG} {ad : mA} {S : mS} {L : mL} {R : mR} {T c N : NN} {d n B x u : Nat} {ph : Nat → Nat} {UR SR : Nat → NN} {sf : Nat → Nat} {y : Int32} {w : Int32} (hlf : l.stackTraces = false) (h : CS S R T c d n B x u ph N UR SR sf) (hxx : ¬ isP n y) : Kt l yX8_followed cX8_followed 3 (some .int) rt_X8_followed G ad mdm [.ref (ad 0 0), .int y, .int w] S L R eIO (fun S2 L2 R2 => CQ S S2 R2 T c d n B u N UR SR sf ∧ L = L2) := by
  refine Kt.of RX8 hlf (by decide) rfl (Nat.le_of_ble_eq_true rfl) ?_
  intro X hXl hXG C hTX
  subst hXl; subst hXG
  change Z X 3 ad mdm S L R 0 0 0 [(0, _), (1, _), (2, _)] []
  have hR := h.1
  obtain ⟨hP1, hP2, r5, r6, r7, r32, r33⟩ := h.2.1
  obtain ⟨hd2, rD, rE, hAT, hAC, hn10, hT⟩ := h.2.2.1
  obtain ⟨hx, hx10, hu, hu10⟩ := h.2.2.2.1
  obtain ⟨hB, hv1, hv2, hJ⟩ := h.2.2.2.2.1
  have hB31 := h.2.2.2.2.2.2.2
  have hI := hJ.1.1
  have hp0 : ph 0 < 15 := hP1 0 (by omega)
  have hp1 : ph 1 < 15 := hP1 1 (by omega)
  have hp2 : ph 2 < 15 := hP1 2 (by omega)
  have h10 : ph 1 ≠ ph 0 := h.ne (by omega) (by omega) (by omega)
  have h01 : ph 0 ≠ ph 1 := h.ne (by omega) (by omega) (by omega)
  have hd : d < 3 := by omega
  have hcn := hAT.1
  have hP := hB.2.2.2.2
  refine z_aload_n C 0 0 0 dX8_followed_0 rfl rfl ?_
  refine z_iload_n C 1 1 1 dX8_followed_1 rfl rfl ?_
  exact z_thV C hTX 2 dX8_followed_2 cv_X8_151 (c_X8_checkProgram_t hlf (d := d) (n := n) hR hd2 rD hAT.1 hn10 hxx) rfl ⟨by decide, rfl⟩ (by first | assumption | exact Nat.zero_lt_one | exact (show (15 : Nat) < 16 by decide) | exact Nat.lt_succ_of_lt (by assumption) | omega) rfl rfl (Nat.le_of_ble_eq_true rfl) ⟨by decide, by decide⟩ ⟨by decide, by decide⟩ (fun S' L' R' q => by obtain ⟨rfl, rfl, rfl⟩ := q; exact ⟨⟨FC.rf _, x, ph, h⟩, rfl⟩)
def rt_X8_stateAfter : Room := { frames := 7, cells := 1, slots := 6, locals := 221 }
set_option maxHeartbeats 4000000 in
set_option maxRecDepth 100000 in
theorem c_X8_stateAfter_t {l : Launch} {G : mG} {ad : mA} {S : mS} {L : mL} {R : mR} {T c N : NN} {d n B x u : Nat} {ph : Nat → Nat} {UR SR : Nat → NN} {sf : Nat → Nat} {y : Int32} {w : Int32} (hlf : l.stackTraces = false) (h : CS S R T c d n B x u ph N UR SR sf) (hxx : ¬ isP n y) : Kt l yX8_stateAfter cX8_stateAfter 3 (some .int) rt_X8_stateAfter G ad mdm [.ref (ad 0 0), .int y, .int w] S L R eIO (fun S2 L2 R2 => CQ S S2 R2 T c d n B u N UR SR sf ∧ L = L2) := by
  refine Kt.of RX8 hlf (by decide) rfl (Nat.le_of_ble_eq_true rfl) ?_
  intro X hXl hXG C hTX
  subst hXl; subst hXG
  change Z X 3 ad mdm S L R 0 0 0 [(0, _), (1, _), (2, _)] []
  have hR := h.1
  obtain ⟨hP1, hP2, r5, r6, r7, r32, r33⟩ := h.2.1
  obtain ⟨hd2, rD, rE, hAT, hAC, hn10, hT⟩ := h.2.2.1
  obtain ⟨hx, hx10, hu, hu10⟩ := h.2.2.2.1
  obtain ⟨hB, hv1, hv2, hJ⟩ := h.2.2.2.2.1
  have hB31 := h.2.2.2.2.2.2.2
  have hI := hJ.1.1
  have hp0 : ph 0 < 15 := hP1 0 (by omega)
  have hp1 : ph 1 < 15 := hP1 1 (by omega)
  have hp2 : ph 2 < 15 := hP1 2 (by omega)
  have h10 : ph 1 ≠ ph 0 := h.ne (by omega) (by omega) (by omega)
  have h01 : ph 0 ≠ ph 1 := h.ne (by omega) (by omega) (by omega)
  have hd : d < 3 := by omega
  have hcn := hAT.1
  have hP := hB.2.2.2.2
  refine z_aload_n C 0 0 0 dX8_stateAfter_0 rfl rfl ?_
  refine z_iload_n C 1 1 1 dX8_stateAfter_1 rfl rfl ?_
  exact z_thV C hTX 2 dX8_stateAfter_2 cv_X8_151 (c_X8_checkProgram_t hlf (d := d) (n := n) hR hd2 rD hAT.1 hn10 hxx) rfl ⟨by decide, rfl⟩ (by first | assumption | exact Nat.zero_lt_one | exact (show (15 : Nat) < 16 by decide) | exact Nat.lt_succ_of_lt (by assumption) | omega) rfl rfl (Nat.le_of_ble_eq_true rfl) ⟨by decide, by decide⟩ ⟨by decide, by decide⟩ (fun S' L' R' q => by obtain ⟨rfl, rfl, rfl⟩ := q; exact ⟨⟨FC.rf _, x, ph, h⟩, rfl⟩)

set_option maxHeartbeats 4000000 in
set_option maxRecDepth 100000 in
theorem c_X8_followed_t2 {l : Launch} {G : mG} {ad : mA} {S : mS} {L : mL} {R : mR} {T c N : NN} {d n B x u : Nat} {ph : Nat → Nat} {UR SR : Nat → NN} {sf : Nat → Nat} {p : Nat} {y : Int32} (hlf : l.stackTraces = false) (h : CS S R T c d n B x u ph N UR SR sf) (hp : p < n) (hxx : ¬ isP n y) : Kt l yX8_followed cX8_followed 3 (some .int) rt_X8_followed G ad mdm [.ref (ad 0 0), .int (nI p), .int y] S L R eIO (fun S2 L2 R2 => CQ S S2 R2 T c d n B u N UR SR sf ∧ L = L2) := by
  refine Kt.of RX8 hlf (by decide) rfl (Nat.le_of_ble_eq_true rfl) ?_
  intro X hXl hXG C hTX
  subst hXl; subst hXG
  change Z X 3 ad mdm S L R 0 0 0 [(0, _), (1, _), (2, _)] []
  have hR := h.1
  obtain ⟨hP1, hP2, r5, r6, r7, r32, r33⟩ := h.2.1
  obtain ⟨hd2, rD, rE, hAT, hAC, hn10, hT⟩ := h.2.2.1
  obtain ⟨hx, hx10, hu, hu10⟩ := h.2.2.2.1
  obtain ⟨hB, hv1, hv2, hJ⟩ := h.2.2.2.2.1
  have hB31 := h.2.2.2.2.2.2.2
  have hI := hJ.1.1
  have hp0 : ph 0 < 15 := hP1 0 (by omega)
  have hp1 : ph 1 < 15 := hP1 1 (by omega)
  have hp2 : ph 2 < 15 := hP1 2 (by omega)
  have h10 : ph 1 ≠ ph 0 := h.ne (by omega) (by omega) (by omega)
  have h01 : ph 0 ≠ ph 1 := h.ne (by omega) (by omega) (by omega)
  have hd : d < 3 := by omega
  have hcn := hAT.1
  have hP := hB.2.2.2.2
  refine z_aload_n C 0 0 0 dX8_followed_0 rfl rfl ?_
  refine z_iload_n C 1 1 1 dX8_followed_1 rfl rfl ?_
  refine z_cVv0 C 2 dX8_followed_2 cv_X8_151 (c_X8_checkProgram (d := d) (n := n) hR hd2 rD hAT.1 hn10 hp) rfl ⟨by decide, rfl⟩ (by first | assumption | exact Nat.zero_lt_one | exact (show (15 : Nat) < 16 by decide) | exact Nat.lt_succ_of_lt (by assumption) | omega) rfl rfl (Nat.le_of_ble_eq_true rfl) ⟨by decide, by decide⟩ ⟨rfl, rfl⟩ ⟨by decide, by decide⟩ ?_
  intro S2 L2 R2 p2
  obtain ⟨rfl, rfl, rfl⟩ := p2
  refine z_aload_n C 5 0 0 dX8_followed_5 rfl rfl ?_
  refine z_iload_n C 6 2 2 dX8_followed_6 rfl rfl ?_
  exact z_thV C hTX 7 dX8_followed_7 cv_X8_151 (c_X8_checkProgram_t hlf (d := d) (n := n) hR hd2 rD hAT.1 hn10 hxx) rfl ⟨by decide, rfl⟩ (by first | assumption | exact Nat.zero_lt_one | exact (show (15 : Nat) < 16 by decide) | exact Nat.lt_succ_of_lt (by assumption) | omega) rfl rfl (Nat.le_of_ble_eq_true rfl) ⟨by decide, by decide⟩ ⟨by decide, by decide⟩ (fun S' L' R' q => by obtain ⟨rfl, rfl, rfl⟩ := q; exact ⟨⟨FC.rf _, x, ph, h⟩, rfl⟩)

set_option maxHeartbeats 4000000 in
set_option maxRecDepth 100000 in
theorem c_X8_stateAfter_t2 {l : Launch} {G : mG} {ad : mA} {S : mS} {L : mL} {R : mR} {T c N : NN} {d n B x u : Nat} {ph : Nat → Nat} {UR SR : Nat → NN} {sf : Nat → Nat} {p : Nat} {y : Int32} (hlf : l.stackTraces = false) (h : CS S R T c d n B x u ph N UR SR sf) (hp : p < n) (hxx : ¬ isP n y) : Kt l yX8_stateAfter cX8_stateAfter 3 (some .int) rt_X8_stateAfter G ad mdm [.ref (ad 0 0), .int (nI p), .int y] S L R eIO (fun S2 L2 R2 => CQ S S2 R2 T c d n B u N UR SR sf ∧ L = L2) := by
  refine Kt.of RX8 hlf (by decide) rfl (Nat.le_of_ble_eq_true rfl) ?_
  intro X hXl hXG C hTX
  subst hXl; subst hXG
  change Z X 3 ad mdm S L R 0 0 0 [(0, _), (1, _), (2, _)] []
  have hR := h.1
  obtain ⟨hP1, hP2, r5, r6, r7, r32, r33⟩ := h.2.1
  obtain ⟨hd2, rD, rE, hAT, hAC, hn10, hT⟩ := h.2.2.1
  obtain ⟨hx, hx10, hu, hu10⟩ := h.2.2.2.1
  obtain ⟨hB, hv1, hv2, hJ⟩ := h.2.2.2.2.1
  have hB31 := h.2.2.2.2.2.2.2
  have hI := hJ.1.1
  have hp0 : ph 0 < 15 := hP1 0 (by omega)
  have hp1 : ph 1 < 15 := hP1 1 (by omega)
  have hp2 : ph 2 < 15 := hP1 2 (by omega)
  have h10 : ph 1 ≠ ph 0 := h.ne (by omega) (by omega) (by omega)
  have h01 : ph 0 ≠ ph 1 := h.ne (by omega) (by omega) (by omega)
  have hd : d < 3 := by omega
  have hcn := hAT.1
  have hP := hB.2.2.2.2
  refine z_aload_n C 0 0 0 dX8_stateAfter_0 rfl rfl ?_
  refine z_iload_n C 1 1 1 dX8_stateAfter_1 rfl rfl ?_
  refine z_cVv0 C 2 dX8_stateAfter_2 cv_X8_151 (c_X8_checkProgram (d := d) (n := n) hR hd2 rD hAT.1 hn10 hp) rfl ⟨by decide, rfl⟩ (by first | assumption | exact Nat.zero_lt_one | exact (show (15 : Nat) < 16 by decide) | exact Nat.lt_succ_of_lt (by assumption) | omega) rfl rfl (Nat.le_of_ble_eq_true rfl) ⟨by decide, by decide⟩ ⟨rfl, rfl⟩ ⟨by decide, by decide⟩ ?_
  intro S2 L2 R2 p2
  obtain ⟨rfl, rfl, rfl⟩ := p2
  refine z_aload_n C 5 0 0 dX8_stateAfter_5 rfl rfl ?_
  refine z_iload_n C 6 2 2 dX8_stateAfter_6 rfl rfl ?_
  exact z_thV C hTX 7 dX8_stateAfter_7 cv_X8_151 (c_X8_checkProgram_t hlf (d := d) (n := n) hR hd2 rD hAT.1 hn10 hxx) rfl ⟨by decide, rfl⟩ (by first | assumption | exact Nat.zero_lt_one | exact (show (15 : Nat) < 16 by decide) | exact Nat.lt_succ_of_lt (by assumption) | omega) rfl rfl (Nat.le_of_ble_eq_true rfl) ⟨by decide, by decide⟩ ⟨by decide, by decide⟩ (fun S' L' R' q => by obtain ⟨rfl, rfl, rfl⟩ := q; exact ⟨⟨FC.rf _, x, ph, h⟩, rfl⟩)
def rt_X8_victim : Room := { frames := 7, cells := 1, slots := 6, locals := 220 }
set_option maxHeartbeats 4000000 in
set_option maxRecDepth 100000 in
theorem c_X8_victim_t {l : Launch} {G : mG} {ad : mA} {S : mS} {L : mL} {R : mR} {T c N : NN} {d n B x u : Nat} {ph : Nat → Nat} {UR SR : Nat → NN} {sf : Nat → Nat} {y : Int32} (hlf : l.stackTraces = false) (h : CS S R T c d n B x u ph N UR SR sf) (hxx : ¬ isR 1 6 y) : Kt l yX8_victim cX8_victim 2 (some .int) rt_X8_victim G ad mdm [.ref (ad 0 0), .int y] S L R eIA (fun S2 L2 R2 => CQ S S2 R2 T c d n B u N UR SR sf ∧ L = L2) := by
  refine Kt.of RX8 hlf (by decide) rfl (Nat.le_of_ble_eq_true rfl) ?_
  intro X hXl hXG C hTX
  subst hXl; subst hXG
  change Z X 2 ad mdm S L R 0 0 0 [(0, _), (1, _)] []
  have hR := h.1
  obtain ⟨hP1, hP2, r5, r6, r7, r32, r33⟩ := h.2.1
  obtain ⟨hd2, rD, rE, hAT, hAC, hn10, hT⟩ := h.2.2.1
  obtain ⟨hx, hx10, hu, hu10⟩ := h.2.2.2.1
  obtain ⟨hB, hv1, hv2, hJ⟩ := h.2.2.2.2.1
  have hB31 := h.2.2.2.2.2.2.2
  have hI := hJ.1.1
  have hp0 : ph 0 < 15 := hP1 0 (by omega)
  have hp1 : ph 1 < 15 := hP1 1 (by omega)
  have hp2 : ph 2 < 15 := hP1 2 (by omega)
  have h10 : ph 1 ≠ ph 0 := h.ne (by omega) (by omega) (by omega)
  have h01 : ph 0 ≠ ph 1 := h.ne (by omega) (by omega) (by omega)
  have hd : d < 3 := by omega
  have hcn := hAT.1
  have hP := hB.2.2.2.2
  refine z_iload_n C 0 1 1 dX8_victim_0 rfl rfl ?_
  exact z_thS C hTX 1 dX8_victim_1 cs_X8_211 (c_X8_checkStep_t hlf hxx) rfl rfl (Nat.le_of_ble_eq_true rfl) ⟨by decide, by decide⟩ ⟨by decide, by decide⟩ (fun S' L' R' q => by obtain ⟨rfl, rfl, rfl⟩ := q; exact ⟨⟨FC.rf _, x, ph, h⟩, rfl⟩)
def rt_X8_freed : Room := { frames := 7, cells := 1, slots := 6, locals := 220 }
set_option maxHeartbeats 4000000 in
set_option maxRecDepth 100000 in
theorem c_X8_freed_t {l : Launch} {G : mG} {ad : mA} {S : mS} {L : mL} {R : mR} {T c N : NN} {d n B x u : Nat} {ph : Nat → Nat} {UR SR : Nat → NN} {sf : Nat → Nat} {y : Int32} (hlf : l.stackTraces = false) (h : CS S R T c d n B x u ph N UR SR sf) (hxx : ¬ isR 1 6 y) : Kt l yX8_freed cX8_freed 3 (some .int) rt_X8_freed G ad mdm [.ref (ad 0 0), .int y] S L R eIA (fun S2 L2 R2 => CQ S S2 R2 T c d n B u N UR SR sf ∧ L = L2) := by
  refine Kt.of RX8 hlf (by decide) rfl (Nat.le_of_ble_eq_true rfl) ?_
  intro X hXl hXG C hTX
  subst hXl; subst hXG
  change Z X 3 ad mdm S L R 0 0 0 [(0, _), (1, _)] []
  have hR := h.1
  obtain ⟨hP1, hP2, r5, r6, r7, r32, r33⟩ := h.2.1
  obtain ⟨hd2, rD, rE, hAT, hAC, hn10, hT⟩ := h.2.2.1
  obtain ⟨hx, hx10, hu, hu10⟩ := h.2.2.2.1
  obtain ⟨hB, hv1, hv2, hJ⟩ := h.2.2.2.2.1
  have hB31 := h.2.2.2.2.2.2.2
  have hI := hJ.1.1
  have hp0 : ph 0 < 15 := hP1 0 (by omega)
  have hp1 : ph 1 < 15 := hP1 1 (by omega)
  have hp2 : ph 2 < 15 := hP1 2 (by omega)
  have h10 : ph 1 ≠ ph 0 := h.ne (by omega) (by omega) (by omega)
  have h01 : ph 0 ≠ ph 1 := h.ne (by omega) (by omega) (by omega)
  have hd : d < 3 := by omega
  have hcn := hAT.1
  have hP := hB.2.2.2.2
  refine z_iload_n C 0 1 1 dX8_freed_0 rfl rfl ?_
  exact z_thS C hTX 1 dX8_freed_1 cs_X8_211 (c_X8_checkStep_t hlf hxx) rfl rfl (Nat.le_of_ble_eq_true rfl) ⟨by decide, by decide⟩ ⟨by decide, by decide⟩ (fun S' L' R' q => by obtain ⟨rfl, rfl, rfl⟩ := q; exact ⟨⟨FC.rf _, x, ph, h⟩, rfl⟩)
def rt_X8_waitsFor : Room := { frames := 7, cells := 1, slots := 6, locals := 221 }
set_option maxHeartbeats 4000000 in
set_option maxRecDepth 100000 in
theorem c_X8_waitsFor_t {l : Launch} {G : mG} {ad : mA} {S : mS} {L : mL} {R : mR} {T c N : NN} {d n B x u : Nat} {ph : Nat → Nat} {UR SR : Nat → NN} {sf : Nat → Nat} {y w z v : Int32} (hlf : l.stackTraces = false) (h : CS S R T c d n B x u ph N UR SR sf) (hxx : ¬ isP n y) : Kt l yX8_waitsFor cX8_waitsFor 5 (some .int) rt_X8_waitsFor G ad mdm [.ref (ad 0 0), .int w, .int y, .int z, .int v] S L R eIO (fun S2 L2 R2 => CQ S S2 R2 T c d n B u N UR SR sf ∧ L = L2) := by
  refine Kt.of RX8 hlf (by decide) rfl (Nat.le_of_ble_eq_true rfl) ?_
  intro X hXl hXG C hTX
  subst hXl; subst hXG
  change Z X 5 ad mdm S L R 0 0 0 [(0, _), (1, _), (2, _), (3, _), (4, _)] []
  have hR := h.1
  obtain ⟨hP1, hP2, r5, r6, r7, r32, r33⟩ := h.2.1
  obtain ⟨hd2, rD, rE, hAT, hAC, hn10, hT⟩ := h.2.2.1
  obtain ⟨hx, hx10, hu, hu10⟩ := h.2.2.2.1
  obtain ⟨hB, hv1, hv2, hJ⟩ := h.2.2.2.2.1
  have hB31 := h.2.2.2.2.2.2.2
  have hI := hJ.1.1
  have hp0 : ph 0 < 15 := hP1 0 (by omega)
  have hp1 : ph 1 < 15 := hP1 1 (by omega)
  have hp2 : ph 2 < 15 := hP1 2 (by omega)
  have h10 : ph 1 ≠ ph 0 := h.ne (by omega) (by omega) (by omega)
  have h01 : ph 0 ≠ ph 1 := h.ne (by omega) (by omega) (by omega)
  have hd : d < 3 := by omega
  have hcn := hAT.1
  have hP := hB.2.2.2.2
  refine z_aload_n C 0 0 0 dX8_waitsFor_0 rfl rfl ?_
  refine z_iload_n C 1 2 2 dX8_waitsFor_1 rfl rfl ?_
  exact z_thV C hTX 2 dX8_waitsFor_2 cv_X8_151 (c_X8_checkProgram_t hlf (d := d) (n := n) hR hd2 rD hAT.1 hn10 hxx) rfl ⟨by decide, rfl⟩ (by first | assumption | exact Nat.zero_lt_one | exact (show (15 : Nat) < 16 by decide) | exact Nat.lt_succ_of_lt (by assumption) | omega) rfl rfl (Nat.le_of_ble_eq_true rfl) ⟨by decide, by decide⟩ ⟨by decide, by decide⟩ (fun S' L' R' q => by obtain ⟨rfl, rfl, rfl⟩ := q; exact ⟨⟨FC.rf _, x, ph, h⟩, rfl⟩)

set_option maxHeartbeats 4000000 in
set_option maxRecDepth 100000 in
theorem c_X8_waitsFor_t2 {l : Launch} {G : mG} {ad : mA} {S : mS} {L : mL} {R : mR} {T c N : NN} {d n B x u : Nat} {ph : Nat → Nat} {UR SR : Nat → NN} {sf : Nat → Nat} {p : Nat} {y w v : Int32} (hlf : l.stackTraces = false) (h : CS S R T c d n B x u ph N UR SR sf) (hp : p < n) (hxx : ¬ isP n y) : Kt l yX8_waitsFor cX8_waitsFor 5 (some .int) rt_X8_waitsFor G ad mdm [.ref (ad 0 0), .int w, .int (nI p), .int y, .int v] S L R eIO (fun S2 L2 R2 => CQ S S2 R2 T c d n B u N UR SR sf ∧ L = L2) := by
  refine Kt.of RX8 hlf (by decide) rfl (Nat.le_of_ble_eq_true rfl) ?_
  intro X hXl hXG C hTX
  subst hXl; subst hXG
  change Z X 5 ad mdm S L R 0 0 0 [(0, _), (1, _), (2, _), (3, _), (4, _)] []
  have hR := h.1
  obtain ⟨hP1, hP2, r5, r6, r7, r32, r33⟩ := h.2.1
  obtain ⟨hd2, rD, rE, hAT, hAC, hn10, hT⟩ := h.2.2.1
  obtain ⟨hx, hx10, hu, hu10⟩ := h.2.2.2.1
  obtain ⟨hB, hv1, hv2, hJ⟩ := h.2.2.2.2.1
  have hB31 := h.2.2.2.2.2.2.2
  have hI := hJ.1.1
  have hp0 : ph 0 < 15 := hP1 0 (by omega)
  have hp1 : ph 1 < 15 := hP1 1 (by omega)
  have hp2 : ph 2 < 15 := hP1 2 (by omega)
  have h10 : ph 1 ≠ ph 0 := h.ne (by omega) (by omega) (by omega)
  have h01 : ph 0 ≠ ph 1 := h.ne (by omega) (by omega) (by omega)
  have hd : d < 3 := by omega
  have hcn := hAT.1
  have hP := hB.2.2.2.2
  refine z_aload_n C 0 0 0 dX8_waitsFor_0 rfl rfl ?_
  refine z_iload_n C 1 2 2 dX8_waitsFor_1 rfl rfl ?_
  refine z_cVv0 C 2 dX8_waitsFor_2 cv_X8_151 (c_X8_checkProgram (d := d) (n := n) hR hd2 rD hAT.1 hn10 hp) rfl ⟨by decide, rfl⟩ (by first | assumption | exact Nat.zero_lt_one | exact (show (15 : Nat) < 16 by decide) | exact Nat.lt_succ_of_lt (by assumption) | omega) rfl rfl (Nat.le_of_ble_eq_true rfl) ⟨by decide, by decide⟩ ⟨rfl, rfl⟩ ⟨by decide, by decide⟩ ?_
  intro S2 L2 R2 p2
  obtain ⟨rfl, rfl, rfl⟩ := p2
  refine z_aload_n C 5 0 0 dX8_waitsFor_5 rfl rfl ?_
  refine z_iload_n C 6 3 3 dX8_waitsFor_6 rfl rfl ?_
  exact z_thV C hTX 7 dX8_waitsFor_7 cv_X8_151 (c_X8_checkProgram_t hlf (d := d) (n := n) hR hd2 rD hAT.1 hn10 hxx) rfl ⟨by decide, rfl⟩ (by first | assumption | exact Nat.zero_lt_one | exact (show (15 : Nat) < 16 by decide) | exact Nat.lt_succ_of_lt (by assumption) | omega) rfl rfl (Nat.le_of_ble_eq_true rfl) ⟨by decide, by decide⟩ ⟨by decide, by decide⟩ (fun S' L' R' q => by obtain ⟨rfl, rfl, rfl⟩ := q; exact ⟨⟨FC.rf _, x, ph, h⟩, rfl⟩)

set_option maxHeartbeats 4000000 in
set_option maxRecDepth 100000 in
theorem c_X8_waitsFor_t3 {l : Launch} {G : mG} {ad : mA} {S : mS} {L : mL} {R : mR} {T c N : NN} {d n B x u : Nat} {ph : Nat → Nat} {UR SR : Nat → NN} {sf : Nat → Nat} {p q : Nat} {y w : Int32} (hlf : l.stackTraces = false) (h : CS S R T c d n B x u ph N UR SR sf) (hp : p < n) (hpp2 : q < n) (hxx : ¬ isP n y) : Kt l yX8_waitsFor cX8_waitsFor 5 (some .int) rt_X8_waitsFor G ad mdm [.ref (ad 0 0), .int w, .int (nI p), .int (nI q), .int y] S L R eIO (fun S2 L2 R2 => CQ S S2 R2 T c d n B u N UR SR sf ∧ L = L2) := by
  refine Kt.of RX8 hlf (by decide) rfl (Nat.le_of_ble_eq_true rfl) ?_
  intro X hXl hXG C hTX
  subst hXl; subst hXG
  change Z X 5 ad mdm S L R 0 0 0 [(0, _), (1, _), (2, _), (3, _), (4, _)] []
  have hR := h.1
  obtain ⟨hP1, hP2, r5, r6, r7, r32, r33⟩ := h.2.1
  obtain ⟨hd2, rD, rE, hAT, hAC, hn10, hT⟩ := h.2.2.1
  obtain ⟨hx, hx10, hu, hu10⟩ := h.2.2.2.1
  obtain ⟨hB, hv1, hv2, hJ⟩ := h.2.2.2.2.1
  have hB31 := h.2.2.2.2.2.2.2
  have hI := hJ.1.1
  have hp0 : ph 0 < 15 := hP1 0 (by omega)
  have hp1 : ph 1 < 15 := hP1 1 (by omega)
  have hp2 : ph 2 < 15 := hP1 2 (by omega)
  have h10 : ph 1 ≠ ph 0 := h.ne (by omega) (by omega) (by omega)
  have h01 : ph 0 ≠ ph 1 := h.ne (by omega) (by omega) (by omega)
  have hd : d < 3 := by omega
  have hcn := hAT.1
  have hP := hB.2.2.2.2
  refine z_aload_n C 0 0 0 dX8_waitsFor_0 rfl rfl ?_
  refine z_iload_n C 1 2 2 dX8_waitsFor_1 rfl rfl ?_
  refine z_cVv0 C 2 dX8_waitsFor_2 cv_X8_151 (c_X8_checkProgram (d := d) (n := n) hR hd2 rD hAT.1 hn10 hp) rfl ⟨by decide, rfl⟩ (by first | assumption | exact Nat.zero_lt_one | exact (show (15 : Nat) < 16 by decide) | exact Nat.lt_succ_of_lt (by assumption) | omega) rfl rfl (Nat.le_of_ble_eq_true rfl) ⟨by decide, by decide⟩ ⟨rfl, rfl⟩ ⟨by decide, by decide⟩ ?_
  intro S2 L2 R2 p2
  obtain ⟨rfl, rfl, rfl⟩ := p2
  refine z_aload_n C 5 0 0 dX8_waitsFor_5 rfl rfl ?_
  refine z_iload_n C 6 3 3 dX8_waitsFor_6 rfl rfl ?_
  refine z_cVv0 C 7 dX8_waitsFor_7 cv_X8_151 (c_X8_checkProgram (d := d) (n := n) hR hd2 rD hAT.1 hn10 hpp2) rfl ⟨by decide, rfl⟩ (by first | assumption | exact Nat.zero_lt_one | exact (show (15 : Nat) < 16 by decide) | exact Nat.lt_succ_of_lt (by assumption) | omega) rfl rfl (Nat.le_of_ble_eq_true rfl) ⟨by decide, by decide⟩ ⟨rfl, rfl⟩ ⟨by decide, by decide⟩ ?_
  intro S7 L7 R7 p7
  obtain ⟨rfl, rfl, rfl⟩ := p7
  refine z_aload_n C 10 0 0 dX8_waitsFor_10 rfl rfl ?_
  refine z_iload C 11 4 4 dX8_waitsFor_11 rfl ?_
  exact z_thV C hTX 13 dX8_waitsFor_13 cv_X8_151 (c_X8_checkProgram_t hlf (d := d) (n := n) hR hd2 rD hAT.1 hn10 hxx) rfl ⟨by decide, rfl⟩ (by first | assumption | exact Nat.zero_lt_one | exact (show (15 : Nat) < 16 by decide) | exact Nat.lt_succ_of_lt (by assumption) | omega) rfl rfl (Nat.le_of_ble_eq_true rfl) ⟨by decide, by decide⟩ ⟨by decide, by decide⟩ (fun S' L' R' q => by obtain ⟨rfl, rfl, rfl⟩ := q; exact ⟨⟨FC.rf _, x, ph, h⟩, rfl⟩)

set_option maxHeartbeats 4000000 in
set_option maxRecDepth 100000 in
theorem c_X8_waitsFor_t4 {l : Launch} {G : mG} {ad : mA} {S : mS} {L : mL} {R : mR} {T c N : NN} {d n B x u : Nat} {ph : Nat → Nat} {UR SR : Nat → NN} {sf : Nat → Nat} {p q r : Nat} {y : Int32} (hlf : l.stackTraces = false) (h : CS S R T c d n B x u ph N UR SR sf) (hp : p < n) (hpp2 : q < n) (hpp3 : r < n) (hxx : ¬ isR 0 2 y) : Kt l yX8_waitsFor cX8_waitsFor 5 (some .int) rt_X8_waitsFor G ad mdm [.ref (ad 0 0), .int y, .int (nI p), .int (nI q), .int (nI r)] S L R eIA (fun S2 L2 R2 => CQ S S2 R2 T c d n B u N UR SR sf ∧ L = L2) := by
  refine Kt.of RX8 hlf (by decide) rfl (Nat.le_of_ble_eq_true rfl) ?_
  intro X hXl hXG C hTX
  subst hXl; subst hXG
  change Z X 5 ad mdm S L R 0 0 0 [(0, _), (1, _), (2, _), (3, _), (4, _)] []
  have hR := h.1
  obtain ⟨hP1, hP2, r5, r6, r7, r32, r33⟩ := h.2.1
  obtain ⟨hd2, rD, rE, hAT, hAC, hn10, hT⟩ := h.2.2.1
  obtain ⟨hx, hx10, hu, hu10⟩ := h.2.2.2.1
  obtain ⟨hB, hv1, hv2, hJ⟩ := h.2.2.2.2.1
  have hB31 := h.2.2.2.2.2.2.2
  have hI := hJ.1.1
  have hp0 : ph 0 < 15 := hP1 0 (by omega)
  have hp1 : ph 1 < 15 := hP1 1 (by omega)
  have hp2 : ph 2 < 15 := hP1 2 (by omega)
  have h10 : ph 1 ≠ ph 0 := h.ne (by omega) (by omega) (by omega)
  have h01 : ph 0 ≠ ph 1 := h.ne (by omega) (by omega) (by omega)
  have hd : d < 3 := by omega
  have hcn := hAT.1
  have hP := hB.2.2.2.2
  refine z_aload_n C 0 0 0 dX8_waitsFor_0 rfl rfl ?_
  refine z_iload_n C 1 2 2 dX8_waitsFor_1 rfl rfl ?_
  refine z_cVv0 C 2 dX8_waitsFor_2 cv_X8_151 (c_X8_checkProgram (d := d) (n := n) hR hd2 rD hAT.1 hn10 hp) rfl ⟨by decide, rfl⟩ (by first | assumption | exact Nat.zero_lt_one | exact (show (15 : Nat) < 16 by decide) | exact Nat.lt_succ_of_lt (by assumption) | omega) rfl rfl (Nat.le_of_ble_eq_true rfl) ⟨by decide, by decide⟩ ⟨rfl, rfl⟩ ⟨by decide, by decide⟩ ?_
  intro S2 L2 R2 p2
  obtain ⟨rfl, rfl, rfl⟩ := p2
  refine z_aload_n C 5 0 0 dX8_waitsFor_5 rfl rfl ?_
  refine z_iload_n C 6 3 3 dX8_waitsFor_6 rfl rfl ?_
  refine z_cVv0 C 7 dX8_waitsFor_7 cv_X8_151 (c_X8_checkProgram (d := d) (n := n) hR hd2 rD hAT.1 hn10 hpp2) rfl ⟨by decide, rfl⟩ (by first | assumption | exact Nat.zero_lt_one | exact (show (15 : Nat) < 16 by decide) | exact Nat.lt_succ_of_lt (by assumption) | omega) rfl rfl (Nat.le_of_ble_eq_true rfl) ⟨by decide, by decide⟩ ⟨rfl, rfl⟩ ⟨by decide, by decide⟩ ?_
  intro S7 L7 R7 p7
  obtain ⟨rfl, rfl, rfl⟩ := p7
  refine z_aload_n C 10 0 0 dX8_waitsFor_10 rfl rfl ?_
  refine z_iload C 11 4 4 dX8_waitsFor_11 rfl ?_
  refine z_cVv0 C 13 dX8_waitsFor_13 cv_X8_151 (c_X8_checkProgram (d := d) (n := n) hR hd2 rD hAT.1 hn10 hpp3) rfl ⟨by decide, rfl⟩ (by first | assumption | exact Nat.zero_lt_one | exact (show (15 : Nat) < 16 by decide) | exact Nat.lt_succ_of_lt (by assumption) | omega) rfl rfl (Nat.le_of_ble_eq_true rfl) ⟨by decide, by decide⟩ ⟨rfl, rfl⟩ ⟨by decide, by decide⟩ ?_
  intro S13 L13 R13 p13
  obtain ⟨rfl, rfl, rfl⟩ := p13
  refine z_iload_n C 16 1 1 dX8_waitsFor_16 rfl rfl ?_
  exact z_thS C hTX 17 dX8_waitsFor_17 cs_X8_241 (c_X8_checkPolicy_t hlf hxx) rfl rfl (Nat.le_of_ble_eq_true rfl) ⟨by decide, by decide⟩ ⟨by decide, by decide⟩ (fun S' L' R' q => by obtain ⟨rfl, rfl, rfl⟩ := q; exact ⟨⟨FC.rf _, x, ph, h⟩, rfl⟩)
def rt_X8_log : Room := { frames := 6, cells := 1, slots := 6, locals := 200 }
set_option maxHeartbeats 4000000 in
set_option maxRecDepth 100000 in
theorem c_X8_log_t {l : Launch} {G : mG} {ad : mA} {S : mS} {L : mL} {R : mR} {T c N : NN} {d n B x u : Nat} {ph : Nat → Nat} {UR SR : Nat → NN} {sf : Nat → Nat} {y w : Int32} (hlf : l.stackTraces = false) (h : CS S R T c d n B x u ph N UR SR sf) (hxx : ¬ isP 3 y) : Kt l yX8_log cX8_log 3 (some .int) rt_X8_log G ad mdm [.ref (ad 0 0), .int w, .int y] S L R eIA (fun S2 L2 R2 => CQ S S2 R2 T c d n B u N UR SR sf ∧ L = L2) := by
  refine Kt.of RX8 hlf (by decide) rfl (Nat.le_of_ble_eq_true rfl) ?_
  intro X hXl hXG C hTX
  subst hXl; subst hXG
  change Z X 3 ad mdm S L R 0 0 0 [(0, _), (1, _), (2, _)] []
  have hR := h.1
  obtain ⟨hP1, hP2, r5, r6, r7, r32, r33⟩ := h.2.1
  obtain ⟨hd2, rD, rE, hAT, hAC, hn10, hT⟩ := h.2.2.1
  obtain ⟨hx, hx10, hu, hu10⟩ := h.2.2.2.1
  obtain ⟨hB, hv1, hv2, hJ⟩ := h.2.2.2.2.1
  have hB31 := h.2.2.2.2.2.2.2
  have hI := hJ.1.1
  have hp0 : ph 0 < 15 := hP1 0 (by omega)
  have hp1 : ph 1 < 15 := hP1 1 (by omega)
  have hp2 : ph 2 < 15 := hP1 2 (by omega)
  have h10 : ph 1 ≠ ph 0 := h.ne (by omega) (by omega) (by omega)
  have h01 : ph 0 ≠ ph 1 := h.ne (by omega) (by omega) (by omega)
  have hd : d < 3 := by omega
  have hcn := hAT.1
  have hP := hB.2.2.2.2
  refine z_iload_n C 0 2 2 dX8_log_0 rfl rfl ?_
  refine z_if_lt C 1 9 dX8_log_1 (by decide) (fun h1 => ?_) (fun h1 => ?_)
  · exact z_thr C hTX 9 (ik := 74) (is := 254) (ic := 78) (n := 15) (tx := "no such part") (List.mem_cons_self) tk_74 ti_eIA (List.mem_of_getElem? (i := 23) rfl) dX8_log_9 dX8_log_12 dX8_log_13 dX8_log_15 dX8_log_18 ⟨by decide, by decide⟩ ⟨by decide, by decide⟩ (⟨⟨FC.rf _, x, ph, h⟩, rfl⟩)
  · refine z_iload_n C 4 2 2 dX8_log_4 rfl rfl ?_
    refine z_iconst (v := nI 3) C 5 dX8_log_5 (by decide) ?_
    first | with_reducible refine z_icmp_ltN C 6 19 dX8_log_6 (by decide) (by omega) (by omega) (fun h6 => (isP_R hxx h1 h6 (by decide)).elim) (fun h6 => ?_) | refine z_icmp_lt C 6 19 dX8_log_6 (by decide) (fun h6 => (isP_R hxx h1 h6 (by decide)).elim) (fun h6 => ?_)
    · exact z_thr C hTX 9 (ik := 74) (is := 254) (ic := 78) (n := 15) (tx := "no such part") (List.mem_cons_self) tk_74 ti_eIA (List.mem_of_getElem? (i := 23) rfl) dX8_log_9 dX8_log_12 dX8_log_13 dX8_log_15 dX8_log_18 ⟨by decide, by decide⟩ ⟨by decide, by decide⟩ (⟨⟨FC.rf _, x, ph, h⟩, rfl⟩)
def rt_X8_account : Room := { frames := 6, cells := 1, slots := 6, locals := 200 }
set_option maxHeartbeats 4000000 in
set_option maxRecDepth 100000 in
theorem c_X8_account_t {l : Launch} {G : mG} {ad : mA} {S : mS} {L : mL} {R : mR} {T c N : NN} {d n B x u : Nat} {ph : Nat → Nat} {UR SR : Nat → NN} {sf : Nat → Nat} {y : Int32} (hlf : l.stackTraces = false) (h : CS S R T c d n B x u ph N UR SR sf) (hxx : ¬ isR 1 9 y) : Kt l yX8_account cX8_account 2 (some .int) rt_X8_account G ad mdm [.ref (ad 0 0), .int y] S L R eIA (fun S2 L2 R2 => CQ S S2 R2 T c d n B u N UR SR sf ∧ L = L2) := by
  refine Kt.of RX8 hlf (by decide) rfl (Nat.le_of_ble_eq_true rfl) ?_
  intro X hXl hXG C hTX
  subst hXl; subst hXG
  change Z X 2 ad mdm S L R 0 0 0 [(0, _), (1, _)] []
  have hR := h.1
  obtain ⟨hP1, hP2, r5, r6, r7, r32, r33⟩ := h.2.1
  obtain ⟨hd2, rD, rE, hAT, hAC, hn10, hT⟩ := h.2.2.1
  obtain ⟨hx, hx10, hu, hu10⟩ := h.2.2.2.1
  obtain ⟨hB, hv1, hv2, hJ⟩ := h.2.2.2.2.1
  have hB31 := h.2.2.2.2.2.2.2
  have hI := hJ.1.1
  have hp0 : ph 0 < 15 := hP1 0 (by omega)
  have hp1 : ph 1 < 15 := hP1 1 (by omega)
  have hp2 : ph 2 < 15 := hP1 2 (by omega)
  have h10 : ph 1 ≠ ph 0 := h.ne (by omega) (by omega) (by omega)
  have h01 : ph 0 ≠ ph 1 := h.ne (by omega) (by omega) (by omega)
  have hd : d < 3 := by omega
  have hcn := hAT.1
  have hP := hB.2.2.2.2
  refine z_iload_n C 0 1 1 dX8_account_0 rfl rfl ?_
  refine z_iconst (v := nI 1) C 1 dX8_account_1 (by decide) ?_
  first | with_reducible refine z_icmp_ltN C 2 11 dX8_account_2 (by decide) (by omega) (by omega) (fun h2 => ?_) (fun h2 => ?_) | refine z_icmp_lt C 2 11 dX8_account_2 (by decide) (fun h2 => ?_) (fun h2 => ?_)
  · exact z_thrW C hTX 11 (ik := 74) (is := 259) (ic := 78) (n := 16) (tx := "no such kind") (List.mem_cons_self) tk_74 ti_eIA (List.mem_of_getElem? (i := 24) rfl) dX8_account_11 dX8_account_14 dX8_account_15 dX8_account_18 dX8_account_21 ⟨by decide, by decide⟩ ⟨by decide, by decide⟩ (⟨⟨FC.rf _, x, ph, h⟩, rfl⟩)
  · refine z_iload_n C 5 1 1 dX8_account_5 rfl rfl ?_
    refine z_bipush (v := nI 9) C 6 dX8_account_6 (by decide +kernel) ?_
    first | with_reducible refine z_icmp_leN C 8 22 dX8_account_8 (by decide) (by omega) (by omega) (fun h8 => (isR_0 hxx (by decide) (by decide) h2 (Int32.not_lt.mpr h8)).elim) (fun h8 => ?_) | refine z_icmp_le C 8 22 dX8_account_8 (by decide) (fun h8 => (isR_0 hxx (by decide) (by decide) h2 (Int32.not_lt.mpr h8)).elim) (fun h8 => ?_)
    · exact z_thrW C hTX 11 (ik := 74) (is := 259) (ic := 78) (n := 16) (tx := "no such kind") (List.mem_cons_self) tk_74 ti_eIA (List.mem_of_getElem? (i := 24) rfl) dX8_account_11 dX8_account_14 dX8_account_15 dX8_account_18 dX8_account_21 ⟨by decide, by decide⟩ ⟨by decide, by decide⟩ (⟨⟨FC.rf _, x, ph, h⟩, rfl⟩)
def rt_X8_show : Room := { frames := 7, cells := 1, slots := 6, locals := 221 }
set_option maxHeartbeats 4000000 in
set_option maxRecDepth 100000 in
theorem c_X8_show_t {l : Launch} {G : mG} {ad : mA} {S : mS} {L : mL} {R : mR} {T c N : NN} {d n B x u : Nat} {ph : Nat → Nat} {UR SR : Nat → NN} {sf : Nat → Nat} {y : Int32} (hlf : l.stackTraces = false) (h : CS S R T c d n B x u ph N UR SR sf) (hxx : ¬ isP n y) : Kt l yX8_show cX8_show 3 (some .int) rt_X8_show G ad mdm [.ref (ad 0 0), .int y] S L R eIO (fun S2 L2 R2 => CQ S S2 R2 T c d n B u N UR SR sf ∧ L = L2) := by
  refine Kt.of RX8 hlf (by decide) rfl (Nat.le_of_ble_eq_true rfl) ?_
  intro X hXl hXG C hTX
  subst hXl; subst hXG
  change Z X 3 ad mdm S L R 0 0 0 [(0, _), (1, _)] []
  have hR := h.1
  obtain ⟨hP1, hP2, r5, r6, r7, r32, r33⟩ := h.2.1
  obtain ⟨hd2, rD, rE, hAT, hAC, hn10, hT⟩ := h.2.2.1
  obtain ⟨hx, hx10, hu, hu10⟩ := h.2.2.2.1
  obtain ⟨hB, hv1, hv2, hJ⟩ := h.2.2.2.2.1
  have hB31 := h.2.2.2.2.2.2.2
  have hI := hJ.1.1
  have hp0 : ph 0 < 15 := hP1 0 (by omega)
  have hp1 : ph 1 < 15 := hP1 1 (by omega)
  have hp2 : ph 2 < 15 := hP1 2 (by omega)
  have h10 : ph 1 ≠ ph 0 := h.ne (by omega) (by omega) (by omega)
  have h01 : ph 0 ≠ ph 1 := h.ne (by omega) (by omega) (by omega)
  have hd : d < 3 := by omega
  have hcn := hAT.1
  have hP := hB.2.2.2.2
  refine z_aload_n C 0 0 0 dX8_show_0 rfl rfl ?_
  refine z_iload_n C 1 1 1 dX8_show_1 rfl rfl ?_
  exact z_thV C hTX 2 dX8_show_2 cv_X8_151 (c_X8_checkProgram_t hlf (d := d) (n := n) hR hd2 rD hAT.1 hn10 hxx) rfl ⟨by decide, rfl⟩ (by first | assumption | exact Nat.zero_lt_one | exact (show (15 : Nat) < 16 by decide) | exact Nat.lt_succ_of_lt (by assumption) | omega) rfl rfl (Nat.le_of_ble_eq_true rfl) ⟨by decide, by decide⟩ ⟨by decide, by decide⟩ (fun S' L' R' q => by obtain ⟨rfl, rfl, rfl⟩ := q; exact ⟨⟨FC.rf _, x, ph, h⟩, rfl⟩)

set_option maxHeartbeats 4000000 in
set_option maxRecDepth 100000 in
theorem c_X8_show_t2 {l : Launch} {G : mG} {ad : mA} {S : mS} {L : mL} {R : mR} {T c N : NN} {d n B x u : Nat} {ph : Nat → Nat} {UR SR : Nat → NN} {sf : Nat → Nat} {p : Nat} (hlf : l.stackTraces = false) (h : CS S R T c d n B x u ph N UR SR sf) (hp : p < n) (hn1 : ¬ fo N p 0 = nI 1) (hno : fShow N T c n p = none) : Kt l yX8_show cX8_show 3 (some .int) rt_X8_show G ad mdm [.ref (ad 0 0), .int (nI p)] S L R eIS (fun S2 L2 R2 => CQ S S2 R2 T c d n B u N UR SR sf ∧ L = L2) := by
  refine Kt.of RX8 hlf (by decide) rfl (Nat.le_of_ble_eq_true rfl) ?_
  intro X hXl hXG C hTX
  subst hXl; subst hXG
  change Z X 3 ad mdm S L R 0 0 0 [(0, _), (1, _)] []
  have hR := h.1
  obtain ⟨hP1, hP2, r5, r6, r7, r32, r33⟩ := h.2.1
  obtain ⟨hd2, rD, rE, hAT, hAC, hn10, hT⟩ := h.2.2.1
  obtain ⟨hx, hx10, hu, hu10⟩ := h.2.2.2.1
  obtain ⟨hB, hv1, hv2, hJ⟩ := h.2.2.2.2.1
  have hB31 := h.2.2.2.2.2.2.2
  have hI := hJ.1.1
  have hp0 : ph 0 < 15 := hP1 0 (by omega)
  have hp1 : ph 1 < 15 := hP1 1 (by omega)
  have hp2 : ph 2 < 15 := hP1 2 (by omega)
  have h10 : ph 1 ≠ ph 0 := h.ne (by omega) (by omega) (by omega)
  have h01 : ph 0 ≠ ph 1 := h.ne (by omega) (by omega) (by omega)
  have hd : d < 3 := by omega
  have hcn := hAT.1
  have hP := hB.2.2.2.2
  refine z_aload_n C 0 0 0 dX8_show_0 rfl rfl ?_
  refine z_iload_n C 1 1 1 dX8_show_1 rfl rfl ?_
  refine z_cVv0 C 2 dX8_show_2 cv_X8_151 (c_X8_checkProgram (d := d) (n := n) hR hd2 rD hAT.1 hn10 hp) rfl ⟨by decide, rfl⟩ (by first | assumption | exact Nat.zero_lt_one | exact (show (15 : Nat) < 16 by decide) | exact Nat.lt_succ_of_lt (by assumption) | omega) rfl rfl (Nat.le_of_ble_eq_true rfl) ⟨by decide, by decide⟩ ⟨rfl, rfl⟩ ⟨by decide, by decide⟩ ?_
  intro S2 L2 R2 p2
  obtain ⟨rfl, rfl, rfl⟩ := p2
  refine z_aload_n C 5 0 0 dX8_show_5 rfl rfl ?_
  refine z_getr C 6 dX8_show_6 gf_X8_42 rfl (by first | assumption | exact Nat.zero_lt_one | exact (show (15 : Nat) < 16 by decide) | exact Nat.lt_succ_of_lt (by assumption) | omega) (by first | exact hRb _ _ _ _ rfl | exact hR2 _ _ _ _ rfl | exact hR _ _ _ _ rfl | assumption) ?_
  refine z_iload_n C 9 1 1 dX8_show_9 rfl rfl ?_
  refine z_cVi0 C 10 dX8_show_10 cv_X8_223 (c_X4_waitFor (N := N) (T := T) (c := c) (n := n) (d := d) hR hp0 hd hv1 hv2 hAT hn10 hI hB hAC (by omega)) rfl ⟨by decide, rfl⟩ (by first | assumption | exact Nat.zero_lt_one | exact (show (15 : Nat) < 16 by decide) | exact Nat.lt_succ_of_lt (by assumption) | omega) rfl rfl (Nat.le_of_ble_eq_true rfl) ⟨by decide, by decide⟩ ⟨rfl, rfl⟩ ⟨by decide, by decide⟩ ?_
  intro r10 S10 L10 R10 p10
  obtain ⟨rfl, rfl, rfl, rfl⟩ := p10
  refine z_istore_n C 13 2 [(2, _), (0, _), (1, _)] dX8_show_13 rfl (by decide) rfl ?_
  refine z_aload_n C 14 0 1 dX8_show_14 rfl rfl ?_
  refine z_iload_n C 15 1 2 dX8_show_15 rfl rfl ?_
  refine z_cVi0 C 16 dX8_show_16 cv_X8_226 (c_X8_triedShowing (p := p) h hp) rfl ⟨by decide, rfl⟩ (by first | assumption | exact Nat.zero_lt_one | exact (show (15 : Nat) < 16 by decide) | exact Nat.lt_succ_of_lt (by assumption) | omega) rfl rfl (Nat.le_of_ble_eq_true rfl) ⟨by decide, by decide⟩ ⟨rfl, rfl⟩ ⟨by decide, by decide⟩ ?_
  intro r16 S16 L16 R16 p16
  obtain ⟨ht, ⟨hF16, h16⟩, rfl⟩ := p16
  first | with_reducible refine z_if_neB C 19 33 dX8_show_19 (by decide) (fun h19 => (by exfalso; rcases ht with ⟨-, M, -, ⟨z, -⟩ | ⟨-, m, z⟩⟩ | ⟨z, -⟩ <;> first | exact hn1 z | (rw [hno] at z; cases z) | exact h19 (by rw [z]; rfl))) (fun h19 => ?_) | with_reducible refine z_if_neN C 19 33 dX8_show_19 (by decide) (by omega) (fun h19 => (by exfalso; rcases ht with ⟨-, M, -, ⟨z, -⟩ | ⟨-, m, z⟩⟩ | ⟨z, -⟩ <;> first | exact hn1 z | (rw [hno] at z; cases z) | exact h19 (by rw [z]; rfl))) (fun h19 => ?_) | refine z_if_ne C 19 33 dX8_show_19 (by decide) (fun h19 => (by exfalso; rcases ht with ⟨-, M, -, ⟨z, -⟩ | ⟨-, m, z⟩⟩ | ⟨z, -⟩ <;> first | exact hn1 z | (rw [hno] at z; cases z) | exact h19 (by rw [z]; rfl))) (fun h19 => ?_)
  · exact z_thrW C hTX 22 (ik := 268) (is := 270) (ic := 272) (n := 17) (tx := "not enough memory") (List.mem_cons_of_mem _ (List.mem_cons_of_mem _ List.mem_cons_self)) tk_268 ti_eIS (List.mem_of_getElem? (i := 25) rfl) dX8_show_22 dX8_show_25 dX8_show_26 dX8_show_29 dX8_show_32 ⟨by decide, by decide⟩ ⟨by decide, by decide⟩ (⟨⟨hF16, x, ph, h16⟩, rfl⟩)
def rt_X8_pass : Room := { frames := 6, cells := 1, slots := 6, locals := 200 }
set_option maxHeartbeats 4000000 in
set_option maxRecDepth 100000 in
theorem c_X8_pass_t {l : Launch} {G : mG} {ad : mA} {S : mS} {L : mL} {R : mR} {T c N : NN} {d n B x u : Nat} {ph : Nat → Nat} {UR SR : Nat → NN} {sf : Nat → Nat} {y : Int32} (hlf : l.stackTraces = false) (h : CS S R T c d n B x u ph N UR SR sf) (hxx : ¬ isR 1 240 y) : Kt l yX8_pass cX8_pass 4 (some .int) rt_X8_pass G ad mdm [.ref (ad 0 0), .int y] S L R eIA (fun S2 L2 R2 => CQ S S2 R2 T c d n B u N UR SR sf ∧ L = L2) := by
  refine Kt.of RX8 hlf (by decide) rfl (Nat.le_of_ble_eq_true rfl) ?_
  intro X hXl hXG C hTX
  subst hXl; subst hXG
  change Z X 4 ad mdm S L R 0 0 0 [(0, _), (1, _)] []
  have hR := h.1
  obtain ⟨hP1, hP2, r5, r6, r7, r32, r33⟩ := h.2.1
  obtain ⟨hd2, rD, rE, hAT, hAC, hn10, hT⟩ := h.2.2.1
  obtain ⟨hx, hx10, hu, hu10⟩ := h.2.2.2.1
  obtain ⟨hB, hv1, hv2, hJ⟩ := h.2.2.2.2.1
  have hB31 := h.2.2.2.2.2.2.2
  have hI := hJ.1.1
  have hp0 : ph 0 < 15 := hP1 0 (by omega)
  have hp1 : ph 1 < 15 := hP1 1 (by omega)
  have hp2 : ph 2 < 15 := hP1 2 (by omega)
  have h10 : ph 1 ≠ ph 0 := h.ne (by omega) (by omega) (by omega)
  have h01 : ph 0 ≠ ph 1 := h.ne (by omega) (by omega) (by omega)
  have hd : d < 3 := by omega
  have hcn := hAT.1
  have hP := hB.2.2.2.2
  refine z_iload_n C 0 1 1 dX8_pass_0 rfl rfl ?_
  refine z_iconst (v := nI 1) C 1 dX8_pass_1 (by decide) ?_
  first | with_reducible refine z_icmp_ltN C 2 12 dX8_pass_2 (by decide) (by omega) (by omega) (fun h2 => ?_) (fun h2 => ?_) | refine z_icmp_lt C 2 12 dX8_pass_2 (by decide) (fun h2 => ?_) (fun h2 => ?_)
  · exact z_thrW C hTX 12 (ik := 74) (is := 279) (ic := 78) (n := 18) (tx := "no such number of minutes") (List.mem_cons_self) tk_74 ti_eIA (List.mem_of_getElem? (i := 26) rfl) dX8_pass_12 dX8_pass_15 dX8_pass_16 dX8_pass_19 dX8_pass_22 ⟨by decide, by decide⟩ ⟨by decide, by decide⟩ (⟨⟨FC.rf _, x, ph, h⟩, rfl⟩)
  · refine z_iload_n C 5 1 1 dX8_pass_5 rfl rfl ?_
    refine z_sipush (v := nI 240) C 6 dX8_pass_6 (by decide +kernel) ?_
    first | with_reducible refine z_icmp_leN C 9 23 dX8_pass_9 (by decide) (by omega) (by omega) (fun h9 => (isR_0 hxx (by decide) (by decide) h2 (Int32.not_lt.mpr h9)).elim) (fun h9 => ?_) | refine z_icmp_le C 9 23 dX8_pass_9 (by decide) (fun h9 => (isR_0 hxx (by decide) (by decide) h2 (Int32.not_lt.mpr h9)).elim) (fun h9 => ?_)
    · exact z_thrW C hTX 12 (ik := 74) (is := 279) (ic := 78) (n := 18) (tx := "no such number of minutes") (List.mem_cons_self) tk_74 ti_eIA (List.mem_of_getElem? (i := 26) rfl) dX8_pass_12 dX8_pass_15 dX8_pass_16 dX8_pass_19 dX8_pass_22 ⟨by decide, by decide⟩ ⟨by decide, by decide⟩ (⟨⟨FC.rf _, x, ph, h⟩, rfl⟩)
def rt_X8_touch : Room := { frames := 7, cells := 1, slots := 6, locals := 220 }
set_option maxHeartbeats 4000000 in
set_option maxRecDepth 100000 in
theorem c_X8_touch_t {l : Launch} {G : mG} {ad : mA} {S : mS} {L : mL} {R : mR} {T c N : NN} {d n B x u : Nat} {ph : Nat → Nat} {UR SR : Nat → NN} {sf : Nat → Nat} {y : Int32} (hlf : l.stackTraces = false) (h : CS S R T c d n B x u ph N UR SR sf) (hxx : ¬ isR 0 999 y) : Kt l yX8_touch cX8_touch 3 (some .int) rt_X8_touch G ad mdm [.ref (ad 0 0), .int y] S L R eIA (fun S2 L2 R2 => CQ S S2 R2 T c d n B u N UR SR sf ∧ L = L2) := by
  refine Kt.of RX8 hlf (by decide) rfl (Nat.le_of_ble_eq_true rfl) ?_
  intro X hXl hXG C hTX
  subst hXl; subst hXG
  change Z X 3 ad mdm S L R 0 0 0 [(0, _), (1, _)] []
  have hR := h.1
  obtain ⟨hP1, hP2, r5, r6, r7, r32, r33⟩ := h.2.1
  obtain ⟨hd2, rD, rE, hAT, hAC, hn10, hT⟩ := h.2.2.1
  obtain ⟨hx, hx10, hu, hu10⟩ := h.2.2.2.1
  obtain ⟨hB, hv1, hv2, hJ⟩ := h.2.2.2.2.1
  have hB31 := h.2.2.2.2.2.2.2
  have hI := hJ.1.1
  have hp0 : ph 0 < 15 := hP1 0 (by omega)
  have hp1 : ph 1 < 15 := hP1 1 (by omega)
  have hp2 : ph 2 < 15 := hP1 2 (by omega)
  have h10 : ph 1 ≠ ph 0 := h.ne (by omega) (by omega) (by omega)
  have h01 : ph 0 ≠ ph 1 := h.ne (by omega) (by omega) (by omega)
  have hd : d < 3 := by omega
  have hcn := hAT.1
  have hP := hB.2.2.2.2
  refine z_iload_n C 0 1 1 dX8_touch_0 rfl rfl ?_
  exact z_thS C hTX 1 dX8_touch_1 cs_X8_286 (c_X8_checkNotice_t hlf hxx) rfl rfl (Nat.le_of_ble_eq_true rfl) ⟨by decide, by decide⟩ ⟨by decide, by decide⟩ (fun S' L' R' q => by obtain ⟨rfl, rfl, rfl⟩ := q; exact ⟨⟨FC.rf _, x, ph, h⟩, rfl⟩)

set_option maxHeartbeats 4000000 in
set_option maxRecDepth 100000 in
theorem c_X8_touch_t2 {l : Launch} {G : mG} {ad : mA} {S : mS} {L : mL} {R : mR} {T c N : NN} {d n B x u : Nat} {ph : Nat → Nat} {UR SR : Nat → NN} {sf : Nat → Nat} {w : Nat} (hlf : l.stackTraces = false) (h : CS S R T c d n B x u ph N UR SR sf) (hw : w ≤ 999) (hs : N 2 = -1) : Kt l yX8_touch cX8_touch 3 (some .int) rt_X8_touch G ad mdm [.ref (ad 0 0), .int (nI w)] S L R eIS (fun S2 L2 R2 => CQ S S2 R2 T c d n B u N UR SR sf ∧ L = L2) := by
  refine Kt.of RX8 hlf (by decide) rfl (Nat.le_of_ble_eq_true rfl) ?_
  intro X hXl hXG C hTX
  subst hXl; subst hXG
  change Z X 3 ad mdm S L R 0 0 0 [(0, _), (1, _)] []
  have hR := h.1
  obtain ⟨hP1, hP2, r5, r6, r7, r32, r33⟩ := h.2.1
  obtain ⟨hd2, rD, rE, hAT, hAC, hn10, hT⟩ := h.2.2.1
  obtain ⟨hx, hx10, hu, hu10⟩ := h.2.2.2.1
  obtain ⟨hB, hv1, hv2, hJ⟩ := h.2.2.2.2.1
  have hB31 := h.2.2.2.2.2.2.2
  have hI := hJ.1.1
  have hp0 : ph 0 < 15 := hP1 0 (by omega)
  have hp1 : ph 1 < 15 := hP1 1 (by omega)
  have hp2 : ph 2 < 15 := hP1 2 (by omega)
  have h10 : ph 1 ≠ ph 0 := h.ne (by omega) (by omega) (by omega)
  have h01 : ph 0 ≠ ph 1 := h.ne (by omega) (by omega) (by omega)
  have hd : d < 3 := by omega
  have hcn := hAT.1
  have hP := hB.2.2.2.2
  have hP := hB.2.2.2.2
  refine z_iload_n C 0 1 1 dX8_touch_0 rfl rfl ?_
  refine z_cSv0 C 1 dX8_touch_1 cs_X8_286 (c_X8_checkNotice hw) rfl rfl (Nat.le_of_ble_eq_true rfl) ⟨by decide, by decide⟩ ⟨rfl, rfl⟩ ⟨by decide, by decide⟩ ?_
  intro S1 L1 R1 p1
  obtain ⟨rfl, rfl, rfl⟩ := p1
  refine z_aload_n C 4 0 0 dX8_touch_4 rfl rfl ?_
  refine z_getr C 5 dX8_touch_5 gf_X8_42 rfl (by first | assumption | exact Nat.zero_lt_one | exact (show (15 : Nat) < 16 by decide) | exact Nat.lt_succ_of_lt (by assumption) | omega) (by first | exact hRb _ _ _ _ rfl | exact hR2 _ _ _ _ rfl | exact hR _ _ _ _ rfl | assumption) ?_
  refine z_getiv C 8 dX8_touch_8 gf_X8_117 rfl (by first | assumption | exact Nat.zero_lt_one | exact (show (15 : Nat) < 16 by decide) | exact Nat.lt_succ_of_lt (by assumption) | omega) (hP.2.2.1.trans hs) ?_
  refine z_istore_n C 11 2 [(2, _), (0, _), (1, _)] dX8_touch_11 rfl (by decide) rfl ?_
  refine z_iload_n C 12 2 0 dX8_touch_12 rfl rfl ?_
  refine z_if_ge C 13 27 dX8_touch_13 (by decide) (fun h13 => absurd h13 (by decide)) (fun h13 => ?_)
  · exact z_thrW C hTX 16 (ik := 268) (is := 289) (ic := 272) (n := 20) (tx := "no program is shown") (List.mem_cons_of_mem _ (List.mem_cons_of_mem _ List.mem_cons_self)) tk_268 ti_eIS (List.mem_of_getElem? (i := 28) rfl) dX8_touch_16 dX8_touch_19 dX8_touch_20 dX8_touch_23 dX8_touch_26 ⟨by decide, by decide⟩ ⟨by decide, by decide⟩ (⟨⟨FC.rf _, x, ph, h⟩, rfl⟩)
def rt_X8_send : Room := { frames := 7, cells := 1, slots := 6, locals := 221 }
set_option maxHeartbeats 4000000 in
set_option maxRecDepth 100000 in
theorem c_X8_send_t {l : Launch} {G : mG} {ad : mA} {S : mS} {L : mL} {R : mR} {T c N : NN} {d n B x u : Nat} {ph : Nat → Nat} {UR SR : Nat → NN} {sf : Nat → Nat} {y : Int32} {w : Int32} (hlf : l.stackTraces = false) (h : CS S R T c d n B x u ph N UR SR sf) (hxx : ¬ isP n y) : Kt l yX8_send cX8_send 3 (some .int) rt_X8_send G ad mdm [.ref (ad 0 0), .int y, .int w] S L R eIO (fun S2 L2 R2 => CQ S S2 R2 T c d n B u N UR SR sf ∧ L = L2) := by
  refine Kt.of RX8 hlf (by decide) rfl (Nat.le_of_ble_eq_true rfl) ?_
  intro X hXl hXG C hTX
  subst hXl; subst hXG
  change Z X 3 ad mdm S L R 0 0 0 [(0, _), (1, _), (2, _)] []
  have hR := h.1
  obtain ⟨hP1, hP2, r5, r6, r7, r32, r33⟩ := h.2.1
  obtain ⟨hd2, rD, rE, hAT, hAC, hn10, hT⟩ := h.2.2.1
  obtain ⟨hx, hx10, hu, hu10⟩ := h.2.2.2.1
  obtain ⟨hB, hv1, hv2, hJ⟩ := h.2.2.2.2.1
  have hB31 := h.2.2.2.2.2.2.2
  have hI := hJ.1.1
  have hp0 : ph 0 < 15 := hP1 0 (by omega)
  have hp1 : ph 1 < 15 := hP1 1 (by omega)
  have hp2 : ph 2 < 15 := hP1 2 (by omega)
  have h10 : ph 1 ≠ ph 0 := h.ne (by omega) (by omega) (by omega)
  have h01 : ph 0 ≠ ph 1 := h.ne (by omega) (by omega) (by omega)
  have hd : d < 3 := by omega
  have hcn := hAT.1
  have hP := hB.2.2.2.2
  refine z_aload_n C 0 0 0 dX8_send_0 rfl rfl ?_
  refine z_iload_n C 1 1 1 dX8_send_1 rfl rfl ?_
  exact z_thV C hTX 2 dX8_send_2 cv_X8_151 (c_X8_checkProgram_t hlf (d := d) (n := n) hR hd2 rD hAT.1 hn10 hxx) rfl ⟨by decide, rfl⟩ (by first | assumption | exact Nat.zero_lt_one | exact (show (15 : Nat) < 16 by decide) | exact Nat.lt_succ_of_lt (by assumption) | omega) rfl rfl (Nat.le_of_ble_eq_true rfl) ⟨by decide, by decide⟩ ⟨by decide, by decide⟩ (fun S' L' R' q => by obtain ⟨rfl, rfl, rfl⟩ := q; exact ⟨⟨FC.rf _, x, ph, h⟩, rfl⟩)

set_option maxHeartbeats 4000000 in
set_option maxRecDepth 100000 in
theorem c_X8_send_t2 {l : Launch} {G : mG} {ad : mA} {S : mS} {L : mL} {R : mR} {T c N : NN} {d n B x u : Nat} {ph : Nat → Nat} {UR SR : Nat → NN} {sf : Nat → Nat} {p : Nat} {y : Int32} (hlf : l.stackTraces = false) (h : CS S R T c d n B x u ph N UR SR sf) (hp : p < n) (hxx : ¬ isR 0 999 y) : Kt l yX8_send cX8_send 3 (some .int) rt_X8_send G ad mdm [.ref (ad 0 0), .int (nI p), .int y] S L R eIA (fun S2 L2 R2 => CQ S S2 R2 T c d n B u N UR SR sf ∧ L = L2) := by
  refine Kt.of RX8 hlf (by decide) rfl (Nat.le_of_ble_eq_true rfl) ?_
  intro X hXl hXG C hTX
  subst hXl; subst hXG
  change Z X 3 ad mdm S L R 0 0 0 [(0, _), (1, _), (2, _)] []
  have hR := h.1
  obtain ⟨hP1, hP2, r5, r6, r7, r32, r33⟩ := h.2.1
  obtain ⟨hd2, rD, rE, hAT, hAC, hn10, hT⟩ := h.2.2.1
  obtain ⟨hx, hx10, hu, hu10⟩ := h.2.2.2.1
  obtain ⟨hB, hv1, hv2, hJ⟩ := h.2.2.2.2.1
  have hB31 := h.2.2.2.2.2.2.2
  have hI := hJ.1.1
  have hp0 : ph 0 < 15 := hP1 0 (by omega)
  have hp1 : ph 1 < 15 := hP1 1 (by omega)
  have hp2 : ph 2 < 15 := hP1 2 (by omega)
  have h10 : ph 1 ≠ ph 0 := h.ne (by omega) (by omega) (by omega)
  have h01 : ph 0 ≠ ph 1 := h.ne (by omega) (by omega) (by omega)
  have hd : d < 3 := by omega
  have hcn := hAT.1
  have hP := hB.2.2.2.2
  refine z_aload_n C 0 0 0 dX8_send_0 rfl rfl ?_
  refine z_iload_n C 1 1 1 dX8_send_1 rfl rfl ?_
  refine z_cVv0 C 2 dX8_send_2 cv_X8_151 (c_X8_checkProgram (d := d) (n := n) hR hd2 rD hAT.1 hn10 hp) rfl ⟨by decide, rfl⟩ (by first | assumption | exact Nat.zero_lt_one | exact (show (15 : Nat) < 16 by decide) | exact Nat.lt_succ_of_lt (by assumption) | omega) rfl rfl (Nat.le_of_ble_eq_true rfl) ⟨by decide, by decide⟩ ⟨rfl, rfl⟩ ⟨by decide, by decide⟩ ?_
  intro S2 L2 R2 p2
  obtain ⟨rfl, rfl, rfl⟩ := p2
  refine z_iload_n C 5 2 2 dX8_send_5 rfl rfl ?_
  exact z_thS C hTX 6 dX8_send_6 cs_X8_286 (c_X8_checkNotice_t hlf hxx) rfl rfl (Nat.le_of_ble_eq_true rfl) ⟨by decide, by decide⟩ ⟨by decide, by decide⟩ (fun S' L' R' q => by obtain ⟨rfl, rfl, rfl⟩ := q; exact ⟨⟨FC.rf _, x, ph, h⟩, rfl⟩)
def rt_X8_read : Room := { frames := 6, cells := 1, slots := 6, locals := 200 }
set_option maxHeartbeats 4000000 in
set_option maxRecDepth 100000 in
theorem c_X8_read_t {l : Launch} {G : mG} {ad : mA} {S : mS} {L : mL} {R : mR} {T c N : NN} {d n B x u : Nat} {ph : Nat → Nat} {UR SR : Nat → NN} {sf : Nat → Nat}  (hlf : l.stackTraces = false) (h : CS S R T c d n B x u ph N UR SR sf) (hs : N 2 = -1) : Kt l yX8_read cX8_read 2 (some .int) rt_X8_read G ad mdm [.ref (ad 0 0)] S L R eIS (fun S2 L2 R2 => CQ S S2 R2 T c d n B u N UR SR sf ∧ L = L2) := by
  refine Kt.of RX8 hlf (by decide) rfl (Nat.le_of_ble_eq_true rfl) ?_
  intro X hXl hXG C hTX
  subst hXl; subst hXG
  change Z X 2 ad mdm S L R 0 0 0 [(0, _)] []
  have hR := h.1
  obtain ⟨hP1, hP2, r5, r6, r7, r32, r33⟩ := h.2.1
  obtain ⟨hd2, rD, rE, hAT, hAC, hn10, hT⟩ := h.2.2.1
  obtain ⟨hx, hx10, hu, hu10⟩ := h.2.2.2.1
  obtain ⟨hB, hv1, hv2, hJ⟩ := h.2.2.2.2.1
  have hB31 := h.2.2.2.2.2.2.2
  have hI := hJ.1.1
  have hp0 : ph 0 < 15 := hP1 0 (by omega)
  have hp1 : ph 1 < 15 := hP1 1 (by omega)
  have hp2 : ph 2 < 15 := hP1 2 (by omega)
  have h10 : ph 1 ≠ ph 0 := h.ne (by omega) (by omega) (by omega)
  have h01 : ph 0 ≠ ph 1 := h.ne (by omega) (by omega) (by omega)
  have hd : d < 3 := by omega
  have hcn := hAT.1
  have hP := hB.2.2.2.2
  have hP := hB.2.2.2.2
  refine z_aload_n C 0 0 0 dX8_read_0 rfl rfl ?_
  refine z_getr C 1 dX8_read_1 gf_X8_42 rfl (by first | assumption | exact Nat.zero_lt_one | exact (show (15 : Nat) < 16 by decide) | exact Nat.lt_succ_of_lt (by assumption) | omega) (by first | exact hRb _ _ _ _ rfl | exact hR2 _ _ _ _ rfl | exact hR _ _ _ _ rfl | assumption) ?_
  refine z_getiv C 4 dX8_read_4 gf_X8_117 rfl (by first | assumption | exact Nat.zero_lt_one | exact (show (15 : Nat) < 16 by decide) | exact Nat.lt_succ_of_lt (by assumption) | omega) (hP.2.2.1.trans hs) ?_
  refine z_istore_n C 7 1 [(1, _), (0, _)] dX8_read_7 rfl (by decide) rfl ?_
  refine z_iload_n C 8 1 0 dX8_read_8 rfl rfl ?_
  refine z_if_ge C 9 23 dX8_read_9 (by decide) (fun h9 => absurd h9 (by decide)) (fun h9 => ?_)
  · exact z_thrW C hTX 12 (ik := 268) (is := 289) (ic := 272) (n := 20) (tx := "no program is shown") (List.mem_cons_of_mem _ (List.mem_cons_of_mem _ List.mem_cons_self)) tk_268 ti_eIS (List.mem_of_getElem? (i := 28) rfl) dX8_read_12 dX8_read_15 dX8_read_16 dX8_read_19 dX8_read_22 ⟨by decide, by decide⟩ ⟨by decide, by decide⟩ (⟨⟨FC.rf _, x, ph, h⟩, rfl⟩)

set_option maxHeartbeats 4000000 in
set_option maxRecDepth 100000 in
theorem c_X8_read_t2 {l : Launch} {G : mG} {ad : mA} {S : mS} {L : mL} {R : mR} {T c N : NN} {d n B x u : Nat} {ph : Nat → Nat} {UR SR : Nat → NN} {sf : Nat → Nat} {p : Nat} (hlf : l.stackTraces = false) (h : CS S R T c d n B x u ph N UR SR sf) (hq : p < n) (hqe : N 2 = nI p) (hw : fo N p 15 = nI 0) : Kt l yX8_read cX8_read 2 (some .int) rt_X8_read G ad mdm [.ref (ad 0 0)] S L R eIS (fun S2 L2 R2 => CQ S S2 R2 T c d n B u N UR SR sf ∧ L = L2) := by
  refine Kt.of RX8 hlf (by decide) rfl (Nat.le_of_ble_eq_true rfl) ?_
  intro X hXl hXG C hTX
  subst hXl; subst hXG
  change Z X 2 ad mdm S L R 0 0 0 [(0, _)] []
  have hR := h.1
  obtain ⟨hP1, hP2, r5, r6, r7, r32, r33⟩ := h.2.1
  obtain ⟨hd2, rD, rE, hAT, hAC, hn10, hT⟩ := h.2.2.1
  obtain ⟨hx, hx10, hu, hu10⟩ := h.2.2.2.1
  obtain ⟨hB, hv1, hv2, hJ⟩ := h.2.2.2.2.1
  have hB31 := h.2.2.2.2.2.2.2
  have hI := hJ.1.1
  have hp0 : ph 0 < 15 := hP1 0 (by omega)
  have hp1 : ph 1 < 15 := hP1 1 (by omega)
  have hp2 : ph 2 < 15 := hP1 2 (by omega)
  have h10 : ph 1 ≠ ph 0 := h.ne (by omega) (by omega) (by omega)
  have h01 : ph 0 ≠ ph 1 := h.ne (by omega) (by omega) (by omega)
  have hd : d < 3 := by omega
  have hcn := hAT.1
  have hP := hB.2.2.2.2
  have hP := hB.2.2.2.2
  refine z_aload_n C 0 0 0 dX8_read_0 rfl rfl ?_
  refine z_getr C 1 dX8_read_1 gf_X8_42 rfl (by first | assumption | exact Nat.zero_lt_one | exact (show (15 : Nat) < 16 by decide) | exact Nat.lt_succ_of_lt (by assumption) | omega) (by first | exact hRb _ _ _ _ rfl | exact hR2 _ _ _ _ rfl | exact hR _ _ _ _ rfl | assumption) ?_
  refine z_getiv C 4 dX8_read_4 gf_X8_117 rfl (by first | assumption | exact Nat.zero_lt_one | exact (show (15 : Nat) < 16 by decide) | exact Nat.lt_succ_of_lt (by assumption) | omega) (hP.2.2.1.trans hqe) ?_
  refine z_istore_n C 7 1 [(1, _), (0, _)] dX8_read_7 rfl (by decide) rfl ?_
  refine z_iload_n C 8 1 0 dX8_read_8 rfl rfl ?_
  refine z_if_ge C 9 23 dX8_read_9 (by decide) (fun h9 => ?_) (fun h9 => absurd (nI_pos' (by omega)) h9)
  · refine z_aload_n C 23 0 1 dX8_read_23 rfl rfl ?_
    refine z_getr C 24 dX8_read_24 gf_X8_42 rfl (by first | assumption | exact Nat.zero_lt_one | exact (show (15 : Nat) < 16 by decide) | exact Nat.lt_succ_of_lt (by assumption) | omega) (by first | exact hRb _ _ _ _ rfl | exact hR2 _ _ _ _ rfl | exact hR _ _ _ _ rfl | assumption) ?_
    refine z_getr C 27 dX8_read_27 gf_X8_171 rfl (by first | assumption | exact Nat.zero_lt_one | exact (show (15 : Nat) < 16 by decide) | exact Nat.lt_succ_of_lt (by assumption) | omega) (by first | exact hRb _ _ _ _ rfl | exact hR2 _ _ _ _ rfl | exact hR _ _ _ _ rfl | assumption) ?_
    refine z_iload_n C 30 1 0 dX8_read_30 rfl rfl ?_
    refine z_iald C 31 dX8_read_31 (by first | rfl | assumption) (by first | assumption | exact Nat.zero_lt_one | exact (show (15 : Nat) < 16 by decide) | exact Nat.lt_succ_of_lt (by assumption) | omega) (by first | rfl | assumption) (by first | decide | omega) (by first | assumption | omega) ?_
    rw [(hP.2.2.2 p (by omega)).2.2.2.1, hw]
    refine z_iconst (v := nI 1) C 32 dX8_read_32 (by decide) ?_
    first | with_reducible refine z_icmp_geN C 33 47 dX8_read_33 (by decide) (by omega) (by omega) (fun h33 => absurd h33 (by omega)) (fun h33 => ?_) | refine z_icmp_ge C 33 47 dX8_read_33 (by decide) (fun h33 => absurd h33 (by omega)) (fun h33 => ?_)
    · exact z_thrW C hTX 36 (ik := 268) (is := 298) (ic := 272) (n := 21) (tx := "no notice waits") (List.mem_cons_of_mem _ (List.mem_cons_of_mem _ List.mem_cons_self)) tk_268 ti_eIS (List.mem_of_getElem? (i := 29) rfl) dX8_read_36 dX8_read_39 dX8_read_40 dX8_read_43 dX8_read_46 ⟨by decide, by decide⟩ ⟨by decide, by decide⟩ (⟨⟨FC.rf _, x, ph, h⟩, rfl⟩)
def rt_X8_pin : Room := { frames := 7, cells := 1, slots := 6, locals := 221 }
set_option maxHeartbeats 4000000 in
set_option maxRecDepth 100000 in
theorem c_X8_pin_t {l : Launch} {G : mG} {ad : mA} {S : mS} {L : mL} {R : mR} {T c N : NN} {d n B x u : Nat} {ph : Nat → Nat} {UR SR : Nat → NN} {sf : Nat → Nat} {y : Int32} {w : Int32} (hlf : l.stackTraces = false) (h : CS S R T c d n B x u ph N UR SR sf) (hxx : ¬ isP n y) : Kt l yX8_pin cX8_pin 4 (some .boolean) rt_X8_pin G ad mdm [.ref (ad 0 0), .int y, .int w] S L R eIO (fun S2 L2 R2 => CQ S S2 R2 T c d n B u N UR SR sf ∧ L = L2) := by
  refine Kt.of RX8 hlf (by decide) rfl (Nat.le_of_ble_eq_true rfl) ?_
  intro X hXl hXG C hTX
  subst hXl; subst hXG
  change Z X 4 ad mdm S L R 0 0 0 [(0, _), (1, _), (2, _)] []
  have hR := h.1
  obtain ⟨hP1, hP2, r5, r6, r7, r32, r33⟩ := h.2.1
  obtain ⟨hd2, rD, rE, hAT, hAC, hn10, hT⟩ := h.2.2.1
  obtain ⟨hx, hx10, hu, hu10⟩ := h.2.2.2.1
  obtain ⟨hB, hv1, hv2, hJ⟩ := h.2.2.2.2.1
  have hB31 := h.2.2.2.2.2.2.2
  have hI := hJ.1.1
  have hp0 : ph 0 < 15 := hP1 0 (by omega)
  have hp1 : ph 1 < 15 := hP1 1 (by omega)
  have hp2 : ph 2 < 15 := hP1 2 (by omega)
  have h10 : ph 1 ≠ ph 0 := h.ne (by omega) (by omega) (by omega)
  have h01 : ph 0 ≠ ph 1 := h.ne (by omega) (by omega) (by omega)
  have hd : d < 3 := by omega
  have hcn := hAT.1
  have hP := hB.2.2.2.2
  refine z_aload_n C 0 0 0 dX8_pin_0 rfl rfl ?_
  refine z_iload_n C 1 1 1 dX8_pin_1 rfl rfl ?_
  exact z_thV C hTX 2 dX8_pin_2 cv_X8_151 (c_X8_checkProgram_t hlf (d := d) (n := n) hR hd2 rD hAT.1 hn10 hxx) rfl ⟨by decide, rfl⟩ (by first | assumption | exact Nat.zero_lt_one | exact (show (15 : Nat) < 16 by decide) | exact Nat.lt_succ_of_lt (by assumption) | omega) rfl rfl (Nat.le_of_ble_eq_true rfl) ⟨by decide, by decide⟩ ⟨by decide, by decide⟩ (fun S' L' R' q => by obtain ⟨rfl, rfl, rfl⟩ := q; exact ⟨⟨FC.rf _, x, ph, h⟩, rfl⟩)
def rt_X8_trim : Room := { frames := 7, cells := 1, slots := 6, locals := 220 }
set_option maxHeartbeats 4000000 in
set_option maxRecDepth 100000 in
theorem c_X8_trim_t {l : Launch} {G : mG} {ad : mA} {S : mS} {L : mL} {R : mR} {T c N : NN} {d n B x u : Nat} {ph : Nat → Nat} {UR SR : Nat → NN} {sf : Nat → Nat} {y : Int32} (hlf : l.stackTraces = false) (h : CS S R T c d n B x u ph N UR SR sf) (hxx : ¬ isR 1 6 y) : Kt l yX8_trim cX8_trim 3 (some .int) rt_X8_trim G ad mdm [.ref (ad 0 0), .int y] S L R eIA (fun S2 L2 R2 => CQ S S2 R2 T c d n B u N UR SR sf ∧ L = L2) := by
  refine Kt.of RX8 hlf (by decide) rfl (Nat.le_of_ble_eq_true rfl) ?_
  intro X hXl hXG C hTX
  subst hXl; subst hXG
  change Z X 3 ad mdm S L R 0 0 0 [(0, _), (1, _)] []
  have hR := h.1
  obtain ⟨hP1, hP2, r5, r6, r7, r32, r33⟩ := h.2.1
  obtain ⟨hd2, rD, rE, hAT, hAC, hn10, hT⟩ := h.2.2.1
  obtain ⟨hx, hx10, hu, hu10⟩ := h.2.2.2.1
  obtain ⟨hB, hv1, hv2, hJ⟩ := h.2.2.2.2.1
  have hB31 := h.2.2.2.2.2.2.2
  have hI := hJ.1.1
  have hp0 : ph 0 < 15 := hP1 0 (by omega)
  have hp1 : ph 1 < 15 := hP1 1 (by omega)
  have hp2 : ph 2 < 15 := hP1 2 (by omega)
  have h10 : ph 1 ≠ ph 0 := h.ne (by omega) (by omega) (by omega)
  have h01 : ph 0 ≠ ph 1 := h.ne (by omega) (by omega) (by omega)
  have hd : d < 3 := by omega
  have hcn := hAT.1
  have hP := hB.2.2.2.2
  refine z_iload_n C 0 1 1 dX8_trim_0 rfl rfl ?_
  exact z_thS C hTX 1 dX8_trim_1 cs_X8_211 (c_X8_checkStep_t hlf hxx) rfl rfl (Nat.le_of_ble_eq_true rfl) ⟨by decide, by decide⟩ ⟨by decide, by decide⟩ (fun S' L' R' q => by obtain ⟨rfl, rfl, rfl⟩ := q; exact ⟨⟨FC.rf _, x, ph, h⟩, rfl⟩)

set_option maxHeartbeats 4000000 in
set_option maxRecDepth 100000 in
theorem c_X8_trim_t2 {l : Launch} {G : mG} {ad : mA} {S : mS} {L : mL} {R : mR} {T c N : NN} {d n B x u : Nat} {ph : Nat → Nat} {UR SR : Nat → NN} {sf : Nat → Nat} {k : Nat} (hlf : l.stackTraces = false) (h : CS S R T c d n B x u ph N UR SR sf) (hk : 1 ≤ k) (hk6 : k ≤ 6) (hv : fVic N T n k = none) : Kt l yX8_trim cX8_trim 3 (some .int) rt_X8_trim G ad mdm [.ref (ad 0 0), .int (nI k)] S L R eIS (fun S2 L2 R2 => CQ S S2 R2 T c d n B u N UR SR sf ∧ L = L2) := by
  refine Kt.of RX8 hlf (by decide) rfl (Nat.le_of_ble_eq_true rfl) ?_
  intro X hXl hXG C hTX
  subst hXl; subst hXG
  change Z X 3 ad mdm S L R 0 0 0 [(0, _), (1, _)] []
  have hR := h.1
  obtain ⟨hP1, hP2, r5, r6, r7, r32, r33⟩ := h.2.1
  obtain ⟨hd2, rD, rE, hAT, hAC, hn10, hT⟩ := h.2.2.1
  obtain ⟨hx, hx10, hu, hu10⟩ := h.2.2.2.1
  obtain ⟨hB, hv1, hv2, hJ⟩ := h.2.2.2.2.1
  have hB31 := h.2.2.2.2.2.2.2
  have hI := hJ.1.1
  have hp0 : ph 0 < 15 := hP1 0 (by omega)
  have hp1 : ph 1 < 15 := hP1 1 (by omega)
  have hp2 : ph 2 < 15 := hP1 2 (by omega)
  have h10 : ph 1 ≠ ph 0 := h.ne (by omega) (by omega) (by omega)
  have h01 : ph 0 ≠ ph 1 := h.ne (by omega) (by omega) (by omega)
  have hd : d < 3 := by omega
  have hcn := hAT.1
  have hP := hB.2.2.2.2
  refine z_iload_n C 0 1 1 dX8_trim_0 rfl rfl ?_
  refine z_cSv0 C 1 dX8_trim_1 cs_X8_211 (c_X8_checkStep hk hk6) rfl rfl (Nat.le_of_ble_eq_true rfl) ⟨by decide, by decide⟩ ⟨rfl, rfl⟩ ⟨by decide, by decide⟩ ?_
  intro S1 L1 R1 p1
  obtain ⟨rfl, rfl, rfl⟩ := p1
  refine z_aload_n C 4 0 0 dX8_trim_4 rfl rfl ?_
  refine z_getr C 5 dX8_trim_5 gf_X8_42 rfl (by first | assumption | exact Nat.zero_lt_one | exact (show (15 : Nat) < 16 by decide) | exact Nat.lt_succ_of_lt (by assumption) | omega) (by first | exact hRb _ _ _ _ rfl | exact hR2 _ _ _ _ rfl | exact hR _ _ _ _ rfl | assumption) ?_
  refine z_cVv0 C 8 dX8_trim_8 cv_X8_214 (c_X4_prepareTrims (N := N) (T := T) (n := n) (d := d) (B := B) hR hp0 hd hv1 hv2 hAT hn10 hI hB hJ.1.2.2.1 (by omega)) rfl ⟨by decide, rfl⟩ (by first | assumption | exact Nat.zero_lt_one | exact (show (15 : Nat) < 16 by decide) | exact Nat.lt_succ_of_lt (by assumption) | omega) rfl rfl (Nat.le_of_ble_eq_true rfl) ⟨by decide, by decide⟩ ⟨rfl, rfl⟩ ⟨by decide, by decide⟩ ?_
  intro S8 L8 R8 p8
  obtain ⟨hTR, hFT, rfl, rfl⟩ := p8
  have hFR : FR R (up3 R 12 15 0 (some (3, d))) := FR.up hR
  have hT8 := h.ft hFT hFR
  have hRb := hT8.1
  have s5 := hT8.2.1.2.2.1
  have s6 := hT8.2.1.2.2.2.1
  refine z_aload_n C 11 0 0 dX8_trim_11 rfl rfl ?_
  refine z_getr C 12 dX8_trim_12 gf_X8_33 rfl (by first | assumption | exact Nat.zero_lt_one | exact (show (15 : Nat) < 16 by decide) | exact Nat.lt_succ_of_lt (by assumption) | omega) (by first | exact hRb _ _ _ _ rfl | exact hR2 _ _ _ _ rfl | exact hR _ _ _ _ rfl | assumption) ?_
  refine z_iload_n C 15 1 1 dX8_trim_15 rfl rfl ?_
  refine z_cVi0 C 16 dX8_trim_16 cv_X8_217 (c_X7_victimOf (N := N) (T := T) (n := n) (d := d) hRb hd (up3_s _ _ _ _ _) (hAT.ft hFT) hn10 hI hTR hk hk6) rfl ⟨by decide, rfl⟩ (by first | assumption | exact Nat.zero_lt_one | exact (show (15 : Nat) < 16 by decide) | exact Nat.lt_succ_of_lt (by assumption) | omega) rfl rfl (Nat.le_of_ble_eq_true rfl) ⟨by decide, by decide⟩ ⟨rfl, rfl⟩ ⟨by decide, by decide⟩ ?_
  intro r16 S16 L16 R16 p16
  obtain ⟨rfl, rfl, rfl, rfl⟩ := p16
  rw [hv, show oI none = -1 from rfl]
  refine z_istore_n C 19 2 [(2, _), (0, _), (1, _)] dX8_trim_19 rfl (by decide) rfl ?_
  refine z_iload_n C 20 2 0 dX8_trim_20 rfl rfl ?_
  refine z_iconst (v := (-1)) C 21 dX8_trim_21 (by decide) ?_
  first | with_reducible refine z_icmp_neN C 22 36 dX8_trim_22 (by decide) (by omega) (by omega) (fun h22 => absurd rfl h22) (fun h22 => ?_) | refine z_icmp_ne C 22 36 dX8_trim_22 (by decide) (fun h22 => absurd rfl h22) (fun h22 => ?_)
  · exact z_thrW C hTX 25 (ik := 268) (is := 303) (ic := 272) (n := 22) (tx := "no program can have the step") (List.mem_cons_of_mem _ (List.mem_cons_of_mem _ List.mem_cons_self)) tk_268 ti_eIS (List.mem_of_getElem? (i := 30) rfl) dX8_trim_25 dX8_trim_28 dX8_trim_29 dX8_trim_32 dX8_trim_35 ⟨by decide, by decide⟩ ⟨by decide, by decide⟩ (⟨⟨hFT.fc, x, ph, hT8⟩, rfl⟩)

set_option maxHeartbeats 4000000 in
set_option maxRecDepth 100000 in
theorem c_X8_trim_t3 {l : Launch} {G : mG} {ad : mA} {S : mS} {L : mL} {R : mR} {T c N : NN} {d n B x u : Nat} {ph : Nat → Nat} {UR SR : Nat → NN} {sf : Nat → Nat} {k p : Nat} (hlf : l.stackTraces = false) (h : CS S R T c d n B x u ph N UR SR sf) (hk : 1 ≤ k) (hk6 : k ≤ 6) (hv : fVic N T n k = some p) (ho : fStep N p k 0 < fAll (fStep N p k) T n) : Kt l yX8_trim cX8_trim 3 (some .int) rt_X8_trim G ad mdm [.ref (ad 0 0), .int (nI k)] S L R eIS (fun S2 L2 R2 => CQ S S2 R2 T c d n B u N UR SR sf ∧ L = L2) := by
  refine Kt.of RX8 hlf (by decide) rfl (Nat.le_of_ble_eq_true rfl) ?_
  intro X hXl hXG C hTX
  subst hXl; subst hXG
  change Z X 3 ad mdm S L R 0 0 0 [(0, _), (1, _)] []
  have hR := h.1
  obtain ⟨hP1, hP2, r5, r6, r7, r32, r33⟩ := h.2.1
  obtain ⟨hd2, rD, rE, hAT, hAC, hn10, hT⟩ := h.2.2.1
  obtain ⟨hx, hx10, hu, hu10⟩ := h.2.2.2.1
  obtain ⟨hB, hv1, hv2, hJ⟩ := h.2.2.2.2.1
  have hB31 := h.2.2.2.2.2.2.2
  have hI := hJ.1.1
  have hp0 : ph 0 < 15 := hP1 0 (by omega)
  have hp1 : ph 1 < 15 := hP1 1 (by omega)
  have hp2 : ph 2 < 15 := hP1 2 (by omega)
  have h10 : ph 1 ≠ ph 0 := h.ne (by omega) (by omega) (by omega)
  have h01 : ph 0 ≠ ph 1 := h.ne (by omega) (by omega) (by omega)
  have hd : d < 3 := by omega
  have hcn := hAT.1
  have hP := hB.2.2.2.2
  have hpn : p < n := fVic_lt hv
  refine z_iload_n C 0 1 1 dX8_trim_0 rfl rfl ?_
  refine z_cSv0 C 1 dX8_trim_1 cs_X8_211 (c_X8_checkStep hk hk6) rfl rfl (Nat.le_of_ble_eq_true rfl) ⟨by decide, by decide⟩ ⟨rfl, rfl⟩ ⟨by decide, by decide⟩ ?_
  intro S1 L1 R1 p1
  obtain ⟨rfl, rfl, rfl⟩ := p1
  refine z_aload_n C 4 0 0 dX8_trim_4 rfl rfl ?_
  refine z_getr C 5 dX8_trim_5 gf_X8_42 rfl (by first | assumption | exact Nat.zero_lt_one | exact (show (15 : Nat) < 16 by decide) | exact Nat.lt_succ_of_lt (by assumption) | omega) (by first | exact hRb _ _ _ _ rfl | exact hR2 _ _ _ _ rfl | exact hR _ _ _ _ rfl | assumption) ?_
  refine z_cVv0 C 8 dX8_trim_8 cv_X8_214 (c_X4_prepareTrims (N := N) (T := T) (n := n) (d := d) (B := B) hR hp0 hd hv1 hv2 hAT hn10 hI hB hJ.1.2.2.1 (by omega)) rfl ⟨by decide, rfl⟩ (by first | assumption | exact Nat.zero_lt_one | exact (show (15 : Nat) < 16 by decide) | exact Nat.lt_succ_of_lt (by assumption) | omega) rfl rfl (Nat.le_of_ble_eq_true rfl) ⟨by decide, by decide⟩ ⟨rfl, rfl⟩ ⟨by decide, by decide⟩ ?_
  intro S8 L8 R8 p8
  obtain ⟨hTR, hFT, rfl, rfl⟩ := p8
  have hFR : FR R (up3 R 12 15 0 (some (3, d))) := FR.up hR
  have hT8 := h.ft hFT hFR
  have hRb := hT8.1
  have s5 := hT8.2.1.2.2.1
  have s6 := hT8.2.1.2.2.2.1
  refine z_aload_n C 11 0 0 dX8_trim_11 rfl rfl ?_
  refine z_getr C 12 dX8_trim_12 gf_X8_33 rfl (by first | assumption | exact Nat.zero_lt_one | exact (show (15 : Nat) < 16 by decide) | exact Nat.lt_succ_of_lt (by assumption) | omega) (by first | exact hRb _ _ _ _ rfl | exact hR2 _ _ _ _ rfl | exact hR _ _ _ _ rfl | assumption) ?_
  refine z_iload_n C 15 1 1 dX8_trim_15 rfl rfl ?_
  refine z_cVi0 C 16 dX8_trim_16 cv_X8_217 (c_X7_victimOf (N := N) (T := T) (n := n) (d := d) hRb hd (up3_s _ _ _ _ _) (hAT.ft hFT) hn10 hI hTR hk hk6) rfl ⟨by decide, rfl⟩ (by first | assumption | exact Nat.zero_lt_one | exact (show (15 : Nat) < 16 by decide) | exact Nat.lt_succ_of_lt (by assumption) | omega) rfl rfl (Nat.le_of_ble_eq_true rfl) ⟨by decide, by decide⟩ ⟨rfl, rfl⟩ ⟨by decide, by decide⟩ ?_
  intro r16 S16 L16 R16 p16
  obtain ⟨rfl, rfl, rfl, rfl⟩ := p16
  rw [hv, show oI (some p) = nI p from rfl]
  refine z_istore_n C 19 2 [(2, _), (0, _), (1, _)] dX8_trim_19 rfl (by decide) rfl ?_
  refine z_iload_n C 20 2 0 dX8_trim_20 rfl rfl ?_
  refine z_iconst (v := (-1)) C 21 dX8_trim_21 (by decide) ?_
  first | with_reducible refine z_icmp_neN C 22 36 dX8_trim_22 (by decide) (by omega) (by omega) (fun h22 => ?_) (fun h22 => absurd h22 (nI_m1 (by omega))) | refine z_icmp_ne C 22 36 dX8_trim_22 (by decide) (fun h22 => ?_) (fun h22 => absurd h22 (nI_m1 (by omega)))
  · refine z_aload_n C 36 0 1 dX8_trim_36 rfl rfl ?_
    refine z_getr C 37 dX8_trim_37 gf_X8_46 rfl (by first | assumption | exact Nat.zero_lt_one | exact (show (15 : Nat) < 16 by decide) | exact Nat.lt_succ_of_lt (by assumption) | omega) (by first | exact hRb _ _ _ _ rfl | exact hR2 _ _ _ _ rfl | exact hR _ _ _ _ rfl | assumption) ?_
    refine z_aload_n C 40 0 1 dX8_trim_40 rfl rfl ?_
    refine z_getr C 41 dX8_trim_41 gf_X8_42 rfl (by first | assumption | exact Nat.zero_lt_one | exact (show (15 : Nat) < 16 by decide) | exact Nat.lt_succ_of_lt (by assumption) | omega) (by first | exact hRb _ _ _ _ rfl | exact hR2 _ _ _ _ rfl | exact hR _ _ _ _ rfl | assumption) ?_
    refine z_cVv0 C 44 dX8_trim_44 cv_X8_244 (c_X4_copyFrom (N := N) (n := n) (q := ph 0) (v := ph 1) (d := d) hRb hp1 hp0 h01 hT8.2.2.2.2.1.2.1 hT8.2.2.2.2.1.2.2.1 hT8.2.2.2.2.1.1 hI) rfl ⟨by decide, rfl⟩ (by first | assumption | exact Nat.zero_lt_one | exact (show (15 : Nat) < 16 by decide) | exact Nat.lt_succ_of_lt (by assumption) | omega) rfl rfl (Nat.le_of_ble_eq_true rfl) ⟨by decide, by decide⟩ ⟨rfl, rfl⟩ ⟨by decide, by decide⟩ ?_
    intro S44 L44 R44 p44
    obtain ⟨hB8, hF8, rfl, rfl⟩ := p44
    have hRX : RX (up3 R 12 15 0 (some (3, d))) (up3 (up3 (up3 R 12 15 0 (some (3, d))) 25 (ph 1) 1 (some (3, d))) 12 (ph 1) 0 (some (3, d))) (ph 1) := RX.cp hRb
    have hR2 := hRX.1
    have h8 := hT8.fv (Or.inl rfl) hF8.fv hRX
    have r5b := h8.2.1.2.2.1
    have r6b := h8.2.1.2.2.2.1
    have hw1 : (up3 (up3 (up3 R 12 15 0 (some (3, d))) 25 (ph 1) 1 (some (3, d))) 12 (ph 1) 0 (some (3, d))) 25 (ph 1) 1 = some (3, d) := RX_l1
    have hw2 : (up3 (up3 (up3 R 12 15 0 (some (3, d))) 25 (ph 1) 1 (some (3, d))) 12 (ph 1) 0 (some (3, d))) 12 (ph 1) 0 = some (3, d) := RX_l2
    have hAT8 := h8.2.2.1.2.2.2.1
    have hAC8 := h8.2.2.1.2.2.2.2.1
    refine z_aload_n C 47 0 1 dX8_trim_47 rfl rfl ?_
    refine z_getr C 48 dX8_trim_48 gf_X8_46 rfl (by first | assumption | exact Nat.zero_lt_one | exact (show (15 : Nat) < 16 by decide) | exact Nat.lt_succ_of_lt (by assumption) | omega) (by first | exact hRb _ _ _ _ rfl | exact hR2 _ _ _ _ rfl | exact hR _ _ _ _ rfl | assumption) ?_
    refine z_iload_n C 51 1 2 dX8_trim_51 rfl rfl ?_
    refine z_iload_n C 52 2 0 dX8_trim_52 rfl rfl ?_
    refine z_cVv0 C 53 dX8_trim_53 cv_X8_305 (c_X4_doStep (N := N) (n := n) hR2 hp1 hI hB8 hJ.1.2.1 (by omega) hk hk6 (fVic_can hv)) rfl ⟨by decide, rfl⟩ (by first | assumption | exact Nat.zero_lt_one | exact (show (15 : Nat) < 16 by decide) | exact Nat.lt_succ_of_lt (by assumption) | omega) rfl rfl (Nat.le_of_ble_eq_true rfl) ⟨by decide, by decide⟩ ⟨rfl, rfl⟩ ⟨by decide, by decide⟩ ?_
    intro S53 L53 R53 p53
    obtain ⟨hB53, hF53, hU53, rfl, rfl⟩ := p53
    have hAT53 := hAT8.fv hF53.fv
    refine z_aload_n C 56 0 1 dX8_trim_56 rfl rfl ?_
    refine z_getr C 57 dX8_trim_57 gf_X8_46 rfl (by first | assumption | exact Nat.zero_lt_one | exact (show (15 : Nat) < 16 by decide) | exact Nat.lt_succ_of_lt (by assumption) | omega) (by first | exact hRb _ _ _ _ rfl | exact hR2 _ _ _ _ rfl | exact hR _ _ _ _ rfl | assumption) ?_
    refine z_getr C 60 dX8_trim_60 gf_X8_101 rfl (by first | assumption | exact Nat.zero_lt_one | exact (show (15 : Nat) < 16 by decide) | exact Nat.lt_succ_of_lt (by assumption) | omega) (by first | exact hRb _ _ _ _ rfl | exact hR2 _ _ _ _ rfl | exact hR _ _ _ _ rfl | assumption) ?_
    refine z_cVi0 C 63 dX8_trim_63 cv_X8_308 (c_X6_isOverLimit (r := ph 1) (d := d) (n := n) hR2 (by omega) hd hw2 hAT53.1 hn10) rfl ⟨by decide, rfl⟩ (by first | assumption | exact Nat.zero_lt_one | exact (show (15 : Nat) < 16 by decide) | exact Nat.lt_succ_of_lt (by assumption) | omega) rfl rfl (Nat.le_of_ble_eq_true rfl) ⟨by decide, by decide⟩ ⟨rfl, rfl⟩ ⟨by decide, by decide⟩ ?_
    intro r63 S63 L63 R63 p63
    obtain ⟨rfl, rfl, rfl, rfl⟩ := p63
    rw [hB53.1.1, rAll_eq hB53.1 hAT53 hn10 (hI.step (by omega) hk hk6 (fVic_can hv))]
    first | with_reducible refine z_if_eqB C 66 80 dX8_trim_66 (by decide) (fun h66 => absurd ho h66) (fun h66 => ?_) | with_reducible refine z_if_eqN C 66 80 dX8_trim_66 (by decide) (by omega) (fun h66 => absurd ho h66) (fun h66 => ?_) | refine z_if_eq C 66 80 dX8_trim_66 (by decide) (fun h66 => absurd ho h66) (fun h66 => ?_)
    · exact z_thrW C hTX 69 (ik := 268) (is := 270) (ic := 272) (n := 17) (tx := "not enough memory") (List.mem_cons_of_mem _ (List.mem_cons_of_mem _ List.mem_cons_self)) tk_268 ti_eIS (List.mem_of_getElem? (i := 25) rfl) dX8_trim_69 dX8_trim_72 dX8_trim_73 dX8_trim_76 dX8_trim_79 ⟨by decide, by decide⟩ ⟨by decide, by decide⟩ (⟨⟨(hFT.fc.tr hF8.fv.fc).tr hF53.fv.fc, x, ph, h8.fv (Or.inl rfl) hF53.fv (RX.rf hR2)⟩, rfl⟩)
def rt_X8_close : Room := { frames := 7, cells := 1, slots := 6, locals := 221 }
set_option maxHeartbeats 4000000 in
set_option maxRecDepth 100000 in
theorem c_X8_close_t {l : Launch} {G : mG} {ad : mA} {S : mS} {L : mL} {R : mR} {T c N : NN} {d n B x u : Nat} {ph : Nat → Nat} {UR SR : Nat → NN} {sf : Nat → Nat} {y : Int32} (hlf : l.stackTraces = false) (h : CS S R T c d n B x u ph N UR SR sf) (hxx : ¬ isP n y) : Kt l yX8_close cX8_close 3 (some .int) rt_X8_close G ad mdm [.ref (ad 0 0), .int y] S L R eIO (fun S2 L2 R2 => CQ S S2 R2 T c d n B u N UR SR sf ∧ L = L2) := by
  refine Kt.of RX8 hlf (by decide) rfl (Nat.le_of_ble_eq_true rfl) ?_
  intro X hXl hXG C hTX
  subst hXl; subst hXG
  change Z X 3 ad mdm S L R 0 0 0 [(0, _), (1, _)] []
  have hR := h.1
  obtain ⟨hP1, hP2, r5, r6, r7, r32, r33⟩ := h.2.1
  obtain ⟨hd2, rD, rE, hAT, hAC, hn10, hT⟩ := h.2.2.1
  obtain ⟨hx, hx10, hu, hu10⟩ := h.2.2.2.1
  obtain ⟨hB, hv1, hv2, hJ⟩ := h.2.2.2.2.1
  have hB31 := h.2.2.2.2.2.2.2
  have hI := hJ.1.1
  have hp0 : ph 0 < 15 := hP1 0 (by omega)
  have hp1 : ph 1 < 15 := hP1 1 (by omega)
  have hp2 : ph 2 < 15 := hP1 2 (by omega)
  have h10 : ph 1 ≠ ph 0 := h.ne (by omega) (by omega) (by omega)
  have h01 : ph 0 ≠ ph 1 := h.ne (by omega) (by omega) (by omega)
  have hd : d < 3 := by omega
  have hcn := hAT.1
  have hP := hB.2.2.2.2
  refine z_aload_n C 0 0 0 dX8_close_0 rfl rfl ?_
  refine z_iload_n C 1 1 1 dX8_close_1 rfl rfl ?_
  exact z_thV C hTX 2 dX8_close_2 cv_X8_151 (c_X8_checkProgram_t hlf (d := d) (n := n) hR hd2 rD hAT.1 hn10 hxx) rfl ⟨by decide, rfl⟩ (by first | assumption | exact Nat.zero_lt_one | exact (show (15 : Nat) < 16 by decide) | exact Nat.lt_succ_of_lt (by assumption) | omega) rfl rfl (Nat.le_of_ble_eq_true rfl) ⟨by decide, by decide⟩ ⟨by decide, by decide⟩ (fun S' L' R' q => by obtain ⟨rfl, rfl, rfl⟩ := q; exact ⟨⟨FC.rf _, x, ph, h⟩, rfl⟩)

set_option maxHeartbeats 4000000 in
set_option maxRecDepth 100000 in
theorem c_X8_close_t2 {l : Launch} {G : mG} {ad : mA} {S : mS} {L : mL} {R : mR} {T c N : NN} {d n B x u : Nat} {ph : Nat → Nat} {UR SR : Nat → NN} {sf : Nat → Nat} {p : Nat} (hlf : l.stackTraces = false) (h : CS S R T c d n B x u ph N UR SR sf) (hp : p < n) (hc : fo N p 0 = 0) : Kt l yX8_close cX8_close 3 (some .int) rt_X8_close G ad mdm [.ref (ad 0 0), .int (nI p)] S L R eIS (fun S2 L2 R2 => CQ S S2 R2 T c d n B u N UR SR sf ∧ L = L2) := by
  refine Kt.of RX8 hlf (by decide) rfl (Nat.le_of_ble_eq_true rfl) ?_
  intro X hXl hXG C hTX
  subst hXl; subst hXG
  change Z X 3 ad mdm S L R 0 0 0 [(0, _), (1, _)] []
  have hR := h.1
  obtain ⟨hP1, hP2, r5, r6, r7, r32, r33⟩ := h.2.1
  obtain ⟨hd2, rD, rE, hAT, hAC, hn10, hT⟩ := h.2.2.1
  obtain ⟨hx, hx10, hu, hu10⟩ := h.2.2.2.1
  obtain ⟨hB, hv1, hv2, hJ⟩ := h.2.2.2.2.1
  have hB31 := h.2.2.2.2.2.2.2
  have hI := hJ.1.1
  have hp0 : ph 0 < 15 := hP1 0 (by omega)
  have hp1 : ph 1 < 15 := hP1 1 (by omega)
  have hp2 : ph 2 < 15 := hP1 2 (by omega)
  have h10 : ph 1 ≠ ph 0 := h.ne (by omega) (by omega) (by omega)
  have h01 : ph 0 ≠ ph 1 := h.ne (by omega) (by omega) (by omega)
  have hd : d < 3 := by omega
  have hcn := hAT.1
  have hP := hB.2.2.2.2
  refine z_aload_n C 0 0 0 dX8_close_0 rfl rfl ?_
  refine z_iload_n C 1 1 1 dX8_close_1 rfl rfl ?_
  refine z_cVv0 C 2 dX8_close_2 cv_X8_151 (c_X8_checkProgram (d := d) (n := n) hR hd2 rD hAT.1 hn10 hp) rfl ⟨by decide, rfl⟩ (by first | assumption | exact Nat.zero_lt_one | exact (show (15 : Nat) < 16 by decide) | exact Nat.lt_succ_of_lt (by assumption) | omega) rfl rfl (Nat.le_of_ble_eq_true rfl) ⟨by decide, by decide⟩ ⟨rfl, rfl⟩ ⟨by decide, by decide⟩ ?_
  intro S2 L2 R2 p2
  obtain ⟨rfl, rfl, rfl⟩ := p2
  refine z_aload_n C 5 0 0 dX8_close_5 rfl rfl ?_
  refine z_getr C 6 dX8_close_6 gf_X8_42 rfl (by first | assumption | exact Nat.zero_lt_one | exact (show (15 : Nat) < 16 by decide) | exact Nat.lt_succ_of_lt (by assumption) | omega) (by first | exact hRb _ _ _ _ rfl | exact hR2 _ _ _ _ rfl | exact hR _ _ _ _ rfl | assumption) ?_
  refine z_getr C 9 dX8_close_9 gf_X8_101 rfl (by first | assumption | exact Nat.zero_lt_one | exact (show (15 : Nat) < 16 by decide) | exact Nat.lt_succ_of_lt (by assumption) | omega) (by first | exact hRb _ _ _ _ rfl | exact hR2 _ _ _ _ rfl | exact hR _ _ _ _ rfl | assumption) ?_
  refine z_getr C 12 dX8_close_12 gf_X8_154 rfl (by first | assumption | exact Nat.zero_lt_one | exact (show (15 : Nat) < 16 by decide) | exact Nat.lt_succ_of_lt (by assumption) | omega) (by first | exact hRb _ _ _ _ rfl | exact hR2 _ _ _ _ rfl | exact hR _ _ _ _ rfl | assumption) ?_
  refine z_iload_n C 15 1 1 dX8_close_15 rfl rfl ?_
  refine z_iald C 16 dX8_close_16 (by first | rfl | assumption) (by first | assumption | exact Nat.zero_lt_one | exact (show (15 : Nat) < 16 by decide) | exact Nat.lt_succ_of_lt (by assumption) | omega) (by first | rfl | assumption) (by first | decide | omega) (by first | assumption | omega) ?_
  rw [(hB.1.2 p (by omega)).1]
  first | with_reducible refine z_if_neB C 17 31 dX8_close_17 (by decide) (fun h17 => absurd hc h17) (fun h17 => ?_) | with_reducible refine z_if_neN C 17 31 dX8_close_17 (by decide) (by omega) (fun h17 => absurd hc h17) (fun h17 => ?_) | refine z_if_ne C 17 31 dX8_close_17 (by decide) (fun h17 => absurd hc h17) (fun h17 => ?_)
  · exact z_thrW C hTX 20 (ik := 268) (is := 312) (ic := 272) (n := 23) (tx := "it is closed") (List.mem_cons_of_mem _ (List.mem_cons_of_mem _ List.mem_cons_self)) tk_268 ti_eIS (List.mem_of_getElem? (i := 31) rfl) dX8_close_20 dX8_close_23 dX8_close_24 dX8_close_27 dX8_close_30 ⟨by decide, by decide⟩ ⟨by decide, by decide⟩ (⟨⟨FC.rf _, x, ph, h⟩, rfl⟩)
def rt_X8_setLimit : Room := { frames := 6, cells := 1, slots := 6, locals := 200 }
set_option maxHeartbeats 4000000 in
set_option maxRecDepth 100000 in
theorem c_X8_setLimit_t {l : Launch} {G : mG} {ad : mA} {S : mS} {L : mL} {R : mR} {T c N : NN} {d n B x u : Nat} {ph : Nat → Nat} {UR SR : Nat → NN} {sf : Nat → Nat} {y : Int32} (hlf : l.stackTraces = false) (h : CS S R T c d n B x u ph N UR SR sf) (hxx : ¬ isR 50 2000 y) : Kt l yX8_setLimit cX8_setLimit 3 (some .int) rt_X8_setLimit G ad mdm [.ref (ad 0 0), .int y] S L R eIA (fun S2 L2 R2 => CQ S S2 R2 T c d n B u N UR SR sf ∧ L = L2) := by
  refine Kt.of RX8 hlf (by decide) rfl (Nat.le_of_ble_eq_true rfl) ?_
  intro X hXl hXG C hTX
  subst hXl; subst hXG
  change Z X 3 ad mdm S L R 0 0 0 [(0, _), (1, _)] []
  have hR := h.1
  obtain ⟨hP1, hP2, r5, r6, r7, r32, r33⟩ := h.2.1
  obtain ⟨hd2, rD, rE, hAT, hAC, hn10, hT⟩ := h.2.2.1
  obtain ⟨hx, hx10, hu, hu10⟩ := h.2.2.2.1
  obtain ⟨hB, hv1, hv2, hJ⟩ := h.2.2.2.2.1
  have hB31 := h.2.2.2.2.2.2.2
  have hI := hJ.1.1
  have hp0 : ph 0 < 15 := hP1 0 (by omega)
  have hp1 : ph 1 < 15 := hP1 1 (by omega)
  have hp2 : ph 2 < 15 := hP1 2 (by omega)
  have h10 : ph 1 ≠ ph 0 := h.ne (by omega) (by omega) (by omega)
  have h01 : ph 0 ≠ ph 1 := h.ne (by omega) (by omega) (by omega)
  have hd : d < 3 := by omega
  have hcn := hAT.1
  have hP := hB.2.2.2.2
  refine z_iload_n C 0 1 1 dX8_setLimit_0 rfl rfl ?_
  refine z_bipush (v := nI 50) C 1 dX8_setLimit_1 (by decide +kernel) ?_
  first | with_reducible refine z_icmp_ltN C 3 13 dX8_setLimit_3 (by decide) (by omega) (by omega) (fun h3 => ?_) (fun h3 => ?_) | refine z_icmp_lt C 3 13 dX8_setLimit_3 (by decide) (fun h3 => ?_) (fun h3 => ?_)
  · exact z_thrW C hTX 13 (ik := 74) (is := 317) (ic := 78) (n := 24) (tx := "no such limit") (List.mem_cons_self) tk_74 ti_eIA (List.mem_of_getElem? (i := 32) rfl) dX8_setLimit_13 dX8_setLimit_16 dX8_setLimit_17 dX8_setLimit_20 dX8_setLimit_23 ⟨by decide, by decide⟩ ⟨by decide, by decide⟩ (⟨⟨FC.rf _, x, ph, h⟩, rfl⟩)
  · refine z_iload_n C 6 1 1 dX8_setLimit_6 rfl rfl ?_
    refine z_sipush (v := nI 2000) C 7 dX8_setLimit_7 (by decide +kernel) ?_
    first | with_reducible refine z_icmp_leN C 10 24 dX8_setLimit_10 (by decide) (by omega) (by omega) (fun h10 => (isR_0 hxx (by decide) (by decide) h3 (Int32.not_lt.mpr h10)).elim) (fun h10 => ?_) | refine z_icmp_le C 10 24 dX8_setLimit_10 (by decide) (fun h10 => (isR_0 hxx (by decide) (by decide) h3 (Int32.not_lt.mpr h10)).elim) (fun h10 => ?_)
    · exact z_thrW C hTX 13 (ik := 74) (is := 317) (ic := 78) (n := 24) (tx := "no such limit") (List.mem_cons_self) tk_74 ti_eIA (List.mem_of_getElem? (i := 32) rfl) dX8_setLimit_13 dX8_setLimit_16 dX8_setLimit_17 dX8_setLimit_20 dX8_setLimit_23 ⟨by decide, by decide⟩ ⟨by decide, by decide⟩ (⟨⟨FC.rf _, x, ph, h⟩, rfl⟩)

set_option maxHeartbeats 4000000 in
set_option maxRecDepth 100000 in
theorem c_X8_setLimit_t2 {l : Launch} {G : mG} {ad : mA} {S : mS} {L : mL} {R : mR} {T c N : NN} {d n B x u : Nat} {ph : Nat → Nat} {UR SR : Nat → NN} {sf : Nat → Nat} {w : Nat} (hlf : l.stackTraces = false) (h : CS S R T c d n B x u ph N UR SR sf) (hw0 : 50 ≤ w) (hw : w ≤ 2000) (hm : fMem (upd N 0 (nI w)) T n = none) : Kt l yX8_setLimit cX8_setLimit 3 (some .int) rt_X8_setLimit G ad mdm [.ref (ad 0 0), .int (nI w)] S L R eIS (fun S2 L2 R2 => CQ S S2 R2 T c d n B u N UR SR sf ∧ L = L2) := by
  refine Kt.of RX8 hlf (by decide) rfl (Nat.le_of_ble_eq_true rfl) ?_
  intro X hXl hXG C hTX
  subst hXl; subst hXG
  change Z X 3 ad mdm S L R 0 0 0 [(0, _), (1, _)] []
  have hR := h.1
  obtain ⟨hP1, hP2, r5, r6, r7, r32, r33⟩ := h.2.1
  obtain ⟨hd2, rD, rE, hAT, hAC, hn10, hT⟩ := h.2.2.1
  obtain ⟨hx, hx10, hu, hu10⟩ := h.2.2.2.1
  obtain ⟨hB, hv1, hv2, hJ⟩ := h.2.2.2.2.1
  have hB31 := h.2.2.2.2.2.2.2
  have hI := hJ.1.1
  have hp0 : ph 0 < 15 := hP1 0 (by omega)
  have hp1 : ph 1 < 15 := hP1 1 (by omega)
  have hp2 : ph 2 < 15 := hP1 2 (by omega)
  have h10 : ph 1 ≠ ph 0 := h.ne (by omega) (by omega) (by omega)
  have h01 : ph 0 ≠ ph 1 := h.ne (by omega) (by omega) (by omega)
  have hd : d < 3 := by omega
  have hcn := hAT.1
  have hP := hB.2.2.2.2
  refine z_iload_n C 0 1 1 dX8_setLimit_0 rfl rfl ?_
  refine z_bipush (v := nI 50) C 1 dX8_setLimit_1 (by decide +kernel) ?_
  first | with_reducible refine z_icmp_ltN C 3 13 dX8_setLimit_3 (by decide) (by omega) (by omega) (fun h3 => absurd hw0 (by omega)) (fun h3 => ?_) | refine z_icmp_lt C 3 13 dX8_setLimit_3 (by decide) (fun h3 => absurd hw0 (by omega)) (fun h3 => ?_)
  · refine z_iload_n C 6 1 1 dX8_setLimit_6 rfl rfl ?_
    refine z_sipush (v := nI 2000) C 7 dX8_setLimit_7 (by decide +kernel) ?_
    first | with_reducible refine z_icmp_leN C 10 24 dX8_setLimit_10 (by decide) (by omega) (by omega) (fun h10 => ?_) (fun h10 => absurd hw (by omega)) | refine z_icmp_le C 10 24 dX8_setLimit_10 (by decide) (fun h10 => ?_) (fun h10 => absurd hw (by omega))
    · refine z_aload_n C 24 0 0 dX8_setLimit_24 rfl rfl ?_
      refine z_getr C 25 dX8_setLimit_25 gf_X8_42 rfl (by first | assumption | exact Nat.zero_lt_one | exact (show (15 : Nat) < 16 by decide) | exact Nat.lt_succ_of_lt (by assumption) | omega) (by first | exact hRb _ _ _ _ rfl | exact hR2 _ _ _ _ rfl | exact hR _ _ _ _ rfl | assumption) ?_
      refine z_getr C 28 dX8_setLimit_28 gf_X8_232 rfl (by first | assumption | exact Nat.zero_lt_one | exact (show (15 : Nat) < 16 by decide) | exact Nat.lt_succ_of_lt (by assumption) | omega) (by first | exact hRb _ _ _ _ rfl | exact hR2 _ _ _ _ rfl | exact hR _ _ _ _ rfl | assumption) ?_
      refine z_cVi0 C 31 dX8_setLimit_31 cv_X8_236 (c_X3_steps (v := ph 0) hR hp0) rfl ⟨by decide, rfl⟩ (by first | assumption | exact Nat.zero_lt_one | exact (show (15 : Nat) < 16 by decide) | exact Nat.lt_succ_of_lt (by assumption) | omega) rfl rfl (Nat.le_of_ble_eq_true rfl) ⟨by decide, by decide⟩ ⟨rfl, rfl⟩ ⟨by decide, by decide⟩ ?_
      intro r31 S31 L31 R31 p31
      obtain ⟨rfl, rfl, rfl, rfl⟩ := p31
      refine z_istore_n C 34 2 [(2, _), (0, _), (1, _)] dX8_setLimit_34 rfl (by decide) rfl ?_
      refine z_aload_n C 35 0 1 dX8_setLimit_35 rfl rfl ?_
      refine z_getr C 36 dX8_setLimit_36 gf_X8_46 rfl (by first | assumption | exact Nat.zero_lt_one | exact (show (15 : Nat) < 16 by decide) | exact Nat.lt_succ_of_lt (by assumption) | omega) (by first | exact hRb _ _ _ _ rfl | exact hR2 _ _ _ _ rfl | exact hR _ _ _ _ rfl | assumption) ?_
      refine z_aload_n C 39 0 1 dX8_setLimit_39 rfl rfl ?_
      refine z_getr C 40 dX8_setLimit_40 gf_X8_42 rfl (by first | assumption | exact Nat.zero_lt_one | exact (show (15 : Nat) < 16 by decide) | exact Nat.lt_succ_of_lt (by assumption) | omega) (by first | exact hRb _ _ _ _ rfl | exact hR2 _ _ _ _ rfl | exact hR _ _ _ _ rfl | assumption) ?_
      refine z_cVv0 C 43 dX8_setLimit_43 cv_X8_244 (c_X4_copyFrom (N := N) (n := n) (q := ph 0) (v := ph 1) (d := d) hR hp1 hp0 h01 hv1 hv2 hB hI) rfl ⟨by decide, rfl⟩ (by first | assumption | exact Nat.zero_lt_one | exact (show (15 : Nat) < 16 by decide) | exact Nat.lt_succ_of_lt (by assumption) | omega) rfl rfl (Nat.le_of_ble_eq_true rfl) ⟨by decide, by decide⟩ ⟨rfl, rfl⟩ ⟨by decide, by decide⟩ ?_
      intro S43 L43 R43 p43
      obtain ⟨hB8, hF8, rfl, rfl⟩ := p43
      have hRX : RX R (up3 (up3 R 25 (ph 1) 1 (some (3, d))) 12 (ph 1) 0 (some (3, d))) (ph 1) := RX.cp hR
      have hR2 := hRX.1
      have h8 := h.fv (Or.inl rfl) hF8.fv hRX
      have r5b := h8.2.1.2.2.1
      have r6b := h8.2.1.2.2.2.1
      have hw1 : (up3 (up3 R 25 (ph 1) 1 (some (3, d))) 12 (ph 1) 0 (some (3, d))) 25 (ph 1) 1 = some (3, d) := RX_l1
      have hw2 : (up3 (up3 R 25 (ph 1) 1 (some (3, d))) 12 (ph 1) 0 (some (3, d))) 12 (ph 1) 0 = some (3, d) := RX_l2
      have hAT8 := h8.2.2.1.2.2.2.1
      have hAC8 := h8.2.2.1.2.2.2.2.1
      refine z_aload_n C 46 0 1 dX8_setLimit_46 rfl rfl ?_
      refine z_getr C 47 dX8_setLimit_47 gf_X8_46 rfl (by first | assumption | exact Nat.zero_lt_one | exact (show (15 : Nat) < 16 by decide) | exact Nat.lt_succ_of_lt (by assumption) | omega) (by first | exact hRb _ _ _ _ rfl | exact hR2 _ _ _ _ rfl | exact hR _ _ _ _ rfl | assumption) ?_
      refine z_getr C 50 dX8_setLimit_50 gf_X8_101 rfl (by first | assumption | exact Nat.zero_lt_one | exact (show (15 : Nat) < 16 by decide) | exact Nat.lt_succ_of_lt (by assumption) | omega) (by first | exact hRb _ _ _ _ rfl | exact hR2 _ _ _ _ rfl | exact hR _ _ _ _ rfl | assumption) ?_
      refine z_iload_n C 53 1 2 dX8_setLimit_53 rfl rfl ?_
      refine z_puti C 54 dX8_setLimit_54 gf_X8_105 ⟨rfl, rfl⟩ rfl (by first | assumption | exact Nat.zero_lt_one | exact (show (15 : Nat) < 16 by decide) | exact Nat.lt_succ_of_lt (by assumption) | omega) ?_
      have hF57 : FV S43 (up3 S43 12 (ph 1) 1 (nI w)) (ph 1) := (FV.rf _ _).up (by omega)
      have h57 := h8.fv (Or.inl rfl) hF57 (RX.rf hR2)
      have hAT57 := h57.2.2.1.2.2.2.1
      refine z_aload_n C 57 0 1 dX8_setLimit_57 rfl rfl ?_
      refine z_getr C 58 dX8_setLimit_58 gf_X8_46 rfl (by first | assumption | exact Nat.zero_lt_one | exact (show (15 : Nat) < 16 by decide) | exact Nat.lt_succ_of_lt (by assumption) | omega) (by first | exact hRb _ _ _ _ rfl | exact hR2 _ _ _ _ rfl | exact hR _ _ _ _ rfl | assumption) ?_
      refine z_cVi0 C 61 dX8_setLimit_61 cv_X8_319 (c_X4_makeMemory (N := upd N 0 (nI w)) (T := T) (n := n) (d := d) (B := B) hR2 hp1 hd hw1 hw2 hAT57 hn10 hJ.1.lim.1 hB8.lim hJ.1.lim.2.1 hJ.1.lim.2.2.1 (by omega)) rfl ⟨by decide, rfl⟩ (by first | assumption | exact Nat.zero_lt_one | exact (show (15 : Nat) < 16 by decide) | exact Nat.lt_succ_of_lt (by assumption) | omega) rfl rfl (Nat.le_of_ble_eq_true rfl) ⟨by decide, by decide⟩ ⟨rfl, rfl⟩ ⟨by decide, by decide⟩ ?_
      intro r61 S61 L61 R61 p61
      obtain ⟨hmm, hFV, rfl, hFR⟩ := p61
      rw [hm] at hmm
      first | with_reducible refine z_if_neB C 64 78 dX8_setLimit_64 (by decide) (fun h64 => (by exfalso; rw [hmm.1] at h64; exact absurd h64 (by decide))) (fun h64 => ?_) | with_reducible refine z_if_neN C 64 78 dX8_setLimit_64 (by decide) (by omega) (fun h64 => (by exfalso; rw [hmm.1] at h64; exact absurd h64 (by decide))) (fun h64 => ?_) | refine z_if_ne C 64 78 dX8_setLimit_64 (by decide) (fun h64 => (by exfalso; rw [hmm.1] at h64; exact absurd h64 (by decide))) (fun h64 => ?_)
      · exact z_thrW C hTX 67 (ik := 268) (is := 270) (ic := 272) (n := 17) (tx := "not enough memory") (List.mem_cons_of_mem _ (List.mem_cons_of_mem _ List.mem_cons_self)) tk_268 ti_eIS (List.mem_of_getElem? (i := 25) rfl) dX8_setLimit_67 dX8_setLimit_70 dX8_setLimit_71 dX8_setLimit_74 dX8_setLimit_77 ⟨by decide, by decide⟩ ⟨by decide, by decide⟩ (⟨⟨(hF8.fv.fc.tr hF57.fc).tr hFV.fc, x, ph, h57.fv (Or.inl rfl) hFV hFR.rx⟩, rfl⟩)
def rt_X8_setPolicy : Room := { frames := 7, cells := 1, slots := 6, locals := 220 }
set_option maxHeartbeats 4000000 in
set_option maxRecDepth 100000 in
theorem c_X8_setPolicy_t {l : Launch} {G : mG} {ad : mA} {S : mS} {L : mL} {R : mR} {T c N : NN} {d n B x u : Nat} {ph : Nat → Nat} {UR SR : Nat → NN} {sf : Nat → Nat} {y : Int32} (hlf : l.stackTraces = false) (h : CS S R T c d n B x u ph N UR SR sf) (hxx : ¬ isR 0 2 y) : Kt l yX8_setPolicy cX8_setPolicy 3 (some .int) rt_X8_setPolicy G ad mdm [.ref (ad 0 0), .int y] S L R eIA (fun S2 L2 R2 => CQ S S2 R2 T c d n B u N UR SR sf ∧ L = L2) := by
  refine Kt.of RX8 hlf (by decide) rfl (Nat.le_of_ble_eq_true rfl) ?_
  intro X hXl hXG C hTX
  subst hXl; subst hXG
  change Z X 3 ad mdm S L R 0 0 0 [(0, _), (1, _)] []
  have hR := h.1
  obtain ⟨hP1, hP2, r5, r6, r7, r32, r33⟩ := h.2.1
  obtain ⟨hd2, rD, rE, hAT, hAC, hn10, hT⟩ := h.2.2.1
  obtain ⟨hx, hx10, hu, hu10⟩ := h.2.2.2.1
  obtain ⟨hB, hv1, hv2, hJ⟩ := h.2.2.2.2.1
  have hB31 := h.2.2.2.2.2.2.2
  have hI := hJ.1.1
  have hp0 : ph 0 < 15 := hP1 0 (by omega)
  have hp1 : ph 1 < 15 := hP1 1 (by omega)
  have hp2 : ph 2 < 15 := hP1 2 (by omega)
  have h10 : ph 1 ≠ ph 0 := h.ne (by omega) (by omega) (by omega)
  have h01 : ph 0 ≠ ph 1 := h.ne (by omega) (by omega) (by omega)
  have hd : d < 3 := by omega
  have hcn := hAT.1
  have hP := hB.2.2.2.2
  refine z_iload_n C 0 1 1 dX8_setPolicy_0 rfl rfl ?_
  exact z_thS C hTX 1 dX8_setPolicy_1 cs_X8_241 (c_X8_checkPolicy_t hlf hxx) rfl rfl (Nat.le_of_ble_eq_true rfl) ⟨by decide, by decide⟩ ⟨by decide, by decide⟩ (fun S' L' R' q => by obtain ⟨rfl, rfl, rfl⟩ := q; exact ⟨⟨FC.rf _, x, ph, h⟩, rfl⟩)
def rt_X8_saveSnapshot : Room := { frames := 7, cells := 1, slots := 6, locals := 220 }
set_option maxHeartbeats 4000000 in
set_option maxRecDepth 100000 in
theorem c_X8_saveSnapshot_t {l : Launch} {G : mG} {ad : mA} {S : mS} {L : mL} {R : mR} {T c N : NN} {d n B x u : Nat} {ph : Nat → Nat} {UR SR : Nat → NN} {sf : Nat → Nat} {y : Int32} (hlf : l.stackTraces = false) (h : CS S R T c d n B x u ph N UR SR sf) (hxx : ¬ isP 2 y) : Kt l yX8_saveSnapshot cX8_saveSnapshot 3 (some .boolean) rt_X8_saveSnapshot G ad mdm [.ref (ad 0 0), .int y] S L R eIO (fun S2 L2 R2 => CQ S S2 R2 T c d n B u N UR SR sf ∧ L = L2) := by
  refine Kt.of RX8 hlf (by decide) rfl (Nat.le_of_ble_eq_true rfl) ?_
  intro X hXl hXG C hTX
  subst hXl; subst hXG
  change Z X 3 ad mdm S L R 0 0 0 [(0, _), (1, _)] []
  have hR := h.1
  obtain ⟨hP1, hP2, r5, r6, r7, r32, r33⟩ := h.2.1
  obtain ⟨hd2, rD, rE, hAT, hAC, hn10, hT⟩ := h.2.2.1
  obtain ⟨hx, hx10, hu, hu10⟩ := h.2.2.2.1
  obtain ⟨hB, hv1, hv2, hJ⟩ := h.2.2.2.2.1
  have hB31 := h.2.2.2.2.2.2.2
  have hI := hJ.1.1
  have hp0 : ph 0 < 15 := hP1 0 (by omega)
  have hp1 : ph 1 < 15 := hP1 1 (by omega)
  have hp2 : ph 2 < 15 := hP1 2 (by omega)
  have h10 : ph 1 ≠ ph 0 := h.ne (by omega) (by omega) (by omega)
  have h01 : ph 0 ≠ ph 1 := h.ne (by omega) (by omega) (by omega)
  have hd : d < 3 := by omega
  have hcn := hAT.1
  have hP := hB.2.2.2.2
  refine z_iload_n C 0 1 1 dX8_saveSnapshot_0 rfl rfl ?_
  exact z_thS C hTX 1 dX8_saveSnapshot_1 cs_X8_329 (c_X8_checkSlot_t hlf hxx) rfl rfl (Nat.le_of_ble_eq_true rfl) ⟨by decide, by decide⟩ ⟨by decide, by decide⟩ (fun S' L' R' q => by obtain ⟨rfl, rfl, rfl⟩ := q; exact ⟨⟨FC.rf _, x, ph, h⟩, rfl⟩)
def rt_X8_restoreSnapshot : Room := { frames := 7, cells := 1, slots := 6, locals := 220 }
set_option maxHeartbeats 4000000 in
set_option maxRecDepth 100000 in
theorem c_X8_restoreSnapshot_t {l : Launch} {G : mG} {ad : mA} {S : mS} {L : mL} {R : mR} {T c N : NN} {d n B x u : Nat} {ph : Nat → Nat} {UR SR : Nat → NN} {sf : Nat → Nat} {y : Int32} (hlf : l.stackTraces = false) (h : CS S R T c d n B x u ph N UR SR sf) (hxx : ¬ isP 2 y) : Kt l yX8_restoreSnapshot cX8_restoreSnapshot 2 (some .int) rt_X8_restoreSnapshot G ad mdm [.ref (ad 0 0), .int y] S L R eIO (fun S2 L2 R2 => CQ S S2 R2 T c d n B u N UR SR sf ∧ L = L2) := by
  refine Kt.of RX8 hlf (by decide) rfl (Nat.le_of_ble_eq_true rfl) ?_
  intro X hXl hXG C hTX
  subst hXl; subst hXG
  change Z X 2 ad mdm S L R 0 0 0 [(0, _), (1, _)] []
  have hR := h.1
  obtain ⟨hP1, hP2, r5, r6, r7, r32, r33⟩ := h.2.1
  obtain ⟨hd2, rD, rE, hAT, hAC, hn10, hT⟩ := h.2.2.1
  obtain ⟨hx, hx10, hu, hu10⟩ := h.2.2.2.1
  obtain ⟨hB, hv1, hv2, hJ⟩ := h.2.2.2.2.1
  have hB31 := h.2.2.2.2.2.2.2
  have hI := hJ.1.1
  have hp0 : ph 0 < 15 := hP1 0 (by omega)
  have hp1 : ph 1 < 15 := hP1 1 (by omega)
  have hp2 : ph 2 < 15 := hP1 2 (by omega)
  have h10 : ph 1 ≠ ph 0 := h.ne (by omega) (by omega) (by omega)
  have h01 : ph 0 ≠ ph 1 := h.ne (by omega) (by omega) (by omega)
  have hd : d < 3 := by omega
  have hcn := hAT.1
  have hP := hB.2.2.2.2
  refine z_iload_n C 0 1 1 dX8_restoreSnapshot_0 rfl rfl ?_
  exact z_thS C hTX 1 dX8_restoreSnapshot_1 cs_X8_329 (c_X8_checkSlot_t hlf hxx) rfl rfl (Nat.le_of_ble_eq_true rfl) ⟨by decide, by decide⟩ ⟨by decide, by decide⟩ (fun S' L' R' q => by obtain ⟨rfl, rfl, rfl⟩ := q; exact ⟨⟨FC.rf _, x, ph, h⟩, rfl⟩)

set_option maxHeartbeats 4000000 in
set_option maxRecDepth 100000 in
theorem c_X8_restoreSnapshot_t2 {l : Launch} {G : mG} {ad : mA} {S : mS} {L : mL} {R : mR} {T c N : NN} {d n B x u : Nat} {ph : Nat → Nat} {UR SR : Nat → NN} {sf : Nat → Nat} {s : Nat} (hlf : l.stackTraces = false) (h : CS S R T c d n B x u ph N UR SR sf) (hs : s < 2) (hf : sf s = 0) : Kt l yX8_restoreSnapshot cX8_restoreSnapshot 2 (some .int) rt_X8_restoreSnapshot G ad mdm [.ref (ad 0 0), .int (nI s)] S L R eIS (fun S2 L2 R2 => CQ S S2 R2 T c d n B u N UR SR sf ∧ L = L2) := by
  refine Kt.of RX8 hlf (by decide) rfl (Nat.le_of_ble_eq_true rfl) ?_
  intro X hXl hXG C hTX
  subst hXl; subst hXG
  change Z X 2 ad mdm S L R 0 0 0 [(0, _), (1, _)] []
  have hR := h.1
  obtain ⟨hP1, hP2, r5, r6, r7, r32, r33⟩ := h.2.1
  obtain ⟨hd2, rD, rE, hAT, hAC, hn10, hT⟩ := h.2.2.1
  obtain ⟨hx, hx10, hu, hu10⟩ := h.2.2.2.1
  obtain ⟨hB, hv1, hv2, hJ⟩ := h.2.2.2.2.1
  have hB31 := h.2.2.2.2.2.2.2
  have hI := hJ.1.1
  have hp0 : ph 0 < 15 := hP1 0 (by omega)
  have hp1 : ph 1 < 15 := hP1 1 (by omega)
  have hp2 : ph 2 < 15 := hP1 2 (by omega)
  have h10 : ph 1 ≠ ph 0 := h.ne (by omega) (by omega) (by omega)
  have h01 : ph 0 ≠ ph 1 := h.ne (by omega) (by omega) (by omega)
  have hd : d < 3 := by omega
  have hcn := hAT.1
  have hP := hB.2.2.2.2
  obtain ⟨hsf, hsf1, hsv⟩ := h.2.2.2.2.2.2.1 s hs
  rw [hf] at hsf
  refine z_iload_n C 0 1 1 dX8_restoreSnapshot_0 rfl rfl ?_
  refine z_cSv0 C 1 dX8_restoreSnapshot_1 cs_X8_329 (c_X8_checkSlot (by omega)) rfl rfl (Nat.le_of_ble_eq_true rfl) ⟨by decide, by decide⟩ ⟨rfl, rfl⟩ ⟨by decide, by decide⟩ ?_
  intro S1 L1 R1 p1
  obtain ⟨rfl, rfl, rfl⟩ := p1
  refine z_aload_n C 4 0 0 dX8_restoreSnapshot_4 rfl rfl ?_
  refine z_getr C 5 dX8_restoreSnapshot_5 gf_X8_63 rfl (by first | assumption | exact Nat.zero_lt_one | exact (show (15 : Nat) < 16 by decide) | exact Nat.lt_succ_of_lt (by assumption) | omega) (by first | exact hRb _ _ _ _ rfl | exact hR2 _ _ _ _ rfl | exact hR _ _ _ _ rfl | assumption) ?_
  refine z_iload_n C 8 1 1 dX8_restoreSnapshot_8 rfl rfl ?_
  refine z_zald C 9 dX8_restoreSnapshot_9 rfl (by first | assumption | exact Nat.zero_lt_one | exact (show (15 : Nat) < 16 by decide) | exact Nat.lt_succ_of_lt (by assumption) | omega) (by first | rfl | assumption) (by first | decide | omega) (by first | assumption | omega) ?_
  rw [hsf]
  first | with_reducible refine z_if_neB C 10 24 dX8_restoreSnapshot_10 (by decide) (fun h10 => absurd h10 (by first | decide | omega)) (fun h10 => ?_) | with_reducible refine z_if_neN C 10 24 dX8_restoreSnapshot_10 (by decide) (by omega) (fun h10 => absurd h10 (by first | decide | omega)) (fun h10 => ?_) | refine z_if_ne C 10 24 dX8_restoreSnapshot_10 (by decide) (fun h10 => absurd h10 (by first | decide | omega)) (fun h10 => ?_)
  · exact z_thrW C hTX 13 (ik := 268) (is := 332) (ic := 272) (n := 26) (tx := "the slot is empty") (List.mem_cons_of_mem _ (List.mem_cons_of_mem _ List.mem_cons_self)) tk_268 ti_eIS (List.mem_of_getElem? (i := 34) rfl) dX8_restoreSnapshot_13 dX8_restoreSnapshot_16 dX8_restoreSnapshot_17 dX8_restoreSnapshot_20 dX8_restoreSnapshot_23 ⟨by decide, by decide⟩ ⟨by decide, by decide⟩ (⟨⟨FC.rf _, x, ph, h⟩, rfl⟩)
