noncomputable def cSize (N T : NN) (n u w : Nat) : Int32 := match w with
  | 0 => nI n
  | 1 => N 0
  | 2 => fAll N T n
  | 3 => N 1
  | 4 => N 2
  | 5 => N 3
  | 6 => N 4
  | 7 => smI (fun k => fo N k 4) n
  | _ => nI u
theorem freed_eq {S : mS} {N T : NN} {n d p k : Nat} (hTR : TR S N T n) (hA : AT S d T n) (hn : n ≤ 10) (hI : rI N n) (hc : cI N) (hp : p < n) (hk : 1 ≤ k) (hk6 : k ≤ 6) (hf : fCan N p k) : rUses S 15 d p - rUses (tStep S d p k) 15 d p = fAll N T n - fAll (fStep N p k) T n := by
  have h2 := hTR.step hA hn hI hc hp hk hk6 hf
  rw [rUses_eq hTR.1 hA (by omega) (hI.2.2.1 p (by omega)), rUses_eq h2.1.1 (hA.ft h2.2) (by omega) ((hI.step (by omega) hk hk6 hf).2.2.1 p (by omega)), fAll_step hn hp]
  grind

def rm_X8_checkProgram : Room := { frames := 0, cells := 0, slots := 0, locals := 0 }
set_option maxHeartbeats 4000000 in
set_option maxRecDepth 100000 in
theorem c_X8_checkProgram {l : Launch} {G : mG} {ad : mA} {S : mS} {L : mL} {R : mR} {d n p : Nat} (hR : mlk R) (hd : d < 2) (rD : R 0 0 2 = some (3, d)) (hcn : S 3 d 6 = nI n) (hn10 : n ≤ 10) (hp : p < n) : Kv l yX8_checkProgram cX8_checkProgram 2 rm_X8_checkProgram G ad mdm [.ref (ad 0 0), .int (nI p)] S L R (fun S2 L2 R2 => S = S2 ∧ L = L2 ∧ R = R2) := by
  refine Kv.of RX8 (by decide) rfl (Nat.le_of_ble_eq_true rfl) ?_
  intro X hXl hXG C ret
  subst hXl; subst hXG
  change Z X 2 ad mdm S L R 0 0 0 [(0, _), (1, _)] []
  refine z_iload_n C 0 1 1 dX8_checkProgram_0 rfl rfl ?_
  refine z_if_lt C 1 15 dX8_checkProgram_1 (by decide) (fun h1 => absurd h1 (nI_pos (by omega))) (fun h1 => ?_)
  · refine z_iload_n C 4 1 1 dX8_checkProgram_4 rfl rfl ?_
    refine z_aload_n C 5 0 0 dX8_checkProgram_5 rfl rfl ?_
    refine z_getr C 6 dX8_checkProgram_6 gf_X8_23 rfl (by first | assumption | exact Nat.zero_lt_one | exact (show (15 : Nat) < 16 by decide) | exact Nat.lt_succ_of_lt (by assumption) | omega) (by first | exact hR _ _ _ _ rfl | exact hR2 _ _ _ _ rfl | assumption) ?_
    refine z_getiv C 9 dX8_checkProgram_9 gf_X8_98 rfl (by first | assumption | exact Nat.zero_lt_one | exact (show (15 : Nat) < 16 by decide) | exact Nat.lt_succ_of_lt (by assumption) | omega) hcn ?_
    first | with_reducible refine z_icmp_ltN C 12 25 dX8_checkProgram_12 (by decide) (by omega) (by omega) (fun h12 => ?_) (fun h12 => (by exfalso; first | omega | exact h12 (nI_lt (by assumption) (by omega)))) | refine z_icmp_lt C 12 25 dX8_checkProgram_12 (by decide) (fun h12 => ?_) (fun h12 => (by exfalso; first | omega | exact h12 (nI_lt (by assumption) (by omega))))
    · exact ret 25 _ _ _ _ dX8_checkProgram_25 (⟨rfl, rfl, rfl⟩)
def rm_X8_checkStep : Room := { frames := 0, cells := 0, slots := 0, locals := 0 }
set_option maxHeartbeats 4000000 in
set_option maxRecDepth 100000 in
theorem c_X8_checkStep {l : Launch} {G : mG} {ad : mA} {S : mS} {L : mL} {R : mR} {w : Nat} (hw0 : 1 ≤ w) (hw : w ≤ 6) : Kv l yX8_checkStep cX8_checkStep 1 rm_X8_checkStep G ad mdm [.int (nI w)] S L R (fun S2 L2 R2 => S = S2 ∧ L = L2 ∧ R = R2) := by
  refine Kv.of RX8 (by decide) rfl (Nat.le_of_ble_eq_true rfl) ?_
  intro X hXl hXG C ret
  subst hXl; subst hXG
  change Z X 1 ad mdm S L R 0 0 0 [(0, _)] []
  refine z_iload_n C 0 0 0 dX8_checkStep_0 rfl rfl ?_
  refine z_iconst (v := nI 1) C 1 dX8_checkStep_1 (by decide) ?_
  first | with_reducible refine z_icmp_ltN C 2 11 dX8_checkStep_2 (by decide) (by omega) (by omega) (fun h2 => absurd hw0 (by omega)) (fun h2 => ?_) | refine z_icmp_lt C 2 11 dX8_checkStep_2 (by decide) (fun h2 => absurd hw0 (by omega)) (fun h2 => ?_)
  · refine z_iload_n C 5 0 0 dX8_checkStep_5 rfl rfl ?_
    refine z_bipush (v := nI 6) C 6 dX8_checkStep_6 (by decide +kernel) ?_
    first | with_reducible refine z_icmp_leN C 8 21 dX8_checkStep_8 (by decide) (by omega) (by omega) (fun h8 => ?_) (fun h8 => absurd hw (by omega)) | refine z_icmp_le C 8 21 dX8_checkStep_8 (by decide) (fun h8 => ?_) (fun h8 => absurd hw (by omega))
    · exact ret 21 _ _ _ _ dX8_checkStep_21 (⟨rfl, rfl, rfl⟩)
def rm_X8_checkNotice : Room := { frames := 0, cells := 0, slots := 0, locals := 0 }
set_option maxHeartbeats 4000000 in
set_option maxRecDepth 100000 in
theorem c_X8_checkNotice {l : Launch} {G : mG} {ad : mA} {S : mS} {L : mL} {R : mR} {w : Nat} (hw : w ≤ 999) : Kv l yX8_checkNotice cX8_checkNotice 1 rm_X8_checkNotice G ad mdm [.int (nI w)] S L R (fun S2 L2 R2 => S = S2 ∧ L = L2 ∧ R = R2) := by
  refine Kv.of RX8 (by decide) rfl (Nat.le_of_ble_eq_true rfl) ?_
  intro X hXl hXG C ret
  subst hXl; subst hXG
  change Z X 1 ad mdm S L R 0 0 0 [(0, _)] []
  refine z_iload_n C 0 0 0 dX8_checkNotice_0 rfl rfl ?_
  refine z_if_lt C 1 11 dX8_checkNotice_1 (by decide) (fun h1 => absurd h1 (nI_pos (by omega))) (fun h1 => ?_)
  · refine z_iload_n C 4 0 0 dX8_checkNotice_4 rfl rfl ?_
    refine z_sipush (v := nI 999) C 5 dX8_checkNotice_5 (by decide +kernel) ?_
    first | with_reducible refine z_icmp_leN C 8 22 dX8_checkNotice_8 (by decide) (by omega) (by omega) (fun h8 => ?_) (fun h8 => absurd hw (by omega)) | refine z_icmp_le C 8 22 dX8_checkNotice_8 (by decide) (fun h8 => ?_) (fun h8 => absurd hw (by omega))
    · exact ret 22 _ _ _ _ dX8_checkNotice_22 (⟨rfl, rfl, rfl⟩)
def rm_X8_checkPolicy : Room := { frames := 0, cells := 0, slots := 0, locals := 0 }
set_option maxHeartbeats 4000000 in
set_option maxRecDepth 100000 in
theorem c_X8_checkPolicy {l : Launch} {G : mG} {ad : mA} {S : mS} {L : mL} {R : mR} {w : Nat} (hw : w ≤ 2) : Kv l yX8_checkPolicy cX8_checkPolicy 1 rm_X8_checkPolicy G ad mdm [.int (nI w)] S L R (fun S2 L2 R2 => S = S2 ∧ L = L2 ∧ R = R2) := by
  refine Kv.of RX8 (by decide) rfl (Nat.le_of_ble_eq_true rfl) ?_
  intro X hXl hXG C ret
  subst hXl; subst hXG
  change Z X 1 ad mdm S L R 0 0 0 [(0, _)] []
  refine z_iload_n C 0 0 0 dX8_checkPolicy_0 rfl rfl ?_
  refine z_if_lt C 1 9 dX8_checkPolicy_1 (by decide) (fun h1 => absurd h1 (nI_pos (by omega))) (fun h1 => ?_)
  · refine z_iload_n C 4 0 0 dX8_checkPolicy_4 rfl rfl ?_
    refine z_iconst (v := nI 2) C 5 dX8_checkPolicy_5 (by decide) ?_
    first | with_reducible refine z_icmp_leN C 6 20 dX8_checkPolicy_6 (by decide) (by omega) (by omega) (fun h6 => ?_) (fun h6 => absurd hw (by omega)) | refine z_icmp_le C 6 20 dX8_checkPolicy_6 (by decide) (fun h6 => ?_) (fun h6 => absurd hw (by omega))
    · exact ret 20 _ _ _ _ dX8_checkPolicy_20 (⟨rfl, rfl, rfl⟩)
def rm_X8_checkSlot : Room := { frames := 0, cells := 0, slots := 0, locals := 0 }
set_option maxHeartbeats 4000000 in
set_option maxRecDepth 100000 in
theorem c_X8_checkSlot {l : Launch} {G : mG} {ad : mA} {S : mS} {L : mL} {R : mR} {w : Nat} (hw : w ≤ 1) : Kv l yX8_checkSlot cX8_checkSlot 1 rm_X8_checkSlot G ad mdm [.int (nI w)] S L R (fun S2 L2 R2 => S = S2 ∧ L = L2 ∧ R = R2) := by
  refine Kv.of RX8 (by decide) rfl (Nat.le_of_ble_eq_true rfl) ?_
  intro X hXl hXG C ret
  subst hXl; subst hXG
  change Z X 1 ad mdm S L R 0 0 0 [(0, _)] []
  refine z_iload_n C 0 0 0 dX8_checkSlot_0 rfl rfl ?_
  refine z_if_lt C 1 9 dX8_checkSlot_1 (by decide) (fun h1 => absurd h1 (nI_pos (by omega))) (fun h1 => ?_)
  · refine z_iload_n C 4 0 0 dX8_checkSlot_4 rfl rfl ?_
    refine z_iconst (v := nI 2) C 5 dX8_checkSlot_5 (by decide) ?_
    first | with_reducible refine z_icmp_ltN C 6 20 dX8_checkSlot_6 (by decide) (by omega) (by omega) (fun h6 => ?_) (fun h6 => absurd hw (by omega)) | refine z_icmp_lt C 6 20 dX8_checkSlot_6 (by decide) (fun h6 => ?_) (fun h6 => absurd hw (by omega))
    · exact ret 20 _ _ _ _ dX8_checkSlot_20 (⟨rfl, rfl, rfl⟩)
def rm_X8_size : Room := { frames := 3, cells := 0, slots := 0, locals := 65 }
set_option maxHeartbeats 4000000 in
set_option maxRecDepth 100000 in
theorem c_X8_size {l : Launch} {G : mG} {ad : mA} {S : mS} {L : mL} {R : mR} {T c N : NN} {d n B x u : Nat} {ph : Nat → Nat} {UR SR : Nat → NN} {sf : Nat → Nat} {w : Nat} (h : CS S R T c d n B x u ph N UR SR sf) (hw : w ≤ 8) : Ki l yX8_size cX8_size 2 .int rm_X8_size G ad mdm [.ref (ad 0 0), .int (nI w)] S L R (fun r_ S2 L2 R2 => r_ = cSize N T n u w ∧ S = S2 ∧ L = L2 ∧ R = R2) := by
  refine Ki.of RX8 (by decide) rfl (Nat.le_of_ble_eq_true rfl) ?_
  intro X hXl hXG C ret
  subst hXl; subst hXG
  change Z X 2 ad mdm S L R 0 0 0 [(0, _), (1, _)] []
  have hR := h.1
  obtain ⟨hP1, hP2, r5, r6, r7, r32, r33⟩ := h.2.1
  obtain ⟨hd2, rD, rE, hAT, hAC, hn10, hT⟩ := h.2.2.1
  obtain ⟨hx, hx10, hu, hu10⟩ := h.2.2.2.1
  obtain ⟨hB, hv1, hv2, hJ⟩ := h.2.2.2.2.1
  have hB31 := h.2.2.2.2.2.2.2
  have hI := hJ.1.1
  have hp0 : ph 0 < 15 := hP1 0 (by omega)
  have hp1 : ph 1 < 15 := hP1 1 (by omega)
  have hp2 : ph 2 < 15 := hP1 2 (by omega)
  have h10 : ph 1 ≠ ph 0 := h.ne (by omega) (by omega) (by omega)
  have h01 : ph 0 ≠ ph 1 := h.ne (by omega) (by omega) (by omega)
  have hd : d < 3 := by omega
  have hcn := hAT.1
  have hP := hB.2.2.2.2
  refine z_iload_n C 0 1 1 dX8_size_0 rfl rfl ?_
  refine z_tab C 1 0 8 133 (fun n => [52, 60, 71, 82, 90, 98, 109, 117, 125].getD (n - 0) 0) dX8_size_1 (by decide) (by decide) (by decide) (fun n1 g1 k1 h1 => ?_) (fun h1 => absurd rfl (h1 w (Nat.zero_le _) hw))
  · rcases (show n1 = 0 ∨ n1 = 1 ∨ n1 = 2 ∨ n1 = 3 ∨ n1 = 4 ∨ n1 = 5 ∨ n1 = 6 ∨ n1 = 7 ∨ n1 = 8 by omega) with rfl | rfl | rfl | rfl | rfl | rfl | rfl | rfl | rfl
    · obtain rfl : w = 0 := (nI_eq (by omega) (by decide)).mp h1
      refine z_aload_n C 52 0 0 dX8_size_52 rfl rfl ?_
      refine z_getr C 53 dX8_size_53 gf_X8_23 rfl (by first | assumption | exact Nat.zero_lt_one | exact (show (15 : Nat) < 16 by decide) | exact Nat.lt_succ_of_lt (by assumption) | omega) (by first | exact hR _ _ _ _ rfl | exact hR2 _ _ _ _ rfl | assumption) ?_
      refine z_getiv C 56 dX8_size_56 gf_X8_98 rfl (by first | assumption | exact Nat.zero_lt_one | exact (show (15 : Nat) < 16 by decide) | exact Nat.lt_succ_of_lt (by assumption) | omega) hAT.1 ?_
      exact ret 59 _ _ _ _ _ dX8_size_59 (by first | rfl | exact bI_n | decide) (⟨rfl, rfl, rfl, rfl⟩)
    · obtain rfl : w = 1 := (nI_eq (by omega) (by decide)).mp h1
      refine z_aload_n C 60 0 0 dX8_size_60 rfl rfl ?_
      refine z_getr C 61 dX8_size_61 gf_X8_42 rfl (by first | assumption | exact Nat.zero_lt_one | exact (show (15 : Nat) < 16 by decide) | exact Nat.lt_succ_of_lt (by assumption) | omega) (by first | exact hR _ _ _ _ rfl | exact hR2 _ _ _ _ rfl | assumption) ?_
      refine z_getr C 64 dX8_size_64 gf_X8_101 rfl (by first | assumption | exact Nat.zero_lt_one | exact (show (15 : Nat) < 16 by decide) | exact Nat.lt_succ_of_lt (by assumption) | omega) (by first | exact hR _ _ _ _ rfl | exact hR2 _ _ _ _ rfl | assumption) ?_
      refine z_getiv C 67 dX8_size_67 gf_X8_105 rfl (by first | assumption | exact Nat.zero_lt_one | exact (show (15 : Nat) < 16 by decide) | exact Nat.lt_succ_of_lt (by assumption) | omega) hB.1.1 ?_
      exact ret 70 _ _ _ _ _ dX8_size_70 (by first | rfl | exact bI_n | decide) (⟨rfl, rfl, rfl, rfl⟩)
    · obtain rfl : w = 2 := (nI_eq (by omega) (by decide)).mp h1
      refine z_aload_n C 71 0 0 dX8_size_71 rfl rfl ?_
      refine z_getr C 72 dX8_size_72 gf_X8_42 rfl (by first | assumption | exact Nat.zero_lt_one | exact (show (15 : Nat) < 16 by decide) | exact Nat.lt_succ_of_lt (by assumption) | omega) (by first | exact hR _ _ _ _ rfl | exact hR2 _ _ _ _ rfl | assumption) ?_
      refine z_getr C 75 dX8_size_75 gf_X8_101 rfl (by first | assumption | exact Nat.zero_lt_one | exact (show (15 : Nat) < 16 by decide) | exact Nat.lt_succ_of_lt (by assumption) | omega) (by first | exact hR _ _ _ _ rfl | exact hR2 _ _ _ _ rfl | assumption) ?_
      refine z_cVi0 C 78 dX8_size_78 cv_X8_110 (c_X6_usedByAll (r := ph 0) (d := d) hR (by omega) hd hv2 hcn hn10) rfl ⟨by decide, rfl⟩ (by first | assumption | exact Nat.zero_lt_one | exact (show (15 : Nat) < 16 by decide) | exact Nat.lt_succ_of_lt (by assumption) | omega) rfl rfl (Nat.le_of_ble_eq_true rfl) ⟨by decide, by decide⟩ ⟨rfl, rfl⟩ ⟨by decide, by decide⟩ ?_
      intro r78 S78 L78 R78 p78
      obtain ⟨rfl, rfl, rfl, rfl⟩ := p78
      rw [rAll_eq hB.1 hAT hn10 hI]
      exact ret 81 _ _ _ _ _ dX8_size_81 (by first | rfl | exact bI_n | decide) (⟨rfl, rfl, rfl, rfl⟩)
    · obtain rfl : w = 3 := (nI_eq (by omega) (by decide)).mp h1
      refine z_aload_n C 82 0 0 dX8_size_82 rfl rfl ?_
      refine z_getr C 83 dX8_size_83 gf_X8_42 rfl (by first | assumption | exact Nat.zero_lt_one | exact (show (15 : Nat) < 16 by decide) | exact Nat.lt_succ_of_lt (by assumption) | omega) (by first | exact hR _ _ _ _ rfl | exact hR2 _ _ _ _ rfl | assumption) ?_
      refine z_getiv C 86 dX8_size_86 gf_X8_114 rfl (by first | assumption | exact Nat.zero_lt_one | exact (show (15 : Nat) < 16 by decide) | exact Nat.lt_succ_of_lt (by assumption) | omega) hP.1 ?_
      exact ret 89 _ _ _ _ _ dX8_size_89 (by first | rfl | exact bI_n | decide) (⟨rfl, rfl, rfl, rfl⟩)
    · obtain rfl : w = 4 := (nI_eq (by omega) (by decide)).mp h1
      refine z_aload_n C 90 0 0 dX8_size_90 rfl rfl ?_
      refine z_getr C 91 dX8_size_91 gf_X8_42 rfl (by first | assumption | exact Nat.zero_lt_one | exact (show (15 : Nat) < 16 by decide) | exact Nat.lt_succ_of_lt (by assumption) | omega) (by first | exact hR _ _ _ _ rfl | exact hR2 _ _ _ _ rfl | assumption) ?_
      refine z_getiv C 94 dX8_size_94 gf_X8_117 rfl (by first | assumption | exact Nat.zero_lt_one | exact (show (15 : Nat) < 16 by decide) | exact Nat.lt_succ_of_lt (by assumption) | omega) hP.2.2.1 ?_
      exact ret 97 _ _ _ _ _ dX8_size_97 (by first | rfl | exact bI_n | decide) (⟨rfl, rfl, rfl, rfl⟩)
    · obtain rfl : w = 5 := (nI_eq (by omega) (by decide)).mp h1
      refine z_aload_n C 98 0 0 dX8_size_98 rfl rfl ?_
      refine z_getr C 99 dX8_size_99 gf_X8_42 rfl (by first | assumption | exact Nat.zero_lt_one | exact (show (15 : Nat) < 16 by decide) | exact Nat.lt_succ_of_lt (by assumption) | omega) (by first | exact hR _ _ _ _ rfl | exact hR2 _ _ _ _ rfl | assumption) ?_
      refine z_getr C 102 dX8_size_102 gf_X8_120 rfl (by first | assumption | exact Nat.zero_lt_one | exact (show (15 : Nat) < 16 by decide) | exact Nat.lt_succ_of_lt (by assumption) | omega) (by first | exact hR _ _ _ _ rfl | exact hR2 _ _ _ _ rfl | assumption) ?_
      refine z_getiv C 105 dX8_size_105 gf_X8_124 rfl (by first | assumption | exact Nat.zero_lt_one | exact (show (15 : Nat) < 16 by decide) | exact Nat.lt_succ_of_lt (by assumption) | omega) hB.2.1.2.1 ?_
      exact ret 108 _ _ _ _ _ dX8_size_108 (by first | rfl | exact bI_n | decide) (⟨rfl, rfl, rfl, rfl⟩)
    · obtain rfl : w = 6 := (nI_eq (by omega) (by decide)).mp h1
      refine z_aload_n C 109 0 0 dX8_size_109 rfl rfl ?_
      refine z_getr C 110 dX8_size_110 gf_X8_42 rfl (by first | assumption | exact Nat.zero_lt_one | exact (show (15 : Nat) < 16 by decide) | exact Nat.lt_succ_of_lt (by assumption) | omega) (by first | exact hR _ _ _ _ rfl | exact hR2 _ _ _ _ rfl | assumption) ?_
      refine z_getiv C 113 dX8_size_113 gf_X8_129 rfl (by first | assumption | exact Nat.zero_lt_one | exact (show (15 : Nat) < 16 by decide) | exact Nat.lt_succ_of_lt (by assumption) | omega) hP.2.1 ?_
      exact ret 116 _ _ _ _ _ dX8_size_116 (by first | rfl | exact bI_n | decide) (⟨rfl, rfl, rfl, rfl⟩)
    · obtain rfl : w = 7 := (nI_eq (by omega) (by decide)).mp h1
      refine z_aload_n C 117 0 0 dX8_size_117 rfl rfl ?_
      refine z_getr C 118 dX8_size_118 gf_X8_42 rfl (by first | assumption | exact Nat.zero_lt_one | exact (show (15 : Nat) < 16 by decide) | exact Nat.lt_succ_of_lt (by assumption) | omega) (by first | exact hR _ _ _ _ rfl | exact hR2 _ _ _ _ rfl | assumption) ?_
      refine z_cVi0 C 121 dX8_size_121 cv_X8_132 (c_X4_complaintsOfAll (N := N) (T := T) (d := d) hR hp0 hd hv1 hv2 hAT hn10 hI hB) rfl ⟨by decide, rfl⟩ (by first | assumption | exact Nat.zero_lt_one | exact (show (15 : Nat) < 16 by decide) | exact Nat.lt_succ_of_lt (by assumption) | omega) rfl rfl (Nat.le_of_ble_eq_true rfl) ⟨by decide, by decide⟩ ⟨rfl, rfl⟩ ⟨by decide, by decide⟩ ?_
      intro r121 S121 L121 R121 p121
      obtain ⟨rfl, rfl, rfl, rfl⟩ := p121
      exact ret 124 _ _ _ _ _ dX8_size_124 (by first | rfl | exact bI_n | decide) (⟨rfl, rfl, rfl, rfl⟩)
    · obtain rfl : w = 8 := (nI_eq (by omega) (by decide)).mp h1
      refine z_aload_n C 125 0 0 dX8_size_125 rfl rfl ?_
      refine z_getr C 126 dX8_size_126 gf_X8_55 rfl (by first | assumption | exact Nat.zero_lt_one | exact (show (15 : Nat) < 16 by decide) | exact Nat.lt_succ_of_lt (by assumption) | omega) (by first | exact hR _ _ _ _ rfl | exact hR2 _ _ _ _ rfl | assumption) ?_
      refine z_getiv C 129 dX8_size_129 gf_X8_135 rfl (by first | assumption | exact Nat.zero_lt_one | exact (show (15 : Nat) < 16 by decide) | exact Nat.lt_succ_of_lt (by assumption) | omega) hu ?_
      exact ret 132 _ _ _ _ _ dX8_size_132 (by first | rfl | exact bI_n | decide) (⟨rfl, rfl, rfl, rfl⟩)
def rm_X8_program : Room := { frames := 3, cells := 0, slots := 0, locals := 65 }
set_option maxHeartbeats 4000000 in
set_option maxRecDepth 100000 in
theorem c_X8_program {l : Launch} {G : mG} {ad : mA} {S : mS} {L : mL} {R : mR} {T c N : NN} {d n B x u : Nat} {ph : Nat → Nat} {UR SR : Nat → NN} {sf : Nat → Nat} {p w : Nat} (h : CS S R T c d n B x u ph N UR SR sf) (hp : p < n) (hw : w ≤ 7) : Ki l yX8_program cX8_program 3 .int rm_X8_program G ad mdm [.ref (ad 0 0), .int (nI p), .int (nI w)] S L R (fun r_ S2 L2 R2 => r_ = qProg N T p w ∧ S = S2 ∧ L = L2 ∧ R = R2) := by
  refine Ki.of RX8 (by decide) rfl (Nat.le_of_ble_eq_true rfl) ?_
  intro X hXl hXG C ret
  subst hXl; subst hXG
  change Z X 3 ad mdm S L R 0 0 0 [(0, _), (1, _), (2, _)] []
  have hR := h.1
  obtain ⟨hP1, hP2, r5, r6, r7, r32, r33⟩ := h.2.1
  obtain ⟨hd2, rD, rE, hAT, hAC, hn10, hT⟩ := h.2.2.1
  obtain ⟨hx, hx10, hu, hu10⟩ := h.2.2.2.1
  obtain ⟨hB, hv1, hv2, hJ⟩ := h.2.2.2.2.1
  have hB31 := h.2.2.2.2.2.2.2
  have hI := hJ.1.1
  have hp0 : ph 0 < 15 := hP1 0 (by omega)
  have hp1 : ph 1 < 15 := hP1 1 (by omega)
  have hp2 : ph 2 < 15 := hP1 2 (by omega)
  have h10 : ph 1 ≠ ph 0 := h.ne (by omega) (by omega) (by omega)
  have h01 : ph 0 ≠ ph 1 := h.ne (by omega) (by omega) (by omega)
  have hd : d < 3 := by omega
  have hcn := hAT.1
  have hP := hB.2.2.2.2
  have hp10 : p < 10 := by omega
  have hA := hB.1.2 p hp10
  have hPp := hP.2.2.2 p hp10
  refine z_aload_n C 0 0 0 dX8_program_0 rfl rfl ?_
  refine z_iload_n C 1 1 1 dX8_program_1 rfl rfl ?_
  refine z_cVv0 C 2 dX8_program_2 cv_X8_151 (c_X8_checkProgram (d := d) (n := n) (by assumption) hd2 (by assumption) (by assumption) hn10 (by assumption)) rfl ⟨by decide, rfl⟩ (by first | assumption | exact Nat.zero_lt_one | exact (show (15 : Nat) < 16 by decide) | exact Nat.lt_succ_of_lt (by assumption) | omega) rfl rfl (Nat.le_of_ble_eq_true rfl) ⟨by decide, by decide⟩ ⟨rfl, rfl⟩ ⟨by decide, by decide⟩ ?_
  intro S2 L2 R2 p2
  obtain ⟨rfl, rfl, rfl⟩ := p2
  refine z_iload_n C 5 2 2 dX8_program_5 rfl rfl ?_
  refine z_tab C 6 0 7 161 (fun n => [52, 65, 78, 91, 103, 113, 123, 144].getD (n - 0) 0) dX8_program_6 (by decide) (by decide) (by decide) (fun n6 g6 k6 h6 => ?_) (fun h6 => absurd rfl (h6 w (Nat.zero_le _) hw))
  · rcases (show n6 = 0 ∨ n6 = 1 ∨ n6 = 2 ∨ n6 = 3 ∨ n6 = 4 ∨ n6 = 5 ∨ n6 = 6 ∨ n6 = 7 by omega) with rfl | rfl | rfl | rfl | rfl | rfl | rfl | rfl
    · obtain rfl : w = 0 := (nI_eq (by omega) (by decide)).mp h6
      refine z_aload_n C 52 0 0 dX8_program_52 rfl rfl ?_
      refine z_getr C 53 dX8_program_53 gf_X8_42 rfl (by first | assumption | exact Nat.zero_lt_one | exact (show (15 : Nat) < 16 by decide) | exact Nat.lt_succ_of_lt (by assumption) | omega) (by first | exact hR _ _ _ _ rfl | exact hR2 _ _ _ _ rfl | assumption) ?_
      refine z_getr C 56 dX8_program_56 gf_X8_101 rfl (by first | assumption | exact Nat.zero_lt_one | exact (show (15 : Nat) < 16 by decide) | exact Nat.lt_succ_of_lt (by assumption) | omega) (by first | exact hR _ _ _ _ rfl | exact hR2 _ _ _ _ rfl | assumption) ?_
      refine z_getr C 59 dX8_program_59 gf_X8_154 rfl (by first | assumption | exact Nat.zero_lt_one | exact (show (15 : Nat) < 16 by decide) | exact Nat.lt_succ_of_lt (by assumption) | omega) (by first | exact hR _ _ _ _ rfl | exact hR2 _ _ _ _ rfl | assumption) ?_
      refine z_iload_n C 62 1 1 dX8_program_62 rfl rfl ?_
      refine z_iald C 63 dX8_program_63 (by first | rfl | assumption) (by first | assumption | exact Nat.zero_lt_one | exact (show (15 : Nat) < 16 by decide) | exact Nat.lt_succ_of_lt (by assumption) | omega) (by first | rfl | assumption) (by first | decide | omega) (by first | assumption | omega) ?_
      rw [hA.1]
      exact ret 64 _ _ _ _ _ dX8_program_64 (by first | rfl | exact bI_n | decide) (⟨rfl, rfl, rfl, rfl⟩)
    · obtain rfl : w = 1 := (nI_eq (by omega) (by decide)).mp h6
      refine z_aload_n C 65 0 0 dX8_program_65 rfl rfl ?_
      refine z_getr C 66 dX8_program_66 gf_X8_42 rfl (by first | assumption | exact Nat.zero_lt_one | exact (show (15 : Nat) < 16 by decide) | exact Nat.lt_succ_of_lt (by assumption) | omega) (by first | exact hR _ _ _ _ rfl | exact hR2 _ _ _ _ rfl | assumption) ?_
      refine z_getr C 69 dX8_program_69 gf_X8_101 rfl (by first | assumption | exact Nat.zero_lt_one | exact (show (15 : Nat) < 16 by decide) | exact Nat.lt_succ_of_lt (by assumption) | omega) (by first | exact hR _ _ _ _ rfl | exact hR2 _ _ _ _ rfl | assumption) ?_
      refine z_getr C 72 dX8_program_72 gf_X8_158 rfl (by first | assumption | exact Nat.zero_lt_one | exact (show (15 : Nat) < 16 by decide) | exact Nat.lt_succ_of_lt (by assumption) | omega) (by first | exact hR _ _ _ _ rfl | exact hR2 _ _ _ _ rfl | assumption) ?_
      refine z_iload_n C 75 1 1 dX8_program_75 rfl rfl ?_
      refine z_iald C 76 dX8_program_76 (by first | rfl | assumption) (by first | assumption | exact Nat.zero_lt_one | exact (show (15 : Nat) < 16 by decide) | exact Nat.lt_succ_of_lt (by assumption) | omega) (by first | rfl | assumption) (by first | decide | omega) (by first | assumption | omega) ?_
      rw [hA.2.1]
      exact ret 77 _ _ _ _ _ dX8_program_77 (by first | rfl | exact bI_n | decide) (⟨rfl, rfl, rfl, rfl⟩)
    · obtain rfl : w = 2 := (nI_eq (by omega) (by decide)).mp h6
      refine z_aload_n C 78 0 0 dX8_program_78 rfl rfl ?_
      refine z_getr C 79 dX8_program_79 gf_X8_42 rfl (by first | assumption | exact Nat.zero_lt_one | exact (show (15 : Nat) < 16 by decide) | exact Nat.lt_succ_of_lt (by assumption) | omega) (by first | exact hR _ _ _ _ rfl | exact hR2 _ _ _ _ rfl | assumption) ?_
      refine z_getr C 82 dX8_program_82 gf_X8_101 rfl (by first | assumption | exact Nat.zero_lt_one | exact (show (15 : Nat) < 16 by decide) | exact Nat.lt_succ_of_lt (by assumption) | omega) (by first | exact hR _ _ _ _ rfl | exact hR2 _ _ _ _ rfl | assumption) ?_
      refine z_getr C 85 dX8_program_85 gf_X8_161 rfl (by first | assumption | exact Nat.zero_lt_one | exact (show (15 : Nat) < 16 by decide) | exact Nat.lt_succ_of_lt (by assumption) | omega) (by first | exact hR _ _ _ _ rfl | exact hR2 _ _ _ _ rfl | assumption) ?_
      refine z_iload_n C 88 1 1 dX8_program_88 rfl rfl ?_
      refine z_iald C 89 dX8_program_89 (by first | rfl | assumption) (by first | assumption | exact Nat.zero_lt_one | exact (show (15 : Nat) < 16 by decide) | exact Nat.lt_succ_of_lt (by assumption) | omega) (by first | rfl | assumption) (by first | decide | omega) (by first | assumption | omega) ?_
      rw [hA.2.2.1]
      exact ret 90 _ _ _ _ _ dX8_program_90 (by first | rfl | exact bI_n | decide) (⟨rfl, rfl, rfl, rfl⟩)
    · obtain rfl : w = 3 := (nI_eq (by omega) (by decide)).mp h6
      refine z_aload_n C 91 0 0 dX8_program_91 rfl rfl ?_
      refine z_getr C 92 dX8_program_92 gf_X8_42 rfl (by first | assumption | exact Nat.zero_lt_one | exact (show (15 : Nat) < 16 by decide) | exact Nat.lt_succ_of_lt (by assumption) | omega) (by first | exact hR _ _ _ _ rfl | exact hR2 _ _ _ _ rfl | assumption) ?_
      refine z_getr C 95 dX8_program_95 gf_X8_101 rfl (by first | assumption | exact Nat.zero_lt_one | exact (show (15 : Nat) < 16 by decide) | exact Nat.lt_succ_of_lt (by assumption) | omega) (by first | exact hR _ _ _ _ rfl | exact hR2 _ _ _ _ rfl | assumption) ?_
      refine z_iload_n C 98 1 1 dX8_program_98 rfl rfl ?_
      refine z_cVi0 C 99 dX8_program_99 cv_X8_164 (c_X6_usedBy (r := ph 0) (d := d) hR (by omega) hd hv2 hp10) rfl ⟨by decide, rfl⟩ (by first | assumption | exact Nat.zero_lt_one | exact (show (15 : Nat) < 16 by decide) | exact Nat.lt_succ_of_lt (by assumption) | omega) rfl rfl (Nat.le_of_ble_eq_true rfl) ⟨by decide, by decide⟩ ⟨rfl, rfl⟩ ⟨by decide, by decide⟩ ?_
      intro r99 S99 L99 R99 p99
      obtain ⟨rfl, rfl, rfl, rfl⟩ := p99
      rw [rUses_eq hB.1 hAT hp10 (hI.2.2.1 p hp10)]
      exact ret 102 _ _ _ _ _ dX8_program_102 (by first | rfl | exact bI_n | decide) (⟨rfl, rfl, rfl, rfl⟩)
    · obtain rfl : w = 4 := (nI_eq (by omega) (by decide)).mp h6
      refine z_aload_n C 103 0 0 dX8_program_103 rfl rfl ?_
      refine z_getr C 104 dX8_program_104 gf_X8_42 rfl (by first | assumption | exact Nat.zero_lt_one | exact (show (15 : Nat) < 16 by decide) | exact Nat.lt_succ_of_lt (by assumption) | omega) (by first | exact hR _ _ _ _ rfl | exact hR2 _ _ _ _ rfl | assumption) ?_
      refine z_getr C 107 dX8_program_107 gf_X8_168 rfl (by first | assumption | exact Nat.zero_lt_one | exact (show (15 : Nat) < 16 by decide) | exact Nat.lt_succ_of_lt (by assumption) | omega) (by first | exact hR _ _ _ _ rfl | exact hR2 _ _ _ _ rfl | assumption) ?_
      refine z_iload_n C 110 1 1 dX8_program_110 rfl rfl ?_
      refine z_iald C 111 dX8_program_111 (by first | rfl | assumption) (by first | assumption | exact Nat.zero_lt_one | exact (show (15 : Nat) < 16 by decide) | exact Nat.lt_succ_of_lt (by assumption) | omega) (by first | rfl | assumption) (by first | decide | omega) (by first | assumption | omega) ?_
      rw [hPp.2.1]
      exact ret 112 _ _ _ _ _ dX8_program_112 (by first | rfl | exact bI_n | decide) (⟨rfl, rfl, rfl, rfl⟩)
    · obtain rfl : w = 5 := (nI_eq (by omega) (by decide)).mp h6
      refine z_aload_n C 113 0 0 dX8_program_113 rfl rfl ?_
      refine z_getr C 114 dX8_program_114 gf_X8_42 rfl (by first | assumption | exact Nat.zero_lt_one | exact (show (15 : Nat) < 16 by decide) | exact Nat.lt_succ_of_lt (by assumption) | omega) (by first | exact hR _ _ _ _ rfl | exact hR2 _ _ _ _ rfl | assumption) ?_
      refine z_getr C 117 dX8_program_117 gf_X8_171 rfl (by first | assumption | exact Nat.zero_lt_one | exact (show (15 : Nat) < 16 by decide) | exact Nat.lt_succ_of_lt (by assumption) | omega) (by first | exact hR _ _ _ _ rfl | exact hR2 _ _ _ _ rfl | assumption) ?_
      refine z_iload_n C 120 1 1 dX8_program_120 rfl rfl ?_
      refine z_iald C 121 dX8_program_121 (by first | rfl | assumption) (by first | assumption | exact Nat.zero_lt_one | exact (show (15 : Nat) < 16 by decide) | exact Nat.lt_succ_of_lt (by assumption) | omega) (by first | rfl | assumption) (by first | decide | omega) (by first | assumption | omega) ?_
      rw [hPp.2.2.2.1]
      exact ret 122 _ _ _ _ _ dX8_program_122 (by first | rfl | exact bI_n | decide) (⟨rfl, rfl, rfl, rfl⟩)
    · obtain rfl : w = 6 := (nI_eq (by omega) (by decide)).mp h6
      refine z_aload_n C 123 0 0 dX8_program_123 rfl rfl ?_
      refine z_getr C 124 dX8_program_124 gf_X8_42 rfl (by first | assumption | exact Nat.zero_lt_one | exact (show (15 : Nat) < 16 by decide) | exact Nat.lt_succ_of_lt (by assumption) | omega) (by first | exact hR _ _ _ _ rfl | exact hR2 _ _ _ _ rfl | assumption) ?_
      refine z_getr C 127 dX8_program_127 gf_X8_101 rfl (by first | assumption | exact Nat.zero_lt_one | exact (show (15 : Nat) < 16 by decide) | exact Nat.lt_succ_of_lt (by assumption) | omega) (by first | exact hR _ _ _ _ rfl | exact hR2 _ _ _ _ rfl | assumption) ?_
      refine z_getr C 130 dX8_program_130 gf_X8_174 rfl (by first | assumption | exact Nat.zero_lt_one | exact (show (15 : Nat) < 16 by decide) | exact Nat.lt_succ_of_lt (by assumption) | omega) (by first | exact hR _ _ _ _ rfl | exact hR2 _ _ _ _ rfl | assumption) ?_
      refine z_iload_n C 133 1 1 dX8_program_133 rfl rfl ?_
      refine z_zald C 134 dX8_program_134 rfl (by first | assumption | exact Nat.zero_lt_one | exact (show (15 : Nat) < 16 by decide) | exact Nat.lt_succ_of_lt (by assumption) | omega) (by first | rfl | assumption) (by first | decide | omega) (by first | assumption | omega) ?_
      rw [hA.2.2.2]
      first | with_reducible refine z_if_eqB C 135 142 dX8_program_135 (by decide) (fun h135 => ?_) (fun h135 => ?_) | with_reducible refine z_if_eqN C 135 142 dX8_program_135 (by decide) (by omega) (fun h135 => ?_) (fun h135 => ?_) | refine z_if_eq C 135 142 dX8_program_135 (by decide) (fun h135 => ?_) (fun h135 => ?_)
      · refine z_iconst (v := nI 0) C 142 dX8_program_142 (by decide) ?_
        exact ret 143 _ _ _ _ _ dX8_program_143 (by first | rfl | exact bI_n | decide) (⟨(by have z := hI.2.2.2.2.2.2.1 p hp10; first | exact (h135 : fo N p 6 = 0).symm | exact (z.resolve_left h135).symm), rfl, rfl, rfl⟩)
      · refine z_iconst (v := nI 1) C 138 dX8_program_138 (by decide) ?_
        refine z_goto C 139 143 dX8_program_139 (by decide) ?_
        exact ret 143 _ _ _ _ _ dX8_program_143 (by first | rfl | exact bI_n | decide) (⟨(by have z := hI.2.2.2.2.2.2.1 p hp10; first | exact (h135 : fo N p 6 = 0).symm | exact (z.resolve_left h135).symm), rfl, rfl, rfl⟩)
    · obtain rfl : w = 7 := (nI_eq (by omega) (by decide)).mp h6
      refine z_aload_n C 144 0 0 dX8_program_144 rfl rfl ?_
      refine z_getr C 145 dX8_program_145 gf_X8_42 rfl (by first | assumption | exact Nat.zero_lt_one | exact (show (15 : Nat) < 16 by decide) | exact Nat.lt_succ_of_lt (by assumption) | omega) (by first | exact hR _ _ _ _ rfl | exact hR2 _ _ _ _ rfl | assumption) ?_
      refine z_iload_n C 148 1 1 dX8_program_148 rfl rfl ?_
      refine z_cVi0 C 149 dX8_program_149 cv_X8_177 (c_X4_isPrecious (N := N) (n := n) (B := B) hR hp0 hI hB hJ.1.2.2.1 (by omega) hp10) rfl ⟨by decide, rfl⟩ (by first | assumption | exact Nat.zero_lt_one | exact (show (15 : Nat) < 16 by decide) | exact Nat.lt_succ_of_lt (by assumption) | omega) rfl rfl (Nat.le_of_ble_eq_true rfl) ⟨by decide, by decide⟩ ⟨rfl, rfl⟩ ⟨by decide, by decide⟩ ?_
      intro r149 S149 L149 R149 p149
      obtain ⟨rfl, rfl, rfl, rfl⟩ := p149
      first | with_reducible refine z_if_eqB C 152 159 dX8_program_152 (by decide) (fun h152 => ?_) (fun h152 => ?_) | with_reducible refine z_if_eqN C 152 159 dX8_program_152 (by decide) (by omega) (fun h152 => ?_) (fun h152 => ?_) | refine z_if_eq C 152 159 dX8_program_152 (by decide) (fun h152 => ?_) (fun h152 => ?_)
      · refine z_iconst (v := nI 0) C 159 dX8_program_159 (by decide) ?_
        exact ret 160 _ _ _ _ _ dX8_program_160 (by first | rfl | exact bI_n | decide) (⟨(by first | exact bI_1 h152 | exact bI_0 h152), rfl, rfl, rfl⟩)
      · refine z_iconst (v := nI 1) C 155 dX8_program_155 (by decide) ?_
        refine z_goto C 156 160 dX8_program_156 (by decide) ?_
        exact ret 160 _ _ _ _ _ dX8_program_160 (by first | rfl | exact bI_n | decide) (⟨(by first | exact bI_1 h152 | exact bI_0 h152), rfl, rfl, rfl⟩)
def rm_X8_told : Room := { frames := 1, cells := 0, slots := 0, locals := 30 }
set_option maxHeartbeats 4000000 in
set_option maxRecDepth 100000 in
theorem c_X8_told {l : Launch} {G : mG} {ad : mA} {S : mS} {L : mL} {R : mR} {T c N : NN} {d n B x u : Nat} {ph : Nat → Nat} {UR SR : Nat → NN} {sf : Nat → Nat} {p w : Nat} (h : CS S R T c d n B x u ph N UR SR sf) (hp : p < n) (hw : w ≤ 7) : Ki l yX8_told cX8_told 3 .int rm_X8_told G ad mdm [.ref (ad 0 0), .int (nI p), .int (nI w)] S L R (fun r_ S2 L2 R2 => r_ = T (8 * p + w) ∧ S = S2 ∧ L = L2 ∧ R = R2) := by
  refine Ki.of RX8 (by decide) rfl (Nat.le_of_ble_eq_true rfl) ?_
  intro X hXl hXG C ret
  subst hXl; subst hXG
  change Z X 3 ad mdm S L R 0 0 0 [(0, _), (1, _), (2, _)] []
  have hR := h.1
  obtain ⟨hP1, hP2, r5, r6, r7, r32, r33⟩ := h.2.1
  obtain ⟨hd2, rD, rE, hAT, hAC, hn10, hT⟩ := h.2.2.1
  obtain ⟨hx, hx10, hu, hu10⟩ := h.2.2.2.1
  obtain ⟨hB, hv1, hv2, hJ⟩ := h.2.2.2.2.1
  have hB31 := h.2.2.2.2.2.2.2
  have hI := hJ.1.1
  have hp0 : ph 0 < 15 := hP1 0 (by omega)
  have hp1 : ph 1 < 15 := hP1 1 (by omega)
  have hp2 : ph 2 < 15 := hP1 2 (by omega)
  have h10 : ph 1 ≠ ph 0 := h.ne (by omega) (by omega) (by omega)
  have h01 : ph 0 ≠ ph 1 := h.ne (by omega) (by omega) (by omega)
  have hd : d < 3 := by omega
  have hcn := hAT.1
  have hP := hB.2.2.2.2
  have hdp : 10 * d + p < 30 := by omega
  refine z_aload_n C 0 0 0 dX8_told_0 rfl rfl ?_
  refine z_iload_n C 1 1 1 dX8_told_1 rfl rfl ?_
  refine z_cVv0 C 2 dX8_told_2 cv_X8_151 (c_X8_checkProgram (d := d) (n := n) (by assumption) hd2 (by assumption) (by assumption) hn10 (by assumption)) rfl ⟨by decide, rfl⟩ (by first | assumption | exact Nat.zero_lt_one | exact (show (15 : Nat) < 16 by decide) | exact Nat.lt_succ_of_lt (by assumption) | omega) rfl rfl (Nat.le_of_ble_eq_true rfl) ⟨by decide, by decide⟩ ⟨rfl, rfl⟩ ⟨by decide, by decide⟩ ?_
  intro S2 L2 R2 p2
  obtain ⟨rfl, rfl, rfl⟩ := p2
  refine z_iload_n C 5 2 2 dX8_told_5 rfl rfl ?_
  refine z_if_lt C 6 15 dX8_told_6 (by decide) (fun h6 => absurd h6 (nI_pos (by omega))) (fun h6 => ?_)
  · refine z_iload_n C 9 2 2 dX8_told_9 rfl rfl ?_
    refine z_bipush (v := nI 8) C 10 dX8_told_10 (by decide +kernel) ?_
    first | with_reducible refine z_icmp_ltN C 12 25 dX8_told_12 (by decide) (by omega) (by omega) (fun h12 => ?_) (fun h12 => absurd hw (by omega)) | refine z_icmp_lt C 12 25 dX8_told_12 (by decide) (fun h12 => ?_) (fun h12 => absurd hw (by omega))
    · refine z_aload_n C 25 0 0 dX8_told_25 rfl rfl ?_
      refine z_getr C 26 dX8_told_26 gf_X8_23 rfl (by first | assumption | exact Nat.zero_lt_one | exact (show (15 : Nat) < 16 by decide) | exact Nat.lt_succ_of_lt (by assumption) | omega) (by first | exact hR _ _ _ _ rfl | exact hR2 _ _ _ _ rfl | assumption) ?_
      refine z_getr C 29 dX8_told_29 gf_X8_185 rfl (by first | assumption | exact Nat.zero_lt_one | exact (show (15 : Nat) < 16 by decide) | exact Nat.lt_succ_of_lt (by assumption) | omega) (by first | exact hR _ _ _ _ rfl | exact hR2 _ _ _ _ rfl | assumption) ?_
      refine z_iload_n C 32 1 1 dX8_told_32 rfl rfl ?_
      refine z_aald4 C 33 dX8_told_33 rfl (by first | assumption | exact Nat.zero_lt_one | exact (show (15 : Nat) < 16 by decide) | exact Nat.lt_succ_of_lt (by assumption) | omega) (by first | rfl | assumption) (by decide) (by first | assumption | omega) (by first | exact hR _ _ _ _ rfl | exact hR2 _ _ _ _ rfl | assumption) ?_
      refine z_iload_n C 34 2 2 dX8_told_34 rfl rfl ?_
      refine z_iald C 35 dX8_told_35 (by first | rfl | assumption) (by first | assumption | exact Nat.zero_lt_one | exact (show (15 : Nat) < 16 by decide) | exact Nat.lt_succ_of_lt (by assumption) | omega) (by first | rfl | assumption) (by first | decide | omega) (by first | assumption | omega) ?_
      rw [hAT.2 p w (by omega) (by omega)]
      exact ret 36 _ _ _ _ _ dX8_told_36 (by first | rfl | exact bI_n | decide) (⟨by first | rfl | assumption | (simp; done), rfl, rfl, rfl⟩)
def rm_X8_picture : Room := { frames := 1, cells := 0, slots := 0, locals := 30 }
set_option maxHeartbeats 4000000 in
set_option maxRecDepth 100000 in
theorem c_X8_picture {l : Launch} {G : mG} {ad : mA} {S : mS} {L : mL} {R : mR} {T c N : NN} {d n B x u : Nat} {ph : Nat → Nat} {UR SR : Nat → NN} {sf : Nat → Nat} {p : Nat} (h : CS S R T c d n B x u ph N UR SR sf) (hp : p < n) : Ki l yX8_picture cX8_picture 2 .int rm_X8_picture G ad mdm [.ref (ad 0 0), .int (nI p)] S L R (fun r_ S2 L2 R2 => r_ = fo N p 3 ∧ S = S2 ∧ L = L2 ∧ R = R2) := by
  refine Ki.of RX8 (by decide) rfl (Nat.le_of_ble_eq_true rfl) ?_
  intro X hXl hXG C ret
  subst hXl; subst hXG
  change Z X 2 ad mdm S L R 0 0 0 [(0, _), (1, _)] []
  have hR := h.1
  obtain ⟨hP1, hP2, r5, r6, r7, r32, r33⟩ := h.2.1
  obtain ⟨hd2, rD, rE, hAT, hAC, hn10, hT⟩ := h.2.2.1
  obtain ⟨hx, hx10, hu, hu10⟩ := h.2.2.2.1
  obtain ⟨hB, hv1, hv2, hJ⟩ := h.2.2.2.2.1
  have hB31 := h.2.2.2.2.2.2.2
  have hI := hJ.1.1
  have hp0 : ph 0 < 15 := hP1 0 (by omega)
  have hp1 : ph 1 < 15 := hP1 1 (by omega)
  have hp2 : ph 2 < 15 := hP1 2 (by omega)
  have h10 : ph 1 ≠ ph 0 := h.ne (by omega) (by omega) (by omega)
  have h01 : ph 0 ≠ ph 1 := h.ne (by omega) (by omega) (by omega)
  have hd : d < 3 := by omega
  have hcn := hAT.1
  have hP := hB.2.2.2.2
  refine z_aload_n C 0 0 0 dX8_picture_0 rfl rfl ?_
  refine z_iload_n C 1 1 1 dX8_picture_1 rfl rfl ?_
  refine z_cVv0 C 2 dX8_picture_2 cv_X8_151 (c_X8_checkProgram (d := d) (n := n) (by assumption) hd2 (by assumption) (by assumption) hn10 (by assumption)) rfl ⟨by decide, rfl⟩ (by first | assumption | exact Nat.zero_lt_one | exact (show (15 : Nat) < 16 by decide) | exact Nat.lt_succ_of_lt (by assumption) | omega) rfl rfl (Nat.le_of_ble_eq_true rfl) ⟨by decide, by decide⟩ ⟨rfl, rfl⟩ ⟨by decide, by decide⟩ ?_
  intro S2 L2 R2 p2
  obtain ⟨rfl, rfl, rfl⟩ := p2
  refine z_aload_n C 5 0 0 dX8_picture_5 rfl rfl ?_
  refine z_getr C 6 dX8_picture_6 gf_X8_42 rfl (by first | assumption | exact Nat.zero_lt_one | exact (show (15 : Nat) < 16 by decide) | exact Nat.lt_succ_of_lt (by assumption) | omega) (by first | exact hR _ _ _ _ rfl | exact hR2 _ _ _ _ rfl | assumption) ?_
  refine z_getr C 9 dX8_picture_9 gf_X8_189 rfl (by first | assumption | exact Nat.zero_lt_one | exact (show (15 : Nat) < 16 by decide) | exact Nat.lt_succ_of_lt (by assumption) | omega) (by first | exact hR _ _ _ _ rfl | exact hR2 _ _ _ _ rfl | assumption) ?_
  refine z_iload_n C 12 1 1 dX8_picture_12 rfl rfl ?_
  refine z_iald C 13 dX8_picture_13 (by first | rfl | assumption) (by first | assumption | exact Nat.zero_lt_one | exact (show (15 : Nat) < 16 by decide) | exact Nat.lt_succ_of_lt (by assumption) | omega) (by first | rfl | assumption) (by first | decide | omega) (by first | assumption | omega) ?_
  rw [(hP.2.2.2 p (by omega)).1]
  exact ret 14 _ _ _ _ _ dX8_picture_14 (by first | rfl | exact bI_n | decide) (⟨by first | rfl | assumption | (simp; done), rfl, rfl, rfl⟩)
def rm_X8_notice : Room := { frames := 1, cells := 0, slots := 0, locals := 30 }
set_option maxHeartbeats 4000000 in
set_option maxRecDepth 100000 in
theorem c_X8_notice {l : Launch} {G : mG} {ad : mA} {S : mS} {L : mL} {R : mR} {T c N : NN} {d n B x u : Nat} {ph : Nat → Nat} {UR SR : Nat → NN} {sf : Nat → Nat} {p w : Nat} {k : Int32} (h : CS S R T c d n B x u ph N UR SR sf) (hp : p < n) (hw : fo N p 15 = nI w) (hw5 : w ≤ 5) : Ki l yX8_notice cX8_notice 3 .int rm_X8_notice G ad mdm [.ref (ad 0 0), .int (nI p), .int k] S L R (fun r_ S2 L2 R2 => (∀ j, j < w → k = nI j → r_ = N (388 + 5 * p + j)) ∧ (¬ isP w k → r_ = -1) ∧ S = S2 ∧ L = L2 ∧ R = R2) := by
  refine Ki.of RX8 (by decide) rfl (Nat.le_of_ble_eq_true rfl) ?_
  intro X hXl hXG C ret
  subst hXl; subst hXG
  change Z X 3 ad mdm S L R 0 0 0 [(0, _), (1, _), (2, _)] []
  have hR := h.1
  obtain ⟨hP1, hP2, r5, r6, r7, r32, r33⟩ := h.2.1
  obtain ⟨hd2, rD, rE, hAT, hAC, hn10, hT⟩ := h.2.2.1
  obtain ⟨hx, hx10, hu, hu10⟩ := h.2.2.2.1
  obtain ⟨hB, hv1, hv2, hJ⟩ := h.2.2.2.2.1
  have hB31 := h.2.2.2.2.2.2.2
  have hI := hJ.1.1
  have hp0 : ph 0 < 15 := hP1 0 (by omega)
  have hp1 : ph 1 < 15 := hP1 1 (by omega)
  have hp2 : ph 2 < 15 := hP1 2 (by omega)
  have h10 : ph 1 ≠ ph 0 := h.ne (by omega) (by omega) (by omega)
  have h01 : ph 0 ≠ ph 1 := h.ne (by omega) (by omega) (by omega)
  have hd : d < 3 := by omega
  have hcn := hAT.1
  have hP := hB.2.2.2.2
  refine z_aload_n C 0 0 0 dX8_notice_0 rfl rfl ?_
  refine z_iload_n C 1 1 1 dX8_notice_1 rfl rfl ?_
  refine z_cVv0 C 2 dX8_notice_2 cv_X8_151 (c_X8_checkProgram (d := d) (n := n) (by assumption) hd2 (by assumption) (by assumption) hn10 (by assumption)) rfl ⟨by decide, rfl⟩ (by first | assumption | exact Nat.zero_lt_one | exact (show (15 : Nat) < 16 by decide) | exact Nat.lt_succ_of_lt (by assumption) | omega) rfl rfl (Nat.le_of_ble_eq_true rfl) ⟨by decide, by decide⟩ ⟨rfl, rfl⟩ ⟨by decide, by decide⟩ ?_
  intro S2 L2 R2 p2
  obtain ⟨rfl, rfl, rfl⟩ := p2
  refine z_aload_n C 5 0 0 dX8_notice_5 rfl rfl ?_
  refine z_getr C 6 dX8_notice_6 gf_X8_42 rfl (by first | assumption | exact Nat.zero_lt_one | exact (show (15 : Nat) < 16 by decide) | exact Nat.lt_succ_of_lt (by assumption) | omega) (by first | exact hR _ _ _ _ rfl | exact hR2 _ _ _ _ rfl | assumption) ?_
  refine z_iload_n C 9 1 1 dX8_notice_9 rfl rfl ?_
  refine z_iload_n C 10 2 2 dX8_notice_10 rfl rfl ?_
  refine z_cVi0 C 11 dX8_notice_11 cv_X8_192 (c_X4_waitingNotice (N := N) (n := n) (w := w) hR hp0 hI hB (by omega) hw hw5) rfl ⟨by decide, rfl⟩ (by first | assumption | exact Nat.zero_lt_one | exact (show (15 : Nat) < 16 by decide) | exact Nat.lt_succ_of_lt (by assumption) | omega) rfl rfl (Nat.le_of_ble_eq_true rfl) ⟨by decide, by decide⟩ ⟨rfl, rfl⟩ ⟨by decide, by decide⟩ ?_
  intro r11 S11 L11 R11 p11
  obtain ⟨ha, hb, rfl, rfl, rfl⟩ := p11
  exact ret 14 _ _ _ _ _ dX8_notice_14 (by first | rfl | exact bI_n | decide) (⟨ha, hb, rfl, rfl, rfl⟩)
def rm_X8_habit : Room := { frames := 1, cells := 0, slots := 0, locals := 30 }
set_option maxHeartbeats 4000000 in
set_option maxRecDepth 100000 in
theorem c_X8_habit {l : Launch} {G : mG} {ad : mA} {S : mS} {L : mL} {R : mR} {T c N : NN} {d n B x u : Nat} {ph : Nat → Nat} {UR SR : Nat → NN} {sf : Nat → Nat} {p : Nat} (h : CS S R T c d n B x u ph N UR SR sf) (hp : p < n) : Ki l yX8_habit cX8_habit 2 .int rm_X8_habit G ad mdm [.ref (ad 0 0), .int (nI p)] S L R (fun r_ S2 L2 R2 => r_ = fHabit N p ∧ S = S2 ∧ L = L2 ∧ R = R2) := by
  refine Ki.of RX8 (by decide) rfl (Nat.le_of_ble_eq_true rfl) ?_
  intro X hXl hXG C ret
  subst hXl; subst hXG
  change Z X 2 ad mdm S L R 0 0 0 [(0, _), (1, _)] []
  have hR := h.1
  obtain ⟨hP1, hP2, r5, r6, r7, r32, r33⟩ := h.2.1
  obtain ⟨hd2, rD, rE, hAT, hAC, hn10, hT⟩ := h.2.2.1
  obtain ⟨hx, hx10, hu, hu10⟩ := h.2.2.2.1
  obtain ⟨hB, hv1, hv2, hJ⟩ := h.2.2.2.2.1
  have hB31 := h.2.2.2.2.2.2.2
  have hI := hJ.1.1
  have hp0 : ph 0 < 15 := hP1 0 (by omega)
  have hp1 : ph 1 < 15 := hP1 1 (by omega)
  have hp2 : ph 2 < 15 := hP1 2 (by omega)
  have h10 : ph 1 ≠ ph 0 := h.ne (by omega) (by omega) (by omega)
  have h01 : ph 0 ≠ ph 1 := h.ne (by omega) (by omega) (by omega)
  have hd : d < 3 := by omega
  have hcn := hAT.1
  have hP := hB.2.2.2.2
  obtain ⟨g, hg4, hg⟩ := hI.2.2.2.2.1 p (by omega)
  refine z_aload_n C 0 0 0 dX8_habit_0 rfl rfl ?_
  refine z_iload_n C 1 1 1 dX8_habit_1 rfl rfl ?_
  refine z_cVv0 C 2 dX8_habit_2 cv_X8_151 (c_X8_checkProgram (d := d) (n := n) (by assumption) hd2 (by assumption) (by assumption) hn10 (by assumption)) rfl ⟨by decide, rfl⟩ (by first | assumption | exact Nat.zero_lt_one | exact (show (15 : Nat) < 16 by decide) | exact Nat.lt_succ_of_lt (by assumption) | omega) rfl rfl (Nat.le_of_ble_eq_true rfl) ⟨by decide, by decide⟩ ⟨rfl, rfl⟩ ⟨by decide, by decide⟩ ?_
  intro S2 L2 R2 p2
  obtain ⟨rfl, rfl, rfl⟩ := p2
  refine z_aload_n C 5 0 0 dX8_habit_5 rfl rfl ?_
  refine z_getr C 6 dX8_habit_6 gf_X8_42 rfl (by first | assumption | exact Nat.zero_lt_one | exact (show (15 : Nat) < 16 by decide) | exact Nat.lt_succ_of_lt (by assumption) | omega) (by first | exact hR _ _ _ _ rfl | exact hR2 _ _ _ _ rfl | assumption) ?_
  refine z_getr C 9 dX8_habit_9 gf_X8_120 rfl (by first | assumption | exact Nat.zero_lt_one | exact (show (15 : Nat) < 16 by decide) | exact Nat.lt_succ_of_lt (by assumption) | omega) (by first | exact hR _ _ _ _ rfl | exact hR2 _ _ _ _ rfl | assumption) ?_
  refine z_iload_n C 12 1 1 dX8_habit_12 rfl rfl ?_
  refine z_cVi0 C 13 dX8_habit_13 cv_X8_196 (c_X1_habitOf (N := N) (n := n) (g := g) hR hp0 hB.2.1 (by omega) hg hg4) rfl ⟨by decide, rfl⟩ (by first | assumption | exact Nat.zero_lt_one | exact (show (15 : Nat) < 16 by decide) | exact Nat.lt_succ_of_lt (by assumption) | omega) rfl rfl (Nat.le_of_ble_eq_true rfl) ⟨by decide, by decide⟩ ⟨rfl, rfl⟩ ⟨by decide, by decide⟩ ?_
  intro r13 S13 L13 R13 p13
  obtain ⟨rfl, rfl, rfl, rfl⟩ := p13
  exact ret 16 _ _ _ _ _ dX8_habit_16 (by first | rfl | exact bI_n | decide) (⟨by first | rfl | assumption | (simp; done), rfl, rfl, rfl⟩)
def rm_X8_promise : Room := { frames := 2, cells := 0, slots := 0, locals := 60 }
set_option maxHeartbeats 4000000 in
set_option maxRecDepth 100000 in
theorem c_X8_promise {l : Launch} {G : mG} {ad : mA} {S : mS} {L : mL} {R : mR} {T c N : NN} {d n B x u : Nat} {ph : Nat → Nat} {UR SR : Nat → NN} {sf : Nat → Nat} {p : Nat} (h : CS S R T c d n B x u ph N UR SR sf) (hp : p < n) : Ki l yX8_promise cX8_promise 2 .int rm_X8_promise G ad mdm [.ref (ad 0 0), .int (nI p)] S L R (fun r_ S2 L2 R2 => r_ = fProm N n p ∧ S = S2 ∧ L = L2 ∧ R = R2) := by
  refine Ki.of RX8 (by decide) rfl (Nat.le_of_ble_eq_true rfl) ?_
  intro X hXl hXG C ret
  subst hXl; subst hXG
  change Z X 2 ad mdm S L R 0 0 0 [(0, _), (1, _)] []
  have hR := h.1
  obtain ⟨hP1, hP2, r5, r6, r7, r32, r33⟩ := h.2.1
  obtain ⟨hd2, rD, rE, hAT, hAC, hn10, hT⟩ := h.2.2.1
  obtain ⟨hx, hx10, hu, hu10⟩ := h.2.2.2.1
  obtain ⟨hB, hv1, hv2, hJ⟩ := h.2.2.2.2.1
  have hB31 := h.2.2.2.2.2.2.2
  have hI := hJ.1.1
  have hp0 : ph 0 < 15 := hP1 0 (by omega)
  have hp1 : ph 1 < 15 := hP1 1 (by omega)
  have hp2 : ph 2 < 15 := hP1 2 (by omega)
  have h10 : ph 1 ≠ ph 0 := h.ne (by omega) (by omega) (by omega)
  have h01 : ph 0 ≠ ph 1 := h.ne (by omega) (by omega) (by omega)
  have hd : d < 3 := by omega
  have hcn := hAT.1
  have hP := hB.2.2.2.2
  refine z_aload_n C 0 0 0 dX8_promise_0 rfl rfl ?_
  refine z_iload_n C 1 1 1 dX8_promise_1 rfl rfl ?_
  refine z_cVv0 C 2 dX8_promise_2 cv_X8_151 (c_X8_checkProgram (d := d) (n := n) (by assumption) hd2 (by assumption) (by assumption) hn10 (by assumption)) rfl ⟨by decide, rfl⟩ (by first | assumption | exact Nat.zero_lt_one | exact (show (15 : Nat) < 16 by decide) | exact Nat.lt_succ_of_lt (by assumption) | omega) rfl rfl (Nat.le_of_ble_eq_true rfl) ⟨by decide, by decide⟩ ⟨rfl, rfl⟩ ⟨by decide, by decide⟩ ?_
  intro S2 L2 R2 p2
  obtain ⟨rfl, rfl, rfl⟩ := p2
  refine z_aload_n C 5 0 0 dX8_promise_5 rfl rfl ?_
  refine z_getr C 6 dX8_promise_6 gf_X8_42 rfl (by first | assumption | exact Nat.zero_lt_one | exact (show (15 : Nat) < 16 by decide) | exact Nat.lt_succ_of_lt (by assumption) | omega) (by first | exact hR _ _ _ _ rfl | exact hR2 _ _ _ _ rfl | assumption) ?_
  refine z_getr C 9 dX8_promise_9 gf_X8_120 rfl (by first | assumption | exact Nat.zero_lt_one | exact (show (15 : Nat) < 16 by decide) | exact Nat.lt_succ_of_lt (by assumption) | omega) (by first | exact hR _ _ _ _ rfl | exact hR2 _ _ _ _ rfl | assumption) ?_
  refine z_iload_n C 12 1 1 dX8_promise_12 rfl rfl ?_
  refine z_aload_n C 13 0 0 dX8_promise_13 rfl rfl ?_
  refine z_getr C 14 dX8_promise_14 gf_X8_42 rfl (by first | assumption | exact Nat.zero_lt_one | exact (show (15 : Nat) < 16 by decide) | exact Nat.lt_succ_of_lt (by assumption) | omega) (by first | exact hR _ _ _ _ rfl | exact hR2 _ _ _ _ rfl | assumption) ?_
  refine z_getiv C 17 dX8_promise_17 gf_X8_117 rfl (by first | assumption | exact Nat.zero_lt_one | exact (show (15 : Nat) < 16 by decide) | exact Nat.lt_succ_of_lt (by assumption) | omega) hP.2.2.1 ?_
  refine z_aload_n C 20 0 0 dX8_promise_20 rfl rfl ?_
  refine z_getr C 21 dX8_promise_21 gf_X8_42 rfl (by first | assumption | exact Nat.zero_lt_one | exact (show (15 : Nat) < 16 by decide) | exact Nat.lt_succ_of_lt (by assumption) | omega) (by first | exact hR _ _ _ _ rfl | exact hR2 _ _ _ _ rfl | assumption) ?_
  refine z_getiv C 24 dX8_promise_24 gf_X8_114 rfl (by first | assumption | exact Nat.zero_lt_one | exact (show (15 : Nat) < 16 by decide) | exact Nat.lt_succ_of_lt (by assumption) | omega) hP.1 ?_
  refine z_cVi0 C 27 dX8_promise_27 cv_X8_199 (c_X1_promiseOf (N := N) (n := n) hR hp0 hB.2.1 hB.2.2.1 hn10 hI (by omega)) rfl ⟨by decide, rfl⟩ (by first | assumption | exact Nat.zero_lt_one | exact (show (15 : Nat) < 16 by decide) | exact Nat.lt_succ_of_lt (by assumption) | omega) rfl rfl (Nat.le_of_ble_eq_true rfl) ⟨by decide, by decide⟩ ⟨rfl, rfl⟩ ⟨by decide, by decide⟩ ?_
  intro r27 S27 L27 R27 p27
  obtain ⟨rfl, rfl, rfl, rfl⟩ := p27
  exact ret 30 _ _ _ _ _ dX8_promise_30 (by first | rfl | exact bI_n | decide) (⟨by first | rfl | assumption | (simp; done), rfl, rfl, rfl⟩)
def rm_X8_followed : Room := { frames := 1, cells := 0, slots := 0, locals := 30 }
set_option maxHeartbeats 4000000 in
set_option maxRecDepth 100000 in
theorem c_X8_followed {l : Launch} {G : mG} {ad : mA} {S : mS} {L : mL} {R : mR} {T c N : NN} {d n B x u : Nat} {ph : Nat → Nat} {UR SR : Nat → NN} {sf : Nat → Nat} {p w : Nat} (h : CS S R T c d n B x u ph N UR SR sf) (hp : p < n) (hw : w < n) : Ki l yX8_followed cX8_followed 3 .int rm_X8_followed G ad mdm [.ref (ad 0 0), .int (nI p), .int (nI w)] S L R (fun r_ S2 L2 R2 => r_ = fFol N p w ∧ S = S2 ∧ L = L2 ∧ R = R2) := by
  refine Ki.of RX8 (by decide) rfl (Nat.le_of_ble_eq_true rfl) ?_
  intro X hXl hXG C ret
  subst hXl; subst hXG
  change Z X 3 ad mdm S L R 0 0 0 [(0, _), (1, _), (2, _)] []
  have hR := h.1
  obtain ⟨hP1, hP2, r5, r6, r7, r32, r33⟩ := h.2.1
  obtain ⟨hd2, rD, rE, hAT, hAC, hn10, hT⟩ := h.2.2.1
  obtain ⟨hx, hx10, hu, hu10⟩ := h.2.2.2.1
  obtain ⟨hB, hv1, hv2, hJ⟩ := h.2.2.2.2.1
  have hB31 := h.2.2.2.2.2.2.2
  have hI := hJ.1.1
  have hp0 : ph 0 < 15 := hP1 0 (by omega)
  have hp1 : ph 1 < 15 := hP1 1 (by omega)
  have hp2 : ph 2 < 15 := hP1 2 (by omega)
  have h10 : ph 1 ≠ ph 0 := h.ne (by omega) (by omega) (by omega)
  have h01 : ph 0 ≠ ph 1 := h.ne (by omega) (by omega) (by omega)
  have hd : d < 3 := by omega
  have hcn := hAT.1
  have hP := hB.2.2.2.2
  refine z_aload_n C 0 0 0 dX8_followed_0 rfl rfl ?_
  refine z_iload_n C 1 1 1 dX8_followed_1 rfl rfl ?_
  refine z_cVv0 C 2 dX8_followed_2 cv_X8_151 (c_X8_checkProgram (d := d) (n := n) (by assumption) hd2 (by assumption) (by assumption) hn10 (by assumption)) rfl ⟨by decide, rfl⟩ (by first | assumption | exact Nat.zero_lt_one | exact (show (15 : Nat) < 16 by decide) | exact Nat.lt_succ_of_lt (by assumption) | omega) rfl rfl (Nat.le_of_ble_eq_true rfl) ⟨by decide, by decide⟩ ⟨rfl, rfl⟩ ⟨by decide, by decide⟩ ?_
  intro S2 L2 R2 p2
  obtain ⟨rfl, rfl, rfl⟩ := p2
  refine z_aload_n C 5 0 0 dX8_followed_5 rfl rfl ?_
  refine z_iload_n C 6 2 2 dX8_followed_6 rfl rfl ?_
  refine z_cVv0 C 7 dX8_followed_7 cv_X8_151 (c_X8_checkProgram (d := d) (n := n) (by assumption) hd2 (by assumption) (by assumption) hn10 (by assumption)) rfl ⟨by decide, rfl⟩ (by first | assumption | exact Nat.zero_lt_one | exact (show (15 : Nat) < 16 by decide) | exact Nat.lt_succ_of_lt (by assumption) | omega) rfl rfl (Nat.le_of_ble_eq_true rfl) ⟨by decide, by decide⟩ ⟨rfl, rfl⟩ ⟨by decide, by decide⟩ ?_
  intro S7 L7 R7 p7
  obtain ⟨rfl, rfl, rfl⟩ := p7
  refine z_aload_n C 10 0 0 dX8_followed_10 rfl rfl ?_
  refine z_getr C 11 dX8_followed_11 gf_X8_42 rfl (by first | assumption | exact Nat.zero_lt_one | exact (show (15 : Nat) < 16 by decide) | exact Nat.lt_succ_of_lt (by assumption) | omega) (by first | exact hR _ _ _ _ rfl | exact hR2 _ _ _ _ rfl | assumption) ?_
  refine z_getr C 14 dX8_followed_14 gf_X8_120 rfl (by first | assumption | exact Nat.zero_lt_one | exact (show (15 : Nat) < 16 by decide) | exact Nat.lt_succ_of_lt (by assumption) | omega) (by first | exact hR _ _ _ _ rfl | exact hR2 _ _ _ _ rfl | assumption) ?_
  refine z_iload_n C 17 1 1 dX8_followed_17 rfl rfl ?_
  refine z_iload_n C 18 2 2 dX8_followed_18 rfl rfl ?_
  refine z_cVi0 C 19 dX8_followed_19 cv_X8_203 (c_X1_timesFollowed hR hp0 (by omega) (by omega)) rfl ⟨by decide, rfl⟩ (by first | assumption | exact Nat.zero_lt_one | exact (show (15 : Nat) < 16 by decide) | exact Nat.lt_succ_of_lt (by assumption) | omega) rfl rfl (Nat.le_of_ble_eq_true rfl) ⟨by decide, by decide⟩ ⟨rfl, rfl⟩ ⟨by decide, by decide⟩ ?_
  intro r19 S19 L19 R19 p19
  obtain ⟨rfl, rfl, rfl, rfl⟩ := p19
  rw [hB.2.1.2.2.2.2 p w (by omega) (by omega)]
  exact ret 22 _ _ _ _ _ dX8_followed_22 (by first | rfl | exact bI_n | decide) (⟨by first | rfl | assumption | (simp; done), rfl, rfl, rfl⟩)
def rm_X8_likeliest : Room := { frames := 2, cells := 0, slots := 0, locals := 60 }
set_option maxHeartbeats 4000000 in
set_option maxRecDepth 100000 in
theorem c_X8_likeliest {l : Launch} {G : mG} {ad : mA} {S : mS} {L : mL} {R : mR} {T c N : NN} {d n B x u : Nat} {ph : Nat → Nat} {UR SR : Nat → NN} {sf : Nat → Nat} {p : Nat} (h : CS S R T c d n B x u ph N UR SR sf) (hp : p < n) : Ki l yX8_likeliest cX8_likeliest 2 .int rm_X8_likeliest G ad mdm [.ref (ad 0 0), .int (nI p)] S L R (fun r_ S2 L2 R2 => r_ = oI (fLikF N p n) ∧ S = S2 ∧ L = L2 ∧ R = R2) := by
  refine Ki.of RX8 (by decide) rfl (Nat.le_of_ble_eq_true rfl) ?_
  intro X hXl hXG C ret
  subst hXl; subst hXG
  change Z X 2 ad mdm S L R 0 0 0 [(0, _), (1, _)] []
  have hR := h.1
  obtain ⟨hP1, hP2, r5, r6, r7, r32, r33⟩ := h.2.1
  obtain ⟨hd2, rD, rE, hAT, hAC, hn10, hT⟩ := h.2.2.1
  obtain ⟨hx, hx10, hu, hu10⟩ := h.2.2.2.1
  obtain ⟨hB, hv1, hv2, hJ⟩ := h.2.2.2.2.1
  have hB31 := h.2.2.2.2.2.2.2
  have hI := hJ.1.1
  have hp0 : ph 0 < 15 := hP1 0 (by omega)
  have hp1 : ph 1 < 15 := hP1 1 (by omega)
  have hp2 : ph 2 < 15 := hP1 2 (by omega)
  have h10 : ph 1 ≠ ph 0 := h.ne (by omega) (by omega) (by omega)
  have h01 : ph 0 ≠ ph 1 := h.ne (by omega) (by omega) (by omega)
  have hd : d < 3 := by omega
  have hcn := hAT.1
  have hP := hB.2.2.2.2
  refine z_aload_n C 0 0 0 dX8_likeliest_0 rfl rfl ?_
  refine z_iload_n C 1 1 1 dX8_likeliest_1 rfl rfl ?_
  refine z_cVv0 C 2 dX8_likeliest_2 cv_X8_151 (c_X8_checkProgram (d := d) (n := n) (by assumption) hd2 (by assumption) (by assumption) hn10 (by assumption)) rfl ⟨by decide, rfl⟩ (by first | assumption | exact Nat.zero_lt_one | exact (show (15 : Nat) < 16 by decide) | exact Nat.lt_succ_of_lt (by assumption) | omega) rfl rfl (Nat.le_of_ble_eq_true rfl) ⟨by decide, by decide⟩ ⟨rfl, rfl⟩ ⟨by decide, by decide⟩ ?_
  intro S2 L2 R2 p2
  obtain ⟨rfl, rfl, rfl⟩ := p2
  refine z_aload_n C 5 0 0 dX8_likeliest_5 rfl rfl ?_
  refine z_getr C 6 dX8_likeliest_6 gf_X8_42 rfl (by first | assumption | exact Nat.zero_lt_one | exact (show (15 : Nat) < 16 by decide) | exact Nat.lt_succ_of_lt (by assumption) | omega) (by first | exact hR _ _ _ _ rfl | exact hR2 _ _ _ _ rfl | assumption) ?_
  refine z_getr C 9 dX8_likeliest_9 gf_X8_120 rfl (by first | assumption | exact Nat.zero_lt_one | exact (show (15 : Nat) < 16 by decide) | exact Nat.lt_succ_of_lt (by assumption) | omega) (by first | exact hR _ _ _ _ rfl | exact hR2 _ _ _ _ rfl | assumption) ?_
  refine z_iload_n C 12 1 1 dX8_likeliest_12 rfl rfl ?_
  refine z_cVi0 C 13 dX8_likeliest_13 cv_X8_206 (c_X1_likeliestAfter (N := N) (n := n) hR hp0 hB.2.1 hn10 (by omega)) rfl ⟨by decide, rfl⟩ (by first | assumption | exact Nat.zero_lt_one | exact (show (15 : Nat) < 16 by decide) | exact Nat.lt_succ_of_lt (by assumption) | omega) rfl rfl (Nat.le_of_ble_eq_true rfl) ⟨by decide, by decide⟩ ⟨rfl, rfl⟩ ⟨by decide, by decide⟩ ?_
  intro r13 S13 L13 R13 p13
  obtain ⟨rfl, rfl, rfl, rfl⟩ := p13
  exact ret 16 _ _ _ _ _ dX8_likeliest_16 (by first | rfl | exact bI_n | decide) (⟨by first | rfl | assumption | (simp; done), rfl, rfl, rfl⟩)
def rm_X8_waitOf : Room := { frames := 1, cells := 0, slots := 0, locals := 30 }
set_option maxHeartbeats 4000000 in
set_option maxRecDepth 100000 in
theorem c_X8_waitOf {l : Launch} {G : mG} {ad : mA} {S : mS} {L : mL} {R : mR} {T c N : NN} {d n B x u : Nat} {ph : Nat → Nat} {UR SR : Nat → NN} {sf : Nat → Nat} {p : Nat} (h : CS S R T c d n B x u ph N UR SR sf) (hp : p < n) : Ki l yX8_waitOf cX8_waitOf 2 .int rm_X8_waitOf G ad mdm [.ref (ad 0 0), .int (nI p)] S L R (fun r_ S2 L2 R2 => r_ = fWait N T c p ∧ S = S2 ∧ L = L2 ∧ R = R2) := by
  refine Ki.of RX8 (by decide) rfl (Nat.le_of_ble_eq_true rfl) ?_
  intro X hXl hXG C ret
  subst hXl; subst hXG
  change Z X 2 ad mdm S L R 0 0 0 [(0, _), (1, _)] []
  have hR := h.1
  obtain ⟨hP1, hP2, r5, r6, r7, r32, r33⟩ := h.2.1
  obtain ⟨hd2, rD, rE, hAT, hAC, hn10, hT⟩ := h.2.2.1
  obtain ⟨hx, hx10, hu, hu10⟩ := h.2.2.2.1
  obtain ⟨hB, hv1, hv2, hJ⟩ := h.2.2.2.2.1
  have hB31 := h.2.2.2.2.2.2.2
  have hI := hJ.1.1
  have hp0 : ph 0 < 15 := hP1 0 (by omega)
  have hp1 : ph 1 < 15 := hP1 1 (by omega)
  have hp2 : ph 2 < 15 := hP1 2 (by omega)
  have h10 : ph 1 ≠ ph 0 := h.ne (by omega) (by omega) (by omega)
  have h01 : ph 0 ≠ ph 1 := h.ne (by omega) (by omega) (by omega)
  have hd : d < 3 := by omega
  have hcn := hAT.1
  have hP := hB.2.2.2.2
  refine z_aload_n C 0 0 0 dX8_waitOf_0 rfl rfl ?_
  refine z_iload_n C 1 1 1 dX8_waitOf_1 rfl rfl ?_
  refine z_cVv0 C 2 dX8_waitOf_2 cv_X8_151 (c_X8_checkProgram (d := d) (n := n) (by assumption) hd2 (by assumption) (by assumption) hn10 (by assumption)) rfl ⟨by decide, rfl⟩ (by first | assumption | exact Nat.zero_lt_one | exact (show (15 : Nat) < 16 by decide) | exact Nat.lt_succ_of_lt (by assumption) | omega) rfl rfl (Nat.le_of_ble_eq_true rfl) ⟨by decide, by decide⟩ ⟨rfl, rfl⟩ ⟨by decide, by decide⟩ ?_
  intro S2 L2 R2 p2
  obtain ⟨rfl, rfl, rfl⟩ := p2
  refine z_aload_n C 5 0 0 dX8_waitOf_5 rfl rfl ?_
  refine z_getr C 6 dX8_waitOf_6 gf_X8_42 rfl (by first | assumption | exact Nat.zero_lt_one | exact (show (15 : Nat) < 16 by decide) | exact Nat.lt_succ_of_lt (by assumption) | omega) (by first | exact hR _ _ _ _ rfl | exact hR2 _ _ _ _ rfl | assumption) ?_
  refine z_iload_n C 9 1 1 dX8_waitOf_9 rfl rfl ?_
  refine z_cVi0 C 10 dX8_waitOf_10 cv_X8_223 (c_X4_waitFor (N := N) (T := T) (c := c) (n := n) (d := d) hR hp0 hd hv1 hv2 hAT hn10 hI hB hAC (by omega)) rfl ⟨by decide, rfl⟩ (by first | assumption | exact Nat.zero_lt_one | exact (show (15 : Nat) < 16 by decide) | exact Nat.lt_succ_of_lt (by assumption) | omega) rfl rfl (Nat.le_of_ble_eq_true rfl) ⟨by decide, by decide⟩ ⟨rfl, rfl⟩ ⟨by decide, by decide⟩ ?_
  intro r10 S10 L10 R10 p10
  obtain ⟨rfl, rfl, rfl, rfl⟩ := p10
  exact ret 13 _ _ _ _ _ dX8_waitOf_13 (by first | rfl | exact bI_n | decide) (⟨by first | rfl | assumption | (simp; done), rfl, rfl, rfl⟩)
def rm_X8_log : Room := { frames := 1, cells := 0, slots := 0, locals := 30 }
set_option maxHeartbeats 4000000 in
set_option maxRecDepth 100000 in
theorem c_X8_log {l : Launch} {G : mG} {ad : mA} {S : mS} {L : mL} {R : mR} {T c N : NN} {d n B x u : Nat} {ph : Nat → Nat} {UR SR : Nat → NN} {sf : Nat → Nat} {w m : Nat} {k : Int32} (h : CS S R T c d n B x u ph N UR SR sf) (hw : w < 3) (hm : N 5 = nI m) (hm24 : m ≤ 24) : Ki l yX8_log cX8_log 3 .int rm_X8_log G ad mdm [.ref (ad 0 0), .int k, .int (nI w)] S L R (fun r_ S2 L2 R2 => (∀ j, j < m → k = nI j → r_ = N (306 + 3 * j + w)) ∧ (¬ isP m k → r_ = -1) ∧ S = S2 ∧ L = L2 ∧ R = R2) := by
  refine Ki.of RX8 (by decide) rfl (Nat.le_of_ble_eq_true rfl) ?_
  intro X hXl hXG C ret
  subst hXl; subst hXG
  change Z X 3 ad mdm S L R 0 0 0 [(0, _), (1, _), (2, _)] []
  have hR := h.1
  obtain ⟨hP1, hP2, r5, r6, r7, r32, r33⟩ := h.2.1
  obtain ⟨hd2, rD, rE, hAT, hAC, hn10, hT⟩ := h.2.2.1
  obtain ⟨hx, hx10, hu, hu10⟩ := h.2.2.2.1
  obtain ⟨hB, hv1, hv2, hJ⟩ := h.2.2.2.2.1
  have hB31 := h.2.2.2.2.2.2.2
  have hI := hJ.1.1
  have hp0 : ph 0 < 15 := hP1 0 (by omega)
  have hp1 : ph 1 < 15 := hP1 1 (by omega)
  have hp2 : ph 2 < 15 := hP1 2 (by omega)
  have h10 : ph 1 ≠ ph 0 := h.ne (by omega) (by omega) (by omega)
  have h01 : ph 0 ≠ ph 1 := h.ne (by omega) (by omega) (by omega)
  have hd : d < 3 := by omega
  have hcn := hAT.1
  have hP := hB.2.2.2.2
  refine z_iload_n C 0 2 2 dX8_log_0 rfl rfl ?_
  refine z_if_lt C 1 9 dX8_log_1 (by decide) (fun h1 => absurd h1 (nI_pos (by omega))) (fun h1 => ?_)
  · refine z_iload_n C 4 2 2 dX8_log_4 rfl rfl ?_
    refine z_iconst (v := nI 3) C 5 dX8_log_5 (by decide) ?_
    first | with_reducible refine z_icmp_ltN C 6 19 dX8_log_6 (by decide) (by omega) (by omega) (fun h6 => ?_) (fun h6 => (by exfalso; first | omega | exact h6 (nI_lt (by assumption) (by omega)))) | refine z_icmp_lt C 6 19 dX8_log_6 (by decide) (fun h6 => ?_) (fun h6 => (by exfalso; first | omega | exact h6 (nI_lt (by assumption) (by omega))))
    · refine z_aload_n C 19 0 0 dX8_log_19 rfl rfl ?_
      refine z_getr C 20 dX8_log_20 gf_X8_42 rfl (by first | assumption | exact Nat.zero_lt_one | exact (show (15 : Nat) < 16 by decide) | exact Nat.lt_succ_of_lt (by assumption) | omega) (by first | exact hR _ _ _ _ rfl | exact hR2 _ _ _ _ rfl | assumption) ?_
      refine z_getr C 23 dX8_log_23 gf_X8_232 rfl (by first | assumption | exact Nat.zero_lt_one | exact (show (15 : Nat) < 16 by decide) | exact Nat.lt_succ_of_lt (by assumption) | omega) (by first | exact hR _ _ _ _ rfl | exact hR2 _ _ _ _ rfl | assumption) ?_
      refine z_iload_n C 26 1 1 dX8_log_26 rfl rfl ?_
      refine z_iload_n C 27 2 2 dX8_log_27 rfl rfl ?_
      refine z_cVi0 C 28 dX8_log_28 cv_X8_256 (c_X3_partOf (N := N) (m := m) hR hp0 hB.2.2.2.1 hw hm hm24) rfl ⟨by decide, rfl⟩ (by first | assumption | exact Nat.zero_lt_one | exact (show (15 : Nat) < 16 by decide) | exact Nat.lt_succ_of_lt (by assumption) | omega) rfl rfl (Nat.le_of_ble_eq_true rfl) ⟨by decide, by decide⟩ ⟨rfl, rfl⟩ ⟨by decide, by decide⟩ ?_
      intro r28 S28 L28 R28 p28
      obtain ⟨ha, hb, rfl, rfl, rfl⟩ := p28
      exact ret 31 _ _ _ _ _ dX8_log_31 (by first | rfl | exact bI_n | decide) (⟨ha, hb, rfl, rfl, rfl⟩)
def rm_X8_account : Room := { frames := 0, cells := 0, slots := 0, locals := 0 }
set_option maxHeartbeats 4000000 in
set_option maxRecDepth 100000 in
theorem c_X8_account {l : Launch} {G : mG} {ad : mA} {S : mS} {L : mL} {R : mR} {T c N : NN} {d n B x u : Nat} {ph : Nat → Nat} {UR SR : Nat → NN} {sf : Nat → Nat} {w : Nat} (h : CS S R T c d n B x u ph N UR SR sf) (hw0 : 1 ≤ w) (hw : w ≤ 9) : Ki l yX8_account cX8_account 2 .int rm_X8_account G ad mdm [.ref (ad 0 0), .int (nI w)] S L R (fun r_ S2 L2 R2 => r_ = N (378 + w) ∧ S = S2 ∧ L = L2 ∧ R = R2) := by
  refine Ki.of RX8 (by decide) rfl (Nat.le_of_ble_eq_true rfl) ?_
  intro X hXl hXG C ret
  subst hXl; subst hXG
  change Z X 2 ad mdm S L R 0 0 0 [(0, _), (1, _)] []
  have hR := h.1
  obtain ⟨hP1, hP2, r5, r6, r7, r32, r33⟩ := h.2.1
  obtain ⟨hd2, rD, rE, hAT, hAC, hn10, hT⟩ := h.2.2.1
  obtain ⟨hx, hx10, hu, hu10⟩ := h.2.2.2.1
  obtain ⟨hB, hv1, hv2, hJ⟩ := h.2.2.2.2.1
  have hB31 := h.2.2.2.2.2.2.2
  have hI := hJ.1.1
  have hp0 : ph 0 < 15 := hP1 0 (by omega)
  have hp1 : ph 1 < 15 := hP1 1 (by omega)
  have hp2 : ph 2 < 15 := hP1 2 (by omega)
  have h10 : ph 1 ≠ ph 0 := h.ne (by omega) (by omega) (by omega)
  have h01 : ph 0 ≠ ph 1 := h.ne (by omega) (by omega) (by omega)
  have hd : d < 3 := by omega
  have hcn := hAT.1
  have hP := hB.2.2.2.2
  obtain ⟨jx, jk, j1, j2, j3, j4, j5, j6, j7⟩ := hB.2.2.2.1
  refine z_iload_n C 0 1 1 dX8_account_0 rfl rfl ?_
  refine z_iconst (v := nI 1) C 1 dX8_account_1 (by decide) ?_
  first | with_reducible refine z_icmp_ltN C 2 11 dX8_account_2 (by decide) (by omega) (by omega) (fun h2 => absurd hw0 (by omega)) (fun h2 => ?_) | refine z_icmp_lt C 2 11 dX8_account_2 (by decide) (fun h2 => absurd hw0 (by omega)) (fun h2 => ?_)
  · refine z_iload_n C 5 1 1 dX8_account_5 rfl rfl ?_
    refine z_bipush (v := nI 9) C 6 dX8_account_6 (by decide +kernel) ?_
    first | with_reducible refine z_icmp_leN C 8 22 dX8_account_8 (by decide) (by omega) (by omega) (fun h8 => ?_) (fun h8 => absurd hw (by omega)) | refine z_icmp_le C 8 22 dX8_account_8 (by decide) (fun h8 => ?_) (fun h8 => absurd hw (by omega))
    · refine z_aload_n C 22 0 0 dX8_account_22 rfl rfl ?_
      refine z_getr C 23 dX8_account_23 gf_X8_42 rfl (by first | assumption | exact Nat.zero_lt_one | exact (show (15 : Nat) < 16 by decide) | exact Nat.lt_succ_of_lt (by assumption) | omega) (by first | exact hR _ _ _ _ rfl | exact hR2 _ _ _ _ rfl | assumption) ?_
      refine z_getr C 26 dX8_account_26 gf_X8_232 rfl (by first | assumption | exact Nat.zero_lt_one | exact (show (15 : Nat) < 16 by decide) | exact Nat.lt_succ_of_lt (by assumption) | omega) (by first | exact hR _ _ _ _ rfl | exact hR2 _ _ _ _ rfl | assumption) ?_
      refine z_getr C 29 dX8_account_29 gf_X8_261 rfl (by first | assumption | exact Nat.zero_lt_one | exact (show (15 : Nat) < 16 by decide) | exact Nat.lt_succ_of_lt (by assumption) | omega) (by first | exact hR _ _ _ _ rfl | exact hR2 _ _ _ _ rfl | assumption) ?_
      refine z_iload_n C 32 1 1 dX8_account_32 rfl rfl ?_
      refine z_iald C 33 dX8_account_33 (by first | rfl | assumption) (by first | assumption | exact Nat.zero_lt_one | exact (show (15 : Nat) < 16 by decide) | exact Nat.lt_succ_of_lt (by assumption) | omega) (by first | rfl | assumption) (by first | decide | omega) (by first | assumption | omega) ?_
      rw [j7 w (by omega)]
      exact ret 34 _ _ _ _ _ dX8_account_34 (by first | rfl | exact bI_n | decide) (⟨by first | rfl | assumption | (simp; done), rfl, rfl, rfl⟩)
def rm_X8_victim : Room := { frames := 7, cells := 0, slots := 0, locals := 220 }
set_option maxHeartbeats 4000000 in
set_option maxRecDepth 100000 in
theorem c_X8_victim {l : Launch} {G : mG} {ad : mA} {S : mS} {L : mL} {R : mR} {T c N : NN} {d n B x u : Nat} {ph : Nat → Nat} {UR SR : Nat → NN} {sf : Nat → Nat} {k : Nat} (h : CS S R T c d n B x u ph N UR SR sf) (hk : 1 ≤ k) (hk6 : k ≤ 6) : Ki l yX8_victim cX8_victim 2 .int rm_X8_victim G ad mdm [.ref (ad 0 0), .int (nI k)] S L R (fun r_ S2 L2 R2 => r_ = oI (fVic N T n k) ∧ (FC S S2 ∧ CS S2 R2 T c d n B x u ph N UR SR sf) ∧ L = L2) := by
  refine Ki.of RX8 (by decide) rfl (Nat.le_of_ble_eq_true rfl) ?_
  intro X hXl hXG C ret
  subst hXl; subst hXG
  change Z X 2 ad mdm S L R 0 0 0 [(0, _), (1, _)] []
  have hR := h.1
  obtain ⟨hP1, hP2, r5, r6, r7, r32, r33⟩ := h.2.1
  obtain ⟨hd2, rD, rE, hAT, hAC, hn10, hT⟩ := h.2.2.1
  obtain ⟨hx, hx10, hu, hu10⟩ := h.2.2.2.1
  obtain ⟨hB, hv1, hv2, hJ⟩ := h.2.2.2.2.1
  have hB31 := h.2.2.2.2.2.2.2
  have hI := hJ.1.1
  have hp0 : ph 0 < 15 := hP1 0 (by omega)
  have hp1 : ph 1 < 15 := hP1 1 (by omega)
  have hp2 : ph 2 < 15 := hP1 2 (by omega)
  have h10 : ph 1 ≠ ph 0 := h.ne (by omega) (by omega) (by omega)
  have h01 : ph 0 ≠ ph 1 := h.ne (by omega) (by omega) (by omega)
  have hd : d < 3 := by omega
  have hcn := hAT.1
  have hP := hB.2.2.2.2
  refine z_iload_n C 0 1 1 dX8_victim_0 rfl rfl ?_
  refine z_cSv0 C 1 dX8_victim_1 cs_X8_211 (c_X8_checkStep hk hk6) rfl rfl (Nat.le_of_ble_eq_true rfl) ⟨by decide, by decide⟩ ⟨rfl, rfl⟩ ⟨by decide, by decide⟩ ?_
  intro S1 L1 R1 p1
  obtain ⟨rfl, rfl, rfl⟩ := p1
  refine z_aload_n C 4 0 0 dX8_victim_4 rfl rfl ?_
  refine z_getr C 5 dX8_victim_5 gf_X8_42 rfl (by first | assumption | exact Nat.zero_lt_one | exact (show (15 : Nat) < 16 by decide) | exact Nat.lt_succ_of_lt (by assumption) | omega) (by first | exact hR _ _ _ _ rfl | exact hR2 _ _ _ _ rfl | assumption) ?_
  refine z_cVv0 C 8 dX8_victim_8 cv_X8_214 (c_X4_prepareTrims (N := N) (T := T) (n := n) (d := d) (B := B) hR hp0 hd hv1 hv2 hAT hn10 hI hB hJ.1.2.2.1 (by omega)) rfl ⟨by decide, rfl⟩ (by first | assumption | exact Nat.zero_lt_one | exact (show (15 : Nat) < 16 by decide) | exact Nat.lt_succ_of_lt (by assumption) | omega) rfl rfl (Nat.le_of_ble_eq_true rfl) ⟨by decide, by decide⟩ ⟨rfl, rfl⟩ ⟨by decide, by decide⟩ ?_
  intro S8 L8 R8 p8
  obtain ⟨hTR, hFT, rfl, rfl⟩ := p8
  have hFR : FR R (up3 R 12 15 0 (some (3, d))) := FR.up hR
  have hR2 := hFR.1
  refine z_aload_n C 11 0 0 dX8_victim_11 rfl rfl ?_
  refine z_getr C 12 dX8_victim_12 gf_X8_33 rfl (by first | assumption | exact Nat.zero_lt_one | exact (show (15 : Nat) < 16 by decide) | exact Nat.lt_succ_of_lt (by assumption) | omega) (by first | exact hR _ _ _ _ rfl | exact hR2 _ _ _ _ rfl | assumption) ?_
  refine z_iload_n C 15 1 1 dX8_victim_15 rfl rfl ?_
  refine z_cVi0 C 16 dX8_victim_16 cv_X8_217 (c_X7_victimOf (N := N) (T := T) (n := n) (d := d) hR2 hd (up3_s _ _ _ _ _) (hAT.ft hFT) hn10 hI hTR hk hk6) rfl ⟨by decide, rfl⟩ (by first | assumption | exact Nat.zero_lt_one | exact (show (15 : Nat) < 16 by decide) | exact Nat.lt_succ_of_lt (by assumption) | omega) rfl rfl (Nat.le_of_ble_eq_true rfl) ⟨by decide, by decide⟩ ⟨rfl, rfl⟩ ⟨by decide, by decide⟩ ?_
  intro r16 S16 L16 R16 p16
  obtain ⟨rfl, rfl, rfl, rfl⟩ := p16
  exact ret 19 _ _ _ _ _ dX8_victim_19 (by first | rfl | exact bI_n | decide) (⟨rfl, ⟨hFT.fc, h.ft hFT hFR⟩, rfl⟩)
def rm_X8_freed : Room := { frames := 7, cells := 0, slots := 0, locals := 220 }
set_option maxHeartbeats 4000000 in
set_option maxRecDepth 100000 in
theorem c_X8_freed {l : Launch} {G : mG} {ad : mA} {S : mS} {L : mL} {R : mR} {T c N : NN} {d n B x u : Nat} {ph : Nat → Nat} {UR SR : Nat → NN} {sf : Nat → Nat} {k : Nat} (h : CS S R T c d n B x u ph N UR SR sf) (hk : 1 ≤ k) (hk6 : k ≤ 6) : Ki l yX8_freed cX8_freed 3 .int rm_X8_freed G ad mdm [.ref (ad 0 0), .int (nI k)] S L R (fun r_ S2 L2 R2 => r_ = qFreed N T n k ∧ (FC S S2 ∧ CS S2 R2 T c d n B x u ph N UR SR sf) ∧ L = L2) := by
  refine Ki.of RX8 (by decide) rfl (Nat.le_of_ble_eq_true rfl) ?_
  intro X hXl hXG C ret
  subst hXl; subst hXG
  change Z X 3 ad mdm S L R 0 0 0 [(0, _), (1, _)] []
  have hR := h.1
  obtain ⟨hP1, hP2, r5, r6, r7, r32, r33⟩ := h.2.1
  obtain ⟨hd2, rD, rE, hAT, hAC, hn10, hT⟩ := h.2.2.1
  obtain ⟨hx, hx10, hu, hu10⟩ := h.2.2.2.1
  obtain ⟨hB, hv1, hv2, hJ⟩ := h.2.2.2.2.1
  have hB31 := h.2.2.2.2.2.2.2
  have hI := hJ.1.1
  have hp0 : ph 0 < 15 := hP1 0 (by omega)
  have hp1 : ph 1 < 15 := hP1 1 (by omega)
  have hp2 : ph 2 < 15 := hP1 2 (by omega)
  have h10 : ph 1 ≠ ph 0 := h.ne (by omega) (by omega) (by omega)
  have h01 : ph 0 ≠ ph 1 := h.ne (by omega) (by omega) (by omega)
  have hd : d < 3 := by omega
  have hcn := hAT.1
  have hP := hB.2.2.2.2
  refine z_iload_n C 0 1 1 dX8_freed_0 rfl rfl ?_
  refine z_cSv0 C 1 dX8_freed_1 cs_X8_211 (c_X8_checkStep hk hk6) rfl rfl (Nat.le_of_ble_eq_true rfl) ⟨by decide, by decide⟩ ⟨rfl, rfl⟩ ⟨by decide, by decide⟩ ?_
  intro S1 L1 R1 p1
  obtain ⟨rfl, rfl, rfl⟩ := p1
  refine z_aload_n C 4 0 0 dX8_freed_4 rfl rfl ?_
  refine z_getr C 5 dX8_freed_5 gf_X8_42 rfl (by first | assumption | exact Nat.zero_lt_one | exact (show (15 : Nat) < 16 by decide) | exact Nat.lt_succ_of_lt (by assumption) | omega) (by first | exact hR _ _ _ _ rfl | exact hR2 _ _ _ _ rfl | assumption) ?_
  refine z_cVv0 C 8 dX8_freed_8 cv_X8_214 (c_X4_prepareTrims (N := N) (T := T) (n := n) (d := d) (B := B) hR hp0 hd hv1 hv2 hAT hn10 hI hB hJ.1.2.2.1 (by omega)) rfl ⟨by decide, rfl⟩ (by first | assumption | exact Nat.zero_lt_one | exact (show (15 : Nat) < 16 by decide) | exact Nat.lt_succ_of_lt (by assumption) | omega) rfl rfl (Nat.le_of_ble_eq_true rfl) ⟨by decide, by decide⟩ ⟨rfl, rfl⟩ ⟨by decide, by decide⟩ ?_
  intro S8 L8 R8 p8
  obtain ⟨hTR, hFT, rfl, rfl⟩ := p8
  have hFR : FR R (up3 R 12 15 0 (some (3, d))) := FR.up hR
  have hR2 := hFR.1
  refine z_aload_n C 11 0 0 dX8_freed_11 rfl rfl ?_
  refine z_getr C 12 dX8_freed_12 gf_X8_33 rfl (by first | assumption | exact Nat.zero_lt_one | exact (show (15 : Nat) < 16 by decide) | exact Nat.lt_succ_of_lt (by assumption) | omega) (by first | exact hR _ _ _ _ rfl | exact hR2 _ _ _ _ rfl | assumption) ?_
  refine z_iload_n C 15 1 1 dX8_freed_15 rfl rfl ?_
  refine z_cVi0 C 16 dX8_freed_16 cv_X8_217 (c_X7_victimOf (N := N) (T := T) (n := n) (d := d) hR2 hd (up3_s _ _ _ _ _) (hAT.ft hFT) hn10 hI hTR hk hk6) rfl ⟨by decide, rfl⟩ (by first | assumption | exact Nat.zero_lt_one | exact (show (15 : Nat) < 16 by decide) | exact Nat.lt_succ_of_lt (by assumption) | omega) rfl rfl (Nat.le_of_ble_eq_true rfl) ⟨by decide, by decide⟩ ⟨rfl, rfl⟩ ⟨by decide, by decide⟩ ?_
  intro r16 S16 L16 R16 p16
  obtain ⟨rfl, rfl, rfl, rfl⟩ := p16
  refine z_istore_n C 19 2 [(2, _), (0, _), (1, _)] dX8_freed_19 rfl (by decide) rfl ?_
  refine z_iload_n C 20 2 0 dX8_freed_20 rfl rfl ?_
  refine z_iconst (v := (-1)) C 21 dX8_freed_21 (by decide) ?_
  first | with_reducible refine z_icmp_neN C 22 29 dX8_freed_22 (by decide) (by omega) (by omega) (fun h22 => ?_) (fun h22 => ?_) | refine z_icmp_ne C 22 29 dX8_freed_22 (by decide) (fun h22 => ?_) (fun h22 => ?_)
  · obtain ⟨p, hp⟩ : ∃ p, fVic N T n k = some p := by
      cases hq : fVic N T n k with
      | none => rw [hq] at h22; exact absurd rfl h22
      | some p => exact ⟨p, rfl⟩
    have hp10 : p < 10 := by have := fVic_lt hp; omega
    rw [hp]
    change Z X _ ad mdm _ _ _ _ _ _ [(2, .int (nI p)), _, _] _
    refine z_aload_n C 29 0 1 dX8_freed_29 rfl rfl ?_
    refine z_getr C 30 dX8_freed_30 gf_X8_33 rfl (by first | assumption | exact Nat.zero_lt_one | exact (show (15 : Nat) < 16 by decide) | exact Nat.lt_succ_of_lt (by assumption) | omega) (by first | exact hR _ _ _ _ rfl | exact hR2 _ _ _ _ rfl | assumption) ?_
    refine z_iload_n C 33 1 2 dX8_freed_33 rfl rfl ?_
    refine z_iload_n C 34 2 0 dX8_freed_34 rfl rfl ?_
    refine z_cVi0 C 35 dX8_freed_35 cv_X8_220 (c_X7_tryStep (d := d) (p := p) (k := k) hR2 hd (up3_s _ _ _ _ _) hp10 hk hk6 (by rw [hTR.2.2.2]; exact bI_01)) rfl ⟨by decide, rfl⟩ (by first | assumption | exact Nat.zero_lt_one | exact (show (15 : Nat) < 16 by decide) | exact Nat.lt_succ_of_lt (by assumption) | omega) rfl rfl (Nat.le_of_ble_eq_true rfl) ⟨by decide, by decide⟩ ⟨rfl, rfl⟩ ⟨by decide, by decide⟩ ?_
    intro r35 S35 L35 R35 p35
    obtain ⟨hr, rfl, rfl, rfl⟩ := p35
    exact ret 38 _ _ _ _ _ dX8_freed_38 (by first | rfl | exact bI_n | decide) ((by first | exact ⟨(by unfold qFreed; rw [hp]; rfl), ⟨hFT.fc, h.ft hFT hFR⟩, rfl⟩ | exact ⟨(by unfold qFreed; rw [hp]; exact hr.trans (freed_eq hTR (hAT.ft hFT) hn10 hI hJ.1.2.1 (fVic_lt hp) hk hk6 (fVic_can hp))), ⟨(hFT.tr (hTR.step (hAT.ft hFT) hn10 hI hJ.1.2.1 (fVic_lt hp) hk hk6 (fVic_can hp)).2).fc, h.ft (hFT.tr (hTR.step (hAT.ft hFT) hn10 hI hJ.1.2.1 (fVic_lt hp) hk hk6 (fVic_can hp)).2) hFR⟩, rfl⟩))
  · have hp : fVic N T n k = none := by
      cases hq : fVic N T n k with
      | none => rfl
      | some p => rw [hq] at h22; exact absurd h22 (nI_m1 (by have := fVic_lt hq; omega))
    refine z_iconst (v := nI 0) C 25 dX8_freed_25 (by decide) ?_
    refine z_goto C 26 38 dX8_freed_26 (by decide) ?_
    exact ret 38 _ _ _ _ _ dX8_freed_38 (by first | rfl | exact bI_n | decide) ((by first | exact ⟨(by unfold qFreed; rw [hp]; rfl), ⟨hFT.fc, h.ft hFT hFR⟩, rfl⟩ | exact ⟨(by unfold qFreed; rw [hp]; exact hr.trans (freed_eq hTR (hAT.ft hFT) hn10 hI hJ.1.2.1 (fVic_lt hp) hk hk6 (fVic_can hp))), ⟨(hFT.tr (hTR.step (hAT.ft hFT) hn10 hI hJ.1.2.1 (fVic_lt hp) hk hk6 (fVic_can hp)).2).fc, h.ft (hFT.tr (hTR.step (hAT.ft hFT) hn10 hI hJ.1.2.1 (fVic_lt hp) hk hk6 (fVic_can hp)).2) hFR⟩, rfl⟩))
