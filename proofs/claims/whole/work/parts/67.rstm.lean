theorem rw_n {un : Nat → Nat} {len p : Nat} {D : PD} (h : nmW D.nm (wd un len (tE un len p)) D.k = none) (h1 : tK un len (tE un len p) = 1) : (yWork un len D p).1 = (4, nI (tS un len (tE un len p)), tE un len (tE un len p)) := by
  unfold yWork
  rw [h, yT_k (q := y0 (tE un len p)) rfl h1]
  exact yE_c (q := (0, (y0 (tE un len p)).2.1, tE un len (y0 (tE un len p)).2.2)) rfl
theorem rw_0 {un : Nat → Nat} {len p j : Nat} {D : PD} (h : nmW D.nm (wd un len (tE un len p)) D.k = some j) (h1 : tK un len (tE un len p) = 1) (h0 : D.T (8 * j + 7) = 0) : yWork un len D p = (yN un len (y0 (tE un len (tE un len p))) 1 60, (D.k, D.nm, (fun x => if x = 8 * j + 7 then nI (tW un len (tE un len (tE un len p))) else D.T x), D.c, D.pol, D.lim, D.dc, D.dp)) := by
  unfold yWork
  rw [h, yT_k (q := y0 (tE un len p)) rfl h1]
  dsimp only
  rw [if_pos h0]
  rfl
theorem rw_1 {un : Nat → Nat} {len p j : Nat} {D : PD} (h : nmW D.nm (wd un len (tE un len p)) D.k = some j) (h1 : tK un len (tE un len p) = 1) (h0 : ¬ D.T (8 * j + 7) = 0) : (yWork un len D p).1 = (2, nI (tS un len (tE un len p)), tE un len (tE un len p)) := by
  unfold yWork
  rw [h, yT_k (q := y0 (tE un len p)) rfl h1]
  dsimp only
  rw [if_neg h0, yE_c rfl]
  exact yN_f (show ¬ (2 : Nat) = 0 by decide)
theorem rD.T7 {S : mS} {L : mL} {D : PD} (h : rD S L D) {j : Nat} {v v' : Int32} (hv : v = v') : rD (up3 S 46 0 (8 * j + 7) v) L (D.k, D.nm, (fun x => if x = 8 * j + 7 then v' else D.T x), D.c, D.pol, D.lim, D.dc, D.dp) := by
  obtain ⟨a, b, c, d, f, g, i, j'⟩ := h
  subst hv
  refine ⟨a, by rw [up3_k _ (by omega)]; exact b, fun w hw => by rw [up3_k _ (by omega)]; exact c w hw, by rw [up3_k _ (by omega)]; exact d, f, fun w x hw hx => ?_, by rw [up3_k _ (by omega)]; exact i, j'⟩
  show _ = if 8 * w + x = 8 * j + 7 then v else D.T (8 * w + x)
  rw [up3_at]
  by_cases z : 8 * w + x = 8 * j + 7
  · rw [if_pos ⟨rfl, rfl, z⟩, if_pos z]
  · rw [if_neg (fun y => z y.2.2), if_neg z]
    exact g w x hw hx

def rm_X9_workLine : Room := { frames := 5, cells := 0, slots := 0, locals := 109 }
set_option maxHeartbeats 4000000 in
set_option maxRecDepth 100000 in
theorem c_X9_workLine {l : Launch} {G : mG} {ad : mA} {S : mS} {L : mL} {R : mR} {un : Nat → Nat} {len p : Nat} {D : PD} (hR : mlk R) (hU : rU S un len) (hq : rSt S L un len (y0 p)) (hD : rD S L D) (hok : dOK D) : Ki l yX9_workLine cX9_workLine 2 .boolean rm_X9_workLine G ad mdm [.ref (ad 40 0)] S L R (fun r_ S2 L2 R2 => r_ = bI ((yWork un len D p).1.1 = 0) ∧ rSt S2 L2 un len (yWork un len D p).1 ∧ ((yWork un len D p).1.1 = 0 → rD S2 L2 (yWork un len D p).2) ∧ RS S S2 ∧ LW L L2 ∧ R = R2) := by
  refine Ki.of RX9 (by decide) rfl (Nat.le_of_ble_eq_true rfl) ?_
  intro X hXl hXG C ret
  subst hXl; subst hXG
  change Z X 2 ad mdm S L R 0 0 0 [(0, _)] []
  have hk4 := tK_le (un := un) (len := len) (p := tE un len p)
  have ld0 : rLd S L un len p := (hq.2.2.2 rfl).1
  have hpl : p ≤ len := (hq.2.2.2 rfl).2
  have hk10 := hD.1
  refine z_aload_n C 0 0 0 dX9_workLine_0 rfl rfl ?_
  refine z_cVv0 C 1 dX9_workLine_1 cv_X9_121 (c_X9_advance (un := un) (len := len) (p := tE un len p) hR hU ld0.2.1 (tE_le hpl)) rfl ⟨by decide, rfl⟩ (by first | assumption | exact Nat.zero_lt_one | exact (show (15 : Nat) < 16 by decide) | exact Nat.lt_succ_of_lt (by assumption) | omega) rfl rfl (Nat.le_of_ble_eq_true rfl) ⟨by decide, by decide⟩ ⟨rfl, rfl⟩ ⟨by decide, by decide⟩ ?_
  intro S1 L1 R1 p1
  obtain ⟨t1, F1, G1, rfl⟩ := p1
  have q1 : rSt S1 L1 un len (y0 (tE un len p)) := hq.a rfl t1 F1
  have ld : rLd S1 L1 un len (tE un len p) := t1
  have D1 := hD.re F1.re G1
  refine z_aload_n C 4 0 0 dX9_workLine_4 rfl rfl ?_
  refine z_getiv C 5 dX9_workLine_5 gf_X9_99 rfl (by first | assumption | exact Nat.zero_lt_one | exact (show (15 : Nat) < 16 by decide) | exact Nat.lt_succ_of_lt (by assumption) | omega) ld.2.2.1 ?_
  refine z_iconst (v := nI 1) C 8 dX9_workLine_8 (by decide) ?_
  first | with_reducible refine z_icmp_eqN C 9 18 dX9_workLine_9 (by decide) (by omega) (by omega) (fun h9 => ?_) (fun h9 => ?_) | refine z_icmp_eq C 9 18 dX9_workLine_9 (by decide) (fun h9 => ?_) (fun h9 => ?_)
  · have hk1 : tK un len (tE un len p) = 1 := by omega
    have hw := wd_ok hk1
    have hl13 : L1 40 0 13 = _ := ld.2.2.2.2 hk1
    refine z_aload_n C 18 0 0 dX9_workLine_18 rfl rfl ?_
    refine z_getr C 19 dX9_workLine_19 gf_X9_34 rfl (by first | assumption | exact Nat.zero_lt_one | exact (show (15 : Nat) < 16 by decide) | exact Nat.lt_succ_of_lt (by assumption) | omega) (by first | exact hR _ _ _ _ rfl | exact hR2 _ _ _ _ rfl | assumption) ?_
    refine z_aload_n C 22 0 0 dX9_workLine_22 rfl rfl ?_
    refine z_getiv C 23 dX9_workLine_23 gf_X9_135 rfl (by first | assumption | exact Nat.zero_lt_one | exact (show (15 : Nat) < 16 by decide) | exact Nat.lt_succ_of_lt (by assumption) | omega) D1.2.1 ?_
    refine z_aload_n C 26 0 0 dX9_workLine_26 rfl rfl ?_
    refine z_getl C 27 dX9_workLine_27 gf_X9_78 rfl (by first | assumption | exact Nat.zero_lt_one | exact (show (15 : Nat) < 16 by decide) | exact Nat.lt_succ_of_lt (by assumption) | omega) ?_
    refine z_cSi0 C 30 dX9_workLine_30 cs_X9_138 (c_X9_named (n := D.k) hR hk10) rfl rfl (Nat.le_of_ble_eq_true rfl) ⟨by decide, by decide⟩ ⟨rfl, rfl⟩ ⟨by decide, by decide⟩ ?_
    intro r30 S30 L30 R30 p30
    obtain ⟨rfl, rfl, rfl, rfl⟩ := p30
    rw [show nmU (L1 47 0) (L1 40 0 13) D.k 0 = nmW D.nm (wd un len (tE un len p)) D.k from (by rw [hl13]; exact D1.nmw hok hw)]
    refine z_istore_n C 33 1 [(1, _), (0, _)] dX9_workLine_33 rfl (by decide) rfl ?_
    refine z_iload_n C 34 1 0 dX9_workLine_34 rfl rfl ?_
    refine z_iconst (v := (-1)) C 35 dX9_workLine_35 (by decide) ?_
    first | with_reducible refine z_icmp_neN C 36 45 dX9_workLine_36 (by decide) (by omega) (by omega) (fun h36 => ?_) (fun h36 => ?_) | refine z_icmp_ne C 36 45 dX9_workLine_36 (by decide) (fun h36 => ?_) (fun h36 => ?_)
    · obtain ⟨j, hj⟩ := oI_s h36
      have hjk : j < D.k := by have := (nmU_lt hj).2.1; omega
      rw [show oI (nmW D.nm (wd un len (tE un len p)) D.k) = nI j from (by rw [hj]; rfl)]
      refine z_aload_n C 45 0 1 dX9_workLine_45 rfl rfl ?_
      refine z_iconst (v := nI 2) C 46 dX9_workLine_46 (by decide) ?_
      refine z_aload_n C 47 0 1 dX9_workLine_47 rfl rfl ?_
      refine z_getr C 48 dX9_workLine_48 gf_X9_31 rfl (by first | assumption | exact Nat.zero_lt_one | exact (show (15 : Nat) < 16 by decide) | exact Nat.lt_succ_of_lt (by assumption) | omega) (by first | exact hR _ _ _ _ rfl | exact hR2 _ _ _ _ rfl | assumption) ?_
      refine z_bipush (v := nI 8) C 51 dX9_workLine_51 (by decide +kernel) ?_
      refine z_iload_n C 53 1 0 dX9_workLine_53 rfl rfl ?_
      first | with_reducible refine z_imulN C 54 dX9_workLine_54 ?_ | refine z_imul C 54 dX9_workLine_54 ?_
      refine z_bipush (v := nI 7) C 55 dX9_workLine_55 (by decide +kernel) ?_
      first | with_reducible refine z_iaddN C 57 dX9_workLine_57 ?_ | refine z_iadd C 57 dX9_workLine_57 ?_
      refine z_iald C 58 dX9_workLine_58 (by first | rfl | assumption) (by first | assumption | exact Nat.zero_lt_one | exact (show (15 : Nat) < 16 by decide) | exact Nat.lt_succ_of_lt (by assumption) | omega) (by first | rfl | assumption) (by first | decide | omega) (by first | assumption | omega) ?_
      rw [D1.2.2.2.2.2.1 j 7 hjk (by omega)]
      first | with_reducible refine z_if_neB C 59 66 dX9_workLine_59 (by decide) (fun h59 => ?_) (fun h59 => ?_) | with_reducible refine z_if_neN C 59 66 dX9_workLine_59 (by decide) (by omega) (fun h59 => ?_) (fun h59 => ?_) | refine z_if_ne C 59 66 dX9_workLine_59 (by decide) (fun h59 => ?_) (fun h59 => ?_)
      · have h0 : ¬ D.T (8 * j + 7) = 0 := h59
        clear h59
        refine z_iconst (v := nI 0) C 66 dX9_workLine_66 (by decide) ?_
        refine z_cVi0 C 67 dX9_workLine_67 cv_X9_131 (c_X9_starts (un := un) (len := len) (c := 2) (q := y0 (tE un len p)) (P := D.T (8 * j + 7) = 0) hR (hU.rg F1) q1 rfl (by first | exact bI_1 (by first | assumption | omega) | exact bI_0 (by first | assumption | omega)) (by decide) (by decide)) rfl ⟨by decide, rfl⟩ (by first | assumption | exact Nat.zero_lt_one | exact (show (15 : Nat) < 16 by decide) | exact Nat.lt_succ_of_lt (by assumption) | omega) rfl rfl (Nat.le_of_ble_eq_true rfl) ⟨by decide, by decide⟩ ⟨rfl, rfl⟩ ⟨by decide, by decide⟩ ?_
        intro r67 S67 L67 R67 p67
        obtain ⟨rfl, a67, b67, F67, G67, rfl⟩ := p67
        first | with_reducible refine z_if_eqB C 70 98 dX9_workLine_70 (by decide) (fun h70 => ?_) (fun h70 => absurd h70 h0) | with_reducible refine z_if_eqN C 70 98 dX9_workLine_70 (by decide) (by omega) (fun h70 => ?_) (fun h70 => absurd h70 h0) | refine z_if_eq C 70 98 dX9_workLine_70 (by decide) (fun h70 => ?_) (fun h70 => absurd h70 h0)
        · refine z_iconst (v := nI 0) C 98 dX9_workLine_98 (by decide) ?_
          exact ret 99 _ _ _ _ _ dX9_workLine_99 (by first | rfl | exact bI_n | decide) ((by first
      | (rw [rw_1 hj hk1 h0]
         exact ⟨bI_0 (fun z => nomatch z), (b67 h0).pl (by decide) _, fun z => (nomatch z), (F1.re.tr F67).rs, (G1.tr G67).ls, rfl⟩)
      | (rw [rw_0 hj hk1 h0]
         exact ⟨bI_0 h91, t88, fun z => absurd z h91, ((F1.re.tr F67).tr (f88 h91)).rs, ((G1.tr G67).tr G88).ls, rfl⟩)
      | (rw [rw_0 hj hk1 h0]
         obtain ⟨M, FM, rfl⟩ := v88 h91
         exact ⟨bI_1 h91, t88, fun z => ((hD.re F1.re G1).re (F67.tr FM) (G67.tr G88)).T7 (by rw [show tW un len (tE un len (tE un len p)) = tV un len (y0 (tE un len (tE un len p))).2.2 from tW_2 (yN_ok h91).2.1]), (((F1.re.tr F67).tr FM).rs).u46, ((G1.tr G67).tr G88).ls, rfl⟩)))
      · have h0 : D.T (8 * j + 7) = 0 := h59
        clear h59
        refine z_iconst (v := nI 1) C 62 dX9_workLine_62 (by decide) ?_
        refine z_goto C 63 67 dX9_workLine_63 (by decide) ?_
        refine z_cVi0 C 67 dX9_workLine_67 cv_X9_131 (c_X9_starts (un := un) (len := len) (c := 2) (q := y0 (tE un len p)) (P := D.T (8 * j + 7) = 0) hR (hU.rg F1) q1 rfl (by first | exact bI_1 (by first | assumption | omega) | exact bI_0 (by first | assumption | omega)) (by decide) (by decide)) rfl ⟨by decide, rfl⟩ (by first | assumption | exact Nat.zero_lt_one | exact (show (15 : Nat) < 16 by decide) | exact Nat.lt_succ_of_lt (by assumption) | omega) rfl rfl (Nat.le_of_ble_eq_true rfl) ⟨by decide, by decide⟩ ⟨rfl, rfl⟩ ⟨by decide, by decide⟩ ?_
        intro r67 S67 L67 R67 p67
        obtain ⟨rfl, a67, b67, F67, G67, rfl⟩ := p67
        first | with_reducible refine z_if_eqB C 70 98 dX9_workLine_70 (by decide) (fun h70 => absurd h0 h70) (fun h70 => ?_) | with_reducible refine z_if_eqN C 70 98 dX9_workLine_70 (by decide) (by omega) (fun h70 => absurd h0 h70) (fun h70 => ?_) | refine z_if_eq C 70 98 dX9_workLine_70 (by decide) (fun h70 => absurd h0 h70) (fun h70 => ?_)
        · refine z_aload_n C 73 0 1 dX9_workLine_73 rfl rfl ?_
          refine z_aload_n C 74 0 1 dX9_workLine_74 rfl rfl ?_
          refine z_getr C 75 dX9_workLine_75 gf_X9_31 rfl (by first | assumption | exact Nat.zero_lt_one | exact (show (15 : Nat) < 16 by decide) | exact Nat.lt_succ_of_lt (by assumption) | omega) (by first | exact hR _ _ _ _ rfl | exact hR2 _ _ _ _ rfl | assumption) ?_
          refine z_bipush (v := nI 8) C 78 dX9_workLine_78 (by decide +kernel) ?_
          refine z_iload_n C 80 1 0 dX9_workLine_80 rfl rfl ?_
          first | with_reducible refine z_imulN C 81 dX9_workLine_81 ?_ | refine z_imul C 81 dX9_workLine_81 ?_
          refine z_bipush (v := nI 7) C 82 dX9_workLine_82 (by decide +kernel) ?_
          first | with_reducible refine z_iaddN C 84 dX9_workLine_84 ?_ | refine z_iadd C 84 dX9_workLine_84 ?_
          refine z_iconst (v := nI 1) C 85 dX9_workLine_85 (by decide) ?_
          refine z_bipush (v := nI 60) C 86 dX9_workLine_86 (by decide +kernel) ?_
          refine z_cVi0 C 88 dX9_workLine_88 cv_X9_142 (c_X9_lays (un := un) (len := len) (q := y0 (tE un len (tE un len p))) (a := 1) (b := 60) (t := 8 * j + 7) hR (hU.re (F1.re.tr F67)) (a67 h70) rfl (by decide) (by decide) (by omega)) rfl ⟨by decide, rfl⟩ (by first | assumption | exact Nat.zero_lt_one | exact (show (15 : Nat) < 16 by decide) | exact Nat.lt_succ_of_lt (by assumption) | omega) rfl rfl (Nat.le_of_ble_eq_true rfl) ⟨by decide, by decide⟩ ⟨rfl, rfl⟩ ⟨by decide, by decide⟩ ?_
          intro r88 S88 L88 R88 p88
          obtain ⟨rfl, t88, v88, f88, G88, rfl⟩ := p88
          first | with_reducible refine z_if_eqB C 91 98 dX9_workLine_91 (by decide) (fun h91 => ?_) (fun h91 => ?_) | with_reducible refine z_if_eqN C 91 98 dX9_workLine_91 (by decide) (by omega) (fun h91 => ?_) (fun h91 => ?_) | refine z_if_eq C 91 98 dX9_workLine_91 (by decide) (fun h91 => ?_) (fun h91 => ?_)
          · refine z_iconst (v := nI 0) C 98 dX9_workLine_98 (by decide) ?_
            exact ret 99 _ _ _ _ _ dX9_workLine_99 (by first | rfl | exact bI_n | decide) ((by first
      | (rw [rw_1 hj hk1 h0]
         exact ⟨bI_0 (fun z => nomatch z), (b67 h0).pl (by decide) _, fun z => (nomatch z), (F1.re.tr F67).rs, (G1.tr G67).ls, rfl⟩)
      | (rw [rw_0 hj hk1 h0]
         exact ⟨bI_0 h91, t88, fun z => absurd z h91, ((F1.re.tr F67).tr (f88 h91)).rs, ((G1.tr G67).tr G88).ls, rfl⟩)
      | (rw [rw_0 hj hk1 h0]
         obtain ⟨M, FM, rfl⟩ := v88 h91
         exact ⟨bI_1 h91, t88, fun z => ((hD.re F1.re G1).re (F67.tr FM) (G67.tr G88)).T7 (by rw [show tW un len (tE un len (tE un len p)) = tV un len (y0 (tE un len (tE un len p))).2.2 from tW_2 (yN_ok h91).2.1]), (((F1.re.tr F67).tr FM).rs).u46, ((G1.tr G67).tr G88).ls, rfl⟩)))
          · refine z_iconst (v := nI 1) C 94 dX9_workLine_94 (by decide) ?_
            refine z_goto C 95 99 dX9_workLine_95 (by decide) ?_
            exact ret 99 _ _ _ _ _ dX9_workLine_99 (by first | rfl | exact bI_n | decide) ((by first
      | (rw [rw_1 hj hk1 h0]
         exact ⟨bI_0 (fun z => nomatch z), (b67 h0).pl (by decide) _, fun z => (nomatch z), (F1.re.tr F67).rs, (G1.tr G67).ls, rfl⟩)
      | (rw [rw_0 hj hk1 h0]
         exact ⟨bI_0 h91, t88, fun z => absurd z h91, ((F1.re.tr F67).tr (f88 h91)).rs, ((G1.tr G67).tr G88).ls, rfl⟩)
      | (rw [rw_0 hj hk1 h0]
         obtain ⟨M, FM, rfl⟩ := v88 h91
         exact ⟨bI_1 h91, t88, fun z => ((hD.re F1.re G1).re (F67.tr FM) (G67.tr G88)).T7 (by rw [show tW un len (tE un len (tE un len p)) = tV un len (y0 (tE un len (tE un len p))).2.2 from tW_2 (yN_ok h91).2.1]), (((F1.re.tr F67).tr FM).rs).u46, ((G1.tr G67).tr G88).ls, rfl⟩)))
    · have hj := oI_nf hk10 h36
      refine z_aload_n C 39 0 1 dX9_workLine_39 rfl rfl ?_
      refine z_iconst (v := nI 4) C 40 dX9_workLine_40 (by decide) ?_
      refine z_cVi0 C 41 dX9_workLine_41 cv_X9_117 (c_X9_fails hR (show S1 40 0 14 = nI 0 from q1.1)) rfl ⟨by decide, rfl⟩ (by first | assumption | exact Nat.zero_lt_one | exact (show (15 : Nat) < 16 by decide) | exact Nat.lt_succ_of_lt (by assumption) | omega) rfl rfl (Nat.le_of_ble_eq_true rfl) ⟨by decide, by decide⟩ ⟨rfl, rfl⟩ ⟨by decide, by decide⟩ ?_
      intro r41 S41 L41 R41 p41
      obtain ⟨rfl, rfl, rfl, rfl⟩ := p41
      exact ret 44 _ _ _ _ _ dX9_workLine_44 (by first | rfl | exact bI_n | decide) ((by
      rw [rw_n hj hk1, ld.1]
      exact ⟨bI_0 (fun z => nomatch z), rFl_st (by decide) (by decide), fun z => (nomatch z), (F1.re.tr rFl_re).rs, G1.ls, rfl⟩))
  · have hk1 : ¬ tK un len (tE un len p) = 1 := by omega
    refine z_aload_n C 12 0 0 dX9_workLine_12 rfl rfl ?_
    refine z_iconst (v := nI 1) C 13 dX9_workLine_13 (by decide) ?_
    refine z_cVi0 C 14 dX9_workLine_14 cv_X9_117 (c_X9_fails hR (show S1 40 0 14 = nI 0 from q1.1)) rfl ⟨by decide, rfl⟩ (by first | assumption | exact Nat.zero_lt_one | exact (show (15 : Nat) < 16 by decide) | exact Nat.lt_succ_of_lt (by assumption) | omega) rfl rfl (Nat.le_of_ble_eq_true rfl) ⟨by decide, by decide⟩ ⟨rfl, rfl⟩ ⟨by decide, by decide⟩ ?_
    intro r14 S14 L14 R14 p14
    obtain ⟨rfl, rfl, rfl, rfl⟩ := p14
    exact ret 17 _ _ _ _ _ dX9_workLine_17 (by first | rfl | exact bI_n | decide) ((by
      have e1 : (yWork un len D p).1 = (1, nI (tS un len (tE un len p)), tE un len p) := (work_f (fun z => hk1 (yT_ok z).2.1)).trans (yT_e (q := y0 (tE un len p)) rfl hk1)
      rw [e1, ld.1]
      exact ⟨bI_0 (fun z => nomatch z), rFl_st (by decide) (by decide), fun z => (nomatch z), (F1.re.tr rFl_re).rs, G1.ls, rfl⟩))
theorem on_sh : ∀ m, m < 4 → ∀ b, b < 2 → (nI m >>> (nI b &&& 31)) &&& nI 1 = nI (m / 2 ^ b % 2) := by decide +kernel
theorem on_or : ∀ m, m < 4 → ∀ b, b < 2 → nI m ||| (nI 1 <<< (nI b &&& 31)) = nI (if m / 2 ^ b % 2 = 0 then m + 2 ^ b else m) := by decide +kernel
/-- what reading writes, and done -/
def RO (S S2 : mS) : Prop := (∀ k i, k ≠ 40 → S2 k i = S k i) ∧ ∀ j, ¬ (9 ≤ j ∧ j ≤ 12) → ¬ (14 ≤ j ∧ j ≤ 16) → j ≠ 20 → S2 40 0 j = S 40 0 j
theorem RO.rs {S S2 : mS} (h : RO S S2) : RS S S2 := ⟨fun k i a _ _ => h.1 k i a, fun j hj => h.2 j (by omega) (by omega) (by omega)⟩

def rm_X9_once : Room := { frames := 4, cells := 0, slots := 0, locals := 85 }
set_option maxHeartbeats 4000000 in
set_option maxRecDepth 100000 in
theorem c_X9_once {l : Launch} {G : mG} {ad : mA} {S : mS} {L : mL} {R : mR} {un : Nat → Nat} {len b d : Nat} {q : mQ} (hR : mlk R) (hU : rU S un len) (hq : rSt S L un len q) (h0 : q.1 = 0) (hd : S 40 0 20 = nI d) (hd4 : d < 4) (hb : b < 2) : Ki l yX9_once cX9_once 3 .boolean rm_X9_once G ad mdm [.ref (ad 40 0), .int (nI b)] S L R (fun r_ S2 L2 R2 => r_ = bI (d / 2 ^ b % 2 = 0) ∧ (d / 2 ^ b % 2 = 0 → rSt S2 L2 un len (yA un len q)) ∧ (¬ d / 2 ^ b % 2 = 0 → rSt S2 L2 un len (2, nI (tS un len q.2.2), q.2.2)) ∧ S2 40 0 20 = nI (if d / 2 ^ b % 2 = 0 then d + 2 ^ b else d) ∧ RO S S2 ∧ LG L L2 ∧ R = R2) := by
  refine Ki.of RX9 (by decide) rfl (Nat.le_of_ble_eq_true rfl) ?_
  intro X hXl hXG C ret
  subst hXl; subst hXG
  change Z X 3 ad mdm S L R 0 0 0 [(0, _), (1, _)] []
  have hm2 : d / 2 ^ b % 2 < 2 := Nat.mod_lt _ (by decide)
  have hor := on_or d hd4 b hb
  obtain ⟨M, hM⟩ : ∃ M, M = up3 S 40 0 20 (nI (if d / 2 ^ b % 2 = 0 then d + 2 ^ b else d)) := ⟨_, rfl⟩
  have mq : rSt M L un len q := by rw [hM]; exact hq.k (fun j hj => up3_j _ (by omega)) rfl
  have mU : rU M un len := by rw [hM]; exact ⟨(up3_j _ (by omega)).trans hU.1, hU.2.1, hU.2.2.1, fun j hj => by rw [up3_k _ (by omega)]; exact hU.2.2.2 j hj⟩
  have mF : RO S M := by rw [hM]; exact ⟨fun k i a => by rw [up3_k _ a], fun j _ _ a => up3_j _ a⟩
  have m20 : M 40 0 20 = nI (if d / 2 ^ b % 2 = 0 then d + 2 ^ b else d) := by rw [hM]; exact up3_s _ _ _ _ _
  refine z_aload_n C 0 0 0 dX9_once_0 rfl rfl ?_
  refine z_getiv C 1 dX9_once_1 gf_X9_146 rfl (by first | assumption | exact Nat.zero_lt_one | exact (show (15 : Nat) < 16 by decide) | exact Nat.lt_succ_of_lt (by assumption) | omega) hd ?_
  refine z_iload_n C 4 1 1 dX9_once_4 rfl rfl ?_
  refine z_ishr C 5 dX9_once_5 ?_
  refine z_iconst (v := nI 1) C 6 dX9_once_6 (by decide) ?_
  refine z_iand C 7 dX9_once_7 ?_
  rw [on_sh d hd4 b hb]
  first | with_reducible refine z_if_neB C 8 15 dX9_once_8 (by decide) (fun h8 => ?_) (fun h8 => ?_) | with_reducible refine z_if_neN C 8 15 dX9_once_8 (by decide) (by omega) (fun h8 => ?_) (fun h8 => ?_) | refine z_if_ne C 8 15 dX9_once_8 (by decide) (fun h8 => ?_) (fun h8 => ?_)
  · refine z_iconst (v := nI 0) C 15 dX9_once_15 (by decide) ?_
    refine z_istore_n C 16 2 [(2, _), (0, _), (1, _)] dX9_once_16 rfl (by decide) rfl ?_
    refine z_aload_n C 17 0 1 dX9_once_17 rfl rfl ?_
    refine z_dup C 18 dX9_once_18 rfl ?_
    refine z_getiv C 19 dX9_once_19 gf_X9_146 rfl (by first | assumption | exact Nat.zero_lt_one | exact (show (15 : Nat) < 16 by decide) | exact Nat.lt_succ_of_lt (by assumption) | omega) hd ?_
    refine z_iconst (v := nI 1) C 22 dX9_once_22 (by decide) ?_
    refine z_iload_n C 23 1 2 dX9_once_23 rfl rfl ?_
    refine z_ishl C 24 dX9_once_24 ?_
    refine z_ior C 25 dX9_once_25 ?_
    rw [hor]
    refine z_puti C 26 dX9_once_26 gf_X9_146 ⟨rfl, rfl⟩ rfl (by first | assumption | exact Nat.zero_lt_one | exact (show (15 : Nat) < 16 by decide) | exact Nat.lt_succ_of_lt (by assumption) | omega) ?_
    rw [← hM]
    refine z_aload_n C 29 0 1 dX9_once_29 rfl rfl ?_
    refine z_iconst (v := nI 2) C 30 dX9_once_30 (by decide) ?_
    refine z_iload_n C 31 2 0 dX9_once_31 rfl rfl ?_
    refine z_cVi0 C 32 dX9_once_32 cv_X9_131 (c_X9_starts (un := un) (len := len) (c := 2) (q := q) (P := d / 2 ^ b % 2 = 0) hR mU mq h0 (by first | exact bI_1 (by omega) | exact bI_0 (by omega)) (by decide) (by decide)) rfl ⟨by decide, rfl⟩ (by first | assumption | exact Nat.zero_lt_one | exact (show (15 : Nat) < 16 by decide) | exact Nat.lt_succ_of_lt (by assumption) | omega) rfl rfl (Nat.le_of_ble_eq_true rfl) ⟨by decide, by decide⟩ ⟨rfl, rfl⟩ ⟨by decide, by decide⟩ ?_
    intro r32 S32 L32 R32 p32
    obtain ⟨rfl, a32, b32, F32, G32, rfl⟩ := p32
    exact ret 35 _ _ _ _ _ dX9_once_35 (by first | rfl | exact bI_n | decide) (⟨rfl, a32, b32, (F32.2 20 (by omega) (by omega)).trans m20, ⟨fun k i a => (F32.1 k i a).trans (mF.1 k i a), fun j a c e => (F32.2 j a c).trans (mF.2 j a c e)⟩, G32, rfl⟩)
  · refine z_iconst (v := nI 1) C 11 dX9_once_11 (by decide) ?_
    refine z_goto C 12 16 dX9_once_12 (by decide) ?_
    refine z_istore_n C 16 2 [(2, _), (0, _), (1, _)] dX9_once_16 rfl (by decide) rfl ?_
    refine z_aload_n C 17 0 1 dX9_once_17 rfl rfl ?_
    refine z_dup C 18 dX9_once_18 rfl ?_
    refine z_getiv C 19 dX9_once_19 gf_X9_146 rfl (by first | assumption | exact Nat.zero_lt_one | exact (show (15 : Nat) < 16 by decide) | exact Nat.lt_succ_of_lt (by assumption) | omega) hd ?_
    refine z_iconst (v := nI 1) C 22 dX9_once_22 (by decide) ?_
    refine z_iload_n C 23 1 2 dX9_once_23 rfl rfl ?_
    refine z_ishl C 24 dX9_once_24 ?_
    refine z_ior C 25 dX9_once_25 ?_
    rw [hor]
    refine z_puti C 26 dX9_once_26 gf_X9_146 ⟨rfl, rfl⟩ rfl (by first | assumption | exact Nat.zero_lt_one | exact (show (15 : Nat) < 16 by decide) | exact Nat.lt_succ_of_lt (by assumption) | omega) ?_
    rw [← hM]
    refine z_aload_n C 29 0 1 dX9_once_29 rfl rfl ?_
    refine z_iconst (v := nI 2) C 30 dX9_once_30 (by decide) ?_
    refine z_iload_n C 31 2 0 dX9_once_31 rfl rfl ?_
    refine z_cVi0 C 32 dX9_once_32 cv_X9_131 (c_X9_starts (un := un) (len := len) (c := 2) (q := q) (P := d / 2 ^ b % 2 = 0) hR mU mq h0 (by first | exact bI_1 (by omega) | exact bI_0 (by omega)) (by decide) (by decide)) rfl ⟨by decide, rfl⟩ (by first | assumption | exact Nat.zero_lt_one | exact (show (15 : Nat) < 16 by decide) | exact Nat.lt_succ_of_lt (by assumption) | omega) rfl rfl (Nat.le_of_ble_eq_true rfl) ⟨by decide, by decide⟩ ⟨rfl, rfl⟩ ⟨by decide, by decide⟩ ?_
    intro r32 S32 L32 R32 p32
    obtain ⟨rfl, a32, b32, F32, G32, rfl⟩ := p32
    exact ret 35 _ _ _ _ _ dX9_once_35 (by first | rfl | exact bI_n | decide) (⟨rfl, a32, b32, (F32.2 20 (by omega) (by omega)).trans m20, ⟨fun k i a => (F32.1 k i a).trans (mF.1 k i a), fun j a c e => (F32.2 j a c).trans (mF.2 j a c e)⟩, G32, rfl⟩)
/-- costs, j of them laid -/
def PK (S : mS) (L : mL) (un : Nat → Nat) (len : Nat) (q : mQ) (j : Nat) (M : mS) (L1 : mL) : Prop :=
  rSt M L1 un len (yCc un len q j) ∧ ((yCc un len q j).1 = 0 → ∀ w, w < j → M 48 0 w = nI (tW un len (yCc un len q w).2.2)) ∧ (∀ kk i, kk ≠ 40 → kk ≠ 48 → M kk i = S kk i) ∧ (∀ j, j < 9 ∨ 17 ≤ j → M 40 0 j = S 40 0 j) ∧ LG L L1
theorem PK.z {S : mS} {L : mL} {un : Nat → Nat} {len : Nat} {q : mQ} (h : rSt S L un len q) : PK S L un len q 0 S L :=
  ⟨h, fun _ w hw => absurd hw (Nat.not_lt_zero _), fun _ _ _ _ => rfl, fun _ _ => rfl, LG.rf _⟩
theorem PK.nx {S : mS} {L : mL} {un : Nat → Nat} {len : Nat} {q : mQ} {j : Nat} {M S2 : mS} {L1 L2 : mL} (h : PK S L un len q j M L1) (hS : rSt S2 L2 un len (yCc un len q (j + 1))) (hv : (yCc un len q (j + 1)).1 = 0 → ∃ M1, RE M M1 ∧ up3 M1 48 0 j (nI (tV un len (yCc un len q j).2.2)) = S2) (hf : ¬ (yCc un len q (j + 1)).1 = 0 → RE M S2) (hG : LG L1 L2) : PK S L un len q (j + 1) S2 L2 := by
  obtain ⟨a, b, c, d, e⟩ := h
  by_cases z : (yCc un len q (j + 1)).1 = 0
  · obtain ⟨M1, hF, rfl⟩ := hv z
    refine ⟨hS, fun _ w hw => ?_, fun kk i h0 h8 => ?_, fun j' hj' => ?_, e.tr hG⟩
    · rw [up3_at]
      by_cases e' : w = j
      · rw [if_pos ⟨rfl, rfl, e'⟩, e', tW_2 (yN_ok z).2.1]
      · rw [if_neg (by omega), hF.1 48 0 (by omega)]
        exact b (yN_ok z).1 w (by omega)
    · rw [up3_k _ h8, hF.1 kk i h0]
      exact c kk i h0 h8
    · rw [up3_k _ (by omega), hF.2 j' (by omega) (by omega)]
      exact d j' hj'
  · have hF := hf z
    exact ⟨hS, fun y => absurd y z, fun kk i h0 h8 => (hF.1 kk i h0).trans (c kk i h0 h8), fun j' hj' => (hF.2 j' (by omega) (by omega)).trans (d j' hj'), e.tr hG⟩
theorem PK.U {S : mS} {L : mL} {un : Nat → Nat} {len : Nat} {q : mQ} {j : Nat} {M : mS} {L1 : mL} (h : PK S L un len q j M L1) (hU : rU S un len) : rU M un len :=
  ⟨(h.2.2.2.1 8 (by omega)).trans hU.1, hU.2.1, hU.2.2.1, fun x hx => by rw [h.2.2.1 45 0 (by omega) (by omega)]; exact hU.2.2.2 x hx⟩
theorem yOn_1 {un : Nat → Nat} {len p d : Nat} : (yOn un len p d).1 = 0 ↔ d = 0 := by
  unfold yOn
  split
  · rename_i h
    exact ⟨fun _ => h, fun _ => rfl⟩
  · rename_i h
    exact ⟨fun z => absurd (show (2 : Nat) = 0 from z) (by decide), fun z => absurd z h⟩
theorem on_st {S : mS} {L : mL} {un : Nat → Nat} {len p d : Nat} {P : Prop} (hP : P ↔ d = 0) (a : P → rSt S L un len (yA un len (y0 p))) (b : ¬ P → rSt S L un len (2, nI (tS un len (y0 p).2.2), (y0 p).2.2)) : rSt S L un len (yOn un len p d) := by
  unfold yOn
  split
  · rename_i h
    exact a (hP.mpr h)
  · rename_i h
    exact (b (fun z => h (hP.mp z))).pl (by decide) _
theorem rcost_end {S S1 M : mS} {L L1 L2 : mL} {un : Nat → Nat} {len p : Nat} {D : PD} (hD : rD S L D) (hF : RO S S1) (hG : LG L L1) (h20 : S1 40 0 20 = nI (if (D.dc + 2 * D.dp) / 2 ^ 0 % 2 = 0 then D.dc + 2 * D.dp + 2 ^ 0 else D.dc + 2 * D.dp)) (h : PK S1 L1 un len (yOn un len p D.dc) 4 M L2) :
    rSt M L2 un len (yCost un len D p).1 ∧ ((yCost un len D p).1.1 = 0 → rD M L2 (yCost un len D p).2) ∧ RS S M ∧ LW L L2 := by
  obtain ⟨a, b, c, d, e⟩ := h
  refine ⟨a, fun z => ?_, hF.rs.tr ⟨fun k i h0 _ h8 => c k i h0 h8, fun j hj => d j (by omega)⟩, (hG.tr e).ls⟩
  have hdc : D.dc = 0 := yOn_1.mp (yCc_le (j := 4) (w := 0) z (by omega))
  obtain ⟨d1, d2, d3, d4, d5, d6, d7, d8, d9⟩ := hD
  rw [hdc, if_pos (by omega)] at h20
  exact ⟨d1, by rw [d 18 (by omega), hF.2 18 (by omega) (by omega) (by omega)]; exact d2, fun j hj => b z j hj, by rw [d 19 (by omega), hF.2 19 (by omega) (by omega) (by omega)]; exact d4, fun j hj => by rw [e 47 0 (by omega), hG 47 0 (by omega)]; exact d5 j hj, fun j w hj hw => by rw [c 46 0 (by omega) (by omega), hF.1 46 0 (by omega)]; exact d6 j w hj hw, by rw [d 20 (by omega), h20]; show nI (0 + 2 * D.dp + 1) = nI (1 + 2 * D.dp); rw [show 0 + 2 * D.dp + 1 = 1 + 2 * D.dp by omega], Nat.le_refl 1, d9⟩

def rm_X9_costsLine : Room := { frames := 5, cells := 0, slots := 0, locals := 109 }
set_option maxHeartbeats 4000000 in
set_option maxRecDepth 100000 in
theorem c_X9_costsLine {l : Launch} {G : mG} {ad : mA} {S : mS} {L : mL} {R : mR} {un : Nat → Nat} {len p : Nat} {D : PD} (hR : mlk R) (hU : rU S un len) (hq : rSt S L un len (y0 p)) (hD : rD S L D) (hok : dOK D) : Ki l yX9_costsLine cX9_costsLine 3 .boolean rm_X9_costsLine G ad mdm [.ref (ad 40 0)] S L R (fun r_ S2 L2 R2 => r_ = bI ((yCost un len D p).1.1 = 0) ∧ rSt S2 L2 un len (yCost un len D p).1 ∧ ((yCost un len D p).1.1 = 0 → rD S2 L2 (yCost un len D p).2) ∧ RS S S2 ∧ LW L L2 ∧ R = R2) := by
  refine Ki.of RX9 (by decide) rfl (Nat.le_of_ble_eq_true rfl) ?_
  intro X hXl hXG C ret
  subst hXl; subst hXG
  change Z X 3 ad mdm S L R 0 0 0 [(0, _)] []
  have hk4 := tK_le (un := un) (len := len) (p := tE un len p)
  have ld0 : rLd S L un len p := (hq.2.2.2 rfl).1
  have hpl : p ≤ len := (hq.2.2.2 rfl).2
  have hk10 := hD.1
  have hdc := hD.2.2.2.2.2.2.2
  refine z_aload_n C 0 0 0 dX9_costsLine_0 rfl rfl ?_
  refine z_iconst (v := nI 0) C 1 dX9_costsLine_1 (by decide) ?_
  refine z_cVi0 C 2 dX9_costsLine_2 cv_X9_149 (c_X9_once (un := un) (len := len) (b := 0) (d := D.dc + 2 * D.dp) (q := y0 p) hR hU hq rfl hD.2.2.2.2.2.2.1 (by omega) (by decide)) rfl ⟨by decide, rfl⟩ (by first | assumption | exact Nat.zero_lt_one | exact (show (15 : Nat) < 16 by decide) | exact Nat.lt_succ_of_lt (by assumption) | omega) rfl rfl (Nat.le_of_ble_eq_true rfl) ⟨by decide, by decide⟩ ⟨rfl, rfl⟩ ⟨by decide, by decide⟩ ?_
  intro r2 S2 L2 R2 p2
  obtain ⟨rfl, a2, b2, c2, F2, G2, rfl⟩ := p2
  have hP : ((D.dc + 2 * D.dp) / 2 ^ 0 % 2 = 0) ↔ D.dc = 0 := by omega
  have g0 := PK.z (on_st hP a2 b2)
  have hU2 := hU.rs F2.rs
  refine z_istore_n C 5 1 [(1, _), (0, _)] dX9_costsLine_5 rfl (by decide) rfl ?_
  refine z_iconst (v := nI 0) C 6 dX9_costsLine_6 (by decide) ?_
  refine z_istore_n C 7 2 [(2, _), (1, _), (0, _)] dX9_costsLine_7 rfl (by decide) rfl ?_
  have loop_8 : ∀ (n_8 : Nat) (j : Nat) (b : Int32) (M : mS) (L1 : mL), j ≤ 4 → b = bI ((yCc un len (yOn un len p D.dc) j).1 = 0) → PK S2 L2 un len (yOn un len p D.dc) j M L1 → 4 - j < n_8 → Z X 3 ad mdm M L1 R 0 0 8 [(2, .int (nI j)), (1, .int b), (0, .ref (ad 40 0))] [] := by
    intro n_8
    induction n_8 with
    | zero => intro j b M L1 hj hb gj hm8; exact absurd hm8 (Nat.not_lt_zero _)
    | succ n_8 ih8 =>
      intro j b M L1 hj hb gj hm8
      subst hb
      refine z_iload_n C 8 2 0 dX9_costsLine_8 rfl rfl ?_
      refine z_iconst (v := nI 4) C 9 dX9_costsLine_9 (by decide) ?_
      first | with_reducible refine z_icmp_geN C 10 36 dX9_costsLine_10 (by decide) (by omega) (by omega) (fun h10 => ?_) (fun h10 => ?_) | refine z_icmp_ge C 10 36 dX9_costsLine_10 (by decide) (fun h10 => ?_) (fun h10 => ?_)
      · refine z_iload_n C 36 1 1 dX9_costsLine_36 rfl rfl ?_
        exact ret 37 _ _ _ _ _ dX9_costsLine_37 (by first | rfl | exact bI_n | decide) ((by first
      | (have e4 : j = 4 := by omega
         subst e4
         exact (let t := rcost_end hD F2 G2 c2 gj; ⟨rfl, t.1, t.2.1, t.2.2.1, t.2.2.2, rfl⟩))
      | (have e4 : (yCost un len D p).1 = yCc un len (yOn un len p D.dc) j := by
           have t := yCc_ff h14 (4 - j)
           rw [show j + (4 - j) = 4 by omega] at t
           exact t
         rw [e4]
         exact ⟨rfl, gj.1, fun z => absurd z h14, F2.rs.tr ⟨fun k i h0 _ h8 => gj.2.2.1 k i h0 h8, fun j hj => gj.2.2.2.1 j (by omega)⟩, (G2.tr gj.2.2.2.2).ls, rfl⟩)))
      · refine z_iload_n C 13 1 1 dX9_costsLine_13 rfl rfl ?_
        first | with_reducible refine z_if_eqB C 14 36 dX9_costsLine_14 (by decide) (fun h14 => ?_) (fun h14 => ?_) | with_reducible refine z_if_eqN C 14 36 dX9_costsLine_14 (by decide) (by omega) (fun h14 => ?_) (fun h14 => ?_) | refine z_if_eq C 14 36 dX9_costsLine_14 (by decide) (fun h14 => ?_) (fun h14 => ?_)
        · refine z_iload_n C 36 1 1 dX9_costsLine_36 rfl rfl ?_
          exact ret 37 _ _ _ _ _ dX9_costsLine_37 (by first | rfl | exact bI_n | decide) ((by first
      | (have e4 : j = 4 := by omega
         subst e4
         exact (let t := rcost_end hD F2 G2 c2 gj; ⟨rfl, t.1, t.2.1, t.2.2.1, t.2.2.2, rfl⟩))
      | (have e4 : (yCost un len D p).1 = yCc un len (yOn un len p D.dc) j := by
           have t := yCc_ff h14 (4 - j)
           rw [show j + (4 - j) = 4 by omega] at t
           exact t
         rw [e4]
         exact ⟨rfl, gj.1, fun z => absurd z h14, F2.rs.tr ⟨fun k i h0 _ h8 => gj.2.2.1 k i h0 h8, fun j hj => gj.2.2.2.1 j (by omega)⟩, (G2.tr gj.2.2.2.2).ls, rfl⟩)))
        · refine z_aload_n C 17 0 2 dX9_costsLine_17 rfl rfl ?_
          refine z_aload_n C 18 0 2 dX9_costsLine_18 rfl rfl ?_
          refine z_getr C 19 dX9_costsLine_19 gf_X9_37 rfl (by first | assumption | exact Nat.zero_lt_one | exact (show (15 : Nat) < 16 by decide) | exact Nat.lt_succ_of_lt (by assumption) | omega) (by first | exact hR _ _ _ _ rfl | exact hR2 _ _ _ _ rfl | assumption) ?_
          refine z_iload_n C 22 2 0 dX9_costsLine_22 rfl rfl ?_
          refine z_iconst (v := nI 0) C 23 dX9_costsLine_23 (by decide) ?_
          refine z_bipush (v := nI 99) C 24 dX9_costsLine_24 (by decide +kernel) ?_
          refine z_cVi0 C 26 dX9_costsLine_26 cv_X9_142 (c_X9_lays_48 (un := un) (len := len) (q := yCc un len (yOn un len p D.dc) j) (a := 0) (b := 99) (t := j) hR (gj.U hU2) gj.1 h14 (by decide) (by decide) (by omega)) rfl ⟨by decide, rfl⟩ (by first | assumption | exact Nat.zero_lt_one | exact (show (15 : Nat) < 16 by decide) | exact Nat.lt_succ_of_lt (by assumption) | omega) rfl rfl (Nat.le_of_ble_eq_true rfl) ⟨by decide, by decide⟩ ⟨rfl, rfl⟩ ⟨by decide, by decide⟩ ?_
          intro r26 S26 L26 R26 p26
          obtain ⟨rfl, t26, v26, f26, G26, rfl⟩ := p26
          refine z_istore_n C 29 1 [(1, _), (2, _), (0, _)] dX9_costsLine_29 rfl (by decide) rfl ?_
          refine z_iinc C 30 2 1 [(2, _), (1, _), (0, _)] dX9_costsLine_30 rfl (by first | exact nI_1 _ | rfl) (by decide) rfl ?_
          refine z_goto C 33 8 dX9_costsLine_33 (by decide) ?_
          refine z_sub [(2, _), (1, _), (0, _)] [0, 1, 2] rfl ?_
          exact ih8 (j + 1) _ _ _ (by omega) rfl (gj.nx t26 v26 f26 G26) (by omega)
  refine z_sub [(2, _), (1, _), (0, _)] [0, 1, 2] rfl ?_
  exact loop_8 5 0 _ _ _ (by omega) ((bI_c hP).trans (bI_c (yOn_1 (un := un) (len := len) (p := p)).symm)) g0 (by omega)
