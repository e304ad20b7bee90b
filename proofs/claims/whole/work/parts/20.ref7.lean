def fDue (N T : NN) (p : Nat) : Prop := fo N p 0 = nI 2 ∧ 0 < T (8 * p + 7) ∧ (N 1 - fo N p 7) - (N 1 - fo N p 7) / T (8 * p + 7) * T (8 * p + 7) = 0
noncomputable def fPassF (T : NN) (n : Nat) (q0 : Nat × NN) : Nat → Nat × NN
  | 0 => q0
  | p + 1 =>
    haveI := Classical.propDecidable
    if fDue (fPassF T n q0 p).2 T p then ((fPassF T n q0 p).1 + (fGets (fPassF T n q0 p).2 T n p (nI 1)).1, (fGets (fPassF T n q0 p).2 T n p (nI 1)).2) else fPassF T n q0 p
theorem fPassF_y {T : NN} {n p : Nat} {q0 : Nat × NN} (h : fDue (fPassF T n q0 p).2 T p) : fPassF T n q0 (p + 1) = ((fPassF T n q0 p).1 + (fGets (fPassF T n q0 p).2 T n p (nI 1)).1, (fGets (fPassF T n q0 p).2 T n p (nI 1)).2) := by rw [fPassF]; exact if_pos h
theorem fPassF_n {T : NN} {n p : Nat} {q0 : Nat × NN} (h : ¬ fDue (fPassF T n q0 p).2 T p) : fPassF T n q0 (p + 1) = fPassF T n q0 p := by rw [fPassF]; exact if_neg h
def fTick (N : NN) : NN := upd N 1 (N 1 + nI 1)
noncomputable def fPass0 (N T : NN) (n : Nat) : Nat × NN := if fTick N 2 = -1 then (0, fTick N) else fGets (fTick N) T n (fTick N 2).toNatClampNeg (T (8 * (fTick N 2).toNatClampNeg + 2))
theorem fPass0_n {N T : NN} {n : Nat} (h : fTick N 2 = -1) : fPass0 N T n = (0, fTick N) := if_pos h
theorem fPass0_s {N T : NN} {n q : Nat} (hq : q < 2 ^ 31) (h : fTick N 2 = nI q) : fPass0 N T n = fGets (fTick N) T n q (T (8 * q + 2)) := by unfold fPass0; rw [h, if_neg (nI_m1 hq), nI_clamp hq]
noncomputable def fPass (N T : NN) (n : Nat) : Nat × NN := fPassF T n (fPass0 N T n) n
theorem rI.tick {N : NN} {n : Nat} (h : rI N n) : rI (fTick N) n := h.updx (Or.inr (Or.inl rfl))
theorem rI.pass0 {N T : NN} {n : Nat} (h : rI N n) (hn : n ≤ 10) : rI (fPass0 N T n).2 n := by
  unfold fPass0
  split
  · exact h.tick
  · exact h.tick.gets hn
theorem rI.passF {T : NN} {n : Nat} {q0 : Nat × NN} (h : rI q0.2 n) (hn : n ≤ 10) : ∀ p, rI (fPassF T n q0 p).2 n
  | 0 => h
  | p + 1 => by
    by_cases hd : fDue (fPassF T n q0 p).2 T p
    · rw [fPassF_y hd]; exact (rI.passF h hn p).gets hn
    · rw [fPassF_n hd]; exact rI.passF h hn p
theorem rI.pass {N T : NN} {n : Nat} (h : rI N n) (hn : n ≤ 10) : rI (fPass N T n).2 n := rI.passF (h.pass0 hn) hn n

def rm_X9_gets : Room := { frames := 7, cells := 0, slots := 0, locals := 158 }
set_option maxHeartbeats 4000000 in
set_option maxRecDepth 100000 in
theorem c_X9_gets {l : Launch} {G : mG} {ad : mA} {S : mS} {L : mL} {R : mR} {n p : Nat} {more : Int32} (hR : mlk R) (hn : S 40 0 1 = nI n) (hn10 : n ≤ 10) (hI : rI (S 44 0) n) (hp : p < n) : Ki l yX9_gets cX9_gets 6 .int rm_X9_gets G ad mdm [.ref (ad 40 0), .int (nI p), .int more] S L R (fun r_ S2 L2 R2 => r_ = nI (fGets (S 44 0) (S 41 0) n p more).1 ∧ (∃ K, sA (sA S 49 K) 44 (fGets (S 44 0) (S 41 0) n p more).2 = S2) ∧ L = L2 ∧ R = R2) := by
  refine Ki.of RX9 (by decide) rfl (Nat.le_of_ble_eq_true rfl) ?_
  intro X hXl hXG C ret
  subst hXl; subst hXG
  change Z X 6 ad mdm S L R 0 0 0 [(0, _), (1, _), (2, _)] []
  have hI2 : ∀ z, rI (fset (S 44 0) p 1 z) n := fun z => rI.set hI (by omega) (fun z => by omega) (fun z => by omega) (fun z => by omega) (fun z => by omega) (fun z => by omega)
  refine z_aload_n C 0 0 0 dX9_gets_0 rfl rfl ?_
  refine z_iload_n C 1 1 1 dX9_gets_1 rfl rfl ?_
  refine z_iconst (v := nI 3) C 2 dX9_gets_2 (by decide) ?_
  refine z_cVi0 C 3 dX9_gets_3 cv_X9_207 (c_X9_toldOf hR (by first | assumption | omega) (by omega)) rfl ⟨by decide, rfl⟩ (by first | assumption | exact Nat.zero_lt_one | omega) rfl rfl (Nat.le_of_ble_eq_true rfl) ⟨by decide, by decide⟩ ⟨rfl, rfl⟩ ⟨by decide, by decide⟩ ?_
  intro r3 S3 L3 R3 p3
  obtain ⟨rfl, rfl, rfl, rfl⟩ := p3
  refine z_aload_n C 6 0 0 dX9_gets_6 rfl rfl ?_
  refine z_iload_n C 7 1 1 dX9_gets_7 rfl rfl ?_
  refine z_iconst (v := nI 1) C 8 dX9_gets_8 (by decide) ?_
  refine z_cVi0 C 9 dX9_gets_9 cv_X9_203 (c_X9_of hR (by first | assumption | omega) (by omega)) rfl ⟨by decide, rfl⟩ (by first | assumption | exact Nat.zero_lt_one | omega) rfl rfl (Nat.le_of_ble_eq_true rfl) ⟨by decide, by decide⟩ ⟨rfl, rfl⟩ ⟨by decide, by decide⟩ ?_
  intro r9 S9 L9 R9 p9
  obtain ⟨rfl, rfl, rfl, rfl⟩ := p9
  first | with_reducible refine z_isubN C 12 dX9_gets_12 (by omega) ?_ | refine z_isub C 12 dX9_gets_12 ?_
  refine z_istore_n C 13 3 [(3, _), (0, _), (1, _), (2, _)] dX9_gets_13 rfl (by decide) rfl ?_
  refine z_iload_n C 14 2 3 dX9_gets_14 rfl rfl ?_
  refine z_iload_n C 15 3 0 dX9_gets_15 rfl rfl ?_
  first | with_reducible refine z_icmp_geN C 16 23 dX9_gets_16 (by decide) (by omega) (by omega) (fun h16 => ?_) (fun h16 => ?_) | refine z_icmp_ge C 16 23 dX9_gets_16 (by decide) (fun h16 => ?_) (fun h16 => ?_)
  · obtain ⟨pgv, hpv⟩ : ∃ z : Int32, z = S 41 0 (8 * p + 3) - fo (S 44 0) p 1 := ⟨_, rfl⟩
    have hpg : pgv = (if more < S 41 0 (8 * p + 3) - fo (S 44 0) p 1 then more else S 41 0 (8 * p + 3) - fo (S 44 0) p 1) := by rw [hpv]; exact (if_neg (Int32.not_lt.mpr h16)).symm
    rw [← hpv]
    refine z_iload_n C 23 3 0 dX9_gets_23 rfl rfl ?_
    refine z_istore C 24 4 [(4, _), (3, _), (0, _), (1, _), (2, _)] dX9_gets_24 (by decide) rfl ?_
    refine z_iload C 26 4 0 dX9_gets_26 rfl ?_
    first | with_reducible refine z_if_gtN C 28 33 dX9_gets_28 (by decide) (by omega) (fun h28 => ?_) (fun h28 => ?_) | refine z_if_gt C 28 33 dX9_gets_28 (by decide) (fun h28 => ?_) (fun h28 => ?_)
    · refine z_aload_n C 33 0 2 dX9_gets_33 rfl rfl ?_
      refine z_getr C 34 dX9_gets_34 gf_X9_20 rfl (by first | assumption | exact Nat.zero_lt_one | omega) (by first | exact hR _ _ _ _ rfl | assumption) ?_
      refine z_aload_n C 37 0 2 dX9_gets_37 rfl rfl ?_
      refine z_getr C 38 dX9_gets_38 gf_X9_40 rfl (by first | assumption | exact Nat.zero_lt_one | omega) (by first | exact hR _ _ _ _ rfl | assumption) ?_
      refine z_cSv0 C 41 dX9_gets_41 cs_X9_269 (c_X9_puts (by rfl) (by rfl) (by first | assumption | exact Nat.zero_lt_one | omega) (by first | assumption | exact Nat.zero_lt_one | omega) (by decide)) rfl rfl (Nat.le_of_ble_eq_true rfl) ⟨by decide, by decide⟩ ⟨rfl, rfl⟩ ⟨by decide, by decide⟩ ?_
      intro S41 L41 R41 p41
      obtain ⟨rfl, rfl, rfl⟩ := p41
      refine z_aload_n C 44 0 2 dX9_gets_44 rfl rfl ?_
      refine z_iload_n C 45 1 3 dX9_gets_45 rfl rfl ?_
      refine z_iconst (v := nI 1) C 46 dX9_gets_46 (by decide) ?_
      refine z_aload_n C 47 0 2 dX9_gets_47 rfl rfl ?_
      refine z_iload_n C 48 1 3 dX9_gets_48 rfl rfl ?_
      refine z_iconst (v := nI 1) C 49 dX9_gets_49 (by decide) ?_
      refine z_cVi0 C 50 dX9_gets_50 cv_X9_203 (c_X9_of hR (by first | assumption | omega) (by omega)) rfl ⟨by decide, rfl⟩ (by first | assumption | exact Nat.zero_lt_one | omega) rfl rfl (Nat.le_of_ble_eq_true rfl) ⟨by decide, by decide⟩ ⟨rfl, rfl⟩ ⟨by decide, by decide⟩ ?_
      intro r50 S50 L50 R50 p50
      obtain ⟨rfl, rfl, rfl, rfl⟩ := p50
      refine z_iload C 53 4 0 dX9_gets_53 rfl ?_
      first | with_reducible refine z_iaddN C 55 dX9_gets_55 ?_ | refine z_iadd C 55 dX9_gets_55 ?_
      refine z_cVv0 C 56 dX9_gets_56 cv_X9_240 (c_X9_sets hR (by first | assumption | omega) (by omega)) rfl ⟨by decide, rfl⟩ (by first | assumption | exact Nat.zero_lt_one | omega) rfl rfl (Nat.le_of_ble_eq_true rfl) ⟨by decide, by decide⟩ ⟨rfl, rfl⟩ ⟨by decide, by decide⟩ ?_
      intro S56 L56 R56 p56
      obtain ⟨rfl, rfl, rfl⟩ := p56
      refine z_aload_n C 59 0 2 dX9_gets_59 rfl rfl ?_
      refine z_cVi0 C 60 dX9_gets_60 cv_X9_276 (c_X9_memory (n := n) hR hn hn10 (hI2 _)) rfl ⟨by decide, rfl⟩ (by first | assumption | exact Nat.zero_lt_one | omega) rfl rfl (Nat.le_of_ble_eq_true rfl) ⟨by decide, by decide⟩ ⟨rfl, rfl⟩ ⟨by decide, by decide⟩ ?_
      intro r60 S60 L60 R60 p60
      obtain ⟨pm, rfl, rfl⟩ := p60
      have pm : (match fMem (fset (S 44 0) p 1 (fo (S 44 0) p 1 + pgv)) (S 41 0) n with | some q => r60 = nI q.1 ∧ sA _ 44 q.2 = S60 | none => r60 = -1 ∧ ∃ A, sA _ 44 A = S60) := pm
      refine z_istore C 63 5 [(5, _), (4, _), (3, _), (0, _), (1, _), (2, _)] dX9_gets_63 (by decide) rfl ?_
      refine z_iload C 65 5 0 dX9_gets_65 rfl ?_
      refine z_iconst (v := (-1)) C 67 dX9_gets_67 (by decide) ?_
      first | with_reducible refine z_icmp_neN C 68 91 dX9_gets_68 (by decide) (by omega) (by omega) (fun h68 => ?_) (fun h68 => ?_) | refine z_icmp_ne C 68 91 dX9_gets_68 (by decide) (fun h68 => ?_) (fun h68 => ?_)
      · rcases hfm : fMem (fset (S 44 0) p 1 (fo (S 44 0) p 1 + pgv)) (S 41 0) n with _ | q
        · rw [hfm] at pm; exact absurd pm.1 h68
        rw [hfm] at pm
        obtain ⟨rfl, rfl⟩ := pm
        refine z_iload C 91 5 0 dX9_gets_91 rfl ?_
        exact ret 93 _ _ _ _ _ dX9_gets_93 (by first | rfl | exact bI_n | decide) (⟨(by rw [fGets_s hpg h28 hfm]), ⟨S 44 0, (by rw [fGets_s hpg h28 hfm]; simp only [up3_k _ (show (44 : Nat) ≠ 40 by decide), up3_k _ (show (41 : Nat) ≠ 40 by decide), up3_k _ (show (43 : Nat) ≠ 40 by decide), up3_k _ (show (49 : Nat) ≠ 40 by decide), sA_s, sA_n _ _ (show (41 : Nat) ≠ 44 by decide), sA_n _ _ (show (41 : Nat) ≠ 49 by decide), sA_n _ _ (show (43 : Nat) ≠ 44 by decide), sA_n _ _ (show (43 : Nat) ≠ 49 by decide), sA_n _ _ (show (44 : Nat) ≠ 49 by decide), sA_n _ _ (show (49 : Nat) ≠ 44 by decide), sA_n _ _ (show (40 : Nat) ≠ 44 by decide), sA_n _ _ (show (40 : Nat) ≠ 49 by decide), up3_sA _ (show (40 : Nat) ≠ 44 by decide), up3_sA _ (show (40 : Nat) ≠ 49 by decide), sA_44_49, sA_sA, up3_up3])⟩, rfl, rfl⟩)
      · rcases hfm : fMem (fset (S 44 0) p 1 (fo (S 44 0) p 1 + pgv)) (S 41 0) n with _ | q
        rotate_left
        · rw [hfm] at pm; exact absurd (pm.1.symm.trans h68) (nI_m1 (by have := (fMem_ok hn10 (hI2 _) hfm).1; omega))
        rw [hfm] at pm
        obtain ⟨rfl, A, rfl⟩ := pm
        refine z_aload_n C 71 0 3 dX9_gets_71 rfl rfl ?_
        refine z_getr C 72 dX9_gets_72 gf_X9_40 rfl (by first | assumption | exact Nat.zero_lt_one | omega) (by first | exact hR _ _ _ _ rfl | assumption) ?_
        refine z_aload_n C 75 0 3 dX9_gets_75 rfl rfl ?_
        refine z_getr C 76 dX9_gets_76 gf_X9_20 rfl (by first | assumption | exact Nat.zero_lt_one | omega) (by first | exact hR _ _ _ _ rfl | assumption) ?_
        refine z_cSv0 C 79 dX9_gets_79 cs_X9_269 (c_X9_puts (by rfl) (by rfl) (by first | assumption | exact Nat.zero_lt_one | omega) (by first | assumption | exact Nat.zero_lt_one | omega) (by decide)) rfl rfl (Nat.le_of_ble_eq_true rfl) ⟨by decide, by decide⟩ ⟨rfl, rfl⟩ ⟨by decide, by decide⟩ ?_
        intro S79 L79 R79 p79
        obtain ⟨rfl, rfl, rfl⟩ := p79
        refine z_aload_n C 82 0 3 dX9_gets_82 rfl rfl ?_
        refine z_bipush (v := nI 9) C 83 dX9_gets_83 (by decide +kernel) ?_
        refine z_iload_n C 85 1 4 dX9_gets_85 rfl rfl ?_
        refine z_cVv0 C 86 dX9_gets_86 cv_X9_247 (c_X9_writes hR (by first | assumption | omega) (by first | assumption | omega)) rfl ⟨by decide, rfl⟩ (by first | assumption | exact Nat.zero_lt_one | omega) rfl rfl (Nat.le_of_ble_eq_true rfl) ⟨by decide, by decide⟩ ⟨rfl, rfl⟩ ⟨by decide, by decide⟩ ?_
        intro S86 L86 R86 p86
        obtain ⟨rfl, rfl, rfl⟩ := p86
        refine z_iconst (v := nI 0) C 89 dX9_gets_89 (by decide) ?_
        exact ret 90 _ _ _ _ _ dX9_gets_90 (by first | rfl | exact bI_n | decide) (⟨(by rw [fGets_n hpg h28 hfm]), ⟨S 44 0, (by rw [fGets_n hpg h28 hfm]; simp only [up3_k _ (show (44 : Nat) ≠ 40 by decide), up3_k _ (show (41 : Nat) ≠ 40 by decide), up3_k _ (show (43 : Nat) ≠ 40 by decide), up3_k _ (show (49 : Nat) ≠ 40 by decide), sA_s, sA_n _ _ (show (41 : Nat) ≠ 44 by decide), sA_n _ _ (show (41 : Nat) ≠ 49 by decide), sA_n _ _ (show (43 : Nat) ≠ 44 by decide), sA_n _ _ (show (43 : Nat) ≠ 49 by decide), sA_n _ _ (show (44 : Nat) ≠ 49 by decide), sA_n _ _ (show (49 : Nat) ≠ 44 by decide), sA_n _ _ (show (40 : Nat) ≠ 44 by decide), sA_n _ _ (show (40 : Nat) ≠ 49 by decide), up3_sA _ (show (40 : Nat) ≠ 44 by decide), up3_sA _ (show (40 : Nat) ≠ 49 by decide), sA_44_49, sA_sA, up3_up3])⟩, rfl, rfl⟩)
    · refine z_iconst (v := nI 0) C 31 dX9_gets_31 (by decide) ?_
      exact ret 32 _ _ _ _ _ dX9_gets_32 (by first | rfl | exact bI_n | decide) (⟨(by rw [fGets_0 hpg h28]), ⟨S 49 0, (by rw [fGets_0 hpg h28]; exact sA_49_id S _ rfl)⟩, rfl, rfl⟩)
  · obtain ⟨pgv, hpv⟩ : ∃ z : Int32, z = more := ⟨_, rfl⟩
    have hpg : pgv = (if more < S 41 0 (8 * p + 3) - fo (S 44 0) p 1 then more else S 41 0 (8 * p + 3) - fo (S 44 0) p 1) := by rw [hpv]; exact (if_pos (Int32.not_le.mp h16)).symm
    rw [← hpv]
    refine z_iload_n C 19 2 3 dX9_gets_19 rfl rfl ?_
    refine z_goto C 20 24 dX9_gets_20 (by decide) ?_
    refine z_istore C 24 4 [(4, _), (3, _), (0, _), (1, _), (2, _)] dX9_gets_24 (by decide) rfl ?_
    refine z_iload C 26 4 0 dX9_gets_26 rfl ?_
    first | with_reducible refine z_if_gtN C 28 33 dX9_gets_28 (by decide) (by omega) (fun h28 => ?_) (fun h28 => ?_) | refine z_if_gt C 28 33 dX9_gets_28 (by decide) (fun h28 => ?_) (fun h28 => ?_)
    · refine z_aload_n C 33 0 2 dX9_gets_33 rfl rfl ?_
      refine z_getr C 34 dX9_gets_34 gf_X9_20 rfl (by first | assumption | exact Nat.zero_lt_one | omega) (by first | exact hR _ _ _ _ rfl | assumption) ?_
      refine z_aload_n C 37 0 2 dX9_gets_37 rfl rfl ?_
      refine z_getr C 38 dX9_gets_38 gf_X9_40 rfl (by first | assumption | exact Nat.zero_lt_one | omega) (by first | exact hR _ _ _ _ rfl | assumption) ?_
      refine z_cSv0 C 41 dX9_gets_41 cs_X9_269 (c_X9_puts (by rfl) (by rfl) (by first | assumption | exact Nat.zero_lt_one | omega) (by first | assumption | exact Nat.zero_lt_one | omega) (by decide)) rfl rfl (Nat.le_of_ble_eq_true rfl) ⟨by decide, by decide⟩ ⟨rfl, rfl⟩ ⟨by decide, by decide⟩ ?_
      intro S41 L41 R41 p41
      obtain ⟨rfl, rfl, rfl⟩ := p41
      refine z_aload_n C 44 0 2 dX9_gets_44 rfl rfl ?_
      refine z_iload_n C 45 1 3 dX9_gets_45 rfl rfl ?_
      refine z_iconst (v := nI 1) C 46 dX9_gets_46 (by decide) ?_
      refine z_aload_n C 47 0 2 dX9_gets_47 rfl rfl ?_
      refine z_iload_n C 48 1 3 dX9_gets_48 rfl rfl ?_
      refine z_iconst (v := nI 1) C 49 dX9_gets_49 (by decide) ?_
      refine z_cVi0 C 50 dX9_gets_50 cv_X9_203 (c_X9_of hR (by first | assumption | omega) (by omega)) rfl ⟨by decide, rfl⟩ (by first | assumption | exact Nat.zero_lt_one | omega) rfl rfl (Nat.le_of_ble_eq_true rfl) ⟨by decide, by decide⟩ ⟨rfl, rfl⟩ ⟨by decide, by decide⟩ ?_
      intro r50 S50 L50 R50 p50
      obtain ⟨rfl, rfl, rfl, rfl⟩ := p50
      refine z_iload C 53 4 0 dX9_gets_53 rfl ?_
      first | with_reducible refine z_iaddN C 55 dX9_gets_55 ?_ | refine z_iadd C 55 dX9_gets_55 ?_
      refine z_cVv0 C 56 dX9_gets_56 cv_X9_240 (c_X9_sets hR (by first | assumption | omega) (by omega)) rfl ⟨by decide, rfl⟩ (by first | assumption | exact Nat.zero_lt_one | omega) rfl rfl (Nat.le_of_ble_eq_true rfl) ⟨by decide, by decide⟩ ⟨rfl, rfl⟩ ⟨by decide, by decide⟩ ?_
      intro S56 L56 R56 p56
      obtain ⟨rfl, rfl, rfl⟩ := p56
      refine z_aload_n C 59 0 2 dX9_gets_59 rfl rfl ?_
      refine z_cVi0 C 60 dX9_gets_60 cv_X9_276 (c_X9_memory (n := n) hR hn hn10 (hI2 _)) rfl ⟨by decide, rfl⟩ (by first | assumption | exact Nat.zero_lt_one | omega) rfl rfl (Nat.le_of_ble_eq_true rfl) ⟨by decide, by decide⟩ ⟨rfl, rfl⟩ ⟨by decide, by decide⟩ ?_
      intro r60 S60 L60 R60 p60
      obtain ⟨pm, rfl, rfl⟩ := p60
      have pm : (match fMem (fset (S 44 0) p 1 (fo (S 44 0) p 1 + pgv)) (S 41 0) n with | some q => r60 = nI q.1 ∧ sA _ 44 q.2 = S60 | none => r60 = -1 ∧ ∃ A, sA _ 44 A = S60) := pm
      refine z_istore C 63 5 [(5, _), (4, _), (3, _), (0, _), (1, _), (2, _)] dX9_gets_63 (by decide) rfl ?_
      refine z_iload C 65 5 0 dX9_gets_65 rfl ?_
      refine z_iconst (v := (-1)) C 67 dX9_gets_67 (by decide) ?_
      first | with_reducible refine z_icmp_neN C 68 91 dX9_gets_68 (by decide) (by omega) (by omega) (fun h68 => ?_) (fun h68 => ?_) | refine z_icmp_ne C 68 91 dX9_gets_68 (by decide) (fun h68 => ?_) (fun h68 => ?_)
      · rcases hfm : fMem (fset (S 44 0) p 1 (fo (S 44 0) p 1 + pgv)) (S 41 0) n with _ | q
        · rw [hfm] at pm; exact absurd pm.1 h68
        rw [hfm] at pm
        obtain ⟨rfl, rfl⟩ := pm
        refine z_iload C 91 5 0 dX9_gets_91 rfl ?_
        exact ret 93 _ _ _ _ _ dX9_gets_93 (by first | rfl | exact bI_n | decide) (⟨(by rw [fGets_s hpg h28 hfm]), ⟨S 44 0, (by rw [fGets_s hpg h28 hfm]; simp only [up3_k _ (show (44 : Nat) ≠ 40 by decide), up3_k _ (show (41 : Nat) ≠ 40 by decide), up3_k _ (show (43 : Nat) ≠ 40 by decide), up3_k _ (show (49 : Nat) ≠ 40 by decide), sA_s, sA_n _ _ (show (41 : Nat) ≠ 44 by decide), sA_n _ _ (show (41 : Nat) ≠ 49 by decide), sA_n _ _ (show (43 : Nat) ≠ 44 by decide), sA_n _ _ (show (43 : Nat) ≠ 49 by decide), sA_n _ _ (show (44 : Nat) ≠ 49 by decide), sA_n _ _ (show (49 : Nat) ≠ 44 by decide), sA_n _ _ (show (40 : Nat) ≠ 44 by decide), sA_n _ _ (show (40 : Nat) ≠ 49 by decide), up3_sA _ (show (40 : Nat) ≠ 44 by decide), up3_sA _ (show (40 : Nat) ≠ 49 by decide), sA_44_49, sA_sA, up3_up3])⟩, rfl, rfl⟩)
      · rcases hfm : fMem (fset (S 44 0) p 1 (fo (S 44 0) p 1 + pgv)) (S 41 0) n with _ | q
        rotate_left
        · rw [hfm] at pm; exact absurd (pm.1.symm.trans h68) (nI_m1 (by have := (fMem_ok hn10 (hI2 _) hfm).1; omega))
        rw [hfm] at pm
        obtain ⟨rfl, A, rfl⟩ := pm
        refine z_aload_n C 71 0 3 dX9_gets_71 rfl rfl ?_
        refine z_getr C 72 dX9_gets_72 gf_X9_40 rfl (by first | assumption | exact Nat.zero_lt_one | omega) (by first | exact hR _ _ _ _ rfl | assumption) ?_
        refine z_aload_n C 75 0 3 dX9_gets_75 rfl rfl ?_
        refine z_getr C 76 dX9_gets_76 gf_X9_20 rfl (by first | assumption | exact Nat.zero_lt_one | omega) (by first | exact hR _ _ _ _ rfl | assumption) ?_
        refine z_cSv0 C 79 dX9_gets_79 cs_X9_269 (c_X9_puts (by rfl) (by rfl) (by first | assumption | exact Nat.zero_lt_one | omega) (by first | assumption | exact Nat.zero_lt_one | omega) (by decide)) rfl rfl (Nat.le_of_ble_eq_true rfl) ⟨by decide, by decide⟩ ⟨rfl, rfl⟩ ⟨by decide, by decide⟩ ?_
        intro S79 L79 R79 p79
        obtain ⟨rfl, rfl, rfl⟩ := p79
        refine z_aload_n C 82 0 3 dX9_gets_82 rfl rfl ?_
        refine z_bipush (v := nI 9) C 83 dX9_gets_83 (by decide +kernel) ?_
        refine z_iload_n C 85 1 4 dX9_gets_85 rfl rfl ?_
        refine z_cVv0 C 86 dX9_gets_86 cv_X9_247 (c_X9_writes hR (by first | assumption | omega) (by first | assumption | omega)) rfl ⟨by decide, rfl⟩ (by first | assumption | exact Nat.zero_lt_one | omega) rfl rfl (Nat.le_of_ble_eq_true rfl) ⟨by decide, by decide⟩ ⟨rfl, rfl⟩ ⟨by decide, by decide⟩ ?_
        intro S86 L86 R86 p86
        obtain ⟨rfl, rfl, rfl⟩ := p86
        refine z_iconst (v := nI 0) C 89 dX9_gets_89 (by decide) ?_
        exact ret 90 _ _ _ _ _ dX9_gets_90 (by first | rfl | exact bI_n | decide) (⟨(by rw [fGets_n hpg h28 hfm]), ⟨S 44 0, (by rw [fGets_n hpg h28 hfm]; simp only [up3_k _ (show (44 : Nat) ≠ 40 by decide), up3_k _ (show (41 : Nat) ≠ 40 by decide), up3_k _ (show (43 : Nat) ≠ 40 by decide), up3_k _ (show (49 : Nat) ≠ 40 by decide), sA_s, sA_n _ _ (show (41 : Nat) ≠ 44 by decide), sA_n _ _ (show (41 : Nat) ≠ 49 by decide), sA_n _ _ (show (43 : Nat) ≠ 44 by decide), sA_n _ _ (show (43 : Nat) ≠ 49 by decide), sA_n _ _ (show (44 : Nat) ≠ 49 by decide), sA_n _ _ (show (49 : Nat) ≠ 44 by decide), sA_n _ _ (show (40 : Nat) ≠ 44 by decide), sA_n _ _ (show (40 : Nat) ≠ 49 by decide), up3_sA _ (show (40 : Nat) ≠ 44 by decide), up3_sA _ (show (40 : Nat) ≠ 49 by decide), sA_44_49, sA_sA, up3_up3])⟩, rfl, rfl⟩)
    · refine z_iconst (v := nI 0) C 31 dX9_gets_31 (by decide) ?_
      exact ret 32 _ _ _ _ _ dX9_gets_32 (by first | rfl | exact bI_n | decide) (⟨(by rw [fGets_0 hpg h28]), ⟨S 49 0, (by rw [fGets_0 hpg h28]; exact sA_49_id S _ rfl)⟩, rfl, rfl⟩)
def rm_X9_passes : Room := { frames := 8, cells := 0, slots := 0, locals := 183 }
set_option maxHeartbeats 4000000 in
set_option maxRecDepth 100000 in
theorem c_X9_passes {l : Launch} {G : mG} {ad : mA} {S : mS} {L : mL} {R : mR} {n : Nat} (hR : mlk R) (hn : S 40 0 1 = nI n) (hn10 : n ≤ 10) (hI : rI (S 44 0) n) : Ki l yX9_passes cX9_passes 4 .int rm_X9_passes G ad mdm [.ref (ad 40 0)] S L R (fun r_ S2 L2 R2 => r_ = nI (fPass (S 44 0) (S 41 0) n).1 ∧ (∃ K, sA (sA S 49 K) 44 (fPass (S 44 0) (S 41 0) n).2 = S2) ∧ L = L2 ∧ R = R2) := by
  refine Ki.of RX9 (by decide) rfl (Nat.le_of_ble_eq_true rfl) ?_
  intro X hXl hXG C ret
  subst hXl; subst hXG
  change Z X 4 ad mdm S L R 0 0 0 [(0, _)] []
  have hM := hI.tick
  refine z_aload_n C 0 0 0 dX9_passes_0 rfl rfl ?_
  refine z_getr C 1 dX9_passes_1 gf_X9_20 rfl (by first | assumption | exact Nat.zero_lt_one | omega) (by first | exact hR _ _ _ _ rfl | assumption) ?_
  refine z_iconst (v := nI 1) C 4 dX9_passes_4 (by decide) ?_
  refine z_dup2 C 5 dX9_passes_5 rfl rfl ?_
  refine z_iald C 6 dX9_passes_6 (by first | rfl | assumption) (by first | assumption | exact Nat.zero_lt_one | omega) (by first | rfl | assumption) (by decide) (by first | assumption | omega) ?_
  refine z_iconst (v := nI 1) C 7 dX9_passes_7 (by decide) ?_
  first | with_reducible refine z_iaddN C 8 dX9_passes_8 ?_ | refine z_iadd C 8 dX9_passes_8 ?_
  refine z_iast C 9 dX9_passes_9 (by first | rfl | assumption) (by first | assumption | exact Nat.zero_lt_one | omega)  (by first | rfl | assumption) (by decide) (by first | assumption | omega) ?_
  refine z_mem (sA S 44 (fTick (S 44 0))) (by rw [sA_up]; rfl) ?_
  refine z_iconst (v := nI 0) C 10 dX9_passes_10 (by decide) ?_
  refine z_istore_n C 11 1 [(1, _), (0, _)] dX9_passes_11 rfl (by decide) rfl ?_
  refine z_aload_n C 12 0 1 dX9_passes_12 rfl rfl ?_
  refine z_getr C 13 dX9_passes_13 gf_X9_20 rfl (by first | assumption | exact Nat.zero_lt_one | omega) (by first | exact hR _ _ _ _ rfl | assumption) ?_
  refine z_iconst (v := nI 2) C 16 dX9_passes_16 (by decide) ?_
  refine z_iald C 17 dX9_passes_17 (by first | rfl | assumption) (by first | assumption | exact Nat.zero_lt_one | omega) (by first | rfl | assumption) (by decide) (by first | assumption | omega) ?_
  refine z_iconst (v := (-1)) C 18 dX9_passes_18 (by decide) ?_
  first | with_reducible refine z_icmp_eqN C 19 46 dX9_passes_19 (by decide) (by omega) (by omega) (fun h19 => ?_) (fun h19 => ?_) | refine z_icmp_eq C 19 46 dX9_passes_19 (by decide) (fun h19 => ?_) (fun h19 => ?_)
  · have hp0 := fPass0_n (N := S 44 0) (T := (S 41 0)) (n := n) h19
    refine z_iconst (v := nI 0) C 46 dX9_passes_46 (by decide) ?_
    refine z_istore_n C 47 2 [(2, _), (1, _), (0, _)] dX9_passes_47 rfl (by decide) rfl ?_
    have loop_48 : ∀ (n_48 : Nat) (i a : Nat) (K : NN), i ≤ n → a = (fPassF (S 41 0) n (fPass0 (S 44 0) (S 41 0) n) i).1 → rI (fPassF (S 41 0) n (fPass0 (S 44 0) (S 41 0) n) i).2 n → n - i < n_48 → Z X 4 ad mdm (sA (sA S 49 K) 44 (fPassF (S 41 0) n (fPass0 (S 44 0) (S 41 0) n) i).2) L R 0 0 48 [(0, .ref (ad 40 0)), (1, .int (nI a)), (2, .int (nI i))] [] := by
      intro n_48
      induction n_48 with
      | zero => intro i a K hin ha hi hm48; exact absurd hm48 (Nat.not_lt_zero _)
      | succ n_48 ih48 =>
        intro i a K hin ha hi hm48
        refine z_iload_n C 48 2 2 dX9_passes_48 rfl rfl ?_
        refine z_aload_n C 49 0 0 dX9_passes_49 rfl rfl ?_
        refine z_getiv C 50 dX9_passes_50 gf_X9_197 rfl (by first | assumption | exact Nat.zero_lt_one | omega) hn ?_
        first | with_reducible refine z_icmp_geN C 53 112 dX9_passes_53 (by decide) (by omega) (by omega) (fun h53 => ?_) (fun h53 => ?_) | refine z_icmp_ge C 53 112 dX9_passes_53 (by decide) (fun h53 => ?_) (fun h53 => ?_)
        · obtain rfl : i = n := by omega
          refine z_iload_n C 112 1 1 dX9_passes_112 rfl rfl ?_
          exact ret 113 _ _ _ _ _ dX9_passes_113 (by first | rfl | exact bI_n | decide) (⟨(by rw [ha]; rfl), ⟨K, rfl⟩, rfl, rfl⟩)
        · refine z_aload_n C 56 0 0 dX9_passes_56 rfl rfl ?_
          refine z_iload_n C 57 2 2 dX9_passes_57 rfl rfl ?_
          refine z_bipush (v := nI 7) C 58 dX9_passes_58 (by decide +kernel) ?_
          refine z_cVi0 C 60 dX9_passes_60 cv_X9_207 (c_X9_toldOf hR (by first | assumption | omega) (by omega)) rfl ⟨by decide, rfl⟩ (by first | assumption | exact Nat.zero_lt_one | omega) rfl rfl (Nat.le_of_ble_eq_true rfl) ⟨by decide, by decide⟩ ⟨rfl, rfl⟩ ⟨by decide, by decide⟩ ?_
          intro r60 S60 L60 R60 p60
          obtain ⟨rfl, rfl, rfl, rfl⟩ := p60
          refine z_istore_n C 63 3 [(3, _), (0, _), (1, _), (2, _)] dX9_passes_63 rfl (by decide) rfl ?_
          refine z_aload_n C 64 0 1 dX9_passes_64 rfl rfl ?_
          refine z_iload_n C 65 2 3 dX9_passes_65 rfl rfl ?_
          refine z_iconst (v := nI 0) C 66 dX9_passes_66 (by decide) ?_
          refine z_cVi0 C 67 dX9_passes_67 cv_X9_203 (c_X9_of hR (by first | assumption | omega) (by omega)) rfl ⟨by decide, rfl⟩ (by first | assumption | exact Nat.zero_lt_one | omega) rfl rfl (Nat.le_of_ble_eq_true rfl) ⟨by decide, by decide⟩ ⟨rfl, rfl⟩ ⟨by decide, by decide⟩ ?_
          intro r67 S67 L67 R67 p67
          obtain ⟨rfl, rfl, rfl, rfl⟩ := p67
          refine z_iconst (v := nI 2) C 70 dX9_passes_70 (by decide) ?_
          first | with_reducible refine z_icmp_neN C 71 106 dX9_passes_71 (by decide) (by omega) (by omega) (fun h71 => ?_) (fun h71 => ?_) | refine z_icmp_ne C 71 106 dX9_passes_71 (by decide) (fun h71 => ?_) (fun h71 => ?_)
          · have hnx := fPassF_n (T := (S 41 0)) (n := n) (q0 := (fPass0 (S 44 0) (S 41 0) n)) (p := i) (fun z => h71 z.1)
            refine z_iinc C 106 2 3 [(2, _), (3, _), (0, _), (1, _)] dX9_passes_106 rfl (by first | exact nI_1 _ | rfl) (by decide) rfl ?_
            refine z_goto C 109 48 dX9_passes_109 (by decide) ?_
            refine z_sub [(0, _), (1, _), (2, _)] [2, 3, 0] rfl ?_
            first
            | (refine z_mem (sA (sA S 49 K2) 44 (fPassF (S 41 0) n (fPass0 (S 44 0) (S 41 0) n) (i + 1)).2) (by simp only [sA_44_49, sA_sA]; rw [hnx]; rfl) ?_; exact ih48 (i + 1) _ _ (by omega) (by rw [hnx, ha]; rfl) ((hI.pass0 hn10).passF hn10 (i + 1)) (by omega))
            | (refine z_mem (sA (sA S 49 K) 44 (fPassF (S 41 0) n (fPass0 (S 44 0) (S 41 0) n) (i + 1)).2) (by rw [hnx]) ?_; exact ih48 (i + 1) _ _ (by omega) (by rw [hnx, ha]) ((hI.pass0 hn10).passF hn10 (i + 1)) (by omega))
          · refine z_iload_n C 74 3 0 dX9_passes_74 rfl rfl ?_
            first | with_reducible refine z_if_leN C 75 106 dX9_passes_75 (by decide) (by omega) (fun h75 => ?_) (fun h75 => ?_) | refine z_if_le C 75 106 dX9_passes_75 (by decide) (fun h75 => ?_) (fun h75 => ?_)
            · have hnx := fPassF_n (T := (S 41 0)) (n := n) (q0 := (fPass0 (S 44 0) (S 41 0) n)) (p := i) (fun z => absurd z.2.1 (Int32.not_lt.mpr h75))
              refine z_iinc C 106 2 3 [(2, _), (3, _), (0, _), (1, _)] dX9_passes_106 rfl (by first | exact nI_1 _ | rfl) (by decide) rfl ?_
              refine z_goto C 109 48 dX9_passes_109 (by decide) ?_
              refine z_sub [(0, _), (1, _), (2, _)] [2, 3, 0] rfl ?_
              first
              | (refine z_mem (sA (sA S 49 K2) 44 (fPassF (S 41 0) n (fPass0 (S 44 0) (S 41 0) n) (i + 1)).2) (by simp only [sA_44_49, sA_sA]; rw [hnx]; rfl) ?_; exact ih48 (i + 1) _ _ (by omega) (by rw [hnx, ha]; rfl) ((hI.pass0 hn10).passF hn10 (i + 1)) (by omega))
              | (refine z_mem (sA (sA S 49 K) 44 (fPassF (S 41 0) n (fPass0 (S 44 0) (S 41 0) n) (i + 1)).2) (by rw [hnx]) ?_; exact ih48 (i + 1) _ _ (by omega) (by rw [hnx, ha]) ((hI.pass0 hn10).passF hn10 (i + 1)) (by omega))
            · refine z_aload_n C 78 0 1 dX9_passes_78 rfl rfl ?_
              refine z_getr C 79 dX9_passes_79 gf_X9_20 rfl (by first | assumption | exact Nat.zero_lt_one | omega) (by first | exact hR _ _ _ _ rfl | assumption) ?_
              refine z_iconst (v := nI 1) C 82 dX9_passes_82 (by decide) ?_
              refine z_iald C 83 dX9_passes_83 (by first | rfl | assumption) (by first | assumption | exact Nat.zero_lt_one | omega) (by first | rfl | assumption) (by decide) (by first | assumption | omega) ?_
              refine z_aload_n C 84 0 1 dX9_passes_84 rfl rfl ?_
              refine z_iload_n C 85 2 3 dX9_passes_85 rfl rfl ?_
              refine z_bipush (v := nI 7) C 86 dX9_passes_86 (by decide +kernel) ?_
              refine z_cVi0 C 88 dX9_passes_88 cv_X9_203 (c_X9_of hR (by first | assumption | omega) (by omega)) rfl ⟨by decide, rfl⟩ (by first | assumption | exact Nat.zero_lt_one | omega) rfl rfl (Nat.le_of_ble_eq_true rfl) ⟨by decide, by decide⟩ ⟨rfl, rfl⟩ ⟨by decide, by decide⟩ ?_
              intro r88 S88 L88 R88 p88
              obtain ⟨rfl, rfl, rfl, rfl⟩ := p88
              first | with_reducible refine z_isubN C 91 dX9_passes_91 (by omega) ?_ | refine z_isub C 91 dX9_passes_91 ?_
              refine z_iload_n C 92 3 0 dX9_passes_92 rfl rfl ?_
              first | with_reducible refine z_iremN C 93 dX9_passes_93 (by omega) (by omega) (by omega) ?_ | refine z_irem C 93 dX9_passes_93 (fun z => h75 (by rw [z]; decide)) ?_
              first | with_reducible refine z_if_neB C 94 106 dX9_passes_94 (by decide) (fun h94 => ?_) (fun h94 => ?_) | with_reducible refine z_if_neN C 94 106 dX9_passes_94 (by decide) (by omega) (fun h94 => ?_) (fun h94 => ?_) | refine z_if_ne C 94 106 dX9_passes_94 (by decide) (fun h94 => ?_) (fun h94 => ?_)
              · have hnx := fPassF_n (T := (S 41 0)) (n := n) (q0 := (fPass0 (S 44 0) (S 41 0) n)) (p := i) (fun z => h94 z.2.2)
                refine z_iinc C 106 2 3 [(2, _), (3, _), (0, _), (1, _)] dX9_passes_106 rfl (by first | exact nI_1 _ | rfl) (by decide) rfl ?_
                refine z_goto C 109 48 dX9_passes_109 (by decide) ?_
                refine z_sub [(0, _), (1, _), (2, _)] [2, 3, 0] rfl ?_
                first
                | (refine z_mem (sA (sA S 49 K2) 44 (fPassF (S 41 0) n (fPass0 (S 44 0) (S 41 0) n) (i + 1)).2) (by simp only [sA_44_49, sA_sA]; rw [hnx]; rfl) ?_; exact ih48 (i + 1) _ _ (by omega) (by rw [hnx, ha]; rfl) ((hI.pass0 hn10).passF hn10 (i + 1)) (by omega))
                | (refine z_mem (sA (sA S 49 K) 44 (fPassF (S 41 0) n (fPass0 (S 44 0) (S 41 0) n) (i + 1)).2) (by rw [hnx]) ?_; exact ih48 (i + 1) _ _ (by omega) (by rw [hnx, ha]) ((hI.pass0 hn10).passF hn10 (i + 1)) (by omega))
              · have hnx := fPassF_y (T := (S 41 0)) (n := n) (q0 := (fPass0 (S 44 0) (S 41 0) n)) (p := i) ⟨h71, Int32.not_le.mp h75, h94⟩
                refine z_iload_n C 97 1 2 dX9_passes_97 rfl rfl ?_
                refine z_aload_n C 98 0 1 dX9_passes_98 rfl rfl ?_
                refine z_iload_n C 99 2 3 dX9_passes_99 rfl rfl ?_
                refine z_iconst (v := nI 1) C 100 dX9_passes_100 (by decide) ?_
                refine z_cVi0 C 101 dX9_passes_101 cv_X9_282 (c_X9_gets (n := n) hR hn hn10 (by first | exact hM | exact hi) (by omega)) rfl ⟨by decide, rfl⟩ (by first | assumption | exact Nat.zero_lt_one | omega) rfl rfl (Nat.le_of_ble_eq_true rfl) ⟨by decide, by decide⟩ ⟨rfl, rfl⟩ ⟨by decide, by decide⟩ ?_
                intro r101 S101 L101 R101 p101
                obtain ⟨rfl, ⟨K2, rfl⟩, rfl, rfl⟩ := p101
                first | with_reducible refine z_iaddN C 104 dX9_passes_104 ?_ | refine z_iadd C 104 dX9_passes_104 ?_
                refine z_istore_n C 105 1 [(1, _), (3, _), (0, _), (2, _)] dX9_passes_105 rfl (by decide) rfl ?_
                refine z_iinc C 106 2 3 [(2, _), (1, _), (3, _), (0, _)] dX9_passes_106 rfl (by first | exact nI_1 _ | rfl) (by decide) rfl ?_
                refine z_goto C 109 48 dX9_passes_109 (by decide) ?_
                refine z_sub [(0, _), (1, _), (2, _)] [3, 1, 0] rfl ?_
                first
                | (refine z_mem (sA (sA S 49 K2) 44 (fPassF (S 41 0) n (fPass0 (S 44 0) (S 41 0) n) (i + 1)).2) (by simp only [sA_44_49, sA_sA]; rw [hnx]; rfl) ?_; exact ih48 (i + 1) _ _ (by omega) (by rw [hnx, ha]; rfl) ((hI.pass0 hn10).passF hn10 (i + 1)) (by omega))
                | (refine z_mem (sA (sA S 49 K) 44 (fPassF (S 41 0) n (fPass0 (S 44 0) (S 41 0) n) (i + 1)).2) (by rw [hnx]) ?_; exact ih48 (i + 1) _ _ (by omega) (by rw [hnx, ha]) ((hI.pass0 hn10).passF hn10 (i + 1)) (by omega))
    refine z_sub [(0, _), (1, _), (2, _)] [2, 1, 0] rfl ?_
    first
    | (refine z_mem (sA (sA S 49 K2) 44 (fPassF (S 41 0) n (fPass0 (S 44 0) (S 41 0) n) 0).2) (by simp only [sA_44_49, sA_sA]; show _ = sA (sA S 49 K2) 44 (fPass0 (S 44 0) (S 41 0) n).2; rw [hp0]; rfl) ?_; exact loop_48 (n + 1) 0 _ _ (Nat.zero_le _) (by show _ = (fPass0 (S 44 0) (S 41 0) n).1; rw [hp0, Nat.zero_add]; rfl) (hI.pass0 hn10) (by omega))
    | (refine z_mem (sA (sA S 49 (S 49 0)) 44 (fPassF (S 41 0) n (fPass0 (S 44 0) (S 41 0) n) 0).2) (by rw [sA_id]; show _ = sA S 44 (fPass0 (S 44 0) (S 41 0) n).2; rw [hp0]) ?_; exact loop_48 (n + 1) 0 _ _ (Nat.zero_le _) (by show _ = (fPass0 (S 44 0) (S 41 0) n).1; rw [hp0]) (hI.pass0 hn10) (by omega))
  · obtain ⟨q, hq, hqe⟩ := hM.1.resolve_left h19
    have hp0 := fPass0_s (N := S 44 0) (T := (S 41 0)) (n := n) (by omega) hqe
    refine z_iload_n C 22 1 0 dX9_passes_22 rfl rfl ?_
    refine z_aload_n C 23 0 1 dX9_passes_23 rfl rfl ?_
    refine z_aload_n C 24 0 1 dX9_passes_24 rfl rfl ?_
    refine z_getr C 25 dX9_passes_25 gf_X9_20 rfl (by first | assumption | exact Nat.zero_lt_one | omega) (by first | exact hR _ _ _ _ rfl | assumption) ?_
    refine z_iconst (v := nI 2) C 28 dX9_passes_28 (by decide) ?_
    refine z_iald C 29 dX9_passes_29 (by first | rfl | assumption) (by first | assumption | exact Nat.zero_lt_one | omega) (by first | rfl | assumption) (by decide) (by first | assumption | omega) ?_
    rw [show sA S 44 (fTick (S 44 0)) 44 0 2 = nI q from hqe]
    refine z_aload_n C 30 0 1 dX9_passes_30 rfl rfl ?_
    refine z_aload_n C 31 0 1 dX9_passes_31 rfl rfl ?_
    refine z_getr C 32 dX9_passes_32 gf_X9_20 rfl (by first | assumption | exact Nat.zero_lt_one | omega) (by first | exact hR _ _ _ _ rfl | assumption) ?_
    refine z_iconst (v := nI 2) C 35 dX9_passes_35 (by decide) ?_
    refine z_iald C 36 dX9_passes_36 (by first | rfl | assumption) (by first | assumption | exact Nat.zero_lt_one | omega) (by first | rfl | assumption) (by decide) (by first | assumption | omega) ?_
    rw [show sA S 44 (fTick (S 44 0)) 44 0 2 = nI q from hqe]
    refine z_iconst (v := nI 2) C 37 dX9_passes_37 (by decide) ?_
    refine z_cVi0 C 38 dX9_passes_38 cv_X9_207 (c_X9_toldOf hR (by first | assumption | omega) (by omega)) rfl ⟨by decide, rfl⟩ (by first | assumption | exact Nat.zero_lt_one | omega) rfl rfl (Nat.le_of_ble_eq_true rfl) ⟨by decide, by decide⟩ ⟨rfl, rfl⟩ ⟨by decide, by decide⟩ ?_
    intro r38 S38 L38 R38 p38
    obtain ⟨rfl, rfl, rfl, rfl⟩ := p38
    refine z_cVi0 C 41 dX9_passes_41 cv_X9_282 (c_X9_gets (n := n) hR hn hn10 (by first | exact hM | exact hi) (by omega)) rfl ⟨by decide, rfl⟩ (by first | assumption | exact Nat.zero_lt_one | omega) rfl rfl (Nat.le_of_ble_eq_true rfl) ⟨by decide, by decide⟩ ⟨rfl, rfl⟩ ⟨by decide, by decide⟩ ?_
    intro r41 S41 L41 R41 p41
    obtain ⟨rfl, ⟨K2, rfl⟩, rfl, rfl⟩ := p41
    first | with_reducible refine z_iaddN C 44 dX9_passes_44 ?_ | refine z_iadd C 44 dX9_passes_44 ?_
    refine z_istore_n C 45 1 [(1, _), (0, _)] dX9_passes_45 rfl (by decide) rfl ?_
    refine z_iconst (v := nI 0) C 46 dX9_passes_46 (by decide) ?_
    refine z_istore_n C 47 2 [(2, _), (1, _), (0, _)] dX9_passes_47 rfl (by decide) rfl ?_
    have loop_48 : ∀ (n_48 : Nat) (i a : Nat) (K : NN), i ≤ n → a = (fPassF (S 41 0) n (fPass0 (S 44 0) (S 41 0) n) i).1 → rI (fPassF (S 41 0) n (fPass0 (S 44 0) (S 41 0) n) i).2 n → n - i < n_48 → Z X 4 ad mdm (sA (sA S 49 K) 44 (fPassF (S 41 0) n (fPass0 (S 44 0) (S 41 0) n) i).2) L R 0 0 48 [(0, .ref (ad 40 0)), (1, .int (nI a)), (2, .int (nI i))] [] := by
      intro n_48
      induction n_48 with
      | zero => intro i a K hin ha hi hm48; exact absurd hm48 (Nat.not_lt_zero _)
      | succ n_48 ih48 =>
        intro i a K hin ha hi hm48
        refine z_iload_n C 48 2 2 dX9_passes_48 rfl rfl ?_
        refine z_aload_n C 49 0 0 dX9_passes_49 rfl rfl ?_
        refine z_getiv C 50 dX9_passes_50 gf_X9_197 rfl (by first | assumption | exact Nat.zero_lt_one | omega) hn ?_
        first | with_reducible refine z_icmp_geN C 53 112 dX9_passes_53 (by decide) (by omega) (by omega) (fun h53 => ?_) (fun h53 => ?_) | refine z_icmp_ge C 53 112 dX9_passes_53 (by decide) (fun h53 => ?_) (fun h53 => ?_)
        · obtain rfl : i = n := by omega
          refine z_iload_n C 112 1 1 dX9_passes_112 rfl rfl ?_
          exact ret 113 _ _ _ _ _ dX9_passes_113 (by first | rfl | exact bI_n | decide) (⟨(by rw [ha]; rfl), ⟨K, rfl⟩, rfl, rfl⟩)
        · refine z_aload_n C 56 0 0 dX9_passes_56 rfl rfl ?_
          refine z_iload_n C 57 2 2 dX9_passes_57 rfl rfl ?_
          refine z_bipush (v := nI 7) C 58 dX9_passes_58 (by decide +kernel) ?_
          refine z_cVi0 C 60 dX9_passes_60 cv_X9_207 (c_X9_toldOf hR (by first | assumption | omega) (by omega)) rfl ⟨by decide, rfl⟩ (by first | assumption | exact Nat.zero_lt_one | omega) rfl rfl (Nat.le_of_ble_eq_true rfl) ⟨by decide, by decide⟩ ⟨rfl, rfl⟩ ⟨by decide, by decide⟩ ?_
          intro r60 S60 L60 R60 p60
          obtain ⟨rfl, rfl, rfl, rfl⟩ := p60
          refine z_istore_n C 63 3 [(3, _), (0, _), (1, _), (2, _)] dX9_passes_63 rfl (by decide) rfl ?_
          refine z_aload_n C 64 0 1 dX9_passes_64 rfl rfl ?_
          refine z_iload_n C 65 2 3 dX9_passes_65 rfl rfl ?_
          refine z_iconst (v := nI 0) C 66 dX9_passes_66 (by decide) ?_
          refine z_cVi0 C 67 dX9_passes_67 cv_X9_203 (c_X9_of hR (by first | assumption | omega) (by omega)) rfl ⟨by decide, rfl⟩ (by first | assumption | exact Nat.zero_lt_one | omega) rfl rfl (Nat.le_of_ble_eq_true rfl) ⟨by decide, by decide⟩ ⟨rfl, rfl⟩ ⟨by decide, by decide⟩ ?_
          intro r67 S67 L67 R67 p67
          obtain ⟨rfl, rfl, rfl, rfl⟩ := p67
          refine z_iconst (v := nI 2) C 70 dX9_passes_70 (by decide) ?_
          first | with_reducible refine z_icmp_neN C 71 106 dX9_passes_71 (by decide) (by omega) (by omega) (fun h71 => ?_) (fun h71 => ?_) | refine z_icmp_ne C 71 106 dX9_passes_71 (by decide) (fun h71 => ?_) (fun h71 => ?_)
          · have hnx := fPassF_n (T := (S 41 0)) (n := n) (q0 := (fPass0 (S 44 0) (S 41 0) n)) (p := i) (fun z => h71 z.1)
            refine z_iinc C 106 2 3 [(2, _), (3, _), (0, _), (1, _)] dX9_passes_106 rfl (by first | exact nI_1 _ | rfl) (by decide) rfl ?_
            refine z_goto C 109 48 dX9_passes_109 (by decide) ?_
            refine z_sub [(0, _), (1, _), (2, _)] [2, 3, 0] rfl ?_
            first
            | (refine z_mem (sA (sA S 49 K2) 44 (fPassF (S 41 0) n (fPass0 (S 44 0) (S 41 0) n) (i + 1)).2) (by simp only [sA_44_49, sA_sA]; rw [hnx]; rfl) ?_; exact ih48 (i + 1) _ _ (by omega) (by rw [hnx, ha]; rfl) ((hI.pass0 hn10).passF hn10 (i + 1)) (by omega))
            | (refine z_mem (sA (sA S 49 K) 44 (fPassF (S 41 0) n (fPass0 (S 44 0) (S 41 0) n) (i + 1)).2) (by rw [hnx]) ?_; exact ih48 (i + 1) _ _ (by omega) (by rw [hnx, ha]) ((hI.pass0 hn10).passF hn10 (i + 1)) (by omega))
          · refine z_iload_n C 74 3 0 dX9_passes_74 rfl rfl ?_
            first | with_reducible refine z_if_leN C 75 106 dX9_passes_75 (by decide) (by omega) (fun h75 => ?_) (fun h75 => ?_) | refine z_if_le C 75 106 dX9_passes_75 (by decide) (fun h75 => ?_) (fun h75 => ?_)
            · have hnx := fPassF_n (T := (S 41 0)) (n := n) (q0 := (fPass0 (S 44 0) (S 41 0) n)) (p := i) (fun z => absurd z.2.1 (Int32.not_lt.mpr h75))
              refine z_iinc C 106 2 3 [(2, _), (3, _), (0, _), (1, _)] dX9_passes_106 rfl (by first | exact nI_1 _ | rfl) (by decide) rfl ?_
              refine z_goto C 109 48 dX9_passes_109 (by decide) ?_
              refine z_sub [(0, _), (1, _), (2, _)] [2, 3, 0] rfl ?_
              first
              | (refine z_mem (sA (sA S 49 K2) 44 (fPassF (S 41 0) n (fPass0 (S 44 0) (S 41 0) n) (i + 1)).2) (by simp only [sA_44_49, sA_sA]; rw [hnx]; rfl) ?_; exact ih48 (i + 1) _ _ (by omega) (by rw [hnx, ha]; rfl) ((hI.pass0 hn10).passF hn10 (i + 1)) (by omega))
              | (refine z_mem (sA (sA S 49 K) 44 (fPassF (S 41 0) n (fPass0 (S 44 0) (S 41 0) n) (i + 1)).2) (by rw [hnx]) ?_; exact ih48 (i + 1) _ _ (by omega) (by rw [hnx, ha]) ((hI.pass0 hn10).passF hn10 (i + 1)) (by omega))
            · refine z_aload_n C 78 0 1 dX9_passes_78 rfl rfl ?_
              refine z_getr C 79 dX9_passes_79 gf_X9_20 rfl (by first | assumption | exact Nat.zero_lt_one | omega) (by first | exact hR _ _ _ _ rfl | assumption) ?_
              refine z_iconst (v := nI 1) C 82 dX9_passes_82 (by decide) ?_
              refine z_iald C 83 dX9_passes_83 (by first | rfl | assumption) (by first | assumption | exact Nat.zero_lt_one | omega) (by first | rfl | assumption) (by decide) (by first | assumption | omega) ?_
              refine z_aload_n C 84 0 1 dX9_passes_84 rfl rfl ?_
              refine z_iload_n C 85 2 3 dX9_passes_85 rfl rfl ?_
              refine z_bipush (v := nI 7) C 86 dX9_passes_86 (by decide +kernel) ?_
              refine z_cVi0 C 88 dX9_passes_88 cv_X9_203 (c_X9_of hR (by first | assumption | omega) (by omega)) rfl ⟨by decide, rfl⟩ (by first | assumption | exact Nat.zero_lt_one | omega) rfl rfl (Nat.le_of_ble_eq_true rfl) ⟨by decide, by decide⟩ ⟨rfl, rfl⟩ ⟨by decide, by decide⟩ ?_
              intro r88 S88 L88 R88 p88
              obtain ⟨rfl, rfl, rfl, rfl⟩ := p88
              first | with_reducible refine z_isubN C 91 dX9_passes_91 (by omega) ?_ | refine z_isub C 91 dX9_passes_91 ?_
              refine z_iload_n C 92 3 0 dX9_passes_92 rfl rfl ?_
              first | with_reducible refine z_iremN C 93 dX9_passes_93 (by omega) (by omega) (by omega) ?_ | refine z_irem C 93 dX9_passes_93 (fun z => h75 (by rw [z]; decide)) ?_
              first | with_reducible refine z_if_neB C 94 106 dX9_passes_94 (by decide) (fun h94 => ?_) (fun h94 => ?_) | with_reducible refine z_if_neN C 94 106 dX9_passes_94 (by decide) (by omega) (fun h94 => ?_) (fun h94 => ?_) | refine z_if_ne C 94 106 dX9_passes_94 (by decide) (fun h94 => ?_) (fun h94 => ?_)
              · have hnx := fPassF_n (T := (S 41 0)) (n := n) (q0 := (fPass0 (S 44 0) (S 41 0) n)) (p := i) (fun z => h94 z.2.2)
                refine z_iinc C 106 2 3 [(2, _), (3, _), (0, _), (1, _)] dX9_passes_106 rfl (by first | exact nI_1 _ | rfl) (by decide) rfl ?_
                refine z_goto C 109 48 dX9_passes_109 (by decide) ?_
                refine z_sub [(0, _), (1, _), (2, _)] [2, 3, 0] rfl ?_
                first
                | (refine z_mem (sA (sA S 49 K2) 44 (fPassF (S 41 0) n (fPass0 (S 44 0) (S 41 0) n) (i + 1)).2) (by simp only [sA_44_49, sA_sA]; rw [hnx]; rfl) ?_; exact ih48 (i + 1) _ _ (by omega) (by rw [hnx, ha]; rfl) ((hI.pass0 hn10).passF hn10 (i + 1)) (by omega))
                | (refine z_mem (sA (sA S 49 K) 44 (fPassF (S 41 0) n (fPass0 (S 44 0) (S 41 0) n) (i + 1)).2) (by rw [hnx]) ?_; exact ih48 (i + 1) _ _ (by omega) (by rw [hnx, ha]) ((hI.pass0 hn10).passF hn10 (i + 1)) (by omega))
              · have hnx := fPassF_y (T := (S 41 0)) (n := n) (q0 := (fPass0 (S 44 0) (S 41 0) n)) (p := i) ⟨h71, Int32.not_le.mp h75, h94⟩
                refine z_iload_n C 97 1 2 dX9_passes_97 rfl rfl ?_
                refine z_aload_n C 98 0 1 dX9_passes_98 rfl rfl ?_
                refine z_iload_n C 99 2 3 dX9_passes_99 rfl rfl ?_
                refine z_iconst (v := nI 1) C 100 dX9_passes_100 (by decide) ?_
                refine z_cVi0 C 101 dX9_passes_101 cv_X9_282 (c_X9_gets (n := n) hR hn hn10 (by first | exact hM | exact hi) (by omega)) rfl ⟨by decide, rfl⟩ (by first | assumption | exact Nat.zero_lt_one | omega) rfl rfl (Nat.le_of_ble_eq_true rfl) ⟨by decide, by decide⟩ ⟨rfl, rfl⟩ ⟨by decide, by decide⟩ ?_
                intro r101 S101 L101 R101 p101
                obtain ⟨rfl, ⟨K2, rfl⟩, rfl, rfl⟩ := p101
                first | with_reducible refine z_iaddN C 104 dX9_passes_104 ?_ | refine z_iadd C 104 dX9_passes_104 ?_
                refine z_istore_n C 105 1 [(1, _), (3, _), (0, _), (2, _)] dX9_passes_105 rfl (by decide) rfl ?_
                refine z_iinc C 106 2 3 [(2, _), (1, _), (3, _), (0, _)] dX9_passes_106 rfl (by first | exact nI_1 _ | rfl) (by decide) rfl ?_
                refine z_goto C 109 48 dX9_passes_109 (by decide) ?_
                refine z_sub [(0, _), (1, _), (2, _)] [3, 1, 0] rfl ?_
                first
                | (refine z_mem (sA (sA S 49 K2) 44 (fPassF (S 41 0) n (fPass0 (S 44 0) (S 41 0) n) (i + 1)).2) (by simp only [sA_44_49, sA_sA]; rw [hnx]; rfl) ?_; exact ih48 (i + 1) _ _ (by omega) (by rw [hnx, ha]; rfl) ((hI.pass0 hn10).passF hn10 (i + 1)) (by omega))
                | (refine z_mem (sA (sA S 49 K) 44 (fPassF (S 41 0) n (fPass0 (S 44 0) (S 41 0) n) (i + 1)).2) (by rw [hnx]) ?_; exact ih48 (i + 1) _ _ (by omega) (by rw [hnx, ha]) ((hI.pass0 hn10).passF hn10 (i + 1)) (by omega))
    refine z_sub [(0, _), (1, _), (2, _)] [2, 1, 0] rfl ?_
    first
    | (refine z_mem (sA (sA S 49 K2) 44 (fPassF (S 41 0) n (fPass0 (S 44 0) (S 41 0) n) 0).2) (by simp only [sA_44_49, sA_sA]; show _ = sA (sA S 49 K2) 44 (fPass0 (S 44 0) (S 41 0) n).2; rw [hp0]; rfl) ?_; exact loop_48 (n + 1) 0 _ _ (Nat.zero_le _) (by show _ = (fPass0 (S 44 0) (S 41 0) n).1; rw [hp0, Nat.zero_add]; rfl) (hI.pass0 hn10) (by omega))
    | (refine z_mem (sA (sA S 49 (S 49 0)) 44 (fPassF (S 41 0) n (fPass0 (S 44 0) (S 41 0) n) 0).2) (by rw [sA_id]; show _ = sA S 44 (fPass0 (S 44 0) (S 41 0) n).2; rw [hp0]) ?_; exact loop_48 (n + 1) 0 _ _ (Nat.zero_le _) (by show _ = (fPass0 (S 44 0) (S 41 0) n).1; rw [hp0]) (hI.pass0 hn10) (by omega))
