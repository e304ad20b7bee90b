def cpj (k j : Nat) : Prop := match k with | 12 => j = 1 | 17 => j < 2 | 22 => j < 2 | 25 => 5 ≤ j ∧ j < 8 | _ => mrg k j
theorem AB.copy {S S2 : mS} {q v n : Nat} {N : NN} (h : AB S q N n) (e : ∀ k j, 12 ≤ k → k ≤ 30 → cpj k j → S2 k v j = S k q j) : AB S2 v N n := by
  obtain ⟨⟨r1, r2⟩, ⟨b1, b2, b3, b4, b5⟩, u, ⟨x, kk, x1, x2, x3, x4, x5, x6, x7⟩, p1, p2, p3, p4⟩ := h
  refine ⟨⟨?_, fun p hp => ?_⟩, ⟨?_, ?_, fun p hp => ?_, fun p t g hp hg ht hg4 => ?_, fun a b ha hb => ?_⟩, fun p hp => ?_, ⟨x, kk, x1, x2, ?_, ?_, x5, fun e' t he ht => ?_, fun w hw => ?_⟩, ⟨?_, ?_, ?_, fun p hp => ?_⟩⟩
  · rw [e 12 1 (by omega) (by omega) rfl]; exact r1
  · rw [e 13 p (by omega) (by omega) hp, e 14 p (by omega) (by omega) hp, e 15 p (by omega) (by omega) hp, e 16 p (by omega) (by omega) hp]; exact r2 p hp
  · rw [e 17 0 (by omega) (by omega) (show 0 < 2 by omega)]; exact b1
  · rw [e 17 1 (by omega) (by omega) (show 1 < 2 by omega)]; exact b2
  · rw [e 19 p (by omega) (by omega) hp]; exact b3 p hp
  · rw [e 20 (p * 4 + t) (by omega) (by omega) (show p * 4 + t < 40 by omega)]; exact b4 p t g hp hg ht hg4
  · rw [e 21 (a * 10 + b) (by omega) (by omega) (show a * 10 + b < 100 by omega)]; exact b5 a b ha hb
  · rw [e 18 p (by omega) (by omega) hp]; exact u p hp
  · rw [e 22 1 (by omega) (by omega) (show 1 < 2 by omega)]; exact x3
  · rw [e 22 0 (by omega) (by omega) (show 0 < 2 by omega)]; exact x4
  · rw [e 23 _ (by omega) (by omega) (show _ < 72 by omega)]; exact x6 e' t he ht
  · rw [e 24 w (by omega) (by omega) hw]; exact x7 w hw
  · rw [e 25 5 (by omega) (by omega) (show 5 ≤ 5 ∧ 5 < 8 by omega)]; exact p1
  · rw [e 25 6 (by omega) (by omega) (show 5 ≤ 6 ∧ 6 < 8 by omega)]; exact p2
  · rw [e 25 7 (by omega) (by omega) (show 5 ≤ 7 ∧ 7 < 8 by omega)]; exact p3
  · rw [e 26 p (by omega) (by omega) hp, e 27 p (by omega) (by omega) hp, e 28 p (by omega) (by omega) hp, e 29 p (by omega) (by omega) hp]
    obtain ⟨g3, g4, g5, g15, g30⟩ := p4 p hp
    refine ⟨g3, g4, g5, g15, fun t w hw ht hw5 => ?_⟩
    rw [e 30 (p * 5 + t) (by omega) (by omega) (show p * 5 + t < 50 by omega)]
    exact g30 t w hw ht hw5
def pCopy0 (S : mS) (q v : Nat) : mS := up3 S 25 v 5 (S 25 q 5)
def pCopy1 (S : mS) (q v : Nat) : mS := up3 S 25 v 6 (S 25 q 6)
def pCopy2 (S : mS) (q v : Nat) : mS := up3 S 25 v 7 (S 25 q 7)
def pCopy (S : mS) (q v : Nat) : mS := mcp (mcp (mcp (mcp (mcp (pCopy2 (pCopy1 (pCopy0 (jCopy (hCopy (rCopy S q v) q v) q v) q v) q v) q v) 26 q 0 26 v 0 10) 27 q 0 27 v 0 10) 28 q 0 28 v 0 10) 29 q 0 29 v 0 10) 30 q 0 30 v 0 50
theorem pCopy_v {S : mS} {q v k j : Nat} (hne : q ≠ v) (h1 : 12 ≤ k) (h2 : k ≤ 30) (hj : cpj k j) : pCopy S q v k v j = S k q j := by
  simp only [pCopy, pCopy0, pCopy1, pCopy2, mcp, up3, jCopy, hCopy, rCopy, true_and, Nat.zero_add, Nat.zero_le, Nat.sub_zero, hne, and_false, false_and, if_false, and_true]
  rcases (show k = 12 ∨ k = 13 ∨ k = 14 ∨ k = 15 ∨ k = 16 ∨ k = 17 ∨ k = 18 ∨ k = 19 ∨ k = 20 ∨ k = 21 ∨ k = 22 ∨ k = 23 ∨ k = 24 ∨ k = 25 ∨ k = 26 ∨ k = 27 ∨ k = 28 ∨ k = 29 ∨ k = 30 by omega) with rfl | rfl | rfl | rfl | rfl | rfl | rfl | rfl | rfl | rfl | rfl | rfl | rfl | rfl | rfl | rfl | rfl | rfl | rfl
  all_goals simp [cpj, mrg, msh] at hj ⊢
  all_goals first | done | (simp [hj]; done) | (intros; first | omega | simp_all)
  rcases (show j = 5 ∨ j = 6 ∨ j = 7 by omega) with rfl | rfl | rfl <;> simp
theorem pCopy_n {S : mS} {q v : Nat} : FP S (pCopy S q v) v := by
  intro k i hn
  funext j
  simp only [pCopy, pCopy0, pCopy1, pCopy2, mcp, up3, jCopy, hCopy, rCopy]
  by_cases hi : i = v
  · subst hi
    repeat rw [if_neg (by omega)]
  · simp [hi]
theorem min10 {u : Nat} (h : u ≤ 10) : (if nI 10 < nI (u + 1) then nI 10 else nI (u + 1)) = nI (if u = 10 then 10 else u + 1) := by
  by_cases e : u = 10
  · subst e
    rw [if_pos rfl, if_pos (nI_lt (by omega) (by omega))]
  · rw [if_neg e, if_neg (nI_nlt (by omega) (by omega))]

def rm_X4_copyFrom : Room := { frames := 2, cells := 0, slots := 0, locals := 82 }
set_option maxHeartbeats 4000000 in
set_option maxRecDepth 100000 in
theorem c_X4_copyFrom {l : Launch} {G : mG} {ad : mA} {S : mS} {L : mL} {R : mR} {N : NN} {n q v d : Nat} (hR : mlk R) (hv : v < 15) (hq : q < 15) (hne : q ≠ v) (hd1 : R 25 q 1 = some (3, d)) (hd2 : R 12 q 0 = some (3, d)) (hB : AB S q N n) (hI : rI N n) : Kv l yX4_copyFrom cX4_copyFrom 2 rm_X4_copyFrom G ad mdm [.ref (ad 25 v), .ref (ad 25 q)] S L R (fun S2 L2 R2 => AB S2 v N n ∧ FP S S2 v ∧ L = L2 ∧ (up3 (up3 R 25 v 1 (some (3, d))) 12 v 0 (some (3, d))) = R2) := by
  refine Kv.of RX4 (by decide) rfl (Nat.le_of_ble_eq_true rfl) ?_
  intro X hXl hXG C ret
  subst hXl; subst hXG
  change Z X 2 ad mdm S L R 0 0 0 [(0, _), (1, _)] []
  refine z_aload_n C 0 0 0 dX4_copyFrom_0 rfl rfl ?_
  refine z_aload_n C 1 1 1 dX4_copyFrom_1 rfl rfl ?_
  refine z_getr C 2 dX4_copyFrom_2 gf_X4_57 rfl (by first | assumption | exact Nat.zero_lt_one | exact (show (15 : Nat) < 16 by decide) | exact Nat.lt_succ_of_lt (by assumption) | omega) (by first | exact hR2 _ _ _ _ rfl | exact hR1 _ _ _ _ rfl | exact hR _ _ _ _ rfl | assumption) ?_
  refine z_putr C 5 dX4_copyFrom_5 gf_X4_57 ⟨rfl, fun _ => ⟨rfl, rfl⟩⟩ rfl (by first | assumption | exact Nat.zero_lt_one | exact (show (15 : Nat) < 16 by decide) | exact Nat.lt_succ_of_lt (by assumption) | omega) ?_
  have hR1 : mlk (up3 R 25 v 1 (some (3, d))) := hR.up rfl
  have hR2 : mlk (up3 (up3 R 25 v 1 (some (3, d))) 12 v 0 (some (3, d))) := hR1.up rfl
  refine z_aload_n C 8 0 0 dX4_copyFrom_8 rfl rfl ?_
  refine z_getr C 9 dX4_copyFrom_9 gf_X4_50 rfl (by first | assumption | exact Nat.zero_lt_one | exact (show (15 : Nat) < 16 by decide) | exact Nat.lt_succ_of_lt (by assumption) | omega) (by first | exact hR2 _ _ _ _ rfl | exact hR1 _ _ _ _ rfl | exact hR _ _ _ _ rfl | assumption) ?_
  refine z_aload_n C 12 1 1 dX4_copyFrom_12 rfl rfl ?_
  refine z_getr C 13 dX4_copyFrom_13 gf_X4_50 rfl (by first | assumption | exact Nat.zero_lt_one | exact (show (15 : Nat) < 16 by decide) | exact Nat.lt_succ_of_lt (by assumption) | omega) (by first | exact hR2 _ _ _ _ rfl | exact hR1 _ _ _ _ rfl | exact hR _ _ _ _ rfl | assumption) ?_
  refine z_cVv0 C 16 dX4_copyFrom_16 cv_X4_84 (c_X6_copyFrom (q := q) (r := v) (d := d) hR1 (by omega) (by omega) hne hd2 (fun j hj => by rw [(hB.1.2 j hj).2.2.2]; exact hI.2.2.2.2.2.2.1 j hj)) rfl ⟨by decide, rfl⟩ (by first | assumption | exact Nat.zero_lt_one | exact (show (15 : Nat) < 16 by decide) | exact Nat.lt_succ_of_lt (by assumption) | omega) rfl rfl (Nat.le_of_ble_eq_true rfl) ⟨by decide, by decide⟩ ⟨rfl, rfl⟩ ⟨by decide, by decide⟩ ?_
  intro S16 L16 R16 p16
  obtain ⟨rfl, rfl, rfl⟩ := p16
  refine z_aload_n C 19 0 0 dX4_copyFrom_19 rfl rfl ?_
  refine z_getr C 20 dX4_copyFrom_20 gf_X4_12 rfl (by first | assumption | exact Nat.zero_lt_one | exact (show (15 : Nat) < 16 by decide) | exact Nat.lt_succ_of_lt (by assumption) | omega) (by first | exact hR2 _ _ _ _ rfl | exact hR1 _ _ _ _ rfl | exact hR _ _ _ _ rfl | assumption) ?_
  refine z_aload_n C 23 1 1 dX4_copyFrom_23 rfl rfl ?_
  refine z_getr C 24 dX4_copyFrom_24 gf_X4_12 rfl (by first | assumption | exact Nat.zero_lt_one | exact (show (15 : Nat) < 16 by decide) | exact Nat.lt_succ_of_lt (by assumption) | omega) (by first | exact hR2 _ _ _ _ rfl | exact hR1 _ _ _ _ rfl | exact hR _ _ _ _ rfl | assumption) ?_
  refine z_cVv0 C 27 dX4_copyFrom_27 cv_X4_88 (c_X1_copyFrom hR2 hv hq hne) rfl ⟨by decide, rfl⟩ (by first | assumption | exact Nat.zero_lt_one | exact (show (15 : Nat) < 16 by decide) | exact Nat.lt_succ_of_lt (by assumption) | omega) rfl rfl (Nat.le_of_ble_eq_true rfl) ⟨by decide, by decide⟩ ⟨rfl, rfl⟩ ⟨by decide, by decide⟩ ?_
  intro S27 L27 R27 p27
  obtain ⟨rfl, rfl, rfl⟩ := p27
  refine z_aload_n C 30 0 0 dX4_copyFrom_30 rfl rfl ?_
  refine z_getr C 31 dX4_copyFrom_31 gf_X4_21 rfl (by first | assumption | exact Nat.zero_lt_one | exact (show (15 : Nat) < 16 by decide) | exact Nat.lt_succ_of_lt (by assumption) | omega) (by first | exact hR2 _ _ _ _ rfl | exact hR1 _ _ _ _ rfl | exact hR _ _ _ _ rfl | assumption) ?_
  refine z_aload_n C 34 1 1 dX4_copyFrom_34 rfl rfl ?_
  refine z_getr C 35 dX4_copyFrom_35 gf_X4_21 rfl (by first | assumption | exact Nat.zero_lt_one | exact (show (15 : Nat) < 16 by decide) | exact Nat.lt_succ_of_lt (by assumption) | omega) (by first | exact hR2 _ _ _ _ rfl | exact hR1 _ _ _ _ rfl | exact hR _ _ _ _ rfl | assumption) ?_
  refine z_cVv0 C 38 dX4_copyFrom_38 cv_X4_91 (c_X3_copyFrom hR2 hv hq hne) rfl ⟨by decide, rfl⟩ (by first | assumption | exact Nat.zero_lt_one | exact (show (15 : Nat) < 16 by decide) | exact Nat.lt_succ_of_lt (by assumption) | omega) rfl rfl (Nat.le_of_ble_eq_true rfl) ⟨by decide, by decide⟩ ⟨rfl, rfl⟩ ⟨by decide, by decide⟩ ?_
  intro S38 L38 R38 p38
  obtain ⟨rfl, rfl, rfl⟩ := p38
  refine z_aload_n C 41 0 0 dX4_copyFrom_41 rfl rfl ?_
  refine z_aload_n C 42 1 1 dX4_copyFrom_42 rfl rfl ?_
  refine z_geti C 43 dX4_copyFrom_43 gf_X4_65 rfl (by first | assumption | exact Nat.zero_lt_one | exact (show (15 : Nat) < 16 by decide) | exact Nat.lt_succ_of_lt (by assumption) | omega) ?_
  refine z_puti C 46 dX4_copyFrom_46 gf_X4_65 ⟨rfl, rfl⟩ rfl (by first | assumption | exact Nat.zero_lt_one | exact (show (15 : Nat) < 16 by decide) | exact Nat.lt_succ_of_lt (by assumption) | omega) ?_
  change Z X _ ad mdm (pCopy0 _ q v) _ _ _ _ _ _ _
  refine z_aload_n C 49 0 0 dX4_copyFrom_49 rfl rfl ?_
  refine z_aload_n C 50 1 1 dX4_copyFrom_50 rfl rfl ?_
  refine z_geti C 51 dX4_copyFrom_51 gf_X4_74 rfl (by first | assumption | exact Nat.zero_lt_one | exact (show (15 : Nat) < 16 by decide) | exact Nat.lt_succ_of_lt (by assumption) | omega) ?_
  refine z_puti C 54 dX4_copyFrom_54 gf_X4_74 ⟨rfl, rfl⟩ rfl (by first | assumption | exact Nat.zero_lt_one | exact (show (15 : Nat) < 16 by decide) | exact Nat.lt_succ_of_lt (by assumption) | omega) ?_
  change Z X _ ad mdm (pCopy1 _ q v) _ _ _ _ _ _ _
  refine z_aload_n C 57 0 0 dX4_copyFrom_57 rfl rfl ?_
  refine z_aload_n C 58 1 1 dX4_copyFrom_58 rfl rfl ?_
  refine z_geti C 59 dX4_copyFrom_59 gf_X4_75 rfl (by first | assumption | exact Nat.zero_lt_one | exact (show (15 : Nat) < 16 by decide) | exact Nat.lt_succ_of_lt (by assumption) | omega) ?_
  refine z_puti C 62 dX4_copyFrom_62 gf_X4_75 ⟨rfl, rfl⟩ rfl (by first | assumption | exact Nat.zero_lt_one | exact (show (15 : Nat) < 16 by decide) | exact Nat.lt_succ_of_lt (by assumption) | omega) ?_
  change Z X _ ad mdm (pCopy2 _ q v) _ _ _ _ _ _ _
  refine z_aload_n C 65 1 1 dX4_copyFrom_65 rfl rfl ?_
  refine z_getr C 66 dX4_copyFrom_66 gf_X4_25 rfl (by first | assumption | exact Nat.zero_lt_one | exact (show (15 : Nat) < 16 by decide) | exact Nat.lt_succ_of_lt (by assumption) | omega) (by first | exact hR2 _ _ _ _ rfl | exact hR1 _ _ _ _ rfl | exact hR _ _ _ _ rfl | assumption) ?_
  refine z_iconst (v := nI 0) C 69 dX4_copyFrom_69 (by decide) ?_
  refine z_aload_n C 70 0 0 dX4_copyFrom_70 rfl rfl ?_
  refine z_getr C 71 dX4_copyFrom_71 gf_X4_25 rfl (by first | assumption | exact Nat.zero_lt_one | exact (show (15 : Nat) < 16 by decide) | exact Nat.lt_succ_of_lt (by assumption) | omega) (by first | exact hR2 _ _ _ _ rfl | exact hR1 _ _ _ _ rfl | exact hR _ _ _ _ rfl | assumption) ?_
  refine z_iconst (v := nI 0) C 74 dX4_copyFrom_74 (by decide) ?_
  refine z_aload_n C 75 0 0 dX4_copyFrom_75 rfl rfl ?_
  refine z_getr C 76 dX4_copyFrom_76 gf_X4_25 rfl (by first | assumption | exact Nat.zero_lt_one | exact (show (15 : Nat) < 16 by decide) | exact Nat.lt_succ_of_lt (by assumption) | omega) (by first | exact hR2 _ _ _ _ rfl | exact hR1 _ _ _ _ rfl | exact hR _ _ _ _ rfl | assumption) ?_
  refine z_alen C 79 dX4_copyFrom_79 rfl (by decide) (by decide) (by first | assumption | exact Nat.zero_lt_one | exact (show (15 : Nat) < 16 by decide) | exact Nat.lt_succ_of_lt (by assumption) | omega) ?_
  refine z_copy C 80 dX4_copyFrom_80 lj_X4_94 rfl rfl (by first | assumption | exact Nat.zero_lt_one | exact (show (15 : Nat) < 16 by decide) | exact Nat.lt_succ_of_lt (by assumption) | omega) (by first | assumption | exact Nat.zero_lt_one | exact (show (15 : Nat) < 16 by decide) | exact Nat.lt_succ_of_lt (by assumption) | omega) (by first | rfl | assumption) (by first | rfl | assumption) (by first | rfl | assumption) (by decide) (by decide) (by omega) (by omega) (Nat.le_of_ble_eq_true rfl) ⟨by decide, by decide⟩ ?_
  refine z_aload_n C 83 1 1 dX4_copyFrom_83 rfl rfl ?_
  refine z_getr C 84 dX4_copyFrom_84 gf_X4_29 rfl (by first | assumption | exact Nat.zero_lt_one | exact (show (15 : Nat) < 16 by decide) | exact Nat.lt_succ_of_lt (by assumption) | omega) (by first | exact hR2 _ _ _ _ rfl | exact hR1 _ _ _ _ rfl | exact hR _ _ _ _ rfl | assumption) ?_
  refine z_iconst (v := nI 0) C 87 dX4_copyFrom_87 (by decide) ?_
  refine z_aload_n C 88 0 0 dX4_copyFrom_88 rfl rfl ?_
  refine z_getr C 89 dX4_copyFrom_89 gf_X4_29 rfl (by first | assumption | exact Nat.zero_lt_one | exact (show (15 : Nat) < 16 by decide) | exact Nat.lt_succ_of_lt (by assumption) | omega) (by first | exact hR2 _ _ _ _ rfl | exact hR1 _ _ _ _ rfl | exact hR _ _ _ _ rfl | assumption) ?_
  refine z_iconst (v := nI 0) C 92 dX4_copyFrom_92 (by decide) ?_
  refine z_aload_n C 93 0 0 dX4_copyFrom_93 rfl rfl ?_
  refine z_getr C 94 dX4_copyFrom_94 gf_X4_29 rfl (by first | assumption | exact Nat.zero_lt_one | exact (show (15 : Nat) < 16 by decide) | exact Nat.lt_succ_of_lt (by assumption) | omega) (by first | exact hR2 _ _ _ _ rfl | exact hR1 _ _ _ _ rfl | exact hR _ _ _ _ rfl | assumption) ?_
  refine z_alen C 97 dX4_copyFrom_97 rfl (by decide) (by decide) (by first | assumption | exact Nat.zero_lt_one | exact (show (15 : Nat) < 16 by decide) | exact Nat.lt_succ_of_lt (by assumption) | omega) ?_
  refine z_copy C 98 dX4_copyFrom_98 lj_X4_94 rfl rfl (by first | assumption | exact Nat.zero_lt_one | exact (show (15 : Nat) < 16 by decide) | exact Nat.lt_succ_of_lt (by assumption) | omega) (by first | assumption | exact Nat.zero_lt_one | exact (show (15 : Nat) < 16 by decide) | exact Nat.lt_succ_of_lt (by assumption) | omega) (by first | rfl | assumption) (by first | rfl | assumption) (by first | rfl | assumption) (by decide) (by decide) (by omega) (by omega) (Nat.le_of_ble_eq_true rfl) ⟨by decide, by decide⟩ ?_
  refine z_aload_n C 101 1 1 dX4_copyFrom_101 rfl rfl ?_
  refine z_getr C 102 dX4_copyFrom_102 gf_X4_32 rfl (by first | assumption | exact Nat.zero_lt_one | exact (show (15 : Nat) < 16 by decide) | exact Nat.lt_succ_of_lt (by assumption) | omega) (by first | exact hR2 _ _ _ _ rfl | exact hR1 _ _ _ _ rfl | exact hR _ _ _ _ rfl | assumption) ?_
  refine z_iconst (v := nI 0) C 105 dX4_copyFrom_105 (by decide) ?_
  refine z_aload_n C 106 0 0 dX4_copyFrom_106 rfl rfl ?_
  refine z_getr C 107 dX4_copyFrom_107 gf_X4_32 rfl (by first | assumption | exact Nat.zero_lt_one | exact (show (15 : Nat) < 16 by decide) | exact Nat.lt_succ_of_lt (by assumption) | omega) (by first | exact hR2 _ _ _ _ rfl | exact hR1 _ _ _ _ rfl | exact hR _ _ _ _ rfl | assumption) ?_
  refine z_iconst (v := nI 0) C 110 dX4_copyFrom_110 (by decide) ?_
  refine z_aload_n C 111 0 0 dX4_copyFrom_111 rfl rfl ?_
  refine z_getr C 112 dX4_copyFrom_112 gf_X4_32 rfl (by first | assumption | exact Nat.zero_lt_one | exact (show (15 : Nat) < 16 by decide) | exact Nat.lt_succ_of_lt (by assumption) | omega) (by first | exact hR2 _ _ _ _ rfl | exact hR1 _ _ _ _ rfl | exact hR _ _ _ _ rfl | assumption) ?_
  refine z_alen C 115 dX4_copyFrom_115 rfl (by decide) (by decide) (by first | assumption | exact Nat.zero_lt_one | exact (show (15 : Nat) < 16 by decide) | exact Nat.lt_succ_of_lt (by assumption) | omega) ?_
  refine z_copy C 116 dX4_copyFrom_116 lj_X4_94 rfl rfl (by first | assumption | exact Nat.zero_lt_one | exact (show (15 : Nat) < 16 by decide) | exact Nat.lt_succ_of_lt (by assumption) | omega) (by first | assumption | exact Nat.zero_lt_one | exact (show (15 : Nat) < 16 by decide) | exact Nat.lt_succ_of_lt (by assumption) | omega) (by first | rfl | assumption) (by first | rfl | assumption) (by first | rfl | assumption) (by decide) (by decide) (by omega) (by omega) (Nat.le_of_ble_eq_true rfl) ⟨by decide, by decide⟩ ?_
  refine z_aload_n C 119 1 1 dX4_copyFrom_119 rfl rfl ?_
  refine z_getr C 120 dX4_copyFrom_120 gf_X4_35 rfl (by first | assumption | exact Nat.zero_lt_one | exact (show (15 : Nat) < 16 by decide) | exact Nat.lt_succ_of_lt (by assumption) | omega) (by first | exact hR2 _ _ _ _ rfl | exact hR1 _ _ _ _ rfl | exact hR _ _ _ _ rfl | assumption) ?_
  refine z_iconst (v := nI 0) C 123 dX4_copyFrom_123 (by decide) ?_
  refine z_aload_n C 124 0 0 dX4_copyFrom_124 rfl rfl ?_
  refine z_getr C 125 dX4_copyFrom_125 gf_X4_35 rfl (by first | assumption | exact Nat.zero_lt_one | exact (show (15 : Nat) < 16 by decide) | exact Nat.lt_succ_of_lt (by assumption) | omega) (by first | exact hR2 _ _ _ _ rfl | exact hR1 _ _ _ _ rfl | exact hR _ _ _ _ rfl | assumption) ?_
  refine z_iconst (v := nI 0) C 128 dX4_copyFrom_128 (by decide) ?_
  refine z_aload_n C 129 0 0 dX4_copyFrom_129 rfl rfl ?_
  refine z_getr C 130 dX4_copyFrom_130 gf_X4_35 rfl (by first | assumption | exact Nat.zero_lt_one | exact (show (15 : Nat) < 16 by decide) | exact Nat.lt_succ_of_lt (by assumption) | omega) (by first | exact hR2 _ _ _ _ rfl | exact hR1 _ _ _ _ rfl | exact hR _ _ _ _ rfl | assumption) ?_
  refine z_alen C 133 dX4_copyFrom_133 rfl (by decide) (by decide) (by first | assumption | exact Nat.zero_lt_one | exact (show (15 : Nat) < 16 by decide) | exact Nat.lt_succ_of_lt (by assumption) | omega) ?_
  refine z_copy C 134 dX4_copyFrom_134 lj_X4_94 rfl rfl (by first | assumption | exact Nat.zero_lt_one | exact (show (15 : Nat) < 16 by decide) | exact Nat.lt_succ_of_lt (by assumption) | omega) (by first | assumption | exact Nat.zero_lt_one | exact (show (15 : Nat) < 16 by decide) | exact Nat.lt_succ_of_lt (by assumption) | omega) (by first | rfl | assumption) (by first | rfl | assumption) (by first | rfl | assumption) (by decide) (by decide) (by omega) (by omega) (Nat.le_of_ble_eq_true rfl) ⟨by decide, by decide⟩ ?_
  refine z_aload_n C 137 1 1 dX4_copyFrom_137 rfl rfl ?_
  refine z_getr C 138 dX4_copyFrom_138 gf_X4_38 rfl (by first | assumption | exact Nat.zero_lt_one | exact (show (15 : Nat) < 16 by decide) | exact Nat.lt_succ_of_lt (by assumption) | omega) (by first | exact hR2 _ _ _ _ rfl | exact hR1 _ _ _ _ rfl | exact hR _ _ _ _ rfl | assumption) ?_
  refine z_iconst (v := nI 0) C 141 dX4_copyFrom_141 (by decide) ?_
  refine z_aload_n C 142 0 0 dX4_copyFrom_142 rfl rfl ?_
  refine z_getr C 143 dX4_copyFrom_143 gf_X4_38 rfl (by first | assumption | exact Nat.zero_lt_one | exact (show (15 : Nat) < 16 by decide) | exact Nat.lt_succ_of_lt (by assumption) | omega) (by first | exact hR2 _ _ _ _ rfl | exact hR1 _ _ _ _ rfl | exact hR _ _ _ _ rfl | assumption) ?_
  refine z_iconst (v := nI 0) C 146 dX4_copyFrom_146 (by decide) ?_
  refine z_aload_n C 147 0 0 dX4_copyFrom_147 rfl rfl ?_
  refine z_getr C 148 dX4_copyFrom_148 gf_X4_38 rfl (by first | assumption | exact Nat.zero_lt_one | exact (show (15 : Nat) < 16 by decide) | exact Nat.lt_succ_of_lt (by assumption) | omega) (by first | exact hR2 _ _ _ _ rfl | exact hR1 _ _ _ _ rfl | exact hR _ _ _ _ rfl | assumption) ?_
  refine z_alen C 151 dX4_copyFrom_151 rfl (by decide) (by decide) (by first | assumption | exact Nat.zero_lt_one | exact (show (15 : Nat) < 16 by decide) | exact Nat.lt_succ_of_lt (by assumption) | omega) ?_
  refine z_copy C 152 dX4_copyFrom_152 lj_X4_94 rfl rfl (by first | assumption | exact Nat.zero_lt_one | exact (show (15 : Nat) < 16 by decide) | exact Nat.lt_succ_of_lt (by assumption) | omega) (by first | assumption | exact Nat.zero_lt_one | exact (show (15 : Nat) < 16 by decide) | exact Nat.lt_succ_of_lt (by assumption) | omega) (by first | rfl | assumption) (by first | rfl | assumption) (by first | rfl | assumption) (by decide) (by decide) (by omega) (by omega) (Nat.le_of_ble_eq_true rfl) ⟨by decide, by decide⟩ ?_
  exact ret 155 _ _ _ _ dX4_copyFrom_155 (⟨hB.copy (fun k j h1 h2 hj => pCopy_v hne h1 h2 hj), pCopy_n, rfl, rfl⟩)
def rm_X2_clear : Room := { frames := 0, cells := 0, slots := 0, locals := 0 }
set_option maxHeartbeats 4000000 in
set_option maxRecDepth 100000 in
theorem c_X2_clear {l : Launch} {G : mG} {ad : mA} {S : mS} {L : mL} {R : mR}  (hR : mlk R) : Kv l yX2_clear cX2_clear 1 rm_X2_clear G ad mdm [.ref (ad 31 0)] S L R (fun S2 L2 R2 => up3 S 31 0 2 (nI 0) = S2 ∧ L = L2 ∧ R = R2) := by
  refine Kv.of RX2 (by decide) rfl (Nat.le_of_ble_eq_true rfl) ?_
  intro X hXl hXG C ret
  subst hXl; subst hXG
  change Z X 1 ad mdm S L R 0 0 0 [(0, _)] []
  refine z_aload_n C 0 0 0 dX2_clear_0 rfl rfl ?_
  refine z_iconst (v := nI 0) C 1 dX2_clear_1 (by decide) ?_
  refine z_puti C 2 dX2_clear_2 gf_X2_21 ⟨rfl, rfl⟩ rfl (by first | assumption | exact Nat.zero_lt_one | exact (show (15 : Nat) < 16 by decide) | exact Nat.lt_succ_of_lt (by assumption) | omega) ?_
  exact ret 5 _ _ _ _ dX2_clear_5 (⟨rfl, rfl, rfl⟩)
def rm_X2_keep : Room := { frames := 1, cells := 0, slots := 0, locals := 21 }
set_option maxHeartbeats 4000000 in
set_option maxRecDepth 100000 in
theorem c_X2_keep {l : Launch} {G : mG} {ad : mA} {S : mS} {L : mL} {R : mR} {a b x u : Nat} (hR : mlk R) (ha : a < 15) (hb : b < 15) (hx : S 31 0 1 = nI x) (hx10 : x < 10) (hu : S 31 0 2 = nI u) (hu10 : u ≤ 10) (hr : R 32 0 x = some (25, b)) : Kr l yX2_keep cX2_keep 3 (.object "PhoneMemory$Phone") rm_X2_keep G ad mdm [.ref (ad 31 0), .ref (ad 25 a)] S L R (fun r_ S2 L2 R2 => r_ = (25, b) ∧ up3 (up3 S 31 0 1 (nI ((x + 1) % 10))) 31 0 2 (nI (if u = 10 then 10 else u + 1)) = S2 ∧ L = L2 ∧ up3 R 32 0 x (some (25, a)) = R2) := by
  refine Kr.of RX2 (by decide) rfl (Nat.le_of_ble_eq_true rfl) (Or.inl ⟨_, rfl⟩) ?_
  intro X hXl hXG C ret
  subst hXl; subst hXG
  change Z X 3 ad mdm S L R 0 0 0 [(0, _), (1, _)] []
  refine z_aload_n C 0 0 0 dX2_keep_0 rfl rfl ?_
  refine z_getr C 1 dX2_keep_1 gf_X2_11 rfl (by first | assumption | exact Nat.zero_lt_one | exact (show (15 : Nat) < 16 by decide) | exact Nat.lt_succ_of_lt (by assumption) | omega) (by first | exact hR _ _ _ _ rfl | exact hR2 _ _ _ _ rfl | assumption) ?_
  refine z_aload_n C 4 0 0 dX2_keep_4 rfl rfl ?_
  refine z_getiv C 5 dX2_keep_5 gf_X2_17 rfl (by first | assumption | exact Nat.zero_lt_one | exact (show (15 : Nat) < 16 by decide) | exact Nat.lt_succ_of_lt (by assumption) | omega) hx ?_
  refine z_aald5 C 8 dX2_keep_8 rfl (by first | assumption | exact Nat.zero_lt_one | exact (show (15 : Nat) < 16 by decide) | exact Nat.lt_succ_of_lt (by assumption) | omega) (by first | rfl | assumption) (by decide) (by first | assumption | omega) (by first | exact hR _ _ _ _ rfl | exact hR2 _ _ _ _ rfl | assumption) ?_
  refine z_astore_n C 9 2 [(2, _), (0, _), (1, _)] dX2_keep_9 rfl (by decide) rfl ?_
  refine z_aload_n C 10 0 1 dX2_keep_10 rfl rfl ?_
  refine z_getr C 11 dX2_keep_11 gf_X2_11 rfl (by first | assumption | exact Nat.zero_lt_one | exact (show (15 : Nat) < 16 by decide) | exact Nat.lt_succ_of_lt (by assumption) | omega) (by first | exact hR _ _ _ _ rfl | exact hR2 _ _ _ _ rfl | assumption) ?_
  refine z_aload_n C 14 0 1 dX2_keep_14 rfl rfl ?_
  refine z_getiv C 15 dX2_keep_15 gf_X2_17 rfl (by first | assumption | exact Nat.zero_lt_one | exact (show (15 : Nat) < 16 by decide) | exact Nat.lt_succ_of_lt (by assumption) | omega) hx ?_
  refine z_aload_n C 18 1 2 dX2_keep_18 rfl rfl ?_
  refine z_aast C 19 dX2_keep_19 (by first | rfl | assumption) (by first | assumption | exact Nat.zero_lt_one | exact (show (15 : Nat) < 16 by decide) | exact Nat.lt_succ_of_lt (by assumption) | omega) (by first | assumption | exact Nat.zero_lt_one | exact (show (15 : Nat) < 16 by decide) | exact Nat.lt_succ_of_lt (by assumption) | omega) (by first | rfl | assumption) (by first | decide | omega) (by first | assumption | omega) ?_
  have hR2 : mlk (up3 R 32 0 x (some (25, a))) := hR.up rfl
  refine z_aload_n C 20 0 1 dX2_keep_20 rfl rfl ?_
  refine z_aload_n C 21 0 1 dX2_keep_21 rfl rfl ?_
  refine z_getiv C 22 dX2_keep_22 gf_X2_17 rfl (by first | assumption | exact Nat.zero_lt_one | exact (show (15 : Nat) < 16 by decide) | exact Nat.lt_succ_of_lt (by assumption) | omega) hx ?_
  refine z_iconst (v := nI 1) C 25 dX2_keep_25 (by decide) ?_
  first | with_reducible refine z_iaddN C 26 dX2_keep_26 ?_ | refine z_iadd C 26 dX2_keep_26 ?_
  refine z_bipush (v := nI 10) C 27 dX2_keep_27 (by decide +kernel) ?_
  first | with_reducible refine z_iremN C 29 dX2_keep_29 (by omega) (by omega) (by omega) ?_ | refine z_irem C 29 dX2_keep_29 (by first | decide | assumption | exact nI_ne0 (by omega) (by omega)) ?_
  refine z_puti C 30 dX2_keep_30 gf_X2_17 ⟨rfl, rfl⟩ rfl (by first | assumption | exact Nat.zero_lt_one | exact (show (15 : Nat) < 16 by decide) | exact Nat.lt_succ_of_lt (by assumption) | omega) ?_
  refine z_aload_n C 33 0 1 dX2_keep_33 rfl rfl ?_
  refine z_aload_n C 34 0 1 dX2_keep_34 rfl rfl ?_
  refine z_getiv C 35 dX2_keep_35 gf_X2_21 rfl (by first | assumption | exact Nat.zero_lt_one | exact (show (15 : Nat) < 16 by decide) | exact Nat.lt_succ_of_lt (by assumption) | omega) ((up3_j S (by omega)).trans hu) ?_
  refine z_iconst (v := nI 1) C 38 dX2_keep_38 (by decide) ?_
  first | with_reducible refine z_iaddN C 39 dX2_keep_39 ?_ | refine z_iadd C 39 dX2_keep_39 ?_
  refine z_bipush (v := nI 10) C 40 dX2_keep_40 (by decide +kernel) ?_
  refine z_min C 42 dX2_keep_42 lj_X2_27 (Nat.le_of_ble_eq_true rfl) ⟨by decide, by decide⟩ ⟨by decide, by decide⟩ ?_
  rw [min10 hu10]
  refine z_puti C 45 dX2_keep_45 gf_X2_21 ⟨rfl, rfl⟩ rfl (by first | assumption | exact Nat.zero_lt_one | exact (show (15 : Nat) < 16 by decide) | exact Nat.lt_succ_of_lt (by assumption) | omega) ?_
  refine z_aload_n C 48 2 0 dX2_keep_48 rfl rfl ?_
  exact ret 49 _ _ _ _ _ _ dX2_keep_49 (⟨rfl, rfl, rfl, rfl⟩)
def rm_X2_takeBack : Room := { frames := 0, cells := 0, slots := 0, locals := 0 }
set_option maxHeartbeats 4000000 in
set_option maxRecDepth 100000 in
theorem c_X2_takeBack {l : Launch} {G : mG} {ad : mA} {S : mS} {L : mL} {R : mR} {a b x u : Nat} (hR : mlk R) (ha : a < 15) (hb : b < 15) (hx : S 31 0 1 = nI x) (hx10 : x < 10) (hu : S 31 0 2 = nI (u + 1)) (hu10 : u < 10) (hr : R 32 0 ((x + 9) % 10) = some (25, b)) : Kr l yX2_takeBack cX2_takeBack 3 (.object "PhoneMemory$Phone") rm_X2_takeBack G ad mdm [.ref (ad 31 0), .ref (ad 25 a)] S L R (fun r_ S2 L2 R2 => r_ = (25, b) ∧ up3 (up3 S 31 0 1 (nI ((x + 9) % 10))) 31 0 2 (nI u) = S2 ∧ L = L2 ∧ up3 R 32 0 ((x + 9) % 10) (some (25, a)) = R2) := by
  refine Kr.of RX2 (by decide) rfl (Nat.le_of_ble_eq_true rfl) (Or.inl ⟨_, rfl⟩) ?_
  intro X hXl hXG C ret
  subst hXl; subst hXG
  change Z X 3 ad mdm S L R 0 0 0 [(0, _), (1, _)] []
  refine z_aload_n C 0 0 0 dX2_takeBack_0 rfl rfl ?_
  refine z_aload_n C 1 0 0 dX2_takeBack_1 rfl rfl ?_
  refine z_getiv C 2 dX2_takeBack_2 gf_X2_17 rfl (by first | assumption | exact Nat.zero_lt_one | exact (show (15 : Nat) < 16 by decide) | exact Nat.lt_succ_of_lt (by assumption) | omega) hx ?_
  refine z_bipush (v := nI 10) C 5 dX2_takeBack_5 (by decide +kernel) ?_
  first | with_reducible refine z_iaddN C 7 dX2_takeBack_7 ?_ | refine z_iadd C 7 dX2_takeBack_7 ?_
  refine z_iconst (v := nI 1) C 8 dX2_takeBack_8 (by decide) ?_
  first | with_reducible refine z_isubN C 9 dX2_takeBack_9 (by omega) ?_ | refine z_isub C 9 dX2_takeBack_9 ?_
  refine z_bipush (v := nI 10) C 10 dX2_takeBack_10 (by decide +kernel) ?_
  first | with_reducible refine z_iremN C 12 dX2_takeBack_12 (by omega) (by omega) (by omega) ?_ | refine z_irem C 12 dX2_takeBack_12 (by first | decide | assumption | exact nI_ne0 (by omega) (by omega)) ?_
  rw [show x + 10 - 1 = x + 9 by omega]
  refine z_puti C 13 dX2_takeBack_13 gf_X2_17 ⟨rfl, rfl⟩ rfl (by first | assumption | exact Nat.zero_lt_one | exact (show (15 : Nat) < 16 by decide) | exact Nat.lt_succ_of_lt (by assumption) | omega) ?_
  refine z_aload_n C 16 0 0 dX2_takeBack_16 rfl rfl ?_
  refine z_dup C 17 dX2_takeBack_17 rfl ?_
  refine z_getiv C 18 dX2_takeBack_18 gf_X2_21 rfl (by first | assumption | exact Nat.zero_lt_one | exact (show (15 : Nat) < 16 by decide) | exact Nat.lt_succ_of_lt (by assumption) | omega) ((up3_j S (by omega)).trans hu) ?_
  refine z_iconst (v := nI 1) C 21 dX2_takeBack_21 (by decide) ?_
  first | with_reducible refine z_isubN C 22 dX2_takeBack_22 (by omega) ?_ | refine z_isub C 22 dX2_takeBack_22 ?_
  rw [show u + 1 - 1 = u by omega]
  refine z_puti C 23 dX2_takeBack_23 gf_X2_21 ⟨rfl, rfl⟩ rfl (by first | assumption | exact Nat.zero_lt_one | exact (show (15 : Nat) < 16 by decide) | exact Nat.lt_succ_of_lt (by assumption) | omega) ?_
  refine z_aload_n C 26 0 0 dX2_takeBack_26 rfl rfl ?_
  refine z_getr C 27 dX2_takeBack_27 gf_X2_11 rfl (by first | assumption | exact Nat.zero_lt_one | exact (show (15 : Nat) < 16 by decide) | exact Nat.lt_succ_of_lt (by assumption) | omega) (by first | exact hR _ _ _ _ rfl | exact hR2 _ _ _ _ rfl | assumption) ?_
  refine z_aload_n C 30 0 0 dX2_takeBack_30 rfl rfl ?_
  refine z_getiv C 31 dX2_takeBack_31 gf_X2_17 rfl (by first | assumption | exact Nat.zero_lt_one | exact (show (15 : Nat) < 16 by decide) | exact Nat.lt_succ_of_lt (by assumption) | omega) ((up3_j _ (by omega)).trans (up3_s _ _ _ _ _)) ?_
  refine z_aald5 C 34 dX2_takeBack_34 rfl (by first | assumption | exact Nat.zero_lt_one | exact (show (15 : Nat) < 16 by decide) | exact Nat.lt_succ_of_lt (by assumption) | omega) (by first | rfl | assumption) (by decide) (by first | assumption | omega) (by first | exact hR _ _ _ _ rfl | exact hR2 _ _ _ _ rfl | assumption) ?_
  refine z_astore_n C 35 2 [(2, _), (0, _), (1, _)] dX2_takeBack_35 rfl (by decide) rfl ?_
  refine z_aload_n C 36 0 1 dX2_takeBack_36 rfl rfl ?_
  refine z_getr C 37 dX2_takeBack_37 gf_X2_11 rfl (by first | assumption | exact Nat.zero_lt_one | exact (show (15 : Nat) < 16 by decide) | exact Nat.lt_succ_of_lt (by assumption) | omega) (by first | exact hR _ _ _ _ rfl | exact hR2 _ _ _ _ rfl | assumption) ?_
  refine z_aload_n C 40 0 1 dX2_takeBack_40 rfl rfl ?_
  refine z_getiv C 41 dX2_takeBack_41 gf_X2_17 rfl (by first | assumption | exact Nat.zero_lt_one | exact (show (15 : Nat) < 16 by decide) | exact Nat.lt_succ_of_lt (by assumption) | omega) ((up3_j _ (by omega)).trans (up3_s _ _ _ _ _)) ?_
  refine z_aload_n C 44 1 2 dX2_takeBack_44 rfl rfl ?_
  refine z_aast C 45 dX2_takeBack_45 (by first | rfl | assumption) (by first | assumption | exact Nat.zero_lt_one | exact (show (15 : Nat) < 16 by decide) | exact Nat.lt_succ_of_lt (by assumption) | omega) (by first | assumption | exact Nat.zero_lt_one | exact (show (15 : Nat) < 16 by decide) | exact Nat.lt_succ_of_lt (by assumption) | omega) (by first | rfl | assumption) (by first | decide | omega) (by first | assumption | omega) ?_
  refine z_aload_n C 46 2 0 dX2_takeBack_46 rfl rfl ?_
  exact ret 47 _ _ _ _ _ _ dX2_takeBack_47 (⟨rfl, rfl, rfl, rfl⟩)
