def rm_X6_copyFrom : Room := { frames := 1, cells := 0, slots := 0, locals := 60 }
set_option maxHeartbeats 4000000 in
set_option maxRecDepth 100000 in
theorem c_X6_copyFrom {l : Launch} {G : mG} {ad : mA} {S : mS} {L : mL} {R : mR} {q r d : Nat} (hR : mlk R) (hr : r < 16) (hq : q < 16) (hne : q ≠ r) (hdq : R 12 q 0 = some (3, d)) (hb : ∀ j, j < 10 → S 16 q j = 0 ∨ S 16 q j = 1) : Kv l yX6_copyFrom cX6_copyFrom 3 rm_X6_copyFrom G ad mdm [.ref (ad 12 r), .ref (ad 12 q)] S L R (fun S2 L2 R2 => rCopy S q r = S2 ∧ L = L2 ∧ up3 R 12 r 0 (some (3, d)) = R2) := by
  refine Kv.of RX6 (by decide) rfl (Nat.le_of_ble_eq_true rfl) ?_
  intro X hXl hXG C ret
  subst hXl; subst hXG
  change Z X 3 ad mdm S L R 0 0 0 [(0, _), (1, _)] []
  refine z_aload_n C 0 0 0 dX6_copyFrom_0 rfl rfl ?_
  refine z_aload_n C 1 1 1 dX6_copyFrom_1 rfl rfl ?_
  refine z_getr C 2 dX6_copyFrom_2 gf_X6_29 rfl (by first | assumption | exact Nat.zero_lt_one | omega) (by first | exact hR _ _ _ _ rfl | exact hR2 _ _ _ _ rfl | assumption) ?_
  refine z_putr C 5 dX6_copyFrom_5 gf_X6_29 ⟨rfl, fun _ => ⟨rfl, rfl⟩⟩ rfl (by first | assumption | exact Nat.zero_lt_one | omega) ?_
  have hR2 : mlk (up3 R 12 r 0 (some (3, d))) := hR.up rfl
  refine z_aload_n C 8 0 0 dX6_copyFrom_8 rfl rfl ?_
  refine z_aload_n C 9 1 1 dX6_copyFrom_9 rfl rfl ?_
  refine z_geti C 10 dX6_copyFrom_10 gf_X6_39 rfl (by first | assumption | exact Nat.zero_lt_one | omega) ?_
  refine z_puti C 13 dX6_copyFrom_13 gf_X6_39 ⟨rfl, rfl⟩ rfl (by first | assumption | exact Nat.zero_lt_one | omega) ?_
  refine z_aload_n C 16 1 1 dX6_copyFrom_16 rfl rfl ?_
  refine z_getr C 17 dX6_copyFrom_17 gf_X6_9 rfl (by first | assumption | exact Nat.zero_lt_one | omega) (by first | exact hR _ _ _ _ rfl | exact hR2 _ _ _ _ rfl | assumption) ?_
  refine z_iconst (v := nI 0) C 20 dX6_copyFrom_20 (by decide) ?_
  refine z_aload_n C 21 0 0 dX6_copyFrom_21 rfl rfl ?_
  refine z_getr C 22 dX6_copyFrom_22 gf_X6_9 rfl (by first | assumption | exact Nat.zero_lt_one | omega) (by first | exact hR _ _ _ _ rfl | exact hR2 _ _ _ _ rfl | assumption) ?_
  refine z_iconst (v := nI 0) C 25 dX6_copyFrom_25 (by decide) ?_
  refine z_bipush (v := nI 10) C 26 dX6_copyFrom_26 (by decide +kernel) ?_
  refine z_copy C 28 dX6_copyFrom_28 lj_X6_46 rfl rfl (by first | assumption | exact Nat.zero_lt_one | omega) (by first | assumption | exact Nat.zero_lt_one | omega) (by first | rfl | assumption) (by first | rfl | assumption) (by first | rfl | assumption) (by decide) (by decide) (by omega) (by omega) (Nat.le_of_ble_eq_true rfl) ⟨by decide, by decide⟩ ?_
  refine z_aload_n C 31 1 1 dX6_copyFrom_31 rfl rfl ?_
  refine z_getr C 32 dX6_copyFrom_32 gf_X6_15 rfl (by first | assumption | exact Nat.zero_lt_one | omega) (by first | exact hR _ _ _ _ rfl | exact hR2 _ _ _ _ rfl | assumption) ?_
  refine z_iconst (v := nI 0) C 35 dX6_copyFrom_35 (by decide) ?_
  refine z_aload_n C 36 0 0 dX6_copyFrom_36 rfl rfl ?_
  refine z_getr C 37 dX6_copyFrom_37 gf_X6_15 rfl (by first | assumption | exact Nat.zero_lt_one | omega) (by first | exact hR _ _ _ _ rfl | exact hR2 _ _ _ _ rfl | assumption) ?_
  refine z_iconst (v := nI 0) C 40 dX6_copyFrom_40 (by decide) ?_
  refine z_bipush (v := nI 10) C 41 dX6_copyFrom_41 (by decide +kernel) ?_
  refine z_copy C 43 dX6_copyFrom_43 lj_X6_46 rfl rfl (by first | assumption | exact Nat.zero_lt_one | omega) (by first | assumption | exact Nat.zero_lt_one | omega) (by first | rfl | assumption) (by first | rfl | assumption) (by first | rfl | assumption) (by decide) (by decide) (by omega) (by omega) (Nat.le_of_ble_eq_true rfl) ⟨by decide, by decide⟩ ?_
  refine z_aload_n C 46 1 1 dX6_copyFrom_46 rfl rfl ?_
  refine z_getr C 47 dX6_copyFrom_47 gf_X6_18 rfl (by first | assumption | exact Nat.zero_lt_one | omega) (by first | exact hR _ _ _ _ rfl | exact hR2 _ _ _ _ rfl | assumption) ?_
  refine z_iconst (v := nI 0) C 50 dX6_copyFrom_50 (by decide) ?_
  refine z_aload_n C 51 0 0 dX6_copyFrom_51 rfl rfl ?_
  refine z_getr C 52 dX6_copyFrom_52 gf_X6_18 rfl (by first | assumption | exact Nat.zero_lt_one | omega) (by first | exact hR _ _ _ _ rfl | exact hR2 _ _ _ _ rfl | assumption) ?_
  refine z_iconst (v := nI 0) C 55 dX6_copyFrom_55 (by decide) ?_
  refine z_bipush (v := nI 10) C 56 dX6_copyFrom_56 (by decide +kernel) ?_
  refine z_copy C 58 dX6_copyFrom_58 lj_X6_46 rfl rfl (by first | assumption | exact Nat.zero_lt_one | omega) (by first | assumption | exact Nat.zero_lt_one | omega) (by first | rfl | assumption) (by first | rfl | assumption) (by first | rfl | assumption) (by decide) (by decide) (by omega) (by omega) (Nat.le_of_ble_eq_true rfl) ⟨by decide, by decide⟩ ?_
  rw [← pC_0 (mcp (mcp (mcp (up3 S 12 r 1 (S 12 q 1)) 13 q 0 13 r 0 10) 14 q 0 14 r 0 10) 15 q 0 15 r 0 10) q r]
  have hb2 : ∀ j, j < 10 → (mcp (mcp (mcp (up3 S 12 r 1 (S 12 q 1)) 13 q 0 13 r 0 10) 14 q 0 14 r 0 10) 15 q 0 15 r 0 10) 16 q j = 0 ∨ (mcp (mcp (mcp (up3 S 12 r 1 (S 12 q 1)) 13 q 0 13 r 0 10) 14 q 0 14 r 0 10) 15 q 0 15 r 0 10) 16 q j = 1 := hb
  generalize hM : (mcp (mcp (mcp (up3 S 12 r 1 (S 12 q 1)) 13 q 0 13 r 0 10) 14 q 0 14 r 0 10) 15 q 0 15 r 0 10) = M at hb2 ⊢
  refine z_iconst (v := nI 0) C 61 dX6_copyFrom_61 (by decide) ?_
  refine z_istore_n C 62 2 [(2, _), (0, _), (1, _)] dX6_copyFrom_62 rfl (by decide) rfl ?_
  have loop_63 : ∀ (n_63 : Nat) (i : Nat), i ≤ 10 → 10 - i < n_63 → Z X 3 ad mdm (pC M q r i) L (up3 R 12 r 0 (some (3, d))) 0 0 63 [(0, .ref (ad 12 r)), (1, .ref (ad 12 q)), (2, .int (nI i))] [] := by
    intro n_63
    induction n_63 with
    | zero => intro i hi hm63; exact absurd hm63 (Nat.not_lt_zero _)
    | succ n_63 ih63 =>
      intro i hi hm63
      refine z_iload_n C 63 2 2 dX6_copyFrom_63 rfl rfl ?_
      refine z_bipush (v := nI 10) C 64 dX6_copyFrom_64 (by decide +kernel) ?_
      first | with_reducible refine z_icmp_geN C 66 87 dX6_copyFrom_66 (by decide) (by omega) (by omega) (fun h66 => ?_) (fun h66 => ?_) | refine z_icmp_ge C 66 87 dX6_copyFrom_66 (by decide) (fun h66 => ?_) (fun h66 => ?_)
      · obtain rfl : i = 10 := by omega
        subst hM
        refine z_ext (rCopy S q r) (pC_end hne) ?_
        exact ret 87 _ _ _ _ dX6_copyFrom_87 (⟨rfl, rfl, rfl⟩)
      · refine z_aload_n C 69 0 0 dX6_copyFrom_69 rfl rfl ?_
        refine z_getr C 70 dX6_copyFrom_70 gf_X6_21 rfl (by first | assumption | exact Nat.zero_lt_one | omega) (by first | exact hR _ _ _ _ rfl | exact hR2 _ _ _ _ rfl | assumption) ?_
        refine z_iload_n C 73 2 2 dX6_copyFrom_73 rfl rfl ?_
        refine z_aload_n C 74 1 1 dX6_copyFrom_74 rfl rfl ?_
        refine z_getr C 75 dX6_copyFrom_75 gf_X6_21 rfl (by first | assumption | exact Nat.zero_lt_one | omega) (by first | exact hR _ _ _ _ rfl | exact hR2 _ _ _ _ rfl | assumption) ?_
        refine z_iload_n C 78 2 2 dX6_copyFrom_78 rfl rfl ?_
        refine z_zald C 79 dX6_copyFrom_79 rfl (by first | assumption | exact Nat.zero_lt_one | omega) (by first | rfl | assumption) (by first | decide | omega) (by first | assumption | omega) ?_
        refine z_zast C 80 dX6_copyFrom_80 (by first | rfl | assumption) (by first | assumption | exact Nat.zero_lt_one | omega)  (by first | rfl | assumption) (by first | decide | omega) (by first | assumption | omega) (by have := hb2 i (by omega); simp only [pC]; rw [if_neg (fun z => hne z.2.1)]; exact this) ?_
        rw [pC_up hne]
        refine z_iinc C 81 2 2 [(2, _), (0, _), (1, _)] dX6_copyFrom_81 rfl (by first | exact nI_1 _ | rfl) (by decide) rfl ?_
        refine z_goto C 84 63 dX6_copyFrom_84 (by decide) ?_
        refine z_sub [(0, _), (1, _), (2, _)] [1, 2, 0] rfl ?_
        exact ih63 (i + 1) (by omega) (by omega)
  refine z_sub [(0, _), (1, _), (2, _)] [1, 2, 0] rfl ?_
  exact loop_63 11 0 (by omega) (by omega)
def rm_X6_count : Room := { frames := 0, cells := 0, slots := 0, locals := 0 }
set_option maxHeartbeats 4000000 in
set_option maxRecDepth 100000 in
theorem c_X6_count {l : Launch} {G : mG} {ad : mA} {S : mS} {L : mL} {R : mR} {r d n : Nat} (hR : mlk R) (hr : r < 16) (hd : d < 3) (hde : R 12 r 0 = some (3, d)) (hcn : S 3 d 6 = nI n) : Ki l yX6_count cX6_count 1 .int rm_X6_count G ad mdm [.ref (ad 12 r)] S L R (fun r_ S2 L2 R2 => r_ = nI n ∧ S = S2 ∧ L = L2 ∧ R = R2) := by
  refine Ki.of RX6 (by decide) rfl (Nat.le_of_ble_eq_true rfl) ?_
  intro X hXl hXG C ret
  subst hXl; subst hXG
  change Z X 1 ad mdm S L R 0 0 0 [(0, _)] []
  refine z_aload_n C 0 0 0 dX6_count_0 rfl rfl ?_
  refine z_getr C 1 dX6_count_1 gf_X6_29 rfl (by first | assumption | exact Nat.zero_lt_one | omega) (by first | exact hR _ _ _ _ rfl | exact hR2 _ _ _ _ rfl | assumption) ?_
  refine z_getiv C 4 dX6_count_4 gf_X6_52 rfl (by first | assumption | exact Nat.zero_lt_one | omega) hcn ?_
  exact ret 7 _ _ _ _ _ dX6_count_7 (by first | rfl | exact bI_n | decide) (⟨by first | rfl | assumption | (simp; done), rfl, rfl, rfl⟩)
def rm_X6_usedBy : Room := { frames := 0, cells := 0, slots := 0, locals := 0 }
set_option maxHeartbeats 4000000 in
set_option maxRecDepth 100000 in
theorem c_X6_usedBy {l : Launch} {G : mG} {ad : mA} {S : mS} {L : mL} {R : mR} {r d p : Nat} (hR : mlk R) (hr : r < 16) (hd : d < 3) (hde : R 12 r 0 = some (3, d)) (hp : p < 10) : Ki l yX6_usedBy cX6_usedBy 2 .int rm_X6_usedBy G ad mdm [.ref (ad 12 r), .int (nI p)] S L R (fun r_ S2 L2 R2 => r_ = rUses S r d p ∧ S = S2 ∧ L = L2 ∧ R = R2) := by
  refine Ki.of RX6 (by decide) rfl (Nat.le_of_ble_eq_true rfl) ?_
  intro X hXl hXG C ret
  subst hXl; subst hXG
  change Z X 2 ad mdm S L R 0 0 0 [(0, _), (1, _)] []
  have hdp : 10 * d + p < 30 := by omega
  refine z_aload_n C 0 0 0 dX6_usedBy_0 rfl rfl ?_
  refine z_getr C 1 dX6_usedBy_1 gf_X6_9 rfl (by first | assumption | exact Nat.zero_lt_one | omega) (by first | exact hR _ _ _ _ rfl | exact hR2 _ _ _ _ rfl | assumption) ?_
  refine z_iload_n C 4 1 1 dX6_usedBy_4 rfl rfl ?_
  refine z_iald C 5 dX6_usedBy_5 (by first | rfl | assumption) (by first | assumption | exact Nat.zero_lt_one | omega) (by first | rfl | assumption) (by first | decide | omega) (by first | assumption | omega) ?_
  refine z_tab C 6 1 5 91 (fun n => [40, 40, 40, 54, 79].getD (n - 1) 0) dX6_usedBy_6 (by decide) (by decide) (by decide) (fun n6 g6 k6 h6 => ?_) (fun h6 => ?_)
  · rcases (show n6 = 1 ∨ n6 = 2 ∨ n6 = 3 ∨ n6 = 4 ∨ n6 = 5 by omega) with rfl | rfl | rfl | rfl | rfl
    · refine z_aload_n C 40 0 0 dX6_usedBy_40 rfl rfl ?_
      refine z_getr C 41 dX6_usedBy_41 gf_X6_15 rfl (by first | assumption | exact Nat.zero_lt_one | omega) (by first | exact hR _ _ _ _ rfl | exact hR2 _ _ _ _ rfl | assumption) ?_
      refine z_iload_n C 44 1 1 dX6_usedBy_44 rfl rfl ?_
      refine z_iald C 45 dX6_usedBy_45 (by first | rfl | assumption) (by first | assumption | exact Nat.zero_lt_one | omega) (by first | rfl | assumption) (by first | decide | omega) (by first | assumption | omega) ?_
      refine z_aload_n C 46 0 0 dX6_usedBy_46 rfl rfl ?_
      refine z_getr C 47 dX6_usedBy_47 gf_X6_18 rfl (by first | assumption | exact Nat.zero_lt_one | omega) (by first | exact hR _ _ _ _ rfl | exact hR2 _ _ _ _ rfl | assumption) ?_
      refine z_iload_n C 50 1 1 dX6_usedBy_50 rfl rfl ?_
      refine z_iald C 51 dX6_usedBy_51 (by first | rfl | assumption) (by first | assumption | exact Nat.zero_lt_one | omega) (by first | rfl | assumption) (by first | decide | omega) (by first | assumption | omega) ?_
      first | with_reducible refine z_iaddN C 52 dX6_usedBy_52 ?_ | refine z_iadd C 52 dX6_usedBy_52 ?_
      exact ret 53 _ _ _ _ _ dX6_usedBy_53 (by first | rfl | exact bI_n | decide) (⟨(by unfold rUses usesW; rw [h6]; rfl), rfl, rfl, rfl⟩)
    · refine z_aload_n C 40 0 0 dX6_usedBy_40 rfl rfl ?_
      refine z_getr C 41 dX6_usedBy_41 gf_X6_15 rfl (by first | assumption | exact Nat.zero_lt_one | omega) (by first | exact hR _ _ _ _ rfl | exact hR2 _ _ _ _ rfl | assumption) ?_
      refine z_iload_n C 44 1 1 dX6_usedBy_44 rfl rfl ?_
      refine z_iald C 45 dX6_usedBy_45 (by first | rfl | assumption) (by first | assumption | exact Nat.zero_lt_one | omega) (by first | rfl | assumption) (by first | decide | omega) (by first | assumption | omega) ?_
      refine z_aload_n C 46 0 0 dX6_usedBy_46 rfl rfl ?_
      refine z_getr C 47 dX6_usedBy_47 gf_X6_18 rfl (by first | assumption | exact Nat.zero_lt_one | omega) (by first | exact hR _ _ _ _ rfl | exact hR2 _ _ _ _ rfl | assumption) ?_
      refine z_iload_n C 50 1 1 dX6_usedBy_50 rfl rfl ?_
      refine z_iald C 51 dX6_usedBy_51 (by first | rfl | assumption) (by first | assumption | exact Nat.zero_lt_one | omega) (by first | rfl | assumption) (by first | decide | omega) (by first | assumption | omega) ?_
      first | with_reducible refine z_iaddN C 52 dX6_usedBy_52 ?_ | refine z_iadd C 52 dX6_usedBy_52 ?_
      exact ret 53 _ _ _ _ _ dX6_usedBy_53 (by first | rfl | exact bI_n | decide) (⟨(by unfold rUses usesW; rw [h6]; rfl), rfl, rfl, rfl⟩)
    · refine z_aload_n C 40 0 0 dX6_usedBy_40 rfl rfl ?_
      refine z_getr C 41 dX6_usedBy_41 gf_X6_15 rfl (by first | assumption | exact Nat.zero_lt_one | omega) (by first | exact hR _ _ _ _ rfl | exact hR2 _ _ _ _ rfl | assumption) ?_
      refine z_iload_n C 44 1 1 dX6_usedBy_44 rfl rfl ?_
      refine z_iald C 45 dX6_usedBy_45 (by first | rfl | assumption) (by first | assumption | exact Nat.zero_lt_one | omega) (by first | rfl | assumption) (by first | decide | omega) (by first | assumption | omega) ?_
      refine z_aload_n C 46 0 0 dX6_usedBy_46 rfl rfl ?_
      refine z_getr C 47 dX6_usedBy_47 gf_X6_18 rfl (by first | assumption | exact Nat.zero_lt_one | omega) (by first | exact hR _ _ _ _ rfl | exact hR2 _ _ _ _ rfl | assumption) ?_
      refine z_iload_n C 50 1 1 dX6_usedBy_50 rfl rfl ?_
      refine z_iald C 51 dX6_usedBy_51 (by first | rfl | assumption) (by first | assumption | exact Nat.zero_lt_one | omega) (by first | rfl | assumption) (by first | decide | omega) (by first | assumption | omega) ?_
      first | with_reducible refine z_iaddN C 52 dX6_usedBy_52 ?_ | refine z_iadd C 52 dX6_usedBy_52 ?_
      exact ret 53 _ _ _ _ _ dX6_usedBy_53 (by first | rfl | exact bI_n | decide) (⟨(by unfold rUses usesW; rw [h6]; rfl), rfl, rfl, rfl⟩)
    · refine z_aload_n C 54 0 0 dX6_usedBy_54 rfl rfl ?_
      refine z_getr C 55 dX6_usedBy_55 gf_X6_15 rfl (by first | assumption | exact Nat.zero_lt_one | omega) (by first | exact hR _ _ _ _ rfl | exact hR2 _ _ _ _ rfl | assumption) ?_
      refine z_iload_n C 58 1 1 dX6_usedBy_58 rfl rfl ?_
      refine z_iald C 59 dX6_usedBy_59 (by first | rfl | assumption) (by first | assumption | exact Nat.zero_lt_one | omega) (by first | rfl | assumption) (by first | decide | omega) (by first | assumption | omega) ?_
      refine z_aload_n C 60 0 0 dX6_usedBy_60 rfl rfl ?_
      refine z_getr C 61 dX6_usedBy_61 gf_X6_29 rfl (by first | assumption | exact Nat.zero_lt_one | omega) (by first | exact hR _ _ _ _ rfl | exact hR2 _ _ _ _ rfl | assumption) ?_
      refine z_getr C 64 dX6_usedBy_64 gf_X6_55 rfl (by first | assumption | exact Nat.zero_lt_one | omega) (by first | exact hR _ _ _ _ rfl | exact hR2 _ _ _ _ rfl | assumption) ?_
      refine z_iload_n C 67 1 1 dX6_usedBy_67 rfl rfl ?_
      refine z_aald4 C 68 dX6_usedBy_68 rfl (by first | assumption | exact Nat.zero_lt_one | omega) (by first | rfl | assumption) (by decide) (by first | assumption | omega) (by first | exact hR _ _ _ _ rfl | exact hR2 _ _ _ _ rfl | assumption) ?_
      refine z_iconst (v := nI 4) C 69 dX6_usedBy_69 (by decide) ?_
      refine z_iald C 70 dX6_usedBy_70 (by first | rfl | assumption) (by first | assumption | exact Nat.zero_lt_one | omega) (by first | rfl | assumption) (by first | decide | omega) (by first | assumption | omega) ?_
      first | with_reducible refine z_imulN C 71 dX6_usedBy_71 ?_ | refine z_imul C 71 dX6_usedBy_71 ?_
      refine z_bipush (v := nI 99) C 72 dX6_usedBy_72 (by decide +kernel) ?_
      first | with_reducible refine z_iaddN C 74 dX6_usedBy_74 ?_ | refine z_iadd C 74 dX6_usedBy_74 ?_
      refine z_bipush (v := nI 100) C 75 dX6_usedBy_75 (by decide +kernel) ?_
      first | with_reducible refine z_idivN C 77 dX6_usedBy_77 (by omega) (by omega) (by omega) ?_ | refine z_idiv C 77 dX6_usedBy_77 (by first | decide | assumption | exact nI_ne0 (by omega) (by omega)) ?_
      exact ret 78 _ _ _ _ _ dX6_usedBy_78 (by first | rfl | exact bI_n | decide) (⟨(by unfold rUses usesW; rw [h6]; rfl), rfl, rfl, rfl⟩)
    · refine z_aload_n C 79 0 0 dX6_usedBy_79 rfl rfl ?_
      refine z_getr C 80 dX6_usedBy_80 gf_X6_29 rfl (by first | assumption | exact Nat.zero_lt_one | omega) (by first | exact hR _ _ _ _ rfl | exact hR2 _ _ _ _ rfl | assumption) ?_
      refine z_getr C 83 dX6_usedBy_83 gf_X6_55 rfl (by first | assumption | exact Nat.zero_lt_one | omega) (by first | exact hR _ _ _ _ rfl | exact hR2 _ _ _ _ rfl | assumption) ?_
      refine z_iload_n C 86 1 1 dX6_usedBy_86 rfl rfl ?_
      refine z_aald4 C 87 dX6_usedBy_87 rfl (by first | assumption | exact Nat.zero_lt_one | omega) (by first | rfl | assumption) (by decide) (by first | assumption | omega) (by first | exact hR _ _ _ _ rfl | exact hR2 _ _ _ _ rfl | assumption) ?_
      refine z_iconst (v := nI 5) C 88 dX6_usedBy_88 (by decide) ?_
      refine z_iald C 89 dX6_usedBy_89 (by first | rfl | assumption) (by first | assumption | exact Nat.zero_lt_one | omega) (by first | rfl | assumption) (by first | decide | omega) (by first | assumption | omega) ?_
      exact ret 90 _ _ _ _ _ dX6_usedBy_90 (by first | rfl | exact bI_n | decide) (⟨(by unfold rUses usesW; rw [h6]; rfl), rfl, rfl, rfl⟩)
  · refine z_iconst (v := nI 0) C 91 dX6_usedBy_91 (by decide) ?_
    exact ret 92 _ _ _ _ _ dX6_usedBy_92 (by first | rfl | exact bI_n | decide) (⟨(by unfold rUses usesW; rw [if_neg (fun z => z.elim (h6 1 (by omega) (by omega)) (fun z => z.elim (h6 2 (by omega) (by omega)) (h6 3 (by omega) (by omega)))), if_neg (h6 4 (by omega) (by omega)), if_neg (h6 5 (by omega) (by omega))]), rfl, rfl, rfl⟩)
def rm_X6_usedByAll : Room := { frames := 1, cells := 0, slots := 0, locals := 21 }
set_option maxHeartbeats 4000000 in
set_option maxRecDepth 100000 in
theorem c_X6_usedByAll {l : Launch} {G : mG} {ad : mA} {S : mS} {L : mL} {R : mR} {r d n : Nat} (hR : mlk R) (hr : r < 16) (hd : d < 3) (hde : R 12 r 0 = some (3, d)) (hcn : S 3 d 6 = nI n) (hn10 : n ≤ 10) : Ki l yX6_usedByAll cX6_usedByAll 3 .int rm_X6_usedByAll G ad mdm [.ref (ad 12 r)] S L R (fun r_ S2 L2 R2 => r_ = rAll S r d n ∧ S = S2 ∧ L = L2 ∧ R = R2) := by
  refine Ki.of RX6 (by decide) rfl (Nat.le_of_ble_eq_true rfl) ?_
  intro X hXl hXG C ret
  subst hXl; subst hXG
  change Z X 3 ad mdm S L R 0 0 0 [(0, _)] []
  refine z_iconst (v := nI 0) C 0 dX6_usedByAll_0 (by decide) ?_
  refine z_istore_n C 1 1 [(1, _), (0, _)] dX6_usedByAll_1 rfl (by decide) rfl ?_
  refine z_iconst (v := nI 0) C 2 dX6_usedByAll_2 (by decide) ?_
  refine z_istore_n C 3 2 [(2, _), (1, _), (0, _)] dX6_usedByAll_3 rfl (by decide) rfl ?_
  have loop_4 : ∀ (n_4 : Nat) (i : Nat) (a : Int32), i ≤ n → a = smI (rUses S r d) i → n - i < n_4 → Z X 3 ad mdm S L R 0 0 4 [(0, .ref (ad 12 r)), (1, .int a), (2, .int (nI i))] [] := by
    intro n_4
    induction n_4 with
    | zero => intro i a hi ha hm4; exact absurd hm4 (Nat.not_lt_zero _)
    | succ n_4 ih4 =>
      intro i a hi ha hm4
      refine z_iload_n C 4 2 2 dX6_usedByAll_4 rfl rfl ?_
      refine z_aload_n C 5 0 0 dX6_usedByAll_5 rfl rfl ?_
      refine z_getr C 6 dX6_usedByAll_6 gf_X6_29 rfl (by first | assumption | exact Nat.zero_lt_one | omega) (by first | exact hR _ _ _ _ rfl | exact hR2 _ _ _ _ rfl | assumption) ?_
      refine z_getiv C 9 dX6_usedByAll_9 gf_X6_52 rfl (by first | assumption | exact Nat.zero_lt_one | omega) hcn ?_
      first | with_reducible refine z_icmp_geN C 12 29 dX6_usedByAll_12 (by decide) (by omega) (by omega) (fun h12 => ?_) (fun h12 => ?_) | refine z_icmp_ge C 12 29 dX6_usedByAll_12 (by decide) (fun h12 => ?_) (fun h12 => ?_)
      · refine z_iload_n C 29 1 1 dX6_usedByAll_29 rfl rfl ?_
        exact ret 30 _ _ _ _ _ dX6_usedByAll_30 (by first | rfl | exact bI_n | decide) (⟨(by rw [ha, show i = n by omega]; rfl), rfl, rfl, rfl⟩)
      · refine z_iload_n C 15 1 1 dX6_usedByAll_15 rfl rfl ?_
        refine z_aload_n C 16 0 0 dX6_usedByAll_16 rfl rfl ?_
        refine z_iload_n C 17 2 2 dX6_usedByAll_17 rfl rfl ?_
        refine z_cVi0 C 18 dX6_usedByAll_18 cv_X6_59 (c_X6_usedBy hR (by first | assumption | decide) hd (by assumption) (by first | assumption | omega)) rfl ⟨by decide, rfl⟩ (by first | assumption | exact Nat.zero_lt_one | omega) rfl rfl (Nat.le_of_ble_eq_true rfl) ⟨by decide, by decide⟩ ⟨rfl, rfl⟩ ⟨by decide, by decide⟩ ?_
        intro r18 S18 L18 R18 p18
        obtain ⟨rfl, rfl, rfl, rfl⟩ := p18
        first | with_reducible refine z_iaddN C 21 dX6_usedByAll_21 ?_ | refine z_iadd C 21 dX6_usedByAll_21 ?_
        refine z_istore_n C 22 1 [(1, _), (0, _), (2, _)] dX6_usedByAll_22 rfl (by decide) rfl ?_
        refine z_iinc C 23 2 2 [(2, _), (1, _), (0, _)] dX6_usedByAll_23 rfl (by first | exact nI_1 _ | rfl) (by decide) rfl ?_
        refine z_goto C 26 4 dX6_usedByAll_26 (by decide) ?_
        refine z_sub [(0, _), (1, _), (2, _)] [2, 1, 0] rfl ?_
        exact ih4 (i + 1) _ (by omega) (by rw [ha]; rfl) (by omega)
  refine z_sub [(0, _), (1, _), (2, _)] [2, 1, 0] rfl ?_
  exact loop_4 (n + 1) 0 _ (Nat.zero_le _) rfl (by omega)
def rm_X6_isOverLimit : Room := { frames := 2, cells := 0, slots := 0, locals := 43 }
set_option maxHeartbeats 4000000 in
set_option maxRecDepth 100000 in
theorem c_X6_isOverLimit {l : Launch} {G : mG} {ad : mA} {S : mS} {L : mL} {R : mR} {r d n : Nat} (hR : mlk R) (hr : r < 16) (hd : d < 3) (hde : R 12 r 0 = some (3, d)) (hcn : S 3 d 6 = nI n) (hn10 : n ≤ 10) : Ki l yX6_isOverLimit cX6_isOverLimit 1 .boolean rm_X6_isOverLimit G ad mdm [.ref (ad 12 r)] S L R (fun r_ S2 L2 R2 => r_ = bI (S 12 r 1 < rAll S r d n) ∧ S = S2 ∧ L = L2 ∧ R = R2) := by
  refine Ki.of RX6 (by decide) rfl (Nat.le_of_ble_eq_true rfl) ?_
  intro X hXl hXG C ret
  subst hXl; subst hXG
  change Z X 1 ad mdm S L R 0 0 0 [(0, _)] []
  refine z_aload_n C 0 0 0 dX6_isOverLimit_0 rfl rfl ?_
  refine z_cVi0 C 1 dX6_isOverLimit_1 cv_X6_63 (c_X6_usedByAll hR (by first | assumption | decide) hd (by assumption) hcn hn10) rfl ⟨by decide, rfl⟩ (by first | assumption | exact Nat.zero_lt_one | omega) rfl rfl (Nat.le_of_ble_eq_true rfl) ⟨by decide, by decide⟩ ⟨rfl, rfl⟩ ⟨by decide, by decide⟩ ?_
  intro r1 S1 L1 R1 p1
  obtain ⟨rfl, rfl, rfl, rfl⟩ := p1
  refine z_aload_n C 4 0 0 dX6_isOverLimit_4 rfl rfl ?_
  refine z_geti C 5 dX6_isOverLimit_5 gf_X6_39 rfl (by first | assumption | exact Nat.zero_lt_one | omega) ?_
  first | with_reducible refine z_icmp_leN C 8 15 dX6_isOverLimit_8 (by decide) (by omega) (by omega) (fun h8 => ?_) (fun h8 => ?_) | refine z_icmp_le C 8 15 dX6_isOverLimit_8 (by decide) (fun h8 => ?_) (fun h8 => ?_)
  · refine z_iconst (v := nI 0) C 15 dX6_isOverLimit_15 (by decide) ?_
    exact ret 16 _ _ _ _ _ dX6_isOverLimit_16 (by first | rfl | exact bI_n | decide) (⟨(by first | exact bI_1 (Int32.not_le.mp h8) | exact bI_0 (Int32.not_lt.mpr h8)), rfl, rfl, rfl⟩)
  · refine z_iconst (v := nI 1) C 11 dX6_isOverLimit_11 (by decide) ?_
    refine z_goto C 12 16 dX6_isOverLimit_12 (by decide) ?_
    exact ret 16 _ _ _ _ _ dX6_isOverLimit_16 (by first | rfl | exact bI_n | decide) (⟨(by first | exact bI_1 (Int32.not_le.mp h8) | exact bI_0 (Int32.not_lt.mpr h8)), rfl, rfl, rfl⟩)
def rm_X6_hasPages : Room := { frames := 0, cells := 0, slots := 0, locals := 0 }
set_option maxHeartbeats 4000000 in
set_option maxRecDepth 100000 in
theorem c_X6_hasPages {l : Launch} {G : mG} {ad : mA} {S : mS} {L : mL} {R : mR} {r p : Nat} (hR : mlk R) (hr : r < 16) (hp : p < 10) : Ki l yX6_hasPages cX6_hasPages 2 .boolean rm_X6_hasPages G ad mdm [.ref (ad 12 r), .int (nI p)] S L R (fun r_ S2 L2 R2 => r_ = bI (¬ (S 13 r p = 0 ∨ S 13 r p = nI 5)) ∧ S = S2 ∧ L = L2 ∧ R = R2) := by
  refine Ki.of RX6 (by decide) rfl (Nat.le_of_ble_eq_true rfl) ?_
  intro X hXl hXG C ret
  subst hXl; subst hXG
  change Z X 2 ad mdm S L R 0 0 0 [(0, _), (1, _)] []
  refine z_aload_n C 0 0 0 dX6_hasPages_0 rfl rfl ?_
  refine z_getr C 1 dX6_hasPages_1 gf_X6_9 rfl (by first | assumption | exact Nat.zero_lt_one | omega) (by first | exact hR _ _ _ _ rfl | exact hR2 _ _ _ _ rfl | assumption) ?_
  refine z_iload_n C 4 1 1 dX6_hasPages_4 rfl rfl ?_
  refine z_iald C 5 dX6_hasPages_5 (by first | rfl | assumption) (by first | assumption | exact Nat.zero_lt_one | omega) (by first | rfl | assumption) (by first | decide | omega) (by first | assumption | omega) ?_
  first | with_reducible refine z_if_eqB C 6 23 dX6_hasPages_6 (by decide) (fun h6 => ?_) (fun h6 => ?_) | with_reducible refine z_if_eqN C 6 23 dX6_hasPages_6 (by decide) (by omega) (fun h6 => ?_) (fun h6 => ?_) | refine z_if_eq C 6 23 dX6_hasPages_6 (by decide) (fun h6 => ?_) (fun h6 => ?_)
  · refine z_iconst (v := nI 0) C 23 dX6_hasPages_23 (by decide) ?_
    exact ret 24 _ _ _ _ _ dX6_hasPages_24 (by first | rfl | exact bI_n | decide) (⟨(by first | exact bI_0 (not_not_intro (Or.inl h6)) | exact bI_0 (not_not_intro (Or.inr h16)) | exact bI_1 (fun z => z.elim h6 h16)), rfl, rfl, rfl⟩)
  · refine z_aload_n C 9 0 0 dX6_hasPages_9 rfl rfl ?_
    refine z_getr C 10 dX6_hasPages_10 gf_X6_9 rfl (by first | assumption | exact Nat.zero_lt_one | omega) (by first | exact hR _ _ _ _ rfl | exact hR2 _ _ _ _ rfl | assumption) ?_
    refine z_iload_n C 13 1 1 dX6_hasPages_13 rfl rfl ?_
    refine z_iald C 14 dX6_hasPages_14 (by first | rfl | assumption) (by first | assumption | exact Nat.zero_lt_one | omega) (by first | rfl | assumption) (by first | decide | omega) (by first | assumption | omega) ?_
    refine z_iconst (v := nI 5) C 15 dX6_hasPages_15 (by decide) ?_
    first | with_reducible refine z_icmp_eqN C 16 23 dX6_hasPages_16 (by decide) (by omega) (by omega) (fun h16 => ?_) (fun h16 => ?_) | refine z_icmp_eq C 16 23 dX6_hasPages_16 (by decide) (fun h16 => ?_) (fun h16 => ?_)
    · refine z_iconst (v := nI 0) C 23 dX6_hasPages_23 (by decide) ?_
      exact ret 24 _ _ _ _ _ dX6_hasPages_24 (by first | rfl | exact bI_n | decide) (⟨(by first | exact bI_0 (not_not_intro (Or.inl h6)) | exact bI_0 (not_not_intro (Or.inr h16)) | exact bI_1 (fun z => z.elim h6 h16)), rfl, rfl, rfl⟩)
    · refine z_iconst (v := nI 1) C 19 dX6_hasPages_19 (by decide) ?_
      refine z_goto C 20 24 dX6_hasPages_20 (by decide) ?_
      exact ret 24 _ _ _ _ _ dX6_hasPages_24 (by first | rfl | exact bI_n | decide) (⟨(by first | exact bI_0 (not_not_intro (Or.inl h6)) | exact bI_0 (not_not_intro (Or.inr h16)) | exact bI_1 (fun z => z.elim h6 h16)), rfl, rfl, rfl⟩)
def rm_X6_pagesWhenShown : Room := { frames := 1, cells := 0, slots := 0, locals := 21 }
set_option maxHeartbeats 4000000 in
set_option maxRecDepth 100000 in
theorem c_X6_pagesWhenShown {l : Launch} {G : mG} {ad : mA} {S : mS} {L : mL} {R : mR} {r d p : Nat} (hR : mlk R) (hr : r < 16) (hd : d < 3) (hde : R 12 r 0 = some (3, d)) (hp : p < 10) : Ki l yX6_pagesWhenShown cX6_pagesWhenShown 2 .int rm_X6_pagesWhenShown G ad mdm [.ref (ad 12 r), .int (nI p)] S L R (fun r_ S2 L2 R2 => r_ = (if S 13 r p = 0 ∨ S 13 r p = nI 5 then S 6 (10 * d + p) 0 else S 14 r p) ∧ S = S2 ∧ L = L2 ∧ R = R2) := by
  refine Ki.of RX6 (by decide) rfl (Nat.le_of_ble_eq_true rfl) ?_
  intro X hXl hXG C ret
  subst hXl; subst hXG
  change Z X 2 ad mdm S L R 0 0 0 [(0, _), (1, _)] []
  have hdp : 10 * d + p < 30 := by omega
  refine z_aload_n C 0 0 0 dX6_pagesWhenShown_0 rfl rfl ?_
  refine z_iload_n C 1 1 1 dX6_pagesWhenShown_1 rfl rfl ?_
  refine z_cVi0 C 2 dX6_pagesWhenShown_2 cv_X6_67 (c_X6_hasPages hR hr hp) rfl ⟨by decide, rfl⟩ (by first | assumption | exact Nat.zero_lt_one | omega) rfl rfl (Nat.le_of_ble_eq_true rfl) ⟨by decide, by decide⟩ ⟨rfl, rfl⟩ ⟨by decide, by decide⟩ ?_
  intro r2 S2 L2 R2 p2
  obtain ⟨rfl, rfl, rfl, rfl⟩ := p2
  first | with_reducible refine z_if_eqB C 5 17 dX6_pagesWhenShown_5 (by decide) (fun h5 => ?_) (fun h5 => ?_) | with_reducible refine z_if_eqN C 5 17 dX6_pagesWhenShown_5 (by decide) (by omega) (fun h5 => ?_) (fun h5 => ?_) | refine z_if_eq C 5 17 dX6_pagesWhenShown_5 (by decide) (fun h5 => ?_) (fun h5 => ?_)
  · refine z_aload_n C 17 0 0 dX6_pagesWhenShown_17 rfl rfl ?_
    refine z_getr C 18 dX6_pagesWhenShown_18 gf_X6_29 rfl (by first | assumption | exact Nat.zero_lt_one | omega) (by first | exact hR _ _ _ _ rfl | exact hR2 _ _ _ _ rfl | assumption) ?_
    refine z_getr C 21 dX6_pagesWhenShown_21 gf_X6_55 rfl (by first | assumption | exact Nat.zero_lt_one | omega) (by first | exact hR _ _ _ _ rfl | exact hR2 _ _ _ _ rfl | assumption) ?_
    refine z_iload_n C 24 1 1 dX6_pagesWhenShown_24 rfl rfl ?_
    refine z_aald4 C 25 dX6_pagesWhenShown_25 rfl (by first | assumption | exact Nat.zero_lt_one | omega) (by first | rfl | assumption) (by decide) (by first | assumption | omega) (by first | exact hR _ _ _ _ rfl | exact hR2 _ _ _ _ rfl | assumption) ?_
    refine z_iconst (v := nI 0) C 26 dX6_pagesWhenShown_26 (by decide) ?_
    refine z_iald C 27 dX6_pagesWhenShown_27 (by first | rfl | assumption) (by first | assumption | exact Nat.zero_lt_one | omega) (by first | rfl | assumption) (by first | decide | omega) (by first | assumption | omega) ?_
    exact ret 28 _ _ _ _ _ dX6_pagesWhenShown_28 (by first | rfl | exact bI_n | decide) (⟨(by first | exact (if_neg h5).symm | exact (if_pos (Classical.not_not.mp h5)).symm), rfl, rfl, rfl⟩)
  · refine z_aload_n C 8 0 0 dX6_pagesWhenShown_8 rfl rfl ?_
    refine z_getr C 9 dX6_pagesWhenShown_9 gf_X6_15 rfl (by first | assumption | exact Nat.zero_lt_one | omega) (by first | exact hR _ _ _ _ rfl | exact hR2 _ _ _ _ rfl | assumption) ?_
    refine z_iload_n C 12 1 1 dX6_pagesWhenShown_12 rfl rfl ?_
    refine z_iald C 13 dX6_pagesWhenShown_13 (by first | rfl | assumption) (by first | assumption | exact Nat.zero_lt_one | omega) (by first | rfl | assumption) (by first | decide | omega) (by first | assumption | omega) ?_
    refine z_goto C 14 28 dX6_pagesWhenShown_14 (by decide) ?_
    exact ret 28 _ _ _ _ _ dX6_pagesWhenShown_28 (by first | rfl | exact bI_n | decide) (⟨(by first | exact (if_neg h5).symm | exact (if_pos (Classical.not_not.mp h5)).symm), rfl, rfl, rfl⟩)
def rm_X6_bringUp : Room := { frames := 1, cells := 0, slots := 0, locals := 21 }
set_option maxHeartbeats 4000000 in
set_option maxRecDepth 100000 in
theorem c_X6_bringUp {l : Launch} {G : mG} {ad : mA} {S : mS} {L : mL} {R : mR} {r d p : Nat} (hR : mlk R) (hr : r < 16) (hd : d < 3) (hde : R 12 r 0 = some (3, d)) (hp : p < 10) : Kv l yX6_bringUp cX6_bringUp 2 rm_X6_bringUp G ad mdm [.ref (ad 12 r), .int (nI p)] S L R (fun S2 L2 R2 => rUp S r d p = S2 ∧ L = L2 ∧ R = R2) := by
  refine Kv.of RX6 (by decide) rfl (Nat.le_of_ble_eq_true rfl) ?_
  intro X hXl hXG C ret
  subst hXl; subst hXG
  change Z X 2 ad mdm S L R 0 0 0 [(0, _), (1, _)] []
  have hdp : 10 * d + p < 30 := by omega
  refine z_aload_n C 0 0 0 dX6_bringUp_0 rfl rfl ?_
  refine z_iload_n C 1 1 1 dX6_bringUp_1 rfl rfl ?_
  refine z_cVi0 C 2 dX6_bringUp_2 cv_X6_67 (c_X6_hasPages hR hr hp) rfl ⟨by decide, rfl⟩ (by first | assumption | exact Nat.zero_lt_one | omega) rfl rfl (Nat.le_of_ble_eq_true rfl) ⟨by decide, by decide⟩ ⟨rfl, rfl⟩ ⟨by decide, by decide⟩ ?_
  intro r2 S2 L2 R2 p2
  obtain ⟨rfl, rfl, rfl, rfl⟩ := p2
  first | with_reducible refine z_if_neB C 5 42 dX6_bringUp_5 (by decide) (fun h5 => ?_) (fun h5 => ?_) | with_reducible refine z_if_neN C 5 42 dX6_bringUp_5 (by decide) (by omega) (fun h5 => ?_) (fun h5 => ?_) | refine z_if_ne C 5 42 dX6_bringUp_5 (by decide) (fun h5 => ?_) (fun h5 => ?_)
  · refine z_aload_n C 42 0 0 dX6_bringUp_42 rfl rfl ?_
    refine z_getr C 43 dX6_bringUp_43 gf_X6_9 rfl (by first | assumption | exact Nat.zero_lt_one | omega) (by first | exact hR _ _ _ _ rfl | exact hR2 _ _ _ _ rfl | assumption) ?_
    refine z_iload_n C 46 1 1 dX6_bringUp_46 rfl rfl ?_
    refine z_iconst (v := nI 1) C 47 dX6_bringUp_47 (by decide) ?_
    refine z_iast C 48 dX6_bringUp_48 (by first | rfl | assumption) (by first | assumption | exact Nat.zero_lt_one | omega)  (by first | rfl | assumption) (by first | decide | omega) (by first | assumption | omega) ?_
    exact ret 49 _ _ _ _ dX6_bringUp_49 (⟨(by unfold rUp; first | exact if_neg h5 | (rw [if_pos (Classical.not_not.mp h5)]; rfl)), rfl, rfl⟩)
  · refine z_aload_n C 8 0 0 dX6_bringUp_8 rfl rfl ?_
    refine z_getr C 9 dX6_bringUp_9 gf_X6_15 rfl (by first | assumption | exact Nat.zero_lt_one | omega) (by first | exact hR _ _ _ _ rfl | exact hR2 _ _ _ _ rfl | assumption) ?_
    refine z_iload_n C 12 1 1 dX6_bringUp_12 rfl rfl ?_
    refine z_aload_n C 13 0 0 dX6_bringUp_13 rfl rfl ?_
    refine z_getr C 14 dX6_bringUp_14 gf_X6_29 rfl (by first | assumption | exact Nat.zero_lt_one | omega) (by first | exact hR _ _ _ _ rfl | exact hR2 _ _ _ _ rfl | assumption) ?_
    refine z_getr C 17 dX6_bringUp_17 gf_X6_55 rfl (by first | assumption | exact Nat.zero_lt_one | omega) (by first | exact hR _ _ _ _ rfl | exact hR2 _ _ _ _ rfl | assumption) ?_
    refine z_iload_n C 20 1 1 dX6_bringUp_20 rfl rfl ?_
    refine z_aald4 C 21 dX6_bringUp_21 rfl (by first | assumption | exact Nat.zero_lt_one | omega) (by first | rfl | assumption) (by decide) (by first | assumption | omega) (by first | exact hR _ _ _ _ rfl | exact hR2 _ _ _ _ rfl | assumption) ?_
    refine z_iconst (v := nI 0) C 22 dX6_bringUp_22 (by decide) ?_
    refine z_iald C 23 dX6_bringUp_23 (by first | rfl | assumption) (by first | assumption | exact Nat.zero_lt_one | omega) (by first | rfl | assumption) (by first | decide | omega) (by first | assumption | omega) ?_
    refine z_iast C 24 dX6_bringUp_24 (by first | rfl | assumption) (by first | assumption | exact Nat.zero_lt_one | omega)  (by first | rfl | assumption) (by first | decide | omega) (by first | assumption | omega) ?_
    refine z_aload_n C 25 0 0 dX6_bringUp_25 rfl rfl ?_
    refine z_getr C 26 dX6_bringUp_26 gf_X6_18 rfl (by first | assumption | exact Nat.zero_lt_one | omega) (by first | exact hR _ _ _ _ rfl | exact hR2 _ _ _ _ rfl | assumption) ?_
    refine z_iload_n C 29 1 1 dX6_bringUp_29 rfl rfl ?_
    refine z_aload_n C 30 0 0 dX6_bringUp_30 rfl rfl ?_
    refine z_getr C 31 dX6_bringUp_31 gf_X6_29 rfl (by first | assumption | exact Nat.zero_lt_one | omega) (by first | exact hR _ _ _ _ rfl | exact hR2 _ _ _ _ rfl | assumption) ?_
    refine z_getr C 34 dX6_bringUp_34 gf_X6_55 rfl (by first | assumption | exact Nat.zero_lt_one | omega) (by first | exact hR _ _ _ _ rfl | exact hR2 _ _ _ _ rfl | assumption) ?_
    refine z_iload_n C 37 1 1 dX6_bringUp_37 rfl rfl ?_
    refine z_aald4 C 38 dX6_bringUp_38 rfl (by first | assumption | exact Nat.zero_lt_one | omega) (by first | rfl | assumption) (by decide) (by first | assumption | omega) (by first | exact hR _ _ _ _ rfl | exact hR2 _ _ _ _ rfl | assumption) ?_
    refine z_iconst (v := nI 1) C 39 dX6_bringUp_39 (by decide) ?_
    refine z_iald C 40 dX6_bringUp_40 (by first | rfl | assumption) (by first | assumption | exact Nat.zero_lt_one | omega) (by first | rfl | assumption) (by first | decide | omega) (by first | assumption | omega) ?_
    refine z_iast C 41 dX6_bringUp_41 (by first | rfl | assumption) (by first | assumption | exact Nat.zero_lt_one | omega)  (by first | rfl | assumption) (by first | decide | omega) (by first | assumption | omega) ?_
    refine z_aload_n C 42 0 0 dX6_bringUp_42 rfl rfl ?_
    refine z_getr C 43 dX6_bringUp_43 gf_X6_9 rfl (by first | assumption | exact Nat.zero_lt_one | omega) (by first | exact hR _ _ _ _ rfl | exact hR2 _ _ _ _ rfl | assumption) ?_
    refine z_iload_n C 46 1 1 dX6_bringUp_46 rfl rfl ?_
    refine z_iconst (v := nI 1) C 47 dX6_bringUp_47 (by decide) ?_
    refine z_iast C 48 dX6_bringUp_48 (by first | rfl | assumption) (by first | assumption | exact Nat.zero_lt_one | omega)  (by first | rfl | assumption) (by first | decide | omega) (by first | assumption | omega) ?_
    exact ret 49 _ _ _ _ dX6_bringUp_49 (⟨(by unfold rUp; first | exact if_neg h5 | (rw [if_pos (Classical.not_not.mp h5)]; rfl)), rfl, rfl⟩)
def rm_X6_canHave : Room := { frames := 0, cells := 0, slots := 0, locals := 0 }
set_option maxHeartbeats 4000000 in
set_option maxRecDepth 100000 in
theorem c_X6_canHave {l : Launch} {G : mG} {ad : mA} {S : mS} {L : mL} {R : mR} {r p k : Nat} (hR : mlk R) (hr : r < 16) (hp : p < 10) (hk : 1 ≤ k) (hk6 : k ≤ 6) : Ki l yX6_canHave cX6_canHave 3 .boolean rm_X6_canHave G ad mdm [.ref (ad 12 r), .int (nI k), .int (nI p)] S L R (fun r_ S2 L2 R2 => r_ = bI (rCan S r p k) ∧ S = S2 ∧ L = L2 ∧ R = R2) := by
  refine Ki.of RX6 (by decide) rfl (Nat.le_of_ble_eq_true rfl) ?_
  intro X hXl hXG C ret
  subst hXl; subst hXG
  change Z X 3 ad mdm S L R 0 0 0 [(0, _), (1, _), (2, _)] []
  refine z_iload_n C 0 1 1 dX6_canHave_0 rfl rfl ?_
  refine z_tab C 1 1 6 200 (fun n => [40, 75, 100, 125, 150, 175].getD (n - 1) 0) dX6_canHave_1 (by decide) (by decide) (by decide) (fun n1 g1 k1 h1 => ?_) (fun h1 => absurd rfl (h1 k hk hk6))
  · rcases (show n1 = 1 ∨ n1 = 2 ∨ n1 = 3 ∨ n1 = 4 ∨ n1 = 5 ∨ n1 = 6 by omega) with rfl | rfl | rfl | rfl | rfl | rfl
    · obtain rfl : k = 1 := (nI_eq (by omega) (by decide)).mp h1
      refine z_aload_n C 40 0 0 dX6_canHave_40 rfl rfl ?_
      refine z_getr C 41 dX6_canHave_41 gf_X6_9 rfl (by first | assumption | exact Nat.zero_lt_one | omega) (by first | exact hR _ _ _ _ rfl | exact hR2 _ _ _ _ rfl | assumption) ?_
      refine z_iload_n C 44 2 2 dX6_canHave_44 rfl rfl ?_
      refine z_iald C 45 dX6_canHave_45 (by first | rfl | assumption) (by first | assumption | exact Nat.zero_lt_one | omega) (by first | rfl | assumption) (by first | decide | omega) (by first | assumption | omega) ?_
      refine z_iconst (v := nI 2) C 46 dX6_canHave_46 (by decide) ?_
      first | with_reducible refine z_icmp_eqN C 47 60 dX6_canHave_47 (by decide) (by omega) (by omega) (fun h47 => ?_) (fun h47 => ?_) | refine z_icmp_eq C 47 60 dX6_canHave_47 (by decide) (fun h47 => ?_) (fun h47 => ?_)
      · refine z_aload_n C 60 0 0 dX6_canHave_60 rfl rfl ?_
        refine z_getr C 61 dX6_canHave_61 gf_X6_18 rfl (by first | assumption | exact Nat.zero_lt_one | omega) (by first | exact hR _ _ _ _ rfl | exact hR2 _ _ _ _ rfl | assumption) ?_
        refine z_iload_n C 64 2 2 dX6_canHave_64 rfl rfl ?_
        refine z_iald C 65 dX6_canHave_65 (by first | rfl | assumption) (by first | assumption | exact Nat.zero_lt_one | omega) (by first | rfl | assumption) (by first | decide | omega) (by first | assumption | omega) ?_
        first | with_reducible refine z_if_leN C 66 73 dX6_canHave_66 (by decide) (by omega) (fun h66 => ?_) (fun h66 => ?_) | refine z_if_le C 66 73 dX6_canHave_66 (by decide) (fun h66 => ?_) (fun h66 => ?_)
        · have h66' := Int32.not_lt.mpr h66
          refine z_iconst (v := nI 0) C 73 dX6_canHave_73 (by decide) ?_
          exact ret 74 _ _ _ _ _ dX6_canHave_74 (by first | rfl | exact bI_n | decide) (⟨(by first | exact bI_1 (by simp [rCan, nI_eq, *]) | exact bI_0 (by simp [rCan, nI_eq, *])), rfl, rfl, rfl⟩)
        · have h66' := Int32.not_le.mp h66
          refine z_iconst (v := nI 1) C 69 dX6_canHave_69 (by decide) ?_
          refine z_goto C 70 74 dX6_canHave_70 (by decide) ?_
          exact ret 74 _ _ _ _ _ dX6_canHave_74 (by first | rfl | exact bI_n | decide) (⟨(by first | exact bI_1 (by simp [rCan, nI_eq, *]) | exact bI_0 (by simp [rCan, nI_eq, *])), rfl, rfl, rfl⟩)
      · refine z_aload_n C 50 0 0 dX6_canHave_50 rfl rfl ?_
        refine z_getr C 51 dX6_canHave_51 gf_X6_9 rfl (by first | assumption | exact Nat.zero_lt_one | omega) (by first | exact hR _ _ _ _ rfl | exact hR2 _ _ _ _ rfl | assumption) ?_
        refine z_iload_n C 54 2 2 dX6_canHave_54 rfl rfl ?_
        refine z_iald C 55 dX6_canHave_55 (by first | rfl | assumption) (by first | assumption | exact Nat.zero_lt_one | omega) (by first | rfl | assumption) (by first | decide | omega) (by first | assumption | omega) ?_
        refine z_iconst (v := nI 3) C 56 dX6_canHave_56 (by decide) ?_
        first | with_reducible refine z_icmp_neN C 57 73 dX6_canHave_57 (by decide) (by omega) (by omega) (fun h57 => ?_) (fun h57 => ?_) | refine z_icmp_ne C 57 73 dX6_canHave_57 (by decide) (fun h57 => ?_) (fun h57 => ?_)
        · refine z_iconst (v := nI 0) C 73 dX6_canHave_73 (by decide) ?_
          exact ret 74 _ _ _ _ _ dX6_canHave_74 (by first | rfl | exact bI_n | decide) (⟨(by first | exact bI_1 (by simp [rCan, nI_eq, *]) | exact bI_0 (by simp [rCan, nI_eq, *])), rfl, rfl, rfl⟩)
        · refine z_aload_n C 60 0 0 dX6_canHave_60 rfl rfl ?_
          refine z_getr C 61 dX6_canHave_61 gf_X6_18 rfl (by first | assumption | exact Nat.zero_lt_one | omega) (by first | exact hR _ _ _ _ rfl | exact hR2 _ _ _ _ rfl | assumption) ?_
          refine z_iload_n C 64 2 2 dX6_canHave_64 rfl rfl ?_
          refine z_iald C 65 dX6_canHave_65 (by first | rfl | assumption) (by first | assumption | exact Nat.zero_lt_one | omega) (by first | rfl | assumption) (by first | decide | omega) (by first | assumption | omega) ?_
          first | with_reducible refine z_if_leN C 66 73 dX6_canHave_66 (by decide) (by omega) (fun h66 => ?_) (fun h66 => ?_) | refine z_if_le C 66 73 dX6_canHave_66 (by decide) (fun h66 => ?_) (fun h66 => ?_)
          · have h66' := Int32.not_lt.mpr h66
            refine z_iconst (v := nI 0) C 73 dX6_canHave_73 (by decide) ?_
            exact ret 74 _ _ _ _ _ dX6_canHave_74 (by first | rfl | exact bI_n | decide) (⟨(by first | exact bI_1 (by simp [rCan, nI_eq, *]) | exact bI_0 (by simp [rCan, nI_eq, *])), rfl, rfl, rfl⟩)
          · have h66' := Int32.not_le.mp h66
            refine z_iconst (v := nI 1) C 69 dX6_canHave_69 (by decide) ?_
            refine z_goto C 70 74 dX6_canHave_70 (by decide) ?_
            exact ret 74 _ _ _ _ _ dX6_canHave_74 (by first | rfl | exact bI_n | decide) (⟨(by first | exact bI_1 (by simp [rCan, nI_eq, *]) | exact bI_0 (by simp [rCan, nI_eq, *])), rfl, rfl, rfl⟩)
    · obtain rfl : k = 2 := (nI_eq (by omega) (by decide)).mp h1
      refine z_aload_n C 75 0 0 dX6_canHave_75 rfl rfl ?_
      refine z_getr C 76 dX6_canHave_76 gf_X6_9 rfl (by first | assumption | exact Nat.zero_lt_one | omega) (by first | exact hR _ _ _ _ rfl | exact hR2 _ _ _ _ rfl | assumption) ?_
      refine z_iload_n C 79 2 2 dX6_canHave_79 rfl rfl ?_
      refine z_iald C 80 dX6_canHave_80 (by first | rfl | assumption) (by first | assumption | exact Nat.zero_lt_one | omega) (by first | rfl | assumption) (by first | decide | omega) (by first | assumption | omega) ?_
      refine z_iconst (v := nI 3) C 81 dX6_canHave_81 (by decide) ?_
      first | with_reducible refine z_icmp_neN C 82 98 dX6_canHave_82 (by decide) (by omega) (by omega) (fun h82 => ?_) (fun h82 => ?_) | refine z_icmp_ne C 82 98 dX6_canHave_82 (by decide) (fun h82 => ?_) (fun h82 => ?_)
      · refine z_iconst (v := nI 0) C 98 dX6_canHave_98 (by decide) ?_
        exact ret 99 _ _ _ _ _ dX6_canHave_99 (by first | rfl | exact bI_n | decide) (⟨(by first | exact bI_1 (by simp [rCan, nI_eq, *]) | exact bI_0 (by simp [rCan, nI_eq, *])), rfl, rfl, rfl⟩)
      · refine z_aload_n C 85 0 0 dX6_canHave_85 rfl rfl ?_
        refine z_getr C 86 dX6_canHave_86 gf_X6_21 rfl (by first | assumption | exact Nat.zero_lt_one | omega) (by first | exact hR _ _ _ _ rfl | exact hR2 _ _ _ _ rfl | assumption) ?_
        refine z_iload_n C 89 2 2 dX6_canHave_89 rfl rfl ?_
        refine z_zald C 90 dX6_canHave_90 rfl (by first | assumption | exact Nat.zero_lt_one | omega) (by first | rfl | assumption) (by first | decide | omega) (by first | assumption | omega) ?_
        first | with_reducible refine z_if_neB C 91 98 dX6_canHave_91 (by decide) (fun h91 => ?_) (fun h91 => ?_) | with_reducible refine z_if_neN C 91 98 dX6_canHave_91 (by decide) (by omega) (fun h91 => ?_) (fun h91 => ?_) | refine z_if_ne C 91 98 dX6_canHave_91 (by decide) (fun h91 => ?_) (fun h91 => ?_)
        · refine z_iconst (v := nI 0) C 98 dX6_canHave_98 (by decide) ?_
          exact ret 99 _ _ _ _ _ dX6_canHave_99 (by first | rfl | exact bI_n | decide) (⟨(by first | exact bI_1 (by simp [rCan, nI_eq, *]) | exact bI_0 (by simp [rCan, nI_eq, *])), rfl, rfl, rfl⟩)
        · refine z_iconst (v := nI 1) C 94 dX6_canHave_94 (by decide) ?_
          refine z_goto C 95 99 dX6_canHave_95 (by decide) ?_
          exact ret 99 _ _ _ _ _ dX6_canHave_99 (by first | rfl | exact bI_n | decide) (⟨(by first | exact bI_1 (by simp [rCan, nI_eq, *]) | exact bI_0 (by simp [rCan, nI_eq, *])), rfl, rfl, rfl⟩)
    · obtain rfl : k = 3 := (nI_eq (by omega) (by decide)).mp h1
      refine z_aload_n C 100 0 0 dX6_canHave_100 rfl rfl ?_
      refine z_getr C 101 dX6_canHave_101 gf_X6_9 rfl (by first | assumption | exact Nat.zero_lt_one | omega) (by first | exact hR _ _ _ _ rfl | exact hR2 _ _ _ _ rfl | assumption) ?_
      refine z_iload_n C 104 2 2 dX6_canHave_104 rfl rfl ?_
      refine z_iald C 105 dX6_canHave_105 (by first | rfl | assumption) (by first | assumption | exact Nat.zero_lt_one | omega) (by first | rfl | assumption) (by first | decide | omega) (by first | assumption | omega) ?_
      refine z_iconst (v := nI 2) C 106 dX6_canHave_106 (by decide) ?_
      first | with_reducible refine z_icmp_neN C 107 123 dX6_canHave_107 (by decide) (by omega) (by omega) (fun h107 => ?_) (fun h107 => ?_) | refine z_icmp_ne C 107 123 dX6_canHave_107 (by decide) (fun h107 => ?_) (fun h107 => ?_)
      · refine z_iconst (v := nI 0) C 123 dX6_canHave_123 (by decide) ?_
        exact ret 124 _ _ _ _ _ dX6_canHave_124 (by first | rfl | exact bI_n | decide) (⟨(by first | exact bI_1 (by simp [rCan, nI_eq, *]) | exact bI_0 (by simp [rCan, nI_eq, *])), rfl, rfl, rfl⟩)
      · refine z_aload_n C 110 0 0 dX6_canHave_110 rfl rfl ?_
        refine z_getr C 111 dX6_canHave_111 gf_X6_21 rfl (by first | assumption | exact Nat.zero_lt_one | omega) (by first | exact hR _ _ _ _ rfl | exact hR2 _ _ _ _ rfl | assumption) ?_
        refine z_iload_n C 114 2 2 dX6_canHave_114 rfl rfl ?_
        refine z_zald C 115 dX6_canHave_115 rfl (by first | assumption | exact Nat.zero_lt_one | omega) (by first | rfl | assumption) (by first | decide | omega) (by first | assumption | omega) ?_
        first | with_reducible refine z_if_neB C 116 123 dX6_canHave_116 (by decide) (fun h116 => ?_) (fun h116 => ?_) | with_reducible refine z_if_neN C 116 123 dX6_canHave_116 (by decide) (by omega) (fun h116 => ?_) (fun h116 => ?_) | refine z_if_ne C 116 123 dX6_canHave_116 (by decide) (fun h116 => ?_) (fun h116 => ?_)
        · refine z_iconst (v := nI 0) C 123 dX6_canHave_123 (by decide) ?_
          exact ret 124 _ _ _ _ _ dX6_canHave_124 (by first | rfl | exact bI_n | decide) (⟨(by first | exact bI_1 (by simp [rCan, nI_eq, *]) | exact bI_0 (by simp [rCan, nI_eq, *])), rfl, rfl, rfl⟩)
        · refine z_iconst (v := nI 1) C 119 dX6_canHave_119 (by decide) ?_
          refine z_goto C 120 124 dX6_canHave_120 (by decide) ?_
          exact ret 124 _ _ _ _ _ dX6_canHave_124 (by first | rfl | exact bI_n | decide) (⟨(by first | exact bI_1 (by simp [rCan, nI_eq, *]) | exact bI_0 (by simp [rCan, nI_eq, *])), rfl, rfl, rfl⟩)
    · obtain rfl : k = 4 := (nI_eq (by omega) (by decide)).mp h1
      refine z_aload_n C 125 0 0 dX6_canHave_125 rfl rfl ?_
      refine z_getr C 126 dX6_canHave_126 gf_X6_9 rfl (by first | assumption | exact Nat.zero_lt_one | omega) (by first | exact hR _ _ _ _ rfl | exact hR2 _ _ _ _ rfl | assumption) ?_
      refine z_iload_n C 129 2 2 dX6_canHave_129 rfl rfl ?_
      refine z_iald C 130 dX6_canHave_130 (by first | rfl | assumption) (by first | assumption | exact Nat.zero_lt_one | omega) (by first | rfl | assumption) (by first | decide | omega) (by first | assumption | omega) ?_
      refine z_iconst (v := nI 4) C 131 dX6_canHave_131 (by decide) ?_
      first | with_reducible refine z_icmp_neN C 132 148 dX6_canHave_132 (by decide) (by omega) (by omega) (fun h132 => ?_) (fun h132 => ?_) | refine z_icmp_ne C 132 148 dX6_canHave_132 (by decide) (fun h132 => ?_) (fun h132 => ?_)
      · refine z_iconst (v := nI 0) C 148 dX6_canHave_148 (by decide) ?_
        exact ret 149 _ _ _ _ _ dX6_canHave_149 (by first | rfl | exact bI_n | decide) (⟨(by first | exact bI_1 (by simp [rCan, nI_eq, *]) | exact bI_0 (by simp [rCan, nI_eq, *])), rfl, rfl, rfl⟩)
      · refine z_aload_n C 135 0 0 dX6_canHave_135 rfl rfl ?_
        refine z_getr C 136 dX6_canHave_136 gf_X6_21 rfl (by first | assumption | exact Nat.zero_lt_one | omega) (by first | exact hR _ _ _ _ rfl | exact hR2 _ _ _ _ rfl | assumption) ?_
        refine z_iload_n C 139 2 2 dX6_canHave_139 rfl rfl ?_
        refine z_zald C 140 dX6_canHave_140 rfl (by first | assumption | exact Nat.zero_lt_one | omega) (by first | rfl | assumption) (by first | decide | omega) (by first | assumption | omega) ?_
        first | with_reducible refine z_if_neB C 141 148 dX6_canHave_141 (by decide) (fun h141 => ?_) (fun h141 => ?_) | with_reducible refine z_if_neN C 141 148 dX6_canHave_141 (by decide) (by omega) (fun h141 => ?_) (fun h141 => ?_) | refine z_if_ne C 141 148 dX6_canHave_141 (by decide) (fun h141 => ?_) (fun h141 => ?_)
        · refine z_iconst (v := nI 0) C 148 dX6_canHave_148 (by decide) ?_
          exact ret 149 _ _ _ _ _ dX6_canHave_149 (by first | rfl | exact bI_n | decide) (⟨(by first | exact bI_1 (by simp [rCan, nI_eq, *]) | exact bI_0 (by simp [rCan, nI_eq, *])), rfl, rfl, rfl⟩)
        · refine z_iconst (v := nI 1) C 144 dX6_canHave_144 (by decide) ?_
          refine z_goto C 145 149 dX6_canHave_145 (by decide) ?_
          exact ret 149 _ _ _ _ _ dX6_canHave_149 (by first | rfl | exact bI_n | decide) (⟨(by first | exact bI_1 (by simp [rCan, nI_eq, *]) | exact bI_0 (by simp [rCan, nI_eq, *])), rfl, rfl, rfl⟩)
    · obtain rfl : k = 5 := (nI_eq (by omega) (by decide)).mp h1
      refine z_aload_n C 150 0 0 dX6_canHave_150 rfl rfl ?_
      refine z_getr C 151 dX6_canHave_151 gf_X6_9 rfl (by first | assumption | exact Nat.zero_lt_one | omega) (by first | exact hR _ _ _ _ rfl | exact hR2 _ _ _ _ rfl | assumption) ?_
      refine z_iload_n C 154 2 2 dX6_canHave_154 rfl rfl ?_
      refine z_iald C 155 dX6_canHave_155 (by first | rfl | assumption) (by first | assumption | exact Nat.zero_lt_one | omega) (by first | rfl | assumption) (by first | decide | omega) (by first | assumption | omega) ?_
      refine z_iconst (v := nI 5) C 156 dX6_canHave_156 (by decide) ?_
      first | with_reducible refine z_icmp_neN C 157 173 dX6_canHave_157 (by decide) (by omega) (by omega) (fun h157 => ?_) (fun h157 => ?_) | refine z_icmp_ne C 157 173 dX6_canHave_157 (by decide) (fun h157 => ?_) (fun h157 => ?_)
      · refine z_iconst (v := nI 0) C 173 dX6_canHave_173 (by decide) ?_
        exact ret 174 _ _ _ _ _ dX6_canHave_174 (by first | rfl | exact bI_n | decide) (⟨(by first | exact bI_1 (by simp [rCan, nI_eq, *]) | exact bI_0 (by simp [rCan, nI_eq, *])), rfl, rfl, rfl⟩)
      · refine z_aload_n C 160 0 0 dX6_canHave_160 rfl rfl ?_
        refine z_getr C 161 dX6_canHave_161 gf_X6_21 rfl (by first | assumption | exact Nat.zero_lt_one | omega) (by first | exact hR _ _ _ _ rfl | exact hR2 _ _ _ _ rfl | assumption) ?_
        refine z_iload_n C 164 2 2 dX6_canHave_164 rfl rfl ?_
        refine z_zald C 165 dX6_canHave_165 rfl (by first | assumption | exact Nat.zero_lt_one | omega) (by first | rfl | assumption) (by first | decide | omega) (by first | assumption | omega) ?_
        first | with_reducible refine z_if_neB C 166 173 dX6_canHave_166 (by decide) (fun h166 => ?_) (fun h166 => ?_) | with_reducible refine z_if_neN C 166 173 dX6_canHave_166 (by decide) (by omega) (fun h166 => ?_) (fun h166 => ?_) | refine z_if_ne C 166 173 dX6_canHave_166 (by decide) (fun h166 => ?_) (fun h166 => ?_)
        · refine z_iconst (v := nI 0) C 173 dX6_canHave_173 (by decide) ?_
          exact ret 174 _ _ _ _ _ dX6_canHave_174 (by first | rfl | exact bI_n | decide) (⟨(by first | exact bI_1 (by simp [rCan, nI_eq, *]) | exact bI_0 (by simp [rCan, nI_eq, *])), rfl, rfl, rfl⟩)
        · refine z_iconst (v := nI 1) C 169 dX6_canHave_169 (by decide) ?_
          refine z_goto C 170 174 dX6_canHave_170 (by decide) ?_
          exact ret 174 _ _ _ _ _ dX6_canHave_174 (by first | rfl | exact bI_n | decide) (⟨(by first | exact bI_1 (by simp [rCan, nI_eq, *]) | exact bI_0 (by simp [rCan, nI_eq, *])), rfl, rfl, rfl⟩)
    · obtain rfl : k = 6 := (nI_eq (by omega) (by decide)).mp h1
      refine z_aload_n C 175 0 0 dX6_canHave_175 rfl rfl ?_
      refine z_getr C 176 dX6_canHave_176 gf_X6_9 rfl (by first | assumption | exact Nat.zero_lt_one | omega) (by first | exact hR _ _ _ _ rfl | exact hR2 _ _ _ _ rfl | assumption) ?_
      refine z_iload_n C 179 2 2 dX6_canHave_179 rfl rfl ?_
      refine z_iald C 180 dX6_canHave_180 (by first | rfl | assumption) (by first | assumption | exact Nat.zero_lt_one | omega) (by first | rfl | assumption) (by first | decide | omega) (by first | assumption | omega) ?_
      refine z_iconst (v := nI 1) C 181 dX6_canHave_181 (by decide) ?_
      first | with_reducible refine z_icmp_neN C 182 198 dX6_canHave_182 (by decide) (by omega) (by omega) (fun h182 => ?_) (fun h182 => ?_) | refine z_icmp_ne C 182 198 dX6_canHave_182 (by decide) (fun h182 => ?_) (fun h182 => ?_)
      · refine z_iconst (v := nI 0) C 198 dX6_canHave_198 (by decide) ?_
        exact ret 199 _ _ _ _ _ dX6_canHave_199 (by first | rfl | exact bI_n | decide) (⟨(by first | exact bI_1 (by simp [rCan, nI_eq, *]) | exact bI_0 (by simp [rCan, nI_eq, *])), rfl, rfl, rfl⟩)
      · refine z_aload_n C 185 0 0 dX6_canHave_185 rfl rfl ?_
        refine z_getr C 186 dX6_canHave_186 gf_X6_18 rfl (by first | assumption | exact Nat.zero_lt_one | omega) (by first | exact hR _ _ _ _ rfl | exact hR2 _ _ _ _ rfl | assumption) ?_
        refine z_iload_n C 189 2 2 dX6_canHave_189 rfl rfl ?_
        refine z_iald C 190 dX6_canHave_190 (by first | rfl | assumption) (by first | assumption | exact Nat.zero_lt_one | omega) (by first | rfl | assumption) (by first | decide | omega) (by first | assumption | omega) ?_
        first | with_reducible refine z_if_leN C 191 198 dX6_canHave_191 (by decide) (by omega) (fun h191 => ?_) (fun h191 => ?_) | refine z_if_le C 191 198 dX6_canHave_191 (by decide) (fun h191 => ?_) (fun h191 => ?_)
        · have h191' := Int32.not_lt.mpr h191
          refine z_iconst (v := nI 0) C 198 dX6_canHave_198 (by decide) ?_
          exact ret 199 _ _ _ _ _ dX6_canHave_199 (by first | rfl | exact bI_n | decide) (⟨(by first | exact bI_1 (by simp [rCan, nI_eq, *]) | exact bI_0 (by simp [rCan, nI_eq, *])), rfl, rfl, rfl⟩)
        · have h191' := Int32.not_le.mp h191
          refine z_iconst (v := nI 1) C 194 dX6_canHave_194 (by decide) ?_
          refine z_goto C 195 199 dX6_canHave_195 (by decide) ?_
          exact ret 199 _ _ _ _ _ dX6_canHave_199 (by first | rfl | exact bI_n | decide) (⟨(by first | exact bI_1 (by simp [rCan, nI_eq, *]) | exact bI_0 (by simp [rCan, nI_eq, *])), rfl, rfl, rfl⟩)
def rm_X6_doStep : Room := { frames := 0, cells := 0, slots := 0, locals := 0 }
set_option maxHeartbeats 4000000 in
set_option maxRecDepth 100000 in
theorem c_X6_doStep {l : Launch} {G : mG} {ad : mA} {S : mS} {L : mL} {R : mR} {r p k : Nat} (hR : mlk R) (hr : r < 16) (hp : p < 10) (hk : 1 ≤ k) (hk6 : k ≤ 6) : Kv l yX6_doStep cX6_doStep 3 rm_X6_doStep G ad mdm [.ref (ad 12 r), .int (nI k), .int (nI p)] S L R (fun S2 L2 R2 => rStep S r p k = S2 ∧ L = L2 ∧ R = R2) := by
  refine Kv.of RX6 (by decide) rfl (Nat.le_of_ble_eq_true rfl) ?_
  intro X hXl hXG C ret
  subst hXl; subst hXG
  change Z X 3 ad mdm S L R 0 0 0 [(0, _), (1, _), (2, _)] []
  refine z_iload_n C 0 1 1 dX6_doStep_0 rfl rfl ?_
  refine z_tab C 1 1 6 104 (fun n => [40, 50, 67, 77, 94, 40].getD (n - 1) 0) dX6_doStep_1 (by decide) (by decide) (by decide) (fun n1 g1 k1 h1 => ?_) (fun h1 => absurd rfl (h1 k hk hk6))
  · rcases (show n1 = 1 ∨ n1 = 2 ∨ n1 = 3 ∨ n1 = 4 ∨ n1 = 5 ∨ n1 = 6 by omega) with rfl | rfl | rfl | rfl | rfl | rfl
    · obtain rfl : k = 1 := (nI_eq (by omega) (by decide)).mp h1
      refine z_aload_n C 40 0 0 dX6_doStep_40 rfl rfl ?_
      refine z_getr C 41 dX6_doStep_41 gf_X6_18 rfl (by first | assumption | exact Nat.zero_lt_one | omega) (by first | exact hR _ _ _ _ rfl | exact hR2 _ _ _ _ rfl | assumption) ?_
      refine z_iload_n C 44 2 2 dX6_doStep_44 rfl rfl ?_
      refine z_iconst (v := nI 0) C 45 dX6_doStep_45 (by decide) ?_
      refine z_iast C 46 dX6_doStep_46 (by first | rfl | assumption) (by first | assumption | exact Nat.zero_lt_one | omega)  (by first | rfl | assumption) (by first | decide | omega) (by first | assumption | omega) ?_
      refine z_goto C 47 104 dX6_doStep_47 (by decide) ?_
      exact ret 104 _ _ _ _ dX6_doStep_104 (⟨rfl, rfl, rfl⟩)
    · obtain rfl : k = 2 := (nI_eq (by omega) (by decide)).mp h1
      refine z_aload_n C 50 0 0 dX6_doStep_50 rfl rfl ?_
      refine z_getr C 51 dX6_doStep_51 gf_X6_18 rfl (by first | assumption | exact Nat.zero_lt_one | omega) (by first | exact hR _ _ _ _ rfl | exact hR2 _ _ _ _ rfl | assumption) ?_
      refine z_iload_n C 54 2 2 dX6_doStep_54 rfl rfl ?_
      refine z_iconst (v := nI 0) C 55 dX6_doStep_55 (by decide) ?_
      refine z_iast C 56 dX6_doStep_56 (by first | rfl | assumption) (by first | assumption | exact Nat.zero_lt_one | omega)  (by first | rfl | assumption) (by first | decide | omega) (by first | assumption | omega) ?_
      refine z_aload_n C 57 0 0 dX6_doStep_57 rfl rfl ?_
      refine z_getr C 58 dX6_doStep_58 gf_X6_9 rfl (by first | assumption | exact Nat.zero_lt_one | omega) (by first | exact hR _ _ _ _ rfl | exact hR2 _ _ _ _ rfl | assumption) ?_
      refine z_iload_n C 61 2 2 dX6_doStep_61 rfl rfl ?_
      refine z_iconst (v := nI 4) C 62 dX6_doStep_62 (by decide) ?_
      refine z_iast C 63 dX6_doStep_63 (by first | rfl | assumption) (by first | assumption | exact Nat.zero_lt_one | omega)  (by first | rfl | assumption) (by first | decide | omega) (by first | assumption | omega) ?_
      refine z_goto C 64 104 dX6_doStep_64 (by decide) ?_
      exact ret 104 _ _ _ _ dX6_doStep_104 (⟨rfl, rfl, rfl⟩)
    · obtain rfl : k = 3 := (nI_eq (by omega) (by decide)).mp h1
      refine z_aload_n C 67 0 0 dX6_doStep_67 rfl rfl ?_
      refine z_getr C 68 dX6_doStep_68 gf_X6_9 rfl (by first | assumption | exact Nat.zero_lt_one | omega) (by first | exact hR _ _ _ _ rfl | exact hR2 _ _ _ _ rfl | assumption) ?_
      refine z_iload_n C 71 2 2 dX6_doStep_71 rfl rfl ?_
      refine z_iconst (v := nI 3) C 72 dX6_doStep_72 (by decide) ?_
      refine z_iast C 73 dX6_doStep_73 (by first | rfl | assumption) (by first | assumption | exact Nat.zero_lt_one | omega)  (by first | rfl | assumption) (by first | decide | omega) (by first | assumption | omega) ?_
      refine z_goto C 74 104 dX6_doStep_74 (by decide) ?_
      exact ret 104 _ _ _ _ dX6_doStep_104 (⟨rfl, rfl, rfl⟩)
    · obtain rfl : k = 4 := (nI_eq (by omega) (by decide)).mp h1
      refine z_aload_n C 77 0 0 dX6_doStep_77 rfl rfl ?_
      refine z_getr C 78 dX6_doStep_78 gf_X6_15 rfl (by first | assumption | exact Nat.zero_lt_one | omega) (by first | exact hR _ _ _ _ rfl | exact hR2 _ _ _ _ rfl | assumption) ?_
      refine z_iload_n C 81 2 2 dX6_doStep_81 rfl rfl ?_
      refine z_iconst (v := nI 0) C 82 dX6_doStep_82 (by decide) ?_
      refine z_iast C 83 dX6_doStep_83 (by first | rfl | assumption) (by first | assumption | exact Nat.zero_lt_one | omega)  (by first | rfl | assumption) (by first | decide | omega) (by first | assumption | omega) ?_
      refine z_aload_n C 84 0 0 dX6_doStep_84 rfl rfl ?_
      refine z_getr C 85 dX6_doStep_85 gf_X6_9 rfl (by first | assumption | exact Nat.zero_lt_one | omega) (by first | exact hR _ _ _ _ rfl | exact hR2 _ _ _ _ rfl | assumption) ?_
      refine z_iload_n C 88 2 2 dX6_doStep_88 rfl rfl ?_
      refine z_iconst (v := nI 5) C 89 dX6_doStep_89 (by decide) ?_
      refine z_iast C 90 dX6_doStep_90 (by first | rfl | assumption) (by first | assumption | exact Nat.zero_lt_one | omega)  (by first | rfl | assumption) (by first | decide | omega) (by first | assumption | omega) ?_
      refine z_goto C 91 104 dX6_doStep_91 (by decide) ?_
      exact ret 104 _ _ _ _ dX6_doStep_104 (⟨rfl, rfl, rfl⟩)
    · obtain rfl : k = 5 := (nI_eq (by omega) (by decide)).mp h1
      refine z_aload_n C 94 0 0 dX6_doStep_94 rfl rfl ?_
      refine z_getr C 95 dX6_doStep_95 gf_X6_9 rfl (by first | assumption | exact Nat.zero_lt_one | omega) (by first | exact hR _ _ _ _ rfl | exact hR2 _ _ _ _ rfl | assumption) ?_
      refine z_iload_n C 98 2 2 dX6_doStep_98 rfl rfl ?_
      refine z_iconst (v := nI 0) C 99 dX6_doStep_99 (by decide) ?_
      refine z_iast C 100 dX6_doStep_100 (by first | rfl | assumption) (by first | assumption | exact Nat.zero_lt_one | omega)  (by first | rfl | assumption) (by first | decide | omega) (by first | assumption | omega) ?_
      refine z_goto C 101 104 dX6_doStep_101 (by decide) ?_
      exact ret 104 _ _ _ _ dX6_doStep_104 (⟨rfl, rfl, rfl⟩)
    · obtain rfl : k = 6 := (nI_eq (by omega) (by decide)).mp h1
      refine z_aload_n C 40 0 0 dX6_doStep_40 rfl rfl ?_
      refine z_getr C 41 dX6_doStep_41 gf_X6_18 rfl (by first | assumption | exact Nat.zero_lt_one | omega) (by first | exact hR _ _ _ _ rfl | exact hR2 _ _ _ _ rfl | assumption) ?_
      refine z_iload_n C 44 2 2 dX6_doStep_44 rfl rfl ?_
      refine z_iconst (v := nI 0) C 45 dX6_doStep_45 (by decide) ?_
      refine z_iast C 46 dX6_doStep_46 (by first | rfl | assumption) (by first | assumption | exact Nat.zero_lt_one | omega)  (by first | rfl | assumption) (by first | decide | omega) (by first | assumption | omega) ?_
      refine z_goto C 47 104 dX6_doStep_47 (by decide) ?_
      exact ret 104 _ _ _ _ dX6_doStep_104 (⟨rfl, rfl, rfl⟩)
def rm_X6_empty : Room := { frames := 0, cells := 0, slots := 0, locals := 0 }
set_option maxHeartbeats 4000000 in
set_option maxRecDepth 100000 in
theorem c_X6_empty {l : Launch} {G : mG} {ad : mA} {S : mS} {L : mL} {R : mR} {r p : Nat} (hR : mlk R) (hr : r < 16) (hp : p < 10) : Kv l yX6_empty cX6_empty 2 rm_X6_empty G ad mdm [.ref (ad 12 r), .int (nI p)] S L R (fun S2 L2 R2 => up3 (up3 (up3 S 14 r p (nI 0)) 15 r p (nI 0)) 13 r p (nI 0) = S2 ∧ L = L2 ∧ R = R2) := by
  refine Kv.of RX6 (by decide) rfl (Nat.le_of_ble_eq_true rfl) ?_
  intro X hXl hXG C ret
  subst hXl; subst hXG
  change Z X 2 ad mdm S L R 0 0 0 [(0, _), (1, _)] []
  refine z_aload_n C 0 0 0 dX6_empty_0 rfl rfl ?_
  refine z_getr C 1 dX6_empty_1 gf_X6_15 rfl (by first | assumption | exact Nat.zero_lt_one | omega) (by first | exact hR _ _ _ _ rfl | exact hR2 _ _ _ _ rfl | assumption) ?_
  refine z_iload_n C 4 1 1 dX6_empty_4 rfl rfl ?_
  refine z_iconst (v := nI 0) C 5 dX6_empty_5 (by decide) ?_
  refine z_iast C 6 dX6_empty_6 (by first | rfl | assumption) (by first | assumption | exact Nat.zero_lt_one | omega)  (by first | rfl | assumption) (by first | decide | omega) (by first | assumption | omega) ?_
  refine z_aload_n C 7 0 0 dX6_empty_7 rfl rfl ?_
  refine z_getr C 8 dX6_empty_8 gf_X6_18 rfl (by first | assumption | exact Nat.zero_lt_one | omega) (by first | exact hR _ _ _ _ rfl | exact hR2 _ _ _ _ rfl | assumption) ?_
  refine z_iload_n C 11 1 1 dX6_empty_11 rfl rfl ?_
  refine z_iconst (v := nI 0) C 12 dX6_empty_12 (by decide) ?_
  refine z_iast C 13 dX6_empty_13 (by first | rfl | assumption) (by first | assumption | exact Nat.zero_lt_one | omega)  (by first | rfl | assumption) (by first | decide | omega) (by first | assumption | omega) ?_
  refine z_aload_n C 14 0 0 dX6_empty_14 rfl rfl ?_
  refine z_getr C 15 dX6_empty_15 gf_X6_9 rfl (by first | assumption | exact Nat.zero_lt_one | omega) (by first | exact hR _ _ _ _ rfl | exact hR2 _ _ _ _ rfl | assumption) ?_
  refine z_iload_n C 18 1 1 dX6_empty_18 rfl rfl ?_
  refine z_iconst (v := nI 0) C 19 dX6_empty_19 (by decide) ?_
  refine z_iast C 20 dX6_empty_20 (by first | rfl | assumption) (by first | assumption | exact Nat.zero_lt_one | omega)  (by first | rfl | assumption) (by first | decide | omega) (by first | assumption | omega) ?_
  exact ret 21 _ _ _ _ dX6_empty_21 (⟨rfl, rfl, rfl⟩)
