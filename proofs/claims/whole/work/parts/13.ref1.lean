def rm_X9_of : Room := { frames := 0, cells := 0, slots := 0, locals := 0 }
set_option maxHeartbeats 4000000 in
set_option maxRecDepth 100000 in
theorem c_X9_of {l : Launch} {G : mG} {ad : mA} {S : mS} {L : mL} {R : mR} {p w : Nat} (hR : mlk R) (hp : p < 10) (hw : w < 20) : Ki l yX9_of cX9_of 3 .int rm_X9_of G ad mdm [.ref (ad 40 0), .int (nI p), .int (nI w)] S L R (fun r_ S2 L2 R2 => r_ = fo (S 44 0) p w ∧ S = S2 ∧ L = L2 ∧ R = R2) := by
  refine Ki.of RX9 (by decide) rfl (Nat.le_of_ble_eq_true rfl) ?_
  intro X hXl hXG C ret
  subst hXl; subst hXG
  change Z X 3 ad mdm S L R 0 0 0 [(0, _), (1, _), (2, _)] []
  refine z_aload_n C 0 0 0 dX9_of_0 rfl rfl ?_
  refine z_getr C 1 dX9_of_1 gf_X9_20 rfl (by first | assumption | exact Nat.zero_lt_one | omega) (by first | exact hR _ _ _ _ rfl | assumption) ?_
  refine z_bipush (v := nI 6) C 4 dX9_of_4 (by decide +kernel) ?_
  refine z_bipush (v := nI 20) C 6 dX9_of_6 (by decide +kernel) ?_
  refine z_iload_n C 8 1 1 dX9_of_8 rfl rfl ?_
  first | with_reducible refine z_imulN C 9 dX9_of_9 ?_ | refine z_imul C 9 dX9_of_9 ?_
  first | with_reducible refine z_iaddN C 10 dX9_of_10 ?_ | refine z_iadd C 10 dX9_of_10 ?_
  refine z_iload_n C 11 2 2 dX9_of_11 rfl rfl ?_
  first | with_reducible refine z_iaddN C 12 dX9_of_12 ?_ | refine z_iadd C 12 dX9_of_12 ?_
  refine z_iald C 13 dX9_of_13 rfl (by first | assumption | exact Nat.zero_lt_one | omega) (by first | rfl | assumption) (by decide) (by first | assumption | omega) ?_
  exact ret 14 _ _ _ _ _ dX9_of_14 (by first | rfl | exact bI_n | decide) (⟨by first | rfl | assumption | (simp; done), rfl, rfl, rfl⟩)
def rm_X9_toldOf : Room := { frames := 0, cells := 0, slots := 0, locals := 0 }
set_option maxHeartbeats 4000000 in
set_option maxRecDepth 100000 in
theorem c_X9_toldOf {l : Launch} {G : mG} {ad : mA} {S : mS} {L : mL} {R : mR} {p w : Nat} (hR : mlk R) (hp : p < 10) (hw : w < 8) : Ki l yX9_toldOf cX9_toldOf 3 .int rm_X9_toldOf G ad mdm [.ref (ad 40 0), .int (nI p), .int (nI w)] S L R (fun r_ S2 L2 R2 => r_ = S 41 0 (8 * p + w) ∧ S = S2 ∧ L = L2 ∧ R = R2) := by
  refine Ki.of RX9 (by decide) rfl (Nat.le_of_ble_eq_true rfl) ?_
  intro X hXl hXG C ret
  subst hXl; subst hXG
  change Z X 3 ad mdm S L R 0 0 0 [(0, _), (1, _), (2, _)] []
  refine z_aload_n C 0 0 0 dX9_toldOf_0 rfl rfl ?_
  refine z_getr C 1 dX9_toldOf_1 gf_X9_7 rfl (by first | assumption | exact Nat.zero_lt_one | omega) (by first | exact hR _ _ _ _ rfl | assumption) ?_
  refine z_bipush (v := nI 8) C 4 dX9_toldOf_4 (by decide +kernel) ?_
  refine z_iload_n C 6 1 1 dX9_toldOf_6 rfl rfl ?_
  first | with_reducible refine z_imulN C 7 dX9_toldOf_7 ?_ | refine z_imul C 7 dX9_toldOf_7 ?_
  refine z_iload_n C 8 2 2 dX9_toldOf_8 rfl rfl ?_
  first | with_reducible refine z_iaddN C 9 dX9_toldOf_9 ?_ | refine z_iadd C 9 dX9_toldOf_9 ?_
  refine z_iald C 10 dX9_toldOf_10 rfl (by first | assumption | exact Nat.zero_lt_one | omega) (by first | rfl | assumption) (by decide) (by first | assumption | omega) ?_
  exact ret 11 _ _ _ _ _ dX9_toldOf_11 (by first | rfl | exact bI_n | decide) (⟨by first | rfl | assumption | (simp; done), rfl, rfl, rfl⟩)
def rm_X9_sets : Room := { frames := 0, cells := 0, slots := 0, locals := 0 }
set_option maxHeartbeats 4000000 in
set_option maxRecDepth 100000 in
theorem c_X9_sets {l : Launch} {G : mG} {ad : mA} {S : mS} {L : mL} {R : mR} {p w : Nat} {v : Int32} (hR : mlk R) (hp : p < 10) (hw : w < 20) : Kv l yX9_sets cX9_sets 4 rm_X9_sets G ad mdm [.ref (ad 40 0), .int (nI p), .int (nI w), .int v] S L R (fun S2 L2 R2 => sA S 44 (fset (S 44 0) p w v) = S2 ∧ L = L2 ∧ R = R2) := by
  refine Kv.of RX9 (by decide) rfl (Nat.le_of_ble_eq_true rfl) ?_
  intro X hXl hXG C ret
  subst hXl; subst hXG
  change Z X 4 ad mdm S L R 0 0 0 [(0, _), (1, _), (2, _), (3, _)] []
  refine z_aload_n C 0 0 0 dX9_sets_0 rfl rfl ?_
  refine z_getr C 1 dX9_sets_1 gf_X9_20 rfl (by first | assumption | exact Nat.zero_lt_one | omega) (by first | exact hR _ _ _ _ rfl | assumption) ?_
  refine z_bipush (v := nI 6) C 4 dX9_sets_4 (by decide +kernel) ?_
  refine z_bipush (v := nI 20) C 6 dX9_sets_6 (by decide +kernel) ?_
  refine z_iload_n C 8 1 1 dX9_sets_8 rfl rfl ?_
  first | with_reducible refine z_imulN C 9 dX9_sets_9 ?_ | refine z_imul C 9 dX9_sets_9 ?_
  first | with_reducible refine z_iaddN C 10 dX9_sets_10 ?_ | refine z_iadd C 10 dX9_sets_10 ?_
  refine z_iload_n C 11 2 2 dX9_sets_11 rfl rfl ?_
  first | with_reducible refine z_iaddN C 12 dX9_sets_12 ?_ | refine z_iadd C 12 dX9_sets_12 ?_
  refine z_iload_n C 13 3 3 dX9_sets_13 rfl rfl ?_
  refine z_iast C 14 dX9_sets_14 rfl (by first | assumption | exact Nat.zero_lt_one | omega)  (by first | rfl | assumption) (by decide) (by first | assumption | omega) ?_
  exact ret 15 _ _ _ _ dX9_sets_15 (⟨(sA_up S 44 _ _).symm, rfl, rfl⟩)
def rm_X9_followers : Room := { frames := 0, cells := 0, slots := 0, locals := 0 }
set_option maxHeartbeats 4000000 in
set_option maxRecDepth 100000 in
theorem c_X9_followers {l : Launch} {G : mG} {ad : mA} {S : mS} {L : mL} {R : mR} {p w : Nat} (hR : mlk R) (hp : p < 10) (hw : w < 10) : Ki l yX9_followers cX9_followers 3 .int rm_X9_followers G ad mdm [.ref (ad 40 0), .int (nI p), .int (nI w)] S L R (fun r_ S2 L2 R2 => r_ = fFol (S 44 0) p w ∧ S = S2 ∧ L = L2 ∧ R = R2) := by
  refine Ki.of RX9 (by decide) rfl (Nat.le_of_ble_eq_true rfl) ?_
  intro X hXl hXG C ret
  subst hXl; subst hXG
  change Z X 3 ad mdm S L R 0 0 0 [(0, _), (1, _), (2, _)] []
  refine z_aload_n C 0 0 0 dX9_followers_0 rfl rfl ?_
  refine z_getr C 1 dX9_followers_1 gf_X9_20 rfl (by first | assumption | exact Nat.zero_lt_one | omega) (by first | exact hR _ _ _ _ rfl | assumption) ?_
  refine z_sipush (v := nI 206) C 4 dX9_followers_4 (by decide +kernel) ?_
  refine z_bipush (v := nI 10) C 7 dX9_followers_7 (by decide +kernel) ?_
  refine z_iload_n C 9 1 1 dX9_followers_9 rfl rfl ?_
  first | with_reducible refine z_imulN C 10 dX9_followers_10 ?_ | refine z_imul C 10 dX9_followers_10 ?_
  first | with_reducible refine z_iaddN C 11 dX9_followers_11 ?_ | refine z_iadd C 11 dX9_followers_11 ?_
  refine z_iload_n C 12 2 2 dX9_followers_12 rfl rfl ?_
  first | with_reducible refine z_iaddN C 13 dX9_followers_13 ?_ | refine z_iadd C 13 dX9_followers_13 ?_
  refine z_iald C 14 dX9_followers_14 rfl (by first | assumption | exact Nat.zero_lt_one | omega) (by first | rfl | assumption) (by decide) (by first | assumption | omega) ?_
  exact ret 15 _ _ _ _ _ dX9_followers_15 (by first | rfl | exact bI_n | decide) (⟨by first | rfl | assumption | (simp; done), rfl, rfl, rfl⟩)
def rm_X9_uses : Room := { frames := 1, cells := 0, slots := 0, locals := 22 }
set_option maxHeartbeats 4000000 in
set_option maxRecDepth 100000 in
theorem c_X9_uses {l : Launch} {G : mG} {ad : mA} {S : mS} {L : mL} {R : mR} {p : Nat} (hR : mlk R) (hp : p < 10) : Ki l yX9_uses cX9_uses 2 .int rm_X9_uses G ad mdm [.ref (ad 40 0), .int (nI p)] S L R (fun r_ S2 L2 R2 => r_ = fUses (S 44 0) (S 41 0) p ∧ S = S2 ∧ L = L2 ∧ R = R2) := by
  refine Ki.of RX9 (by decide) rfl (Nat.le_of_ble_eq_true rfl) ?_
  intro X hXl hXG C ret
  subst hXl; subst hXG
  change Z X 2 ad mdm S L R 0 0 0 [(0, _), (1, _)] []
  refine z_aload_n C 0 0 0 dX9_uses_0 rfl rfl ?_
  refine z_iload_n C 1 1 1 dX9_uses_1 rfl rfl ?_
  refine z_iconst (v := nI 0) C 2 dX9_uses_2 (by decide) ?_
  refine z_cVi0 C 3 dX9_uses_3 cv_X9_203 (c_X9_of hR (by first | assumption | omega) (by omega)) rfl ⟨by decide, rfl⟩ (by first | assumption | exact Nat.zero_lt_one | omega) rfl rfl (Nat.le_of_ble_eq_true rfl) ⟨by decide, by decide⟩ ⟨rfl, rfl⟩ ⟨by decide, by decide⟩ ?_
  intro r3 S3 L3 R3 p3
  obtain ⟨rfl, rfl, rfl, rfl⟩ := p3
  refine z_look3 C 6 40 42 62 69 0 4 5 dX9_uses_6 (by decide) (by decide) (by decide) (by decide) (by decide) (fun h6 => ?_) (fun h6 => ?_) (fun h6 => ?_) (fun g6a g6b g6c => ?_)
  · refine z_iconst (v := nI 0) C 40 dX9_uses_40 (by decide) ?_
    exact ret 41 _ _ _ _ _ dX9_uses_41 (by first | rfl | exact bI_n | decide) (⟨(by unfold fUses; rw [h6]; rfl), rfl, rfl, rfl⟩)
  · refine z_aload_n C 42 0 0 dX9_uses_42 rfl rfl ?_
    refine z_iload_n C 43 1 1 dX9_uses_43 rfl rfl ?_
    refine z_iconst (v := nI 1) C 44 dX9_uses_44 (by decide) ?_
    refine z_cVi0 C 45 dX9_uses_45 cv_X9_203 (c_X9_of hR (by first | assumption | omega) (by omega)) rfl ⟨by decide, rfl⟩ (by first | assumption | exact Nat.zero_lt_one | omega) rfl rfl (Nat.le_of_ble_eq_true rfl) ⟨by decide, by decide⟩ ⟨rfl, rfl⟩ ⟨by decide, by decide⟩ ?_
    intro r45 S45 L45 R45 p45
    obtain ⟨rfl, rfl, rfl, rfl⟩ := p45
    refine z_aload_n C 48 0 0 dX9_uses_48 rfl rfl ?_
    refine z_iload_n C 49 1 1 dX9_uses_49 rfl rfl ?_
    refine z_iconst (v := nI 4) C 50 dX9_uses_50 (by decide) ?_
    refine z_cVi0 C 51 dX9_uses_51 cv_X9_207 (c_X9_toldOf hR (by first | assumption | omega) (by omega)) rfl ⟨by decide, rfl⟩ (by first | assumption | exact Nat.zero_lt_one | omega) rfl rfl (Nat.le_of_ble_eq_true rfl) ⟨by decide, by decide⟩ ⟨rfl, rfl⟩ ⟨by decide, by decide⟩ ?_
    intro r51 S51 L51 R51 p51
    obtain ⟨rfl, rfl, rfl, rfl⟩ := p51
    first | with_reducible refine z_imulN C 54 dX9_uses_54 ?_ | refine z_imul C 54 dX9_uses_54 ?_
    refine z_bipush (v := nI 99) C 55 dX9_uses_55 (by decide +kernel) ?_
    first | with_reducible refine z_iaddN C 57 dX9_uses_57 ?_ | refine z_iadd C 57 dX9_uses_57 ?_
    refine z_bipush (v := nI 100) C 58 dX9_uses_58 (by decide +kernel) ?_
    first | with_reducible refine z_idivN C 60 dX9_uses_60 (by omega) (by omega) (by omega) ?_ | refine z_idiv C 60 dX9_uses_60 (by first | decide | assumption | exact nI_ne0 (by omega) (by omega)) ?_
    exact ret 61 _ _ _ _ _ dX9_uses_61 (by first | rfl | exact bI_n | decide) (⟨(by unfold fUses; rw [h6]; rfl), rfl, rfl, rfl⟩)
  · refine z_aload_n C 62 0 0 dX9_uses_62 rfl rfl ?_
    refine z_iload_n C 63 1 1 dX9_uses_63 rfl rfl ?_
    refine z_iconst (v := nI 5) C 64 dX9_uses_64 (by decide) ?_
    refine z_cVi0 C 65 dX9_uses_65 cv_X9_207 (c_X9_toldOf hR (by first | assumption | omega) (by omega)) rfl ⟨by decide, rfl⟩ (by first | assumption | exact Nat.zero_lt_one | omega) rfl rfl (Nat.le_of_ble_eq_true rfl) ⟨by decide, by decide⟩ ⟨rfl, rfl⟩ ⟨by decide, by decide⟩ ?_
    intro r65 S65 L65 R65 p65
    obtain ⟨rfl, rfl, rfl, rfl⟩ := p65
    exact ret 68 _ _ _ _ _ dX9_uses_68 (by first | rfl | exact bI_n | decide) (⟨(by unfold fUses; rw [h6]; rfl), rfl, rfl, rfl⟩)
  · refine z_aload_n C 69 0 0 dX9_uses_69 rfl rfl ?_
    refine z_iload_n C 70 1 1 dX9_uses_70 rfl rfl ?_
    refine z_iconst (v := nI 1) C 71 dX9_uses_71 (by decide) ?_
    refine z_cVi0 C 72 dX9_uses_72 cv_X9_203 (c_X9_of hR (by first | assumption | omega) (by omega)) rfl ⟨by decide, rfl⟩ (by first | assumption | exact Nat.zero_lt_one | omega) rfl rfl (Nat.le_of_ble_eq_true rfl) ⟨by decide, by decide⟩ ⟨rfl, rfl⟩ ⟨by decide, by decide⟩ ?_
    intro r72 S72 L72 R72 p72
    obtain ⟨rfl, rfl, rfl, rfl⟩ := p72
    refine z_aload_n C 75 0 0 dX9_uses_75 rfl rfl ?_
    refine z_iload_n C 76 1 1 dX9_uses_76 rfl rfl ?_
    refine z_iconst (v := nI 2) C 77 dX9_uses_77 (by decide) ?_
    refine z_cVi0 C 78 dX9_uses_78 cv_X9_203 (c_X9_of hR (by first | assumption | omega) (by omega)) rfl ⟨by decide, rfl⟩ (by first | assumption | exact Nat.zero_lt_one | omega) rfl rfl (Nat.le_of_ble_eq_true rfl) ⟨by decide, by decide⟩ ⟨rfl, rfl⟩ ⟨by decide, by decide⟩ ?_
    intro r78 S78 L78 R78 p78
    obtain ⟨rfl, rfl, rfl, rfl⟩ := p78
    first | with_reducible refine z_iaddN C 81 dX9_uses_81 ?_ | refine z_iadd C 81 dX9_uses_81 ?_
    exact ret 82 _ _ _ _ _ dX9_uses_82 (by first | rfl | exact bI_n | decide) (⟨(by unfold fUses; rw [if_neg g6a, if_neg g6b, if_neg g6c]), rfl, rfl, rfl⟩)
def rm_X9_usesAll : Room := { frames := 2, cells := 0, slots := 0, locals := 43 }
set_option maxHeartbeats 4000000 in
set_option maxRecDepth 100000 in
theorem c_X9_usesAll {l : Launch} {G : mG} {ad : mA} {S : mS} {L : mL} {R : mR} {n : Nat} (hR : mlk R) (hn : S 40 0 1 = nI n) (hn10 : n ≤ 10) : Ki l yX9_usesAll cX9_usesAll 3 .int rm_X9_usesAll G ad mdm [.ref (ad 40 0)] S L R (fun r_ S2 L2 R2 => r_ = fAll (S 44 0) (S 41 0) n ∧ S = S2 ∧ L = L2 ∧ R = R2) := by
  refine Ki.of RX9 (by decide) rfl (Nat.le_of_ble_eq_true rfl) ?_
  intro X hXl hXG C ret
  subst hXl; subst hXG
  change Z X 3 ad mdm S L R 0 0 0 [(0, _)] []
  refine z_iconst (v := nI 0) C 0 dX9_usesAll_0 (by decide) ?_
  refine z_istore_n C 1 1 [(1, _), (0, _)] dX9_usesAll_1 rfl (by decide) rfl ?_
  refine z_iconst (v := nI 0) C 2 dX9_usesAll_2 (by decide) ?_
  refine z_istore_n C 3 2 [(2, _), (1, _), (0, _)] dX9_usesAll_3 rfl (by decide) rfl ?_
  have loop_4 : ∀ (n_4 : Nat) (i : Nat) (a : Int32), i ≤ n → a = smI (fUses (S 44 0) (S 41 0)) i → n - i < n_4 → Z X 3 ad mdm S L R 0 0 4 [(0, .ref (ad 40 0)), (1, .int a), (2, .int (nI i))] [] := by
    intro n_4
    induction n_4 with
    | zero => intro i a hi ha hm4; exact absurd hm4 (Nat.not_lt_zero _)
    | succ n_4 ih4 =>
      intro i a hi ha hm4
      refine z_iload_n C 4 2 2 dX9_usesAll_4 rfl rfl ?_
      refine z_aload_n C 5 0 0 dX9_usesAll_5 rfl rfl ?_
      refine z_getiv C 6 dX9_usesAll_6 gf_X9_197 rfl (by first | assumption | exact Nat.zero_lt_one | omega) hn ?_
      first | with_reducible refine z_icmp_geN C 9 26 dX9_usesAll_9 (by decide) (by omega) (by omega) (fun h9 => ?_) (fun h9 => ?_) | refine z_icmp_ge C 9 26 dX9_usesAll_9 (by decide) (fun h9 => ?_) (fun h9 => ?_)
      · refine z_iload_n C 26 1 1 dX9_usesAll_26 rfl rfl ?_
        exact ret 27 _ _ _ _ _ dX9_usesAll_27 (by first | rfl | exact bI_n | decide) (⟨(by rw [ha, show i = n by omega]; rfl), rfl, rfl, rfl⟩)
      · refine z_iload_n C 12 1 1 dX9_usesAll_12 rfl rfl ?_
        refine z_aload_n C 13 0 0 dX9_usesAll_13 rfl rfl ?_
        refine z_iload_n C 14 2 2 dX9_usesAll_14 rfl rfl ?_
        refine z_cVi0 C 15 dX9_usesAll_15 cv_X9_210 (c_X9_uses hR (by first | assumption | omega)) rfl ⟨by decide, rfl⟩ (by first | assumption | exact Nat.zero_lt_one | omega) rfl rfl (Nat.le_of_ble_eq_true rfl) ⟨by decide, by decide⟩ ⟨rfl, rfl⟩ ⟨by decide, by decide⟩ ?_
        intro r15 S15 L15 R15 p15
        obtain ⟨rfl, rfl, rfl, rfl⟩ := p15
        first | with_reducible refine z_iaddN C 18 dX9_usesAll_18 ?_ | refine z_iadd C 18 dX9_usesAll_18 ?_
        refine z_istore_n C 19 1 [(1, _), (0, _), (2, _)] dX9_usesAll_19 rfl (by decide) rfl ?_
        refine z_iinc C 20 2 2 [(2, _), (1, _), (0, _)] dX9_usesAll_20 rfl (by first | exact nI_1 _ | rfl) (by decide) rfl ?_
        refine z_goto C 23 4 dX9_usesAll_23 (by decide) ?_
        refine z_sub [(0, _), (1, _), (2, _)] [2, 1, 0] rfl ?_
        exact ih4 (i + 1) _ (by omega) (by rw [ha]; rfl) (by omega)
  refine z_sub [(0, _), (1, _), (2, _)] [2, 1, 0] rfl ?_
  exact loop_4 (n + 1) 0 _ (Nat.zero_le _) rfl (by omega)
def rm_X9_complaints : Room := { frames := 1, cells := 0, slots := 0, locals := 22 }
set_option maxHeartbeats 4000000 in
set_option maxRecDepth 100000 in
theorem c_X9_complaints {l : Launch} {G : mG} {ad : mA} {S : mS} {L : mL} {R : mR} {n : Nat} (hR : mlk R) (hn : S 40 0 1 = nI n) (hn10 : n ≤ 10) : Ki l yX9_complaints cX9_complaints 3 .int rm_X9_complaints G ad mdm [.ref (ad 40 0)] S L R (fun r_ S2 L2 R2 => r_ = smI (fun k => fo (S 44 0) k 4) n ∧ S = S2 ∧ L = L2 ∧ R = R2) := by
  refine Ki.of RX9 (by decide) rfl (Nat.le_of_ble_eq_true rfl) ?_
  intro X hXl hXG C ret
  subst hXl; subst hXG
  change Z X 3 ad mdm S L R 0 0 0 [(0, _)] []
  refine z_iconst (v := nI 0) C 0 dX9_complaints_0 (by decide) ?_
  refine z_istore_n C 1 1 [(1, _), (0, _)] dX9_complaints_1 rfl (by decide) rfl ?_
  refine z_iconst (v := nI 0) C 2 dX9_complaints_2 (by decide) ?_
  refine z_istore_n C 3 2 [(2, _), (1, _), (0, _)] dX9_complaints_3 rfl (by decide) rfl ?_
  have loop_4 : ∀ (n_4 : Nat) (i : Nat) (a : Int32), i ≤ n → a = smI (fun k => fo (S 44 0) k 4) i → n - i < n_4 → Z X 3 ad mdm S L R 0 0 4 [(0, .ref (ad 40 0)), (1, .int a), (2, .int (nI i))] [] := by
    intro n_4
    induction n_4 with
    | zero => intro i a hi ha hm4; exact absurd hm4 (Nat.not_lt_zero _)
    | succ n_4 ih4 =>
      intro i a hi ha hm4
      refine z_iload_n C 4 2 2 dX9_complaints_4 rfl rfl ?_
      refine z_aload_n C 5 0 0 dX9_complaints_5 rfl rfl ?_
      refine z_getiv C 6 dX9_complaints_6 gf_X9_197 rfl (by first | assumption | exact Nat.zero_lt_one | omega) hn ?_
      first | with_reducible refine z_icmp_geN C 9 27 dX9_complaints_9 (by decide) (by omega) (by omega) (fun h9 => ?_) (fun h9 => ?_) | refine z_icmp_ge C 9 27 dX9_complaints_9 (by decide) (fun h9 => ?_) (fun h9 => ?_)
      · refine z_iload_n C 27 1 1 dX9_complaints_27 rfl rfl ?_
        exact ret 28 _ _ _ _ _ dX9_complaints_28 (by first | rfl | exact bI_n | decide) (⟨(by rw [ha, show i = n by omega]), rfl, rfl, rfl⟩)
      · refine z_iload_n C 12 1 1 dX9_complaints_12 rfl rfl ?_
        refine z_aload_n C 13 0 0 dX9_complaints_13 rfl rfl ?_
        refine z_iload_n C 14 2 2 dX9_complaints_14 rfl rfl ?_
        refine z_iconst (v := nI 4) C 15 dX9_complaints_15 (by decide) ?_
        refine z_cVi0 C 16 dX9_complaints_16 cv_X9_203 (c_X9_of hR (by first | assumption | omega) (by omega)) rfl ⟨by decide, rfl⟩ (by first | assumption | exact Nat.zero_lt_one | omega) rfl rfl (Nat.le_of_ble_eq_true rfl) ⟨by decide, by decide⟩ ⟨rfl, rfl⟩ ⟨by decide, by decide⟩ ?_
        intro r16 S16 L16 R16 p16
        obtain ⟨rfl, rfl, rfl, rfl⟩ := p16
        first | with_reducible refine z_iaddN C 19 dX9_complaints_19 ?_ | refine z_iadd C 19 dX9_complaints_19 ?_
        refine z_istore_n C 20 1 [(1, _), (0, _), (2, _)] dX9_complaints_20 rfl (by decide) rfl ?_
        refine z_iinc C 21 2 2 [(2, _), (1, _), (0, _)] dX9_complaints_21 rfl (by first | exact nI_1 _ | rfl) (by decide) rfl ?_
        refine z_goto C 24 4 dX9_complaints_24 (by decide) ?_
        refine z_sub [(0, _), (1, _), (2, _)] [2, 1, 0] rfl ?_
        exact ih4 (i + 1) _ (by omega) (by rw [ha]; rfl) (by omega)
  refine z_sub [(0, _), (1, _), (2, _)] [2, 1, 0] rfl ?_
  exact loop_4 (n + 1) 0 _ (Nat.zero_le _) rfl (by omega)
def rm_X9_habitOf : Room := { frames := 1, cells := 0, slots := 0, locals := 22 }
set_option maxHeartbeats 4000000 in
set_option maxRecDepth 100000 in
theorem c_X9_habitOf {l : Launch} {G : mG} {ad : mA} {S : mS} {L : mL} {R : mR} {p g : Nat} (hR : mlk R) (hp : p < 10) (hg : fo (S 44 0) p 10 = nI g) (hg4 : g ≤ 4) : Ki l yX9_habitOf cX9_habitOf 5 .int rm_X9_habitOf G ad mdm [.ref (ad 40 0), .int (nI p)] S L R (fun r_ S2 L2 R2 => r_ = fHabit (S 44 0) p ∧ S = S2 ∧ L = L2 ∧ R = R2) := by
  refine Ki.of RX9 (by decide) rfl (Nat.le_of_ble_eq_true rfl) ?_
  intro X hXl hXG C ret
  subst hXl; subst hXG
  change Z X 5 ad mdm S L R 0 0 0 [(0, _), (1, _)] []
  refine z_aload_n C 0 0 0 dX9_habitOf_0 rfl rfl ?_
  refine z_iload_n C 1 1 1 dX9_habitOf_1 rfl rfl ?_
  refine z_bipush (v := nI 10) C 2 dX9_habitOf_2 (by decide +kernel) ?_
  refine z_cVi0 C 4 dX9_habitOf_4 cv_X9_203 (c_X9_of hR (by first | assumption | omega) (by omega)) rfl ⟨by decide, rfl⟩ (by first | assumption | exact Nat.zero_lt_one | omega) rfl rfl (Nat.le_of_ble_eq_true rfl) ⟨by decide, by decide⟩ ⟨rfl, rfl⟩ ⟨by decide, by decide⟩ ?_
  intro r4 S4 L4 R4 p4
  obtain ⟨rfl, rfl, rfl, rfl⟩ := p4
  rw [hg]
  refine z_istore_n C 7 2 [(2, _), (0, _), (1, _)] dX9_habitOf_7 rfl (by decide) rfl ?_
  refine z_iconst (v := nI 0) C 8 dX9_habitOf_8 (by decide) ?_
  refine z_istore_n C 9 3 [(3, _), (2, _), (0, _), (1, _)] dX9_habitOf_9 rfl (by decide) rfl ?_
  refine z_iconst (v := nI 0) C 10 dX9_habitOf_10 (by decide) ?_
  refine z_istore C 11 4 [(4, _), (3, _), (2, _), (0, _), (1, _)] dX9_habitOf_11 (by decide) rfl ?_
  have loop_13 : ∀ (n_13 : Nat) (i : Nat) (a : Int32), i ≤ g → a = smI (fun k => fo (S 44 0) p (11 + k)) i → g - i < n_13 → Z X 5 ad mdm S L R 0 0 13 [(0, .ref (ad 40 0)), (1, .int (nI p)), (2, .int (nI g)), (3, .int a), (4, .int (nI i))] [] := by
    intro n_13
    induction n_13 with
    | zero => intro i a hi ha hm13; exact absurd hm13 (Nat.not_lt_zero _)
    | succ n_13 ih13 =>
      intro i a hi ha hm13
      refine z_iload C 13 4 4 dX9_habitOf_13 rfl ?_
      refine z_iload_n C 15 2 2 dX9_habitOf_15 rfl rfl ?_
      first | with_reducible refine z_icmp_geN C 16 38 dX9_habitOf_16 (by decide) (by omega) (by omega) (fun h16 => ?_) (fun h16 => ?_) | refine z_icmp_ge C 16 38 dX9_habitOf_16 (by decide) (fun h16 => ?_) (fun h16 => ?_)
      · refine z_iload_n C 38 2 2 dX9_habitOf_38 rfl rfl ?_
        first | with_reducible refine z_if_neB C 39 48 dX9_habitOf_39 (by decide) (fun h39 => ?_) (fun h39 => ?_) | with_reducible refine z_if_neN C 39 48 dX9_habitOf_39 (by decide) (by omega) (fun h39 => ?_) (fun h39 => ?_) | refine z_if_ne C 39 48 dX9_habitOf_39 (by decide) (fun h39 => ?_) (fun h39 => ?_)
        · refine z_iload_n C 48 3 3 dX9_habitOf_48 rfl rfl ?_
          refine z_iload_n C 49 2 2 dX9_habitOf_49 rfl rfl ?_
          first | with_reducible refine z_idivN C 50 dX9_habitOf_50 (by omega) (by omega) (by omega) ?_ | refine z_idiv C 50 dX9_habitOf_50 (by first | decide | assumption | exact nI_ne0 (by omega) (by omega)) ?_
          exact ret 51 _ _ _ _ _ dX9_habitOf_51 (by first | rfl | exact bI_n | decide) (⟨(by unfold fHabit; first | (rw [hg, h39]; rfl) | (rw [hg, ha, show i = g by omega, if_neg (nI_ne0 (by omega) (by omega)), nI_clamp (by omega)])), rfl, rfl, rfl⟩)
        · refine z_sipush (v := nI 600) C 42 dX9_habitOf_42 (by decide +kernel) ?_
          refine z_goto C 45 51 dX9_habitOf_45 (by decide) ?_
          exact ret 51 _ _ _ _ _ dX9_habitOf_51 (by first | rfl | exact bI_n | decide) (⟨(by unfold fHabit; first | (rw [hg, h39]; rfl) | (rw [hg, ha, show i = g by omega, if_neg (nI_ne0 (by omega) (by omega)), nI_clamp (by omega)])), rfl, rfl, rfl⟩)
      · refine z_iload_n C 19 3 3 dX9_habitOf_19 rfl rfl ?_
        refine z_aload_n C 20 0 0 dX9_habitOf_20 rfl rfl ?_
        refine z_iload_n C 21 1 1 dX9_habitOf_21 rfl rfl ?_
        refine z_bipush (v := nI 11) C 22 dX9_habitOf_22 (by decide +kernel) ?_
        refine z_iload C 24 4 4 dX9_habitOf_24 rfl ?_
        first | with_reducible refine z_iaddN C 26 dX9_habitOf_26 ?_ | refine z_iadd C 26 dX9_habitOf_26 ?_
        refine z_cVi0 C 27 dX9_habitOf_27 cv_X9_203 (c_X9_of hR (by first | assumption | omega) (by omega)) rfl ⟨by decide, rfl⟩ (by first | assumption | exact Nat.zero_lt_one | omega) rfl rfl (Nat.le_of_ble_eq_true rfl) ⟨by decide, by decide⟩ ⟨rfl, rfl⟩ ⟨by decide, by decide⟩ ?_
        intro r27 S27 L27 R27 p27
        obtain ⟨rfl, rfl, rfl, rfl⟩ := p27
        first | with_reducible refine z_iaddN C 30 dX9_habitOf_30 ?_ | refine z_iadd C 30 dX9_habitOf_30 ?_
        refine z_istore_n C 31 3 [(3, _), (0, _), (1, _), (2, _), (4, _)] dX9_habitOf_31 rfl (by decide) rfl ?_
        refine z_iinc C 32 4 4 [(4, _), (3, _), (0, _), (1, _), (2, _)] dX9_habitOf_32 rfl (by first | exact nI_1 _ | rfl) (by decide) rfl ?_
        refine z_goto C 35 13 dX9_habitOf_35 (by decide) ?_
        refine z_sub [(0, _), (1, _), (2, _), (3, _), (4, _)] [2, 3, 4, 1, 0] rfl ?_
        exact ih13 (i + 1) _ (by omega) (by rw [ha]; rfl) (by omega)
  refine z_sub [(0, _), (1, _), (2, _), (3, _), (4, _)] [3, 4, 2, 1, 0] rfl ?_
  exact loop_13 (g + 1) 0 _ (Nat.zero_le _) rfl (by omega)
def rm_X9_away : Room := { frames := 1, cells := 0, slots := 0, locals := 22 }
set_option maxHeartbeats 4000000 in
set_option maxRecDepth 100000 in
theorem c_X9_away {l : Launch} {G : mG} {ad : mA} {S : mS} {L : mL} {R : mR} {p : Nat} (hR : mlk R) (hp : p < 10) : Ki l yX9_away cX9_away 2 .int rm_X9_away G ad mdm [.ref (ad 40 0), .int (nI p)] S L R (fun r_ S2 L2 R2 => r_ = fAway (S 44 0) p ∧ S = S2 ∧ L = L2 ∧ R = R2) := by
  refine Ki.of RX9 (by decide) rfl (Nat.le_of_ble_eq_true rfl) ?_
  intro X hXl hXG C ret
  subst hXl; subst hXG
  change Z X 2 ad mdm S L R 0 0 0 [(0, _), (1, _)] []
  refine z_aload_n C 0 0 0 dX9_away_0 rfl rfl ?_
  refine z_iload_n C 1 1 1 dX9_away_1 rfl rfl ?_
  refine z_iconst (v := nI 0) C 2 dX9_away_2 (by decide) ?_
  refine z_cVi0 C 3 dX9_away_3 cv_X9_203 (c_X9_of hR (by first | assumption | omega) (by omega)) rfl ⟨by decide, rfl⟩ (by first | assumption | exact Nat.zero_lt_one | omega) rfl rfl (Nat.le_of_ble_eq_true rfl) ⟨by decide, by decide⟩ ⟨rfl, rfl⟩ ⟨by decide, by decide⟩ ?_
  intro r3 S3 L3 R3 p3
  obtain ⟨rfl, rfl, rfl, rfl⟩ := p3
  refine z_iconst (v := nI 1) C 6 dX9_away_6 (by decide) ?_
  first | with_reducible refine z_icmp_neN C 7 14 dX9_away_7 (by decide) (by omega) (by omega) (fun h7 => ?_) (fun h7 => ?_) | refine z_icmp_ne C 7 14 dX9_away_7 (by decide) (fun h7 => ?_) (fun h7 => ?_)
  · refine z_aload_n C 14 0 0 dX9_away_14 rfl rfl ?_
    refine z_getr C 15 dX9_away_15 gf_X9_20 rfl (by first | assumption | exact Nat.zero_lt_one | omega) (by first | exact hR _ _ _ _ rfl | assumption) ?_
    refine z_iconst (v := nI 1) C 18 dX9_away_18 (by decide) ?_
    refine z_iald C 19 dX9_away_19 rfl (by first | assumption | exact Nat.zero_lt_one | omega) (by first | rfl | assumption) (by decide) (by first | assumption | omega) ?_
    refine z_aload_n C 20 0 0 dX9_away_20 rfl rfl ?_
    refine z_iload_n C 21 1 1 dX9_away_21 rfl rfl ?_
    refine z_bipush (v := nI 8) C 22 dX9_away_22 (by decide +kernel) ?_
    refine z_cVi0 C 24 dX9_away_24 cv_X9_203 (c_X9_of hR (by first | assumption | omega) (by omega)) rfl ⟨by decide, rfl⟩ (by first | assumption | exact Nat.zero_lt_one | omega) rfl rfl (Nat.le_of_ble_eq_true rfl) ⟨by decide, by decide⟩ ⟨rfl, rfl⟩ ⟨by decide, by decide⟩ ?_
    intro r24 S24 L24 R24 p24
    obtain ⟨rfl, rfl, rfl, rfl⟩ := p24
    first | with_reducible refine z_isubN C 27 dX9_away_27 (by omega) ?_ | refine z_isub C 27 dX9_away_27 ?_
    exact ret 28 _ _ _ _ _ dX9_away_28 (by first | rfl | exact bI_n | decide) (⟨(by unfold fAway; first | rw [if_pos h7] | rw [if_neg h7]; first | done | rfl), rfl, rfl, rfl⟩)
  · refine z_iconst (v := nI 0) C 10 dX9_away_10 (by decide) ?_
    refine z_goto C 11 28 dX9_away_11 (by decide) ?_
    exact ret 28 _ _ _ _ _ dX9_away_28 (by first | rfl | exact bI_n | decide) (⟨(by unfold fAway; first | rw [if_pos h7] | rw [if_neg h7]; first | done | rfl), rfl, rfl, rfl⟩)
def rm_X9_isPrecious : Room := { frames := 1, cells := 0, slots := 0, locals := 22 }
set_option maxHeartbeats 4000000 in
set_option maxRecDepth 100000 in
theorem c_X9_isPrecious {l : Launch} {G : mG} {ad : mA} {S : mS} {L : mL} {R : mR} {p : Nat} (hR : mlk R) (hp : p < 10) : Ki l yX9_isPrecious cX9_isPrecious 2 .boolean rm_X9_isPrecious G ad mdm [.ref (ad 40 0), .int (nI p)] S L R (fun r_ S2 L2 R2 => r_ = bI (fPrec (S 44 0) p) ∧ S = S2 ∧ L = L2 ∧ R = R2) := by
  refine Ki.of RX9 (by decide) rfl (Nat.le_of_ble_eq_true rfl) ?_
  intro X hXl hXG C ret
  subst hXl; subst hXG
  change Z X 2 ad mdm S L R 0 0 0 [(0, _), (1, _)] []
  refine z_aload_n C 0 0 0 dX9_isPrecious_0 rfl rfl ?_
  refine z_iload_n C 1 1 1 dX9_isPrecious_1 rfl rfl ?_
  refine z_iconst (v := nI 4) C 2 dX9_isPrecious_2 (by decide) ?_
  refine z_cVi0 C 3 dX9_isPrecious_3 cv_X9_203 (c_X9_of hR (by first | assumption | omega) (by omega)) rfl ⟨by decide, rfl⟩ (by first | assumption | exact Nat.zero_lt_one | omega) rfl rfl (Nat.le_of_ble_eq_true rfl) ⟨by decide, by decide⟩ ⟨rfl, rfl⟩ ⟨by decide, by decide⟩ ?_
  intro r3 S3 L3 R3 p3
  obtain ⟨rfl, rfl, rfl, rfl⟩ := p3
  first | with_reducible refine z_if_leN C 6 31 dX9_isPrecious_6 (by decide) (by omega) (fun h6 => ?_) (fun h6 => ?_) | refine z_if_le C 6 31 dX9_isPrecious_6 (by decide) (fun h6 => ?_) (fun h6 => ?_)
  · refine z_iconst (v := nI 0) C 31 dX9_isPrecious_31 (by decide) ?_
    exact ret 32 _ _ _ _ _ dX9_isPrecious_32 (by first | rfl | exact bI_n | decide) (⟨(by first | exact bI_1 ⟨Int32.not_le.mp h6, Int32.not_le.mp h24⟩ | exact bI_0 (fun q => absurd q.1 (Int32.not_lt.mpr h6)) | exact bI_0 (fun q => absurd q.2 (Int32.not_lt.mpr h24))), rfl, rfl, rfl⟩)
  · refine z_aload_n C 9 0 0 dX9_isPrecious_9 rfl rfl ?_
    refine z_getr C 10 dX9_isPrecious_10 gf_X9_20 rfl (by first | assumption | exact Nat.zero_lt_one | omega) (by first | exact hR _ _ _ _ rfl | assumption) ?_
    refine z_iconst (v := nI 1) C 13 dX9_isPrecious_13 (by decide) ?_
    refine z_iald C 14 dX9_isPrecious_14 rfl (by first | assumption | exact Nat.zero_lt_one | omega) (by first | rfl | assumption) (by decide) (by first | assumption | omega) ?_
    refine z_aload_n C 15 0 0 dX9_isPrecious_15 rfl rfl ?_
    refine z_iload_n C 16 1 1 dX9_isPrecious_16 rfl rfl ?_
    refine z_iconst (v := nI 5) C 17 dX9_isPrecious_17 (by decide) ?_
    refine z_cVi0 C 18 dX9_isPrecious_18 cv_X9_203 (c_X9_of hR (by first | assumption | omega) (by omega)) rfl ⟨by decide, rfl⟩ (by first | assumption | exact Nat.zero_lt_one | omega) rfl rfl (Nat.le_of_ble_eq_true rfl) ⟨by decide, by decide⟩ ⟨rfl, rfl⟩ ⟨by decide, by decide⟩ ?_
    intro r18 S18 L18 R18 p18
    obtain ⟨rfl, rfl, rfl, rfl⟩ := p18
    refine z_bipush (v := nI 60) C 21 dX9_isPrecious_21 (by decide +kernel) ?_
    first | with_reducible refine z_iaddN C 23 dX9_isPrecious_23 ?_ | refine z_iadd C 23 dX9_isPrecious_23 ?_
    first | with_reducible refine z_icmp_geN C 24 31 dX9_isPrecious_24 (by decide) (by omega) (by omega) (fun h24 => ?_) (fun h24 => ?_) | refine z_icmp_ge C 24 31 dX9_isPrecious_24 (by decide) (fun h24 => ?_) (fun h24 => ?_)
    · refine z_iconst (v := nI 0) C 31 dX9_isPrecious_31 (by decide) ?_
      exact ret 32 _ _ _ _ _ dX9_isPrecious_32 (by first | rfl | exact bI_n | decide) (⟨(by first | exact bI_1 ⟨Int32.not_le.mp h6, Int32.not_le.mp h24⟩ | exact bI_0 (fun q => absurd q.1 (Int32.not_lt.mpr h6)) | exact bI_0 (fun q => absurd q.2 (Int32.not_lt.mpr h24))), rfl, rfl, rfl⟩)
    · refine z_iconst (v := nI 1) C 27 dX9_isPrecious_27 (by decide) ?_
      refine z_goto C 28 32 dX9_isPrecious_28 (by decide) ?_
      exact ret 32 _ _ _ _ _ dX9_isPrecious_32 (by first | rfl | exact bI_n | decide) (⟨(by first | exact bI_1 ⟨Int32.not_le.mp h6, Int32.not_le.mp h24⟩ | exact bI_0 (fun q => absurd q.1 (Int32.not_lt.mpr h6)) | exact bI_0 (fun q => absurd q.2 (Int32.not_lt.mpr h24))), rfl, rfl, rfl⟩)
