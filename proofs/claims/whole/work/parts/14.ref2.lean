/-- what holds of the row at every time -/
def rI (N : NN) (n : Nat) : Prop :=
  (N 2 = -1 ∨ ∃ q, q < n ∧ N 2 = nI q) ∧ (N 3 = -1 ∨ ∃ q, q < n ∧ N 3 = nI q) ∧ (∀ p, p < 10 → ∃ s, s ≤ 5 ∧ fo N p 0 = nI s) ∧ (∀ p, p < 10 → (fo N p 0 = nI 1 ↔ N 2 = nI p)) ∧
  (∀ p, p < 10 → ∃ g, g ≤ 4 ∧ fo N p 10 = nI g) ∧ (∀ p, p < 10 → ∃ w, w ≤ 5 ∧ fo N p 15 = nI w) ∧ (∀ p, p < 10 → fo N p 6 = 0 ∨ fo N p 6 = 1) ∧ (∀ p, p < 10 → fo N p 9 = 0 ∨ fo N p 9 = 1) ∧ (∃ k, k ≤ 24 ∧ N 5 = nI k)
theorem fExp_iff {N : NN} {n p q : Nat} (h : N 3 = nI q) (hq : q < 2 ^ 31) : fExp N n p ↔ 0 < fFol N q p ∧ smI (fFol N q) n ≤ nI 2 * fFol N q p := by
  unfold fExp
  rw [h, nI_clamp hq]
  constructor
  · exact fun z => z.2
  · refine fun z => ⟨fun e => ?_, z⟩
    have h1 := nI_toInt hq
    rw [e] at h1
    have h2 : (-1 : Int32).toInt = -1 := by decide
    omega
theorem fExp_no {N : NN} {n p : Nat} (h : N 3 = -1) : ¬ fExp N n p := fun z => z.1 h
theorem nI_m1 {q : Nat} (hq : q < 2 ^ 31) : ¬ nI q = -1 := fun e => by
  have h1 := nI_toInt hq
  rw [e] at h1
  have h2 : (-1 : Int32).toInt = -1 := by decide
  omega
theorem fProm_0 {N : NN} {n p : Nat} (h : fo N p 0 = nI 1 ∨ fExp N n p) : fProm N n p = nI 0 := by unfold fProm; exact if_pos h
theorem fProm_1 {N : NN} {n p : Nat} (h : ¬ (fo N p 0 = nI 1 ∨ fExp N n p)) (h2 : fo N p 9 = 0) : fProm N n p = nI 600 := by unfold fProm; rw [if_neg h, if_pos h2]
theorem fProm_2 {N : NN} {n p : Nat} (h : ¬ (fo N p 0 = nI 1 ∨ fExp N n p)) (h2 : ¬ fo N p 9 = 0) : fProm N n p = if fHabit N p - fAway N p < 0 then nI 0 else fHabit N p - fAway N p := by unfold fProm; rw [if_neg h, if_neg h2]; congr

def rm_X9_isExpected : Room := { frames := 1, cells := 0, slots := 0, locals := 22 }
set_option maxHeartbeats 4000000 in
set_option maxRecDepth 100000 in
theorem c_X9_isExpected {l : Launch} {G : mG} {ad : mA} {S : mS} {L : mL} {R : mR} {n p : Nat} (hR : mlk R) (hn : S 40 0 1 = nI n) (hn10 : n ≤ 10) (hI : rI (S 44 0) n) (hp : p < 10) : Ki l yX9_isExpected cX9_isExpected 5 .boolean rm_X9_isExpected G ad mdm [.ref (ad 40 0), .int (nI p)] S L R (fun r_ S2 L2 R2 => r_ = bI (fExp (S 44 0) n p) ∧ S = S2 ∧ L = L2 ∧ R = R2) := by
  refine Ki.of RX9 (by decide) rfl (Nat.le_of_ble_eq_true rfl) ?_
  intro X hXl hXG C ret
  subst hXl; subst hXG
  change Z X 5 ad mdm S L R 0 0 0 [(0, _), (1, _)] []
  refine z_aload_n C 0 0 0 dX9_isExpected_0 rfl rfl ?_
  refine z_getr C 1 dX9_isExpected_1 gf_X9_20 rfl (by first | assumption | exact Nat.zero_lt_one | omega) (by first | exact hR _ _ _ _ rfl | assumption) ?_
  refine z_iconst (v := nI 3) C 4 dX9_isExpected_4 (by decide) ?_
  refine z_iald C 5 dX9_isExpected_5 rfl (by first | assumption | exact Nat.zero_lt_one | omega) (by first | rfl | assumption) (by decide) (by first | assumption | omega) ?_
  refine z_istore_n C 6 2 [(2, _), (0, _), (1, _)] dX9_isExpected_6 rfl (by decide) rfl ?_
  refine z_iload_n C 7 2 0 dX9_isExpected_7 rfl rfl ?_
  refine z_iconst (v := (-1)) C 8 dX9_isExpected_8 (by decide) ?_
  first | with_reducible refine z_icmp_neN C 9 14 dX9_isExpected_9 (by decide) (by omega) (by omega) (fun h9 => ?_) (fun h9 => ?_) | refine z_icmp_ne C 9 14 dX9_isExpected_9 (by decide) (fun h9 => ?_) (fun h9 => ?_)
  · obtain ⟨q, hq, hqe⟩ := hI.2.1.resolve_left h9
    rw [hqe]
    have hfe := fExp_iff (n := n) (p := p) hqe (by omega)
    refine z_iconst (v := nI 0) C 14 dX9_isExpected_14 (by decide) ?_
    refine z_istore_n C 15 3 [(3, _), (2, _), (0, _), (1, _)] dX9_isExpected_15 rfl (by decide) rfl ?_
    refine z_iconst (v := nI 0) C 16 dX9_isExpected_16 (by decide) ?_
    refine z_istore C 17 4 [(4, _), (3, _), (2, _), (0, _), (1, _)] dX9_isExpected_17 (by decide) rfl ?_
    have loop_19 : ∀ (n_19 : Nat) (i : Nat) (a : Int32), i ≤ n → a = smI (fFol (S 44 0) q) i → n - i < n_19 → Z X 5 ad mdm S L R 0 0 19 [(0, .ref (ad 40 0)), (1, .int (nI p)), (2, .int (nI q)), (3, .int a), (4, .int (nI i))] [] := by
      intro n_19
      induction n_19 with
      | zero => intro i a hi ha hm19; exact absurd hm19 (Nat.not_lt_zero _)
      | succ n_19 ih19 =>
        intro i a hi ha hm19
        refine z_iload C 19 4 4 dX9_isExpected_19 rfl ?_
        refine z_aload_n C 21 0 0 dX9_isExpected_21 rfl rfl ?_
        refine z_getiv C 22 dX9_isExpected_22 gf_X9_197 rfl (by first | assumption | exact Nat.zero_lt_one | omega) hn ?_
        first | with_reducible refine z_icmp_geN C 25 44 dX9_isExpected_25 (by decide) (by omega) (by omega) (fun h25 => ?_) (fun h25 => ?_) | refine z_icmp_ge C 25 44 dX9_isExpected_25 (by decide) (fun h25 => ?_) (fun h25 => ?_)
        · obtain rfl : i = n := by omega
          refine z_aload_n C 44 0 0 dX9_isExpected_44 rfl rfl ?_
          refine z_iload_n C 45 2 2 dX9_isExpected_45 rfl rfl ?_
          refine z_iload_n C 46 1 1 dX9_isExpected_46 rfl rfl ?_
          refine z_cVi0 C 47 dX9_isExpected_47 cv_X9_213 (c_X9_followers hR (by first | assumption | omega) (by first | assumption | omega)) rfl ⟨by decide, rfl⟩ (by first | assumption | exact Nat.zero_lt_one | omega) rfl rfl (Nat.le_of_ble_eq_true rfl) ⟨by decide, by decide⟩ ⟨rfl, rfl⟩ ⟨by decide, by decide⟩ ?_
          intro r47 S47 L47 R47 p47
          obtain ⟨rfl, rfl, rfl, rfl⟩ := p47
          first | with_reducible refine z_if_leN C 50 69 dX9_isExpected_50 (by decide) (by omega) (fun h50 => ?_) (fun h50 => ?_) | refine z_if_le C 50 69 dX9_isExpected_50 (by decide) (fun h50 => ?_) (fun h50 => ?_)
          · refine z_iconst (v := nI 0) C 69 dX9_isExpected_69 (by decide) ?_
            exact ret 70 _ _ _ _ _ dX9_isExpected_70 (by first | rfl | exact bI_n | decide) (⟨(by first | exact bI_1 (hfe.mpr ⟨Int32.not_le.mp h50, by rw [← ha]; exact Int32.not_lt.mp h62⟩) | exact bI_0 (fun z => absurd (hfe.mp z).2 (by rw [← ha]; exact Int32.not_le.mpr h62)) | exact bI_0 (fun z => absurd (hfe.mp z).1 (Int32.not_lt.mpr h50))), rfl, rfl, rfl⟩)
          · refine z_iconst (v := nI 2) C 53 dX9_isExpected_53 (by decide) ?_
            refine z_aload_n C 54 0 0 dX9_isExpected_54 rfl rfl ?_
            refine z_iload_n C 55 2 2 dX9_isExpected_55 rfl rfl ?_
            refine z_iload_n C 56 1 1 dX9_isExpected_56 rfl rfl ?_
            refine z_cVi0 C 57 dX9_isExpected_57 cv_X9_213 (c_X9_followers hR (by first | assumption | omega) (by first | assumption | omega)) rfl ⟨by decide, rfl⟩ (by first | assumption | exact Nat.zero_lt_one | omega) rfl rfl (Nat.le_of_ble_eq_true rfl) ⟨by decide, by decide⟩ ⟨rfl, rfl⟩ ⟨by decide, by decide⟩ ?_
            intro r57 S57 L57 R57 p57
            obtain ⟨rfl, rfl, rfl, rfl⟩ := p57
            first | with_reducible refine z_imulN C 60 dX9_isExpected_60 ?_ | refine z_imul C 60 dX9_isExpected_60 ?_
            refine z_iload_n C 61 3 3 dX9_isExpected_61 rfl rfl ?_
            first | with_reducible refine z_icmp_ltN C 62 69 dX9_isExpected_62 (by decide) (by omega) (by omega) (fun h62 => ?_) (fun h62 => ?_) | refine z_icmp_lt C 62 69 dX9_isExpected_62 (by decide) (fun h62 => ?_) (fun h62 => ?_)
            · refine z_iconst (v := nI 0) C 69 dX9_isExpected_69 (by decide) ?_
              exact ret 70 _ _ _ _ _ dX9_isExpected_70 (by first | rfl | exact bI_n | decide) (⟨(by first | exact bI_1 (hfe.mpr ⟨Int32.not_le.mp h50, by rw [← ha]; exact Int32.not_lt.mp h62⟩) | exact bI_0 (fun z => absurd (hfe.mp z).2 (by rw [← ha]; exact Int32.not_le.mpr h62)) | exact bI_0 (fun z => absurd (hfe.mp z).1 (Int32.not_lt.mpr h50))), rfl, rfl, rfl⟩)
            · refine z_iconst (v := nI 1) C 65 dX9_isExpected_65 (by decide) ?_
              refine z_goto C 66 70 dX9_isExpected_66 (by decide) ?_
              exact ret 70 _ _ _ _ _ dX9_isExpected_70 (by first | rfl | exact bI_n | decide) (⟨(by first | exact bI_1 (hfe.mpr ⟨Int32.not_le.mp h50, by rw [← ha]; exact Int32.not_lt.mp h62⟩) | exact bI_0 (fun z => absurd (hfe.mp z).2 (by rw [← ha]; exact Int32.not_le.mpr h62)) | exact bI_0 (fun z => absurd (hfe.mp z).1 (Int32.not_lt.mpr h50))), rfl, rfl, rfl⟩)
        · refine z_iload_n C 28 3 3 dX9_isExpected_28 rfl rfl ?_
          refine z_aload_n C 29 0 0 dX9_isExpected_29 rfl rfl ?_
          refine z_iload_n C 30 2 2 dX9_isExpected_30 rfl rfl ?_
          refine z_iload C 31 4 4 dX9_isExpected_31 rfl ?_
          refine z_cVi0 C 33 dX9_isExpected_33 cv_X9_213 (c_X9_followers hR (by first | assumption | omega) (by first | assumption | omega)) rfl ⟨by decide, rfl⟩ (by first | assumption | exact Nat.zero_lt_one | omega) rfl rfl (Nat.le_of_ble_eq_true rfl) ⟨by decide, by decide⟩ ⟨rfl, rfl⟩ ⟨by decide, by decide⟩ ?_
          intro r33 S33 L33 R33 p33
          obtain ⟨rfl, rfl, rfl, rfl⟩ := p33
          first | with_reducible refine z_iaddN C 36 dX9_isExpected_36 ?_ | refine z_iadd C 36 dX9_isExpected_36 ?_
          refine z_istore_n C 37 3 [(3, _), (0, _), (1, _), (2, _), (4, _)] dX9_isExpected_37 rfl (by decide) rfl ?_
          refine z_iinc C 38 4 4 [(4, _), (3, _), (0, _), (1, _), (2, _)] dX9_isExpected_38 rfl (by first | exact nI_1 _ | rfl) (by decide) rfl ?_
          refine z_goto C 41 19 dX9_isExpected_41 (by decide) ?_
          refine z_sub [(0, _), (1, _), (2, _), (3, _), (4, _)] [2, 3, 4, 1, 0] rfl ?_
          exact ih19 (i + 1) _ (by omega) (by rw [ha]; rfl) (by omega)
    refine z_sub [(0, _), (1, _), (2, _), (3, _), (4, _)] [3, 4, 2, 1, 0] rfl ?_
    exact loop_19 (n + 1) 0 _ (Nat.zero_le _) rfl (by omega)
  · refine z_iconst (v := nI 0) C 12 dX9_isExpected_12 (by decide) ?_
    exact ret 13 _ _ _ _ _ dX9_isExpected_13 (by first | rfl | exact bI_n | decide) (⟨bI_0 (fExp_no h9), rfl, rfl, rfl⟩)
def rm_X9_promiseOf : Room := { frames := 2, cells := 0, slots := 0, locals := 46 }
set_option maxHeartbeats 4000000 in
set_option maxRecDepth 100000 in
theorem c_X9_promiseOf {l : Launch} {G : mG} {ad : mA} {S : mS} {L : mL} {R : mR} {n p : Nat} (hR : mlk R) (hn : S 40 0 1 = nI n) (hn10 : n ≤ 10) (hI : rI (S 44 0) n) (hp : p < 10) : Ki l yX9_promiseOf cX9_promiseOf 3 .int rm_X9_promiseOf G ad mdm [.ref (ad 40 0), .int (nI p)] S L R (fun r_ S2 L2 R2 => r_ = fProm (S 44 0) n p ∧ S = S2 ∧ L = L2 ∧ R = R2) := by
  refine Ki.of RX9 (by decide) rfl (Nat.le_of_ble_eq_true rfl) ?_
  intro X hXl hXG C ret
  subst hXl; subst hXG
  change Z X 3 ad mdm S L R 0 0 0 [(0, _), (1, _)] []
  obtain ⟨g, hg4, hg⟩ := hI.2.2.2.2.1 p hp
  refine z_aload_n C 0 0 0 dX9_promiseOf_0 rfl rfl ?_
  refine z_iload_n C 1 1 1 dX9_promiseOf_1 rfl rfl ?_
  refine z_iconst (v := nI 0) C 2 dX9_promiseOf_2 (by decide) ?_
  refine z_cVi0 C 3 dX9_promiseOf_3 cv_X9_203 (c_X9_of hR (by first | assumption | omega) (by omega)) rfl ⟨by decide, rfl⟩ (by first | assumption | exact Nat.zero_lt_one | omega) rfl rfl (Nat.le_of_ble_eq_true rfl) ⟨by decide, by decide⟩ ⟨rfl, rfl⟩ ⟨by decide, by decide⟩ ?_
  intro r3 S3 L3 R3 p3
  obtain ⟨rfl, rfl, rfl, rfl⟩ := p3
  refine z_iconst (v := nI 1) C 6 dX9_promiseOf_6 (by decide) ?_
  first | with_reducible refine z_icmp_eqN C 7 18 dX9_promiseOf_7 (by decide) (by omega) (by omega) (fun h7 => ?_) (fun h7 => ?_) | refine z_icmp_eq C 7 18 dX9_promiseOf_7 (by decide) (fun h7 => ?_) (fun h7 => ?_)
  · refine z_iconst (v := nI 0) C 18 dX9_promiseOf_18 (by decide) ?_
    exact ret 19 _ _ _ _ _ dX9_promiseOf_19 (by first | rfl | exact bI_n | decide) (⟨(fProm_0 (by first | exact Or.inl h7 | exact Or.inr h15)).symm, rfl, rfl, rfl⟩)
  · refine z_aload_n C 10 0 0 dX9_promiseOf_10 rfl rfl ?_
    refine z_iload_n C 11 1 1 dX9_promiseOf_11 rfl rfl ?_
    refine z_cVi0 C 12 dX9_promiseOf_12 cv_X9_216 (c_X9_isExpected hR hn hn10 hI (by first | assumption | omega)) rfl ⟨by decide, rfl⟩ (by first | assumption | exact Nat.zero_lt_one | omega) rfl rfl (Nat.le_of_ble_eq_true rfl) ⟨by decide, by decide⟩ ⟨rfl, rfl⟩ ⟨by decide, by decide⟩ ?_
    intro r12 S12 L12 R12 p12
    obtain ⟨rfl, rfl, rfl, rfl⟩ := p12
    first | with_reducible refine z_if_eqB C 15 20 dX9_promiseOf_15 (by decide) (fun h15 => ?_) (fun h15 => ?_) | with_reducible refine z_if_eqN C 15 20 dX9_promiseOf_15 (by decide) (by omega) (fun h15 => ?_) (fun h15 => ?_) | refine z_if_eq C 15 20 dX9_promiseOf_15 (by decide) (fun h15 => ?_) (fun h15 => ?_)
    · refine z_aload_n C 20 0 0 dX9_promiseOf_20 rfl rfl ?_
      refine z_iload_n C 21 1 1 dX9_promiseOf_21 rfl rfl ?_
      refine z_bipush (v := nI 9) C 22 dX9_promiseOf_22 (by decide +kernel) ?_
      refine z_cVi0 C 24 dX9_promiseOf_24 cv_X9_203 (c_X9_of hR (by first | assumption | omega) (by omega)) rfl ⟨by decide, rfl⟩ (by first | assumption | exact Nat.zero_lt_one | omega) rfl rfl (Nat.le_of_ble_eq_true rfl) ⟨by decide, by decide⟩ ⟨rfl, rfl⟩ ⟨by decide, by decide⟩ ?_
      intro r24 S24 L24 R24 p24
      obtain ⟨rfl, rfl, rfl, rfl⟩ := p24
      first | with_reducible refine z_if_neB C 27 34 dX9_promiseOf_27 (by decide) (fun h27 => ?_) (fun h27 => ?_) | with_reducible refine z_if_neN C 27 34 dX9_promiseOf_27 (by decide) (by omega) (fun h27 => ?_) (fun h27 => ?_) | refine z_if_ne C 27 34 dX9_promiseOf_27 (by decide) (fun h27 => ?_) (fun h27 => ?_)
      · refine z_aload_n C 34 0 0 dX9_promiseOf_34 rfl rfl ?_
        refine z_iload_n C 35 1 1 dX9_promiseOf_35 rfl rfl ?_
        refine z_cVi0 C 36 dX9_promiseOf_36 cv_X9_219 (c_X9_habitOf hR (by first | assumption | omega) hg hg4) rfl ⟨by decide, rfl⟩ (by first | assumption | exact Nat.zero_lt_one | omega) rfl rfl (Nat.le_of_ble_eq_true rfl) ⟨by decide, by decide⟩ ⟨rfl, rfl⟩ ⟨by decide, by decide⟩ ?_
        intro r36 S36 L36 R36 p36
        obtain ⟨rfl, rfl, rfl, rfl⟩ := p36
        refine z_aload_n C 39 0 0 dX9_promiseOf_39 rfl rfl ?_
        refine z_iload_n C 40 1 1 dX9_promiseOf_40 rfl rfl ?_
        refine z_cVi0 C 41 dX9_promiseOf_41 cv_X9_222 (c_X9_away hR (by first | assumption | omega)) rfl ⟨by decide, rfl⟩ (by first | assumption | exact Nat.zero_lt_one | omega) rfl rfl (Nat.le_of_ble_eq_true rfl) ⟨by decide, by decide⟩ ⟨rfl, rfl⟩ ⟨by decide, by decide⟩ ?_
        intro r41 S41 L41 R41 p41
        obtain ⟨rfl, rfl, rfl, rfl⟩ := p41
        first | with_reducible refine z_isubN C 44 dX9_promiseOf_44 (by omega) ?_ | refine z_isub C 44 dX9_promiseOf_44 ?_
        refine z_istore_n C 45 2 [(2, _), (0, _), (1, _)] dX9_promiseOf_45 rfl (by decide) rfl ?_
        refine z_iload_n C 46 2 0 dX9_promiseOf_46 rfl rfl ?_
        refine z_if_ge C 47 54 dX9_promiseOf_47 (by decide) (fun h47 => ?_) (fun h47 => ?_)
        · refine z_iload_n C 54 2 0 dX9_promiseOf_54 rfl rfl ?_
          exact ret 55 _ _ _ _ _ dX9_promiseOf_55 (by first | rfl | exact bI_n | decide) (⟨(by rw [fProm_2 (fun z => z.elim h7 h15) h27]; first | rw [if_pos (Int32.not_le.mp h47)] | rw [if_neg (Int32.not_lt.mpr h47)]), rfl, rfl, rfl⟩)
        · refine z_iconst (v := nI 0) C 50 dX9_promiseOf_50 (by decide) ?_
          refine z_goto C 51 55 dX9_promiseOf_51 (by decide) ?_
          exact ret 55 _ _ _ _ _ dX9_promiseOf_55 (by first | rfl | exact bI_n | decide) (⟨(by rw [fProm_2 (fun z => z.elim h7 h15) h27]; first | rw [if_pos (Int32.not_le.mp h47)] | rw [if_neg (Int32.not_lt.mpr h47)]), rfl, rfl, rfl⟩)
      · refine z_sipush (v := nI 600) C 30 dX9_promiseOf_30 (by decide +kernel) ?_
        exact ret 33 _ _ _ _ _ dX9_promiseOf_33 (by first | rfl | exact bI_n | decide) (⟨(fProm_1 (fun z => z.elim h7 h15) h27).symm, rfl, rfl, rfl⟩)
    · refine z_iconst (v := nI 0) C 18 dX9_promiseOf_18 (by decide) ?_
      exact ret 19 _ _ _ _ _ dX9_promiseOf_19 (by first | rfl | exact bI_n | decide) (⟨(fProm_0 (by first | exact Or.inl h7 | exact Or.inr h15)).symm, rfl, rfl, rfl⟩)
def rm_X9_canHave : Room := { frames := 1, cells := 0, slots := 0, locals := 22 }
set_option maxHeartbeats 4000000 in
set_option maxRecDepth 100000 in
theorem c_X9_canHave {l : Launch} {G : mG} {ad : mA} {S : mS} {L : mL} {R : mR} {p k : Nat} (hR : mlk R) (hp : p < 10) (hk : 1 ≤ k) (hk6 : k ≤ 6) : Ki l yX9_canHave cX9_canHave 5 .boolean rm_X9_canHave G ad mdm [.ref (ad 40 0), .int (nI p), .int (nI k)] S L R (fun r_ S2 L2 R2 => r_ = bI (fCan (S 44 0) p k) ∧ S = S2 ∧ L = L2 ∧ R = R2) := by
  refine Ki.of RX9 (by decide) rfl (Nat.le_of_ble_eq_true rfl) ?_
  intro X hXl hXG C ret
  subst hXl; subst hXG
  change Z X 5 ad mdm S L R 0 0 0 [(0, _), (1, _), (2, _)] []
  refine z_aload_n C 0 0 0 dX9_canHave_0 rfl rfl ?_
  refine z_iload_n C 1 1 1 dX9_canHave_1 rfl rfl ?_
  refine z_iconst (v := nI 0) C 2 dX9_canHave_2 (by decide) ?_
  refine z_cVi0 C 3 dX9_canHave_3 cv_X9_203 (c_X9_of hR (by first | assumption | omega) (by omega)) rfl ⟨by decide, rfl⟩ (by first | assumption | exact Nat.zero_lt_one | omega) rfl rfl (Nat.le_of_ble_eq_true rfl) ⟨by decide, by decide⟩ ⟨rfl, rfl⟩ ⟨by decide, by decide⟩ ?_
  intro r3 S3 L3 R3 p3
  obtain ⟨rfl, rfl, rfl, rfl⟩ := p3
  refine z_istore_n C 6 3 [(3, _), (0, _), (1, _), (2, _)] dX9_canHave_6 rfl (by decide) rfl ?_
  refine z_aload_n C 7 0 1 dX9_canHave_7 rfl rfl ?_
  refine z_iload_n C 8 1 2 dX9_canHave_8 rfl rfl ?_
  refine z_bipush (v := nI 6) C 9 dX9_canHave_9 (by decide +kernel) ?_
  refine z_cVi0 C 11 dX9_canHave_11 cv_X9_203 (c_X9_of hR (by first | assumption | omega) (by omega)) rfl ⟨by decide, rfl⟩ (by first | assumption | exact Nat.zero_lt_one | omega) rfl rfl (Nat.le_of_ble_eq_true rfl) ⟨by decide, by decide⟩ ⟨rfl, rfl⟩ ⟨by decide, by decide⟩ ?_
  intro r11 S11 L11 R11 p11
  obtain ⟨rfl, rfl, rfl, rfl⟩ := p11
  first | with_reducible refine z_if_neB C 14 21 dX9_canHave_14 (by decide) (fun h14 => ?_) (fun h14 => ?_) | with_reducible refine z_if_neN C 14 21 dX9_canHave_14 (by decide) (by omega) (fun h14 => ?_) (fun h14 => ?_) | refine z_if_ne C 14 21 dX9_canHave_14 (by decide) (fun h14 => ?_) (fun h14 => ?_)
  · refine z_iconst (v := nI 0) C 21 dX9_canHave_21 (by decide) ?_
    refine z_istore C 22 4 [(4, _), (3, _), (0, _), (1, _), (2, _)] dX9_canHave_22 (by decide) rfl ?_
    refine z_iload_n C 24 2 4 dX9_canHave_24 rfl rfl ?_
    refine z_tab C 25 1 5 149 (fun n => [60, 85, 101, 117, 133].getD (n - 1) 0) dX9_canHave_25 (by decide) (by decide) (by decide) (fun n25 g25 k25 h25 => ?_) (fun h25 => ?_)
    · rcases (show n25 = 1 ∨ n25 = 2 ∨ n25 = 3 ∨ n25 = 4 ∨ n25 = 5 by omega) with rfl | rfl | rfl | rfl | rfl
      · obtain rfl : k = 1 := (nI_eq (by omega) (by decide)).mp h25
        refine z_iload_n C 60 3 1 dX9_canHave_60 rfl rfl ?_
        refine z_iconst (v := nI 2) C 61 dX9_canHave_61 (by decide) ?_
        first | with_reducible refine z_icmp_eqN C 62 70 dX9_canHave_62 (by decide) (by omega) (by omega) (fun h62 => ?_) (fun h62 => ?_) | refine z_icmp_eq C 62 70 dX9_canHave_62 (by decide) (fun h62 => ?_) (fun h62 => ?_)
        · refine z_aload_n C 70 0 2 dX9_canHave_70 rfl rfl ?_
          refine z_iload_n C 71 1 3 dX9_canHave_71 rfl rfl ?_
          refine z_iconst (v := nI 2) C 72 dX9_canHave_72 (by decide) ?_
          refine z_cVi0 C 73 dX9_canHave_73 cv_X9_203 (c_X9_of hR (by first | assumption | omega) (by omega)) rfl ⟨by decide, rfl⟩ (by first | assumption | exact Nat.zero_lt_one | omega) rfl rfl (Nat.le_of_ble_eq_true rfl) ⟨by decide, by decide⟩ ⟨rfl, rfl⟩ ⟨by decide, by decide⟩ ?_
          intro r73 S73 L73 R73 p73
          obtain ⟨rfl, rfl, rfl, rfl⟩ := p73
          first | with_reducible refine z_if_leN C 76 83 dX9_canHave_76 (by decide) (by omega) (fun h76 => ?_) (fun h76 => ?_) | refine z_if_le C 76 83 dX9_canHave_76 (by decide) (fun h76 => ?_) (fun h76 => ?_)
          · have h76' := Int32.not_lt.mpr h76
            refine z_iconst (v := nI 0) C 83 dX9_canHave_83 (by decide) ?_
            exact ret 84 _ _ _ _ _ dX9_canHave_84 (by first | rfl | exact bI_n | decide) (⟨(by first | (exfalso; omega) | exact bI_1 (by simp [fCan, nI_eq, *]) | exact bI_0 (by simp [fCan, nI_eq, *])), rfl, rfl, rfl⟩)
          · have h76' := Int32.not_le.mp h76
            refine z_iconst (v := nI 1) C 79 dX9_canHave_79 (by decide) ?_
            refine z_goto C 80 84 dX9_canHave_80 (by decide) ?_
            exact ret 84 _ _ _ _ _ dX9_canHave_84 (by first | rfl | exact bI_n | decide) (⟨(by first | (exfalso; omega) | exact bI_1 (by simp [fCan, nI_eq, *]) | exact bI_0 (by simp [fCan, nI_eq, *])), rfl, rfl, rfl⟩)
        · refine z_iload_n C 65 3 1 dX9_canHave_65 rfl rfl ?_
          refine z_iconst (v := nI 3) C 66 dX9_canHave_66 (by decide) ?_
          first | with_reducible refine z_icmp_neN C 67 83 dX9_canHave_67 (by decide) (by omega) (by omega) (fun h67 => ?_) (fun h67 => ?_) | refine z_icmp_ne C 67 83 dX9_canHave_67 (by decide) (fun h67 => ?_) (fun h67 => ?_)
          · refine z_iconst (v := nI 0) C 83 dX9_canHave_83 (by decide) ?_
            exact ret 84 _ _ _ _ _ dX9_canHave_84 (by first | rfl | exact bI_n | decide) (⟨(by first | (exfalso; omega) | exact bI_1 (by simp [fCan, nI_eq, *]) | exact bI_0 (by simp [fCan, nI_eq, *])), rfl, rfl, rfl⟩)
          · refine z_aload_n C 70 0 2 dX9_canHave_70 rfl rfl ?_
            refine z_iload_n C 71 1 3 dX9_canHave_71 rfl rfl ?_
            refine z_iconst (v := nI 2) C 72 dX9_canHave_72 (by decide) ?_
            refine z_cVi0 C 73 dX9_canHave_73 cv_X9_203 (c_X9_of hR (by first | assumption | omega) (by omega)) rfl ⟨by decide, rfl⟩ (by first | assumption | exact Nat.zero_lt_one | omega) rfl rfl (Nat.le_of_ble_eq_true rfl) ⟨by decide, by decide⟩ ⟨rfl, rfl⟩ ⟨by decide, by decide⟩ ?_
            intro r73 S73 L73 R73 p73
            obtain ⟨rfl, rfl, rfl, rfl⟩ := p73
            first | with_reducible refine z_if_leN C 76 83 dX9_canHave_76 (by decide) (by omega) (fun h76 => ?_) (fun h76 => ?_) | refine z_if_le C 76 83 dX9_canHave_76 (by decide) (fun h76 => ?_) (fun h76 => ?_)
            · have h76' := Int32.not_lt.mpr h76
              refine z_iconst (v := nI 0) C 83 dX9_canHave_83 (by decide) ?_
              exact ret 84 _ _ _ _ _ dX9_canHave_84 (by first | rfl | exact bI_n | decide) (⟨(by first | (exfalso; omega) | exact bI_1 (by simp [fCan, nI_eq, *]) | exact bI_0 (by simp [fCan, nI_eq, *])), rfl, rfl, rfl⟩)
            · have h76' := Int32.not_le.mp h76
              refine z_iconst (v := nI 1) C 79 dX9_canHave_79 (by decide) ?_
              refine z_goto C 80 84 dX9_canHave_80 (by decide) ?_
              exact ret 84 _ _ _ _ _ dX9_canHave_84 (by first | rfl | exact bI_n | decide) (⟨(by first | (exfalso; omega) | exact bI_1 (by simp [fCan, nI_eq, *]) | exact bI_0 (by simp [fCan, nI_eq, *])), rfl, rfl, rfl⟩)
      · obtain rfl : k = 2 := (nI_eq (by omega) (by decide)).mp h25
        refine z_iload_n C 85 3 1 dX9_canHave_85 rfl rfl ?_
        refine z_iconst (v := nI 3) C 86 dX9_canHave_86 (by decide) ?_
        first | with_reducible refine z_icmp_neN C 87 99 dX9_canHave_87 (by decide) (by omega) (by omega) (fun h87 => ?_) (fun h87 => ?_) | refine z_icmp_ne C 87 99 dX9_canHave_87 (by decide) (fun h87 => ?_) (fun h87 => ?_)
        · refine z_iconst (v := nI 0) C 99 dX9_canHave_99 (by decide) ?_
          exact ret 100 _ _ _ _ _ dX9_canHave_100 (by first | rfl | exact bI_n | decide) (⟨(by first | (exfalso; omega) | exact bI_1 (by simp [fCan, nI_eq, *]) | exact bI_0 (by simp [fCan, nI_eq, *])), rfl, rfl, rfl⟩)
        · refine z_iload C 90 4 0 dX9_canHave_90 rfl ?_
          first | with_reducible refine z_if_eqB C 92 99 dX9_canHave_92 (by decide) (fun h92 => ?_) (fun h92 => ?_) | with_reducible refine z_if_eqN C 92 99 dX9_canHave_92 (by decide) (by omega) (fun h92 => ?_) (fun h92 => ?_) | refine z_if_eq C 92 99 dX9_canHave_92 (by decide) (fun h92 => ?_) (fun h92 => ?_)
          · refine z_iconst (v := nI 0) C 99 dX9_canHave_99 (by decide) ?_
            exact ret 100 _ _ _ _ _ dX9_canHave_100 (by first | rfl | exact bI_n | decide) (⟨(by first | (exfalso; omega) | exact bI_1 (by simp [fCan, nI_eq, *]) | exact bI_0 (by simp [fCan, nI_eq, *])), rfl, rfl, rfl⟩)
          · refine z_iconst (v := nI 1) C 95 dX9_canHave_95 (by decide) ?_
            refine z_goto C 96 100 dX9_canHave_96 (by decide) ?_
            exact ret 100 _ _ _ _ _ dX9_canHave_100 (by first | rfl | exact bI_n | decide) (⟨(by first | (exfalso; omega) | exact bI_1 (by simp [fCan, nI_eq, *]) | exact bI_0 (by simp [fCan, nI_eq, *])), rfl, rfl, rfl⟩)
      · obtain rfl : k = 3 := (nI_eq (by omega) (by decide)).mp h25
        refine z_iload_n C 101 3 1 dX9_canHave_101 rfl rfl ?_
        refine z_iconst (v := nI 2) C 102 dX9_canHave_102 (by decide) ?_
        first | with_reducible refine z_icmp_neN C 103 115 dX9_canHave_103 (by decide) (by omega) (by omega) (fun h103 => ?_) (fun h103 => ?_) | refine z_icmp_ne C 103 115 dX9_canHave_103 (by decide) (fun h103 => ?_) (fun h103 => ?_)
        · refine z_iconst (v := nI 0) C 115 dX9_canHave_115 (by decide) ?_
          exact ret 116 _ _ _ _ _ dX9_canHave_116 (by first | rfl | exact bI_n | decide) (⟨(by first | (exfalso; omega) | exact bI_1 (by simp [fCan, nI_eq, *]) | exact bI_0 (by simp [fCan, nI_eq, *])), rfl, rfl, rfl⟩)
        · refine z_iload C 106 4 0 dX9_canHave_106 rfl ?_
          first | with_reducible refine z_if_eqB C 108 115 dX9_canHave_108 (by decide) (fun h108 => ?_) (fun h108 => ?_) | with_reducible refine z_if_eqN C 108 115 dX9_canHave_108 (by decide) (by omega) (fun h108 => ?_) (fun h108 => ?_) | refine z_if_eq C 108 115 dX9_canHave_108 (by decide) (fun h108 => ?_) (fun h108 => ?_)
          · refine z_iconst (v := nI 0) C 115 dX9_canHave_115 (by decide) ?_
            exact ret 116 _ _ _ _ _ dX9_canHave_116 (by first | rfl | exact bI_n | decide) (⟨(by first | (exfalso; omega) | exact bI_1 (by simp [fCan, nI_eq, *]) | exact bI_0 (by simp [fCan, nI_eq, *])), rfl, rfl, rfl⟩)
          · refine z_iconst (v := nI 1) C 111 dX9_canHave_111 (by decide) ?_
            refine z_goto C 112 116 dX9_canHave_112 (by decide) ?_
            exact ret 116 _ _ _ _ _ dX9_canHave_116 (by first | rfl | exact bI_n | decide) (⟨(by first | (exfalso; omega) | exact bI_1 (by simp [fCan, nI_eq, *]) | exact bI_0 (by simp [fCan, nI_eq, *])), rfl, rfl, rfl⟩)
      · obtain rfl : k = 4 := (nI_eq (by omega) (by decide)).mp h25
        refine z_iload_n C 117 3 1 dX9_canHave_117 rfl rfl ?_
        refine z_iconst (v := nI 4) C 118 dX9_canHave_118 (by decide) ?_
        first | with_reducible refine z_icmp_neN C 119 131 dX9_canHave_119 (by decide) (by omega) (by omega) (fun h119 => ?_) (fun h119 => ?_) | refine z_icmp_ne C 119 131 dX9_canHave_119 (by decide) (fun h119 => ?_) (fun h119 => ?_)
        · refine z_iconst (v := nI 0) C 131 dX9_canHave_131 (by decide) ?_
          exact ret 132 _ _ _ _ _ dX9_canHave_132 (by first | rfl | exact bI_n | decide) (⟨(by first | (exfalso; omega) | exact bI_1 (by simp [fCan, nI_eq, *]) | exact bI_0 (by simp [fCan, nI_eq, *])), rfl, rfl, rfl⟩)
        · refine z_iload C 122 4 0 dX9_canHave_122 rfl ?_
          first | with_reducible refine z_if_eqB C 124 131 dX9_canHave_124 (by decide) (fun h124 => ?_) (fun h124 => ?_) | with_reducible refine z_if_eqN C 124 131 dX9_canHave_124 (by decide) (by omega) (fun h124 => ?_) (fun h124 => ?_) | refine z_if_eq C 124 131 dX9_canHave_124 (by decide) (fun h124 => ?_) (fun h124 => ?_)
          · refine z_iconst (v := nI 0) C 131 dX9_canHave_131 (by decide) ?_
            exact ret 132 _ _ _ _ _ dX9_canHave_132 (by first | rfl | exact bI_n | decide) (⟨(by first | (exfalso; omega) | exact bI_1 (by simp [fCan, nI_eq, *]) | exact bI_0 (by simp [fCan, nI_eq, *])), rfl, rfl, rfl⟩)
          · refine z_iconst (v := nI 1) C 127 dX9_canHave_127 (by decide) ?_
            refine z_goto C 128 132 dX9_canHave_128 (by decide) ?_
            exact ret 132 _ _ _ _ _ dX9_canHave_132 (by first | rfl | exact bI_n | decide) (⟨(by first | (exfalso; omega) | exact bI_1 (by simp [fCan, nI_eq, *]) | exact bI_0 (by simp [fCan, nI_eq, *])), rfl, rfl, rfl⟩)
      · obtain rfl : k = 5 := (nI_eq (by omega) (by decide)).mp h25
        refine z_iload_n C 133 3 1 dX9_canHave_133 rfl rfl ?_
        refine z_iconst (v := nI 5) C 134 dX9_canHave_134 (by decide) ?_
        first | with_reducible refine z_icmp_neN C 135 147 dX9_canHave_135 (by decide) (by omega) (by omega) (fun h135 => ?_) (fun h135 => ?_) | refine z_icmp_ne C 135 147 dX9_canHave_135 (by decide) (fun h135 => ?_) (fun h135 => ?_)
        · refine z_iconst (v := nI 0) C 147 dX9_canHave_147 (by decide) ?_
          exact ret 148 _ _ _ _ _ dX9_canHave_148 (by first | rfl | exact bI_n | decide) (⟨(by first | (exfalso; omega) | exact bI_1 (by simp [fCan, nI_eq, *]) | exact bI_0 (by simp [fCan, nI_eq, *])), rfl, rfl, rfl⟩)
        · refine z_iload C 138 4 0 dX9_canHave_138 rfl ?_
          first | with_reducible refine z_if_eqB C 140 147 dX9_canHave_140 (by decide) (fun h140 => ?_) (fun h140 => ?_) | with_reducible refine z_if_eqN C 140 147 dX9_canHave_140 (by decide) (by omega) (fun h140 => ?_) (fun h140 => ?_) | refine z_if_eq C 140 147 dX9_canHave_140 (by decide) (fun h140 => ?_) (fun h140 => ?_)
          · refine z_iconst (v := nI 0) C 147 dX9_canHave_147 (by decide) ?_
            exact ret 148 _ _ _ _ _ dX9_canHave_148 (by first | rfl | exact bI_n | decide) (⟨(by first | (exfalso; omega) | exact bI_1 (by simp [fCan, nI_eq, *]) | exact bI_0 (by simp [fCan, nI_eq, *])), rfl, rfl, rfl⟩)
          · refine z_iconst (v := nI 1) C 143 dX9_canHave_143 (by decide) ?_
            refine z_goto C 144 148 dX9_canHave_144 (by decide) ?_
            exact ret 148 _ _ _ _ _ dX9_canHave_148 (by first | rfl | exact bI_n | decide) (⟨(by first | (exfalso; omega) | exact bI_1 (by simp [fCan, nI_eq, *]) | exact bI_0 (by simp [fCan, nI_eq, *])), rfl, rfl, rfl⟩)
    · obtain rfl : k = 6 := by
        rcases (show k = 1 ∨ k = 2 ∨ k = 3 ∨ k = 4 ∨ k = 5 ∨ k = 6 by omega) with rfl | rfl | rfl | rfl | rfl | rfl <;> first | rfl | exact absurd rfl (h25 _ (by omega) (by omega))
      refine z_iload_n C 149 3 1 dX9_canHave_149 rfl rfl ?_
      refine z_iconst (v := nI 1) C 150 dX9_canHave_150 (by decide) ?_
      first | with_reducible refine z_icmp_neN C 151 167 dX9_canHave_151 (by decide) (by omega) (by omega) (fun h151 => ?_) (fun h151 => ?_) | refine z_icmp_ne C 151 167 dX9_canHave_151 (by decide) (fun h151 => ?_) (fun h151 => ?_)
      · refine z_iconst (v := nI 0) C 167 dX9_canHave_167 (by decide) ?_
        exact ret 168 _ _ _ _ _ dX9_canHave_168 (by first | rfl | exact bI_n | decide) (⟨(by first | (exfalso; omega) | exact bI_1 (by simp [fCan, nI_eq, *]) | exact bI_0 (by simp [fCan, nI_eq, *])), rfl, rfl, rfl⟩)
      · refine z_aload_n C 154 0 2 dX9_canHave_154 rfl rfl ?_
        refine z_iload_n C 155 1 3 dX9_canHave_155 rfl rfl ?_
        refine z_iconst (v := nI 2) C 156 dX9_canHave_156 (by decide) ?_
        refine z_cVi0 C 157 dX9_canHave_157 cv_X9_203 (c_X9_of hR (by first | assumption | omega) (by omega)) rfl ⟨by decide, rfl⟩ (by first | assumption | exact Nat.zero_lt_one | omega) rfl rfl (Nat.le_of_ble_eq_true rfl) ⟨by decide, by decide⟩ ⟨rfl, rfl⟩ ⟨by decide, by decide⟩ ?_
        intro r157 S157 L157 R157 p157
        obtain ⟨rfl, rfl, rfl, rfl⟩ := p157
        first | with_reducible refine z_if_leN C 160 167 dX9_canHave_160 (by decide) (by omega) (fun h160 => ?_) (fun h160 => ?_) | refine z_if_le C 160 167 dX9_canHave_160 (by decide) (fun h160 => ?_) (fun h160 => ?_)
        · have h160' := Int32.not_lt.mpr h160
          refine z_iconst (v := nI 0) C 167 dX9_canHave_167 (by decide) ?_
          exact ret 168 _ _ _ _ _ dX9_canHave_168 (by first | rfl | exact bI_n | decide) (⟨(by first | (exfalso; omega) | exact bI_1 (by simp [fCan, nI_eq, *]) | exact bI_0 (by simp [fCan, nI_eq, *])), rfl, rfl, rfl⟩)
        · have h160' := Int32.not_le.mp h160
          refine z_iconst (v := nI 1) C 163 dX9_canHave_163 (by decide) ?_
          refine z_goto C 164 168 dX9_canHave_164 (by decide) ?_
          exact ret 168 _ _ _ _ _ dX9_canHave_168 (by first | rfl | exact bI_n | decide) (⟨(by first | (exfalso; omega) | exact bI_1 (by simp [fCan, nI_eq, *]) | exact bI_0 (by simp [fCan, nI_eq, *])), rfl, rfl, rfl⟩)
  · refine z_iconst (v := nI 1) C 17 dX9_canHave_17 (by decide) ?_
    refine z_goto C 18 22 dX9_canHave_18 (by decide) ?_
    refine z_istore C 22 4 [(4, _), (3, _), (0, _), (1, _), (2, _)] dX9_canHave_22 (by decide) rfl ?_
    refine z_iload_n C 24 2 4 dX9_canHave_24 rfl rfl ?_
    refine z_tab C 25 1 5 149 (fun n => [60, 85, 101, 117, 133].getD (n - 1) 0) dX9_canHave_25 (by decide) (by decide) (by decide) (fun n25 g25 k25 h25 => ?_) (fun h25 => ?_)
    · rcases (show n25 = 1 ∨ n25 = 2 ∨ n25 = 3 ∨ n25 = 4 ∨ n25 = 5 by omega) with rfl | rfl | rfl | rfl | rfl
      · obtain rfl : k = 1 := (nI_eq (by omega) (by decide)).mp h25
        refine z_iload_n C 60 3 1 dX9_canHave_60 rfl rfl ?_
        refine z_iconst (v := nI 2) C 61 dX9_canHave_61 (by decide) ?_
        first | with_reducible refine z_icmp_eqN C 62 70 dX9_canHave_62 (by decide) (by omega) (by omega) (fun h62 => ?_) (fun h62 => ?_) | refine z_icmp_eq C 62 70 dX9_canHave_62 (by decide) (fun h62 => ?_) (fun h62 => ?_)
        · refine z_aload_n C 70 0 2 dX9_canHave_70 rfl rfl ?_
          refine z_iload_n C 71 1 3 dX9_canHave_71 rfl rfl ?_
          refine z_iconst (v := nI 2) C 72 dX9_canHave_72 (by decide) ?_
          refine z_cVi0 C 73 dX9_canHave_73 cv_X9_203 (c_X9_of hR (by first | assumption | omega) (by omega)) rfl ⟨by decide, rfl⟩ (by first | assumption | exact Nat.zero_lt_one | omega) rfl rfl (Nat.le_of_ble_eq_true rfl) ⟨by decide, by decide⟩ ⟨rfl, rfl⟩ ⟨by decide, by decide⟩ ?_
          intro r73 S73 L73 R73 p73
          obtain ⟨rfl, rfl, rfl, rfl⟩ := p73
          first | with_reducible refine z_if_leN C 76 83 dX9_canHave_76 (by decide) (by omega) (fun h76 => ?_) (fun h76 => ?_) | refine z_if_le C 76 83 dX9_canHave_76 (by decide) (fun h76 => ?_) (fun h76 => ?_)
          · have h76' := Int32.not_lt.mpr h76
            refine z_iconst (v := nI 0) C 83 dX9_canHave_83 (by decide) ?_
            exact ret 84 _ _ _ _ _ dX9_canHave_84 (by first | rfl | exact bI_n | decide) (⟨(by first | (exfalso; omega) | exact bI_1 (by simp [fCan, nI_eq, *]) | exact bI_0 (by simp [fCan, nI_eq, *])), rfl, rfl, rfl⟩)
          · have h76' := Int32.not_le.mp h76
            refine z_iconst (v := nI 1) C 79 dX9_canHave_79 (by decide) ?_
            refine z_goto C 80 84 dX9_canHave_80 (by decide) ?_
            exact ret 84 _ _ _ _ _ dX9_canHave_84 (by first | rfl | exact bI_n | decide) (⟨(by first | (exfalso; omega) | exact bI_1 (by simp [fCan, nI_eq, *]) | exact bI_0 (by simp [fCan, nI_eq, *])), rfl, rfl, rfl⟩)
        · refine z_iload_n C 65 3 1 dX9_canHave_65 rfl rfl ?_
          refine z_iconst (v := nI 3) C 66 dX9_canHave_66 (by decide) ?_
          first | with_reducible refine z_icmp_neN C 67 83 dX9_canHave_67 (by decide) (by omega) (by omega) (fun h67 => ?_) (fun h67 => ?_) | refine z_icmp_ne C 67 83 dX9_canHave_67 (by decide) (fun h67 => ?_) (fun h67 => ?_)
          · refine z_iconst (v := nI 0) C 83 dX9_canHave_83 (by decide) ?_
            exact ret 84 _ _ _ _ _ dX9_canHave_84 (by first | rfl | exact bI_n | decide) (⟨(by first | (exfalso; omega) | exact bI_1 (by simp [fCan, nI_eq, *]) | exact bI_0 (by simp [fCan, nI_eq, *])), rfl, rfl, rfl⟩)
          · refine z_aload_n C 70 0 2 dX9_canHave_70 rfl rfl ?_
            refine z_iload_n C 71 1 3 dX9_canHave_71 rfl rfl ?_
            refine z_iconst (v := nI 2) C 72 dX9_canHave_72 (by decide) ?_
            refine z_cVi0 C 73 dX9_canHave_73 cv_X9_203 (c_X9_of hR (by first | assumption | omega) (by omega)) rfl ⟨by decide, rfl⟩ (by first | assumption | exact Nat.zero_lt_one | omega) rfl rfl (Nat.le_of_ble_eq_true rfl) ⟨by decide, by decide⟩ ⟨rfl, rfl⟩ ⟨by decide, by decide⟩ ?_
            intro r73 S73 L73 R73 p73
            obtain ⟨rfl, rfl, rfl, rfl⟩ := p73
            first | with_reducible refine z_if_leN C 76 83 dX9_canHave_76 (by decide) (by omega) (fun h76 => ?_) (fun h76 => ?_) | refine z_if_le C 76 83 dX9_canHave_76 (by decide) (fun h76 => ?_) (fun h76 => ?_)
            · have h76' := Int32.not_lt.mpr h76
              refine z_iconst (v := nI 0) C 83 dX9_canHave_83 (by decide) ?_
              exact ret 84 _ _ _ _ _ dX9_canHave_84 (by first | rfl | exact bI_n | decide) (⟨(by first | (exfalso; omega) | exact bI_1 (by simp [fCan, nI_eq, *]) | exact bI_0 (by simp [fCan, nI_eq, *])), rfl, rfl, rfl⟩)
            · have h76' := Int32.not_le.mp h76
              refine z_iconst (v := nI 1) C 79 dX9_canHave_79 (by decide) ?_
              refine z_goto C 80 84 dX9_canHave_80 (by decide) ?_
              exact ret 84 _ _ _ _ _ dX9_canHave_84 (by first | rfl | exact bI_n | decide) (⟨(by first | (exfalso; omega) | exact bI_1 (by simp [fCan, nI_eq, *]) | exact bI_0 (by simp [fCan, nI_eq, *])), rfl, rfl, rfl⟩)
      · obtain rfl : k = 2 := (nI_eq (by omega) (by decide)).mp h25
        refine z_iload_n C 85 3 1 dX9_canHave_85 rfl rfl ?_
        refine z_iconst (v := nI 3) C 86 dX9_canHave_86 (by decide) ?_
        first | with_reducible refine z_icmp_neN C 87 99 dX9_canHave_87 (by decide) (by omega) (by omega) (fun h87 => ?_) (fun h87 => ?_) | refine z_icmp_ne C 87 99 dX9_canHave_87 (by decide) (fun h87 => ?_) (fun h87 => ?_)
        · refine z_iconst (v := nI 0) C 99 dX9_canHave_99 (by decide) ?_
          exact ret 100 _ _ _ _ _ dX9_canHave_100 (by first | rfl | exact bI_n | decide) (⟨(by first | (exfalso; omega) | exact bI_1 (by simp [fCan, nI_eq, *]) | exact bI_0 (by simp [fCan, nI_eq, *])), rfl, rfl, rfl⟩)
        · refine z_iload C 90 4 0 dX9_canHave_90 rfl ?_
          first | with_reducible refine z_if_eqB C 92 99 dX9_canHave_92 (by decide) (fun h92 => ?_) (fun h92 => ?_) | with_reducible refine z_if_eqN C 92 99 dX9_canHave_92 (by decide) (by omega) (fun h92 => ?_) (fun h92 => ?_) | refine z_if_eq C 92 99 dX9_canHave_92 (by decide) (fun h92 => ?_) (fun h92 => ?_)
          · refine z_iconst (v := nI 0) C 99 dX9_canHave_99 (by decide) ?_
            exact ret 100 _ _ _ _ _ dX9_canHave_100 (by first | rfl | exact bI_n | decide) (⟨(by first | (exfalso; omega) | exact bI_1 (by simp [fCan, nI_eq, *]) | exact bI_0 (by simp [fCan, nI_eq, *])), rfl, rfl, rfl⟩)
          · refine z_iconst (v := nI 1) C 95 dX9_canHave_95 (by decide) ?_
            refine z_goto C 96 100 dX9_canHave_96 (by decide) ?_
            exact ret 100 _ _ _ _ _ dX9_canHave_100 (by first | rfl | exact bI_n | decide) (⟨(by first | (exfalso; omega) | exact bI_1 (by simp [fCan, nI_eq, *]) | exact bI_0 (by simp [fCan, nI_eq, *])), rfl, rfl, rfl⟩)
      · obtain rfl : k = 3 := (nI_eq (by omega) (by decide)).mp h25
        refine z_iload_n C 101 3 1 dX9_canHave_101 rfl rfl ?_
        refine z_iconst (v := nI 2) C 102 dX9_canHave_102 (by decide) ?_
        first | with_reducible refine z_icmp_neN C 103 115 dX9_canHave_103 (by decide) (by omega) (by omega) (fun h103 => ?_) (fun h103 => ?_) | refine z_icmp_ne C 103 115 dX9_canHave_103 (by decide) (fun h103 => ?_) (fun h103 => ?_)
        · refine z_iconst (v := nI 0) C 115 dX9_canHave_115 (by decide) ?_
          exact ret 116 _ _ _ _ _ dX9_canHave_116 (by first | rfl | exact bI_n | decide) (⟨(by first | (exfalso; omega) | exact bI_1 (by simp [fCan, nI_eq, *]) | exact bI_0 (by simp [fCan, nI_eq, *])), rfl, rfl, rfl⟩)
        · refine z_iload C 106 4 0 dX9_canHave_106 rfl ?_
          first | with_reducible refine z_if_eqB C 108 115 dX9_canHave_108 (by decide) (fun h108 => ?_) (fun h108 => ?_) | with_reducible refine z_if_eqN C 108 115 dX9_canHave_108 (by decide) (by omega) (fun h108 => ?_) (fun h108 => ?_) | refine z_if_eq C 108 115 dX9_canHave_108 (by decide) (fun h108 => ?_) (fun h108 => ?_)
          · refine z_iconst (v := nI 0) C 115 dX9_canHave_115 (by decide) ?_
            exact ret 116 _ _ _ _ _ dX9_canHave_116 (by first | rfl | exact bI_n | decide) (⟨(by first | (exfalso; omega) | exact bI_1 (by simp [fCan, nI_eq, *]) | exact bI_0 (by simp [fCan, nI_eq, *])), rfl, rfl, rfl⟩)
          · refine z_iconst (v := nI 1) C 111 dX9_canHave_111 (by decide) ?_
            refine z_goto C 112 116 dX9_canHave_112 (by decide) ?_
            exact ret 116 _ _ _ _ _ dX9_canHave_116 (by first | rfl | exact bI_n | decide) (⟨(by first | (exfalso; omega) | exact bI_1 (by simp [fCan, nI_eq, *]) | exact bI_0 (by simp [fCan, nI_eq, *])), rfl, rfl, rfl⟩)
      · obtain rfl : k = 4 := (nI_eq (by omega) (by decide)).mp h25
        refine z_iload_n C 117 3 1 dX9_canHave_117 rfl rfl ?_
        refine z_iconst (v := nI 4) C 118 dX9_canHave_118 (by decide) ?_
        first | with_reducible refine z_icmp_neN C 119 131 dX9_canHave_119 (by decide) (by omega) (by omega) (fun h119 => ?_) (fun h119 => ?_) | refine z_icmp_ne C 119 131 dX9_canHave_119 (by decide) (fun h119 => ?_) (fun h119 => ?_)
        · refine z_iconst (v := nI 0) C 131 dX9_canHave_131 (by decide) ?_
          exact ret 132 _ _ _ _ _ dX9_canHave_132 (by first | rfl | exact bI_n | decide) (⟨(by first | (exfalso; omega) | exact bI_1 (by simp [fCan, nI_eq, *]) | exact bI_0 (by simp [fCan, nI_eq, *])), rfl, rfl, rfl⟩)
        · refine z_iload C 122 4 0 dX9_canHave_122 rfl ?_
          first | with_reducible refine z_if_eqB C 124 131 dX9_canHave_124 (by decide) (fun h124 => ?_) (fun h124 => ?_) | with_reducible refine z_if_eqN C 124 131 dX9_canHave_124 (by decide) (by omega) (fun h124 => ?_) (fun h124 => ?_) | refine z_if_eq C 124 131 dX9_canHave_124 (by decide) (fun h124 => ?_) (fun h124 => ?_)
          · refine z_iconst (v := nI 0) C 131 dX9_canHave_131 (by decide) ?_
            exact ret 132 _ _ _ _ _ dX9_canHave_132 (by first | rfl | exact bI_n | decide) (⟨(by first | (exfalso; omega) | exact bI_1 (by simp [fCan, nI_eq, *]) | exact bI_0 (by simp [fCan, nI_eq, *])), rfl, rfl, rfl⟩)
          · refine z_iconst (v := nI 1) C 127 dX9_canHave_127 (by decide) ?_
            refine z_goto C 128 132 dX9_canHave_128 (by decide) ?_
            exact ret 132 _ _ _ _ _ dX9_canHave_132 (by first | rfl | exact bI_n | decide) (⟨(by first | (exfalso; omega) | exact bI_1 (by simp [fCan, nI_eq, *]) | exact bI_0 (by simp [fCan, nI_eq, *])), rfl, rfl, rfl⟩)
      · obtain rfl : k = 5 := (nI_eq (by omega) (by decide)).mp h25
        refine z_iload_n C 133 3 1 dX9_canHave_133 rfl rfl ?_
        refine z_iconst (v := nI 5) C 134 dX9_canHave_134 (by decide) ?_
        first | with_reducible refine z_icmp_neN C 135 147 dX9_canHave_135 (by decide) (by omega) (by omega) (fun h135 => ?_) (fun h135 => ?_) | refine z_icmp_ne C 135 147 dX9_canHave_135 (by decide) (fun h135 => ?_) (fun h135 => ?_)
        · refine z_iconst (v := nI 0) C 147 dX9_canHave_147 (by decide) ?_
          exact ret 148 _ _ _ _ _ dX9_canHave_148 (by first | rfl | exact bI_n | decide) (⟨(by first | (exfalso; omega) | exact bI_1 (by simp [fCan, nI_eq, *]) | exact bI_0 (by simp [fCan, nI_eq, *])), rfl, rfl, rfl⟩)
        · refine z_iload C 138 4 0 dX9_canHave_138 rfl ?_
          first | with_reducible refine z_if_eqB C 140 147 dX9_canHave_140 (by decide) (fun h140 => ?_) (fun h140 => ?_) | with_reducible refine z_if_eqN C 140 147 dX9_canHave_140 (by decide) (by omega) (fun h140 => ?_) (fun h140 => ?_) | refine z_if_eq C 140 147 dX9_canHave_140 (by decide) (fun h140 => ?_) (fun h140 => ?_)
          · refine z_iconst (v := nI 0) C 147 dX9_canHave_147 (by decide) ?_
            exact ret 148 _ _ _ _ _ dX9_canHave_148 (by first | rfl | exact bI_n | decide) (⟨(by first | (exfalso; omega) | exact bI_1 (by simp [fCan, nI_eq, *]) | exact bI_0 (by simp [fCan, nI_eq, *])), rfl, rfl, rfl⟩)
          · refine z_iconst (v := nI 1) C 143 dX9_canHave_143 (by decide) ?_
            refine z_goto C 144 148 dX9_canHave_144 (by decide) ?_
            exact ret 148 _ _ _ _ _ dX9_canHave_148 (by first | rfl | exact bI_n | decide) (⟨(by first | (exfalso; omega) | exact bI_1 (by simp [fCan, nI_eq, *]) | exact bI_0 (by simp [fCan, nI_eq, *])), rfl, rfl, rfl⟩)
    · obtain rfl : k = 6 := by
        rcases (show k = 1 ∨ k = 2 ∨ k = 3 ∨ k = 4 ∨ k = 5 ∨ k = 6 by omega) with rfl | rfl | rfl | rfl | rfl | rfl <;> first | rfl | exact absurd rfl (h25 _ (by omega) (by omega))
      refine z_iload_n C 149 3 1 dX9_canHave_149 rfl rfl ?_
      refine z_iconst (v := nI 1) C 150 dX9_canHave_150 (by decide) ?_
      first | with_reducible refine z_icmp_neN C 151 167 dX9_canHave_151 (by decide) (by omega) (by omega) (fun h151 => ?_) (fun h151 => ?_) | refine z_icmp_ne C 151 167 dX9_canHave_151 (by decide) (fun h151 => ?_) (fun h151 => ?_)
      · refine z_iconst (v := nI 0) C 167 dX9_canHave_167 (by decide) ?_
        exact ret 168 _ _ _ _ _ dX9_canHave_168 (by first | rfl | exact bI_n | decide) (⟨(by first | (exfalso; omega) | exact bI_1 (by simp [fCan, nI_eq, *]) | exact bI_0 (by simp [fCan, nI_eq, *])), rfl, rfl, rfl⟩)
      · refine z_aload_n C 154 0 2 dX9_canHave_154 rfl rfl ?_
        refine z_iload_n C 155 1 3 dX9_canHave_155 rfl rfl ?_
        refine z_iconst (v := nI 2) C 156 dX9_canHave_156 (by decide) ?_
        refine z_cVi0 C 157 dX9_canHave_157 cv_X9_203 (c_X9_of hR (by first | assumption | omega) (by omega)) rfl ⟨by decide, rfl⟩ (by first | assumption | exact Nat.zero_lt_one | omega) rfl rfl (Nat.le_of_ble_eq_true rfl) ⟨by decide, by decide⟩ ⟨rfl, rfl⟩ ⟨by decide, by decide⟩ ?_
        intro r157 S157 L157 R157 p157
        obtain ⟨rfl, rfl, rfl, rfl⟩ := p157
        first | with_reducible refine z_if_leN C 160 167 dX9_canHave_160 (by decide) (by omega) (fun h160 => ?_) (fun h160 => ?_) | refine z_if_le C 160 167 dX9_canHave_160 (by decide) (fun h160 => ?_) (fun h160 => ?_)
        · have h160' := Int32.not_lt.mpr h160
          refine z_iconst (v := nI 0) C 167 dX9_canHave_167 (by decide) ?_
          exact ret 168 _ _ _ _ _ dX9_canHave_168 (by first | rfl | exact bI_n | decide) (⟨(by first | (exfalso; omega) | exact bI_1 (by simp [fCan, nI_eq, *]) | exact bI_0 (by simp [fCan, nI_eq, *])), rfl, rfl, rfl⟩)
        · have h160' := Int32.not_le.mp h160
          refine z_iconst (v := nI 1) C 163 dX9_canHave_163 (by decide) ?_
          refine z_goto C 164 168 dX9_canHave_164 (by decide) ?_
          exact ret 168 _ _ _ _ _ dX9_canHave_168 (by first | rfl | exact bI_n | decide) (⟨(by first | (exfalso; omega) | exact bI_1 (by simp [fCan, nI_eq, *]) | exact bI_0 (by simp [fCan, nI_eq, *])), rfl, rfl, rfl⟩)
def rm_X9_rankOf : Room := { frames := 3, cells := 0, slots := 0, locals := 68 }
set_option maxHeartbeats 4000000 in
set_option maxRecDepth 100000 in
theorem c_X9_rankOf {l : Launch} {G : mG} {ad : mA} {S : mS} {L : mL} {R : mR} {n p : Nat} (hR : mlk R) (hn : S 40 0 1 = nI n) (hn10 : n ≤ 10) (hI : rI (S 44 0) n) (hp : p < 10) : Ki l yX9_rankOf cX9_rankOf 2 .int rm_X9_rankOf G ad mdm [.ref (ad 40 0), .int (nI p)] S L R (fun r_ S2 L2 R2 => r_ = fRank (S 44 0) (S 41 0) n p ∧ S = S2 ∧ L = L2 ∧ R = R2) := by
  refine Ki.of RX9 (by decide) rfl (Nat.le_of_ble_eq_true rfl) ?_
  intro X hXl hXG C ret
  subst hXl; subst hXG
  change Z X 2 ad mdm S L R 0 0 0 [(0, _), (1, _)] []
  refine z_aload_n C 0 0 0 dX9_rankOf_0 rfl rfl ?_
  refine z_getr C 1 dX9_rankOf_1 gf_X9_20 rfl (by first | assumption | exact Nat.zero_lt_one | omega) (by first | exact hR _ _ _ _ rfl | assumption) ?_
  refine z_iconst (v := nI 4) C 4 dX9_rankOf_4 (by decide) ?_
  refine z_iald C 5 dX9_rankOf_5 rfl (by first | assumption | exact Nat.zero_lt_one | omega) (by first | rfl | assumption) (by decide) (by first | assumption | omega) ?_
  first | with_reducible refine z_if_neB C 6 17 dX9_rankOf_6 (by decide) (fun h6 => ?_) (fun h6 => ?_) | with_reducible refine z_if_neN C 6 17 dX9_rankOf_6 (by decide) (by omega) (fun h6 => ?_) (fun h6 => ?_) | refine z_if_ne C 6 17 dX9_rankOf_6 (by decide) (fun h6 => ?_) (fun h6 => ?_)
  · refine z_aload_n C 17 0 0 dX9_rankOf_17 rfl rfl ?_
    refine z_getr C 18 dX9_rankOf_18 gf_X9_20 rfl (by first | assumption | exact Nat.zero_lt_one | omega) (by first | exact hR _ _ _ _ rfl | assumption) ?_
    refine z_iconst (v := nI 4) C 21 dX9_rankOf_21 (by decide) ?_
    refine z_iald C 22 dX9_rankOf_22 rfl (by first | assumption | exact Nat.zero_lt_one | omega) (by first | rfl | assumption) (by decide) (by first | assumption | omega) ?_
    refine z_iconst (v := nI 1) C 23 dX9_rankOf_23 (by decide) ?_
    first | with_reducible refine z_icmp_neN C 24 35 dX9_rankOf_24 (by decide) (by omega) (by omega) (fun h24 => ?_) (fun h24 => ?_) | refine z_icmp_ne C 24 35 dX9_rankOf_24 (by decide) (fun h24 => ?_) (fun h24 => ?_)
    · refine z_aload_n C 35 0 0 dX9_rankOf_35 rfl rfl ?_
      refine z_iload_n C 36 1 1 dX9_rankOf_36 rfl rfl ?_
      refine z_cVi0 C 37 dX9_rankOf_37 cv_X9_222 (c_X9_away hR (by first | assumption | omega)) rfl ⟨by decide, rfl⟩ (by first | assumption | exact Nat.zero_lt_one | omega) rfl rfl (Nat.le_of_ble_eq_true rfl) ⟨by decide, by decide⟩ ⟨rfl, rfl⟩ ⟨by decide, by decide⟩ ?_
      intro r37 S37 L37 R37 p37
      obtain ⟨rfl, rfl, rfl, rfl⟩ := p37
      exact ret 40 _ _ _ _ _ dX9_rankOf_40 (by first | rfl | exact bI_n | decide) (⟨(by unfold fRank; first | (rw [if_pos h6]; done) | (rw [if_neg h6, if_pos h24]; done) | rw [if_neg h6, if_neg h24]), rfl, rfl, rfl⟩)
    · refine z_aload_n C 27 0 0 dX9_rankOf_27 rfl rfl ?_
      refine z_iload_n C 28 1 1 dX9_rankOf_28 rfl rfl ?_
      refine z_cVi0 C 29 dX9_rankOf_29 cv_X9_210 (c_X9_uses hR (by first | assumption | omega)) rfl ⟨by decide, rfl⟩ (by first | assumption | exact Nat.zero_lt_one | omega) rfl rfl (Nat.le_of_ble_eq_true rfl) ⟨by decide, by decide⟩ ⟨rfl, rfl⟩ ⟨by decide, by decide⟩ ?_
      intro r29 S29 L29 R29 p29
      obtain ⟨rfl, rfl, rfl, rfl⟩ := p29
      refine z_goto C 32 40 dX9_rankOf_32 (by decide) ?_
      exact ret 40 _ _ _ _ _ dX9_rankOf_40 (by first | rfl | exact bI_n | decide) (⟨(by unfold fRank; first | (rw [if_pos h6]; done) | (rw [if_neg h6, if_pos h24]; done) | rw [if_neg h6, if_neg h24]), rfl, rfl, rfl⟩)
  · refine z_aload_n C 9 0 0 dX9_rankOf_9 rfl rfl ?_
    refine z_iload_n C 10 1 1 dX9_rankOf_10 rfl rfl ?_
    refine z_cVi0 C 11 dX9_rankOf_11 cv_X9_225 (c_X9_promiseOf hR hn hn10 hI (by first | assumption | omega)) rfl ⟨by decide, rfl⟩ (by first | assumption | exact Nat.zero_lt_one | omega) rfl rfl (Nat.le_of_ble_eq_true rfl) ⟨by decide, by decide⟩ ⟨rfl, rfl⟩ ⟨by decide, by decide⟩ ?_
    intro r11 S11 L11 R11 p11
    obtain ⟨rfl, rfl, rfl, rfl⟩ := p11
    refine z_goto C 14 40 dX9_rankOf_14 (by decide) ?_
    exact ret 40 _ _ _ _ _ dX9_rankOf_40 (by first | rfl | exact bI_n | decide) (⟨(by unfold fRank; first | (rw [if_pos h6]; done) | (rw [if_neg h6, if_pos h24]; done) | rw [if_neg h6, if_neg h24]), rfl, rfl, rfl⟩)
def rm_X9_comesAhead : Room := { frames := 4, cells := 0, slots := 0, locals := 89 }
set_option maxHeartbeats 4000000 in
set_option maxRecDepth 100000 in
theorem c_X9_comesAhead {l : Launch} {G : mG} {ad : mA} {S : mS} {L : mL} {R : mR} {n p q k : Nat} (hR : mlk R) (hn : S 40 0 1 = nI n) (hn10 : n ≤ 10) (hI : rI (S 44 0) n) (hp : p < 10) (hq : q < 10) (hk6 : k ≤ 6) : Ki l yX9_comesAhead cX9_comesAhead 5 .boolean rm_X9_comesAhead G ad mdm [.ref (ad 40 0), .int (nI p), .int (nI q), .int (nI k)] S L R (fun r_ S2 L2 R2 => r_ = bI (fAhead (S 44 0) (S 41 0) n p q k) ∧ S = S2 ∧ L = L2 ∧ R = R2) := by
  refine Ki.of RX9 (by decide) rfl (Nat.le_of_ble_eq_true rfl) ?_
  intro X hXl hXG C ret
  subst hXl; subst hXG
  change Z X 5 ad mdm S L R 0 0 0 [(0, _), (1, _), (2, _), (3, _)] []
  refine z_iload_n C 0 3 3 dX9_comesAhead_0 rfl rfl ?_
  refine z_iconst (v := nI 4) C 1 dX9_comesAhead_1 (by decide) ?_
  first | with_reducible refine z_icmp_eqN C 2 10 dX9_comesAhead_2 (by decide) (by omega) (by omega) (fun h2 => ?_) (fun h2 => ?_) | refine z_icmp_eq C 2 10 dX9_comesAhead_2 (by decide) (fun h2 => ?_) (fun h2 => ?_)
  · refine z_iconst (v := nI 1) C 10 dX9_comesAhead_10 (by decide) ?_
    refine z_goto C 11 15 dX9_comesAhead_11 (by decide) ?_
    refine z_istore C 15 4 [(4, _), (0, _), (1, _), (2, _), (3, _)] dX9_comesAhead_15 (by decide) rfl ?_
    refine z_iload C 17 4 0 dX9_comesAhead_17 rfl ?_
    first | with_reducible refine z_if_eqB C 19 49 dX9_comesAhead_19 (by decide) (fun h19 => ?_) (fun h19 => ?_) | with_reducible refine z_if_eqN C 19 49 dX9_comesAhead_19 (by decide) (by omega) (fun h19 => ?_) (fun h19 => ?_) | refine z_if_eq C 19 49 dX9_comesAhead_19 (by decide) (fun h19 => ?_) (fun h19 => ?_)
    · have hk45 : ¬ (k = 4 ∨ k = 5) := by omega
      refine z_aload_n C 49 0 1 dX9_comesAhead_49 rfl rfl ?_
      refine z_iload_n C 50 1 2 dX9_comesAhead_50 rfl rfl ?_
      refine z_cVi0 C 51 dX9_comesAhead_51 cv_X9_231 (c_X9_rankOf hR hn hn10 hI (by first | assumption | omega)) rfl ⟨by decide, rfl⟩ (by first | assumption | exact Nat.zero_lt_one | omega) rfl rfl (Nat.le_of_ble_eq_true rfl) ⟨by decide, by decide⟩ ⟨rfl, rfl⟩ ⟨by decide, by decide⟩ ?_
      intro r51 S51 L51 R51 p51
      obtain ⟨rfl, rfl, rfl, rfl⟩ := p51
      refine z_aload_n C 54 0 1 dX9_comesAhead_54 rfl rfl ?_
      refine z_iload_n C 55 2 3 dX9_comesAhead_55 rfl rfl ?_
      refine z_cVi0 C 56 dX9_comesAhead_56 cv_X9_231 (c_X9_rankOf hR hn hn10 hI (by first | assumption | omega)) rfl ⟨by decide, rfl⟩ (by first | assumption | exact Nat.zero_lt_one | omega) rfl rfl (Nat.le_of_ble_eq_true rfl) ⟨by decide, by decide⟩ ⟨rfl, rfl⟩ ⟨by decide, by decide⟩ ?_
      intro r56 S56 L56 R56 p56
      obtain ⟨rfl, rfl, rfl, rfl⟩ := p56
      first | with_reducible refine z_icmp_leN C 59 66 dX9_comesAhead_59 (by decide) (by omega) (by omega) (fun h59 => ?_) (fun h59 => ?_) | refine z_icmp_le C 59 66 dX9_comesAhead_59 (by decide) (fun h59 => ?_) (fun h59 => ?_)
      · refine z_iconst (v := nI 0) C 66 dX9_comesAhead_66 (by decide) ?_
        exact ret 67 _ _ _ _ _ dX9_comesAhead_67 (by first | rfl | exact bI_n | decide) (⟨(by first | (exfalso; omega) | exact bI_1 (by unfold fAhead; rw [if_neg (fun z => by first | exact hk45 z.1 | exact z.2 hiff)]; exact Int32.not_le.mp h59) | exact bI_0 (by unfold fAhead; rw [if_neg (fun z => by first | exact hk45 z.1 | exact z.2 hiff)]; exact Int32.not_lt.mpr h59)), rfl, rfl, rfl⟩)
      · refine z_iconst (v := nI 1) C 62 dX9_comesAhead_62 (by decide) ?_
        refine z_goto C 63 67 dX9_comesAhead_63 (by decide) ?_
        exact ret 67 _ _ _ _ _ dX9_comesAhead_67 (by first | rfl | exact bI_n | decide) (⟨(by first | (exfalso; omega) | exact bI_1 (by unfold fAhead; rw [if_neg (fun z => by first | exact hk45 z.1 | exact z.2 hiff)]; exact Int32.not_le.mp h59) | exact bI_0 (by unfold fAhead; rw [if_neg (fun z => by first | exact hk45 z.1 | exact z.2 hiff)]; exact Int32.not_lt.mpr h59)), rfl, rfl, rfl⟩)
    · have hk45 : k = 4 ∨ k = 5 := by omega
      refine z_aload_n C 22 0 1 dX9_comesAhead_22 rfl rfl ?_
      refine z_iload_n C 23 1 2 dX9_comesAhead_23 rfl rfl ?_
      refine z_cVi0 C 24 dX9_comesAhead_24 cv_X9_228 (c_X9_isPrecious hR (by first | assumption | omega)) rfl ⟨by decide, rfl⟩ (by first | assumption | exact Nat.zero_lt_one | omega) rfl rfl (Nat.le_of_ble_eq_true rfl) ⟨by decide, by decide⟩ ⟨rfl, rfl⟩ ⟨by decide, by decide⟩ ?_
      intro r24 S24 L24 R24 p24
      obtain ⟨rfl, rfl, rfl, rfl⟩ := p24
      refine z_aload_n C 27 0 1 dX9_comesAhead_27 rfl rfl ?_
      refine z_iload_n C 28 2 3 dX9_comesAhead_28 rfl rfl ?_
      refine z_cVi0 C 29 dX9_comesAhead_29 cv_X9_228 (c_X9_isPrecious hR (by first | assumption | omega)) rfl ⟨by decide, rfl⟩ (by first | assumption | exact Nat.zero_lt_one | omega) rfl rfl (Nat.le_of_ble_eq_true rfl) ⟨by decide, by decide⟩ ⟨rfl, rfl⟩ ⟨by decide, by decide⟩ ?_
      intro r29 S29 L29 R29 p29
      obtain ⟨rfl, rfl, rfl, rfl⟩ := p29
      first | with_reducible refine z_icmp_eqN C 32 49 dX9_comesAhead_32 (by decide) (by omega) (by omega) (fun h32 => ?_) (fun h32 => ?_) | refine z_icmp_eq C 32 49 dX9_comesAhead_32 (by decide) (fun h32 => ?_) (fun h32 => ?_)
      · have hiff := bI_inj h32
        refine z_aload_n C 49 0 1 dX9_comesAhead_49 rfl rfl ?_
        refine z_iload_n C 50 1 2 dX9_comesAhead_50 rfl rfl ?_
        refine z_cVi0 C 51 dX9_comesAhead_51 cv_X9_231 (c_X9_rankOf hR hn hn10 hI (by first | assumption | omega)) rfl ⟨by decide, rfl⟩ (by first | assumption | exact Nat.zero_lt_one | omega) rfl rfl (Nat.le_of_ble_eq_true rfl) ⟨by decide, by decide⟩ ⟨rfl, rfl⟩ ⟨by decide, by decide⟩ ?_
        intro r51 S51 L51 R51 p51
        obtain ⟨rfl, rfl, rfl, rfl⟩ := p51
        refine z_aload_n C 54 0 1 dX9_comesAhead_54 rfl rfl ?_
        refine z_iload_n C 55 2 3 dX9_comesAhead_55 rfl rfl ?_
        refine z_cVi0 C 56 dX9_comesAhead_56 cv_X9_231 (c_X9_rankOf hR hn hn10 hI (by first | assumption | omega)) rfl ⟨by decide, rfl⟩ (by first | assumption | exact Nat.zero_lt_one | omega) rfl rfl (Nat.le_of_ble_eq_true rfl) ⟨by decide, by decide⟩ ⟨rfl, rfl⟩ ⟨by decide, by decide⟩ ?_
        intro r56 S56 L56 R56 p56
        obtain ⟨rfl, rfl, rfl, rfl⟩ := p56
        first | with_reducible refine z_icmp_leN C 59 66 dX9_comesAhead_59 (by decide) (by omega) (by omega) (fun h59 => ?_) (fun h59 => ?_) | refine z_icmp_le C 59 66 dX9_comesAhead_59 (by decide) (fun h59 => ?_) (fun h59 => ?_)
        · refine z_iconst (v := nI 0) C 66 dX9_comesAhead_66 (by decide) ?_
          exact ret 67 _ _ _ _ _ dX9_comesAhead_67 (by first | rfl | exact bI_n | decide) (⟨(by first | (exfalso; omega) | exact bI_1 (by unfold fAhead; rw [if_neg (fun z => by first | exact hk45 z.1 | exact z.2 hiff)]; exact Int32.not_le.mp h59) | exact bI_0 (by unfold fAhead; rw [if_neg (fun z => by first | exact hk45 z.1 | exact z.2 hiff)]; exact Int32.not_lt.mpr h59)), rfl, rfl, rfl⟩)
        · refine z_iconst (v := nI 1) C 62 dX9_comesAhead_62 (by decide) ?_
          refine z_goto C 63 67 dX9_comesAhead_63 (by decide) ?_
          exact ret 67 _ _ _ _ _ dX9_comesAhead_67 (by first | rfl | exact bI_n | decide) (⟨(by first | (exfalso; omega) | exact bI_1 (by unfold fAhead; rw [if_neg (fun z => by first | exact hk45 z.1 | exact z.2 hiff)]; exact Int32.not_le.mp h59) | exact bI_0 (by unfold fAhead; rw [if_neg (fun z => by first | exact hk45 z.1 | exact z.2 hiff)]; exact Int32.not_lt.mpr h59)), rfl, rfl, rfl⟩)
      · have hiff : ¬ (fPrec (S 44 0) p ↔ fPrec (S 44 0) q) := fun z => h32 (bI_c z)
        refine z_aload_n C 35 0 1 dX9_comesAhead_35 rfl rfl ?_
        refine z_iload_n C 36 1 2 dX9_comesAhead_36 rfl rfl ?_
        refine z_cVi0 C 37 dX9_comesAhead_37 cv_X9_228 (c_X9_isPrecious hR (by first | assumption | omega)) rfl ⟨by decide, rfl⟩ (by first | assumption | exact Nat.zero_lt_one | omega) rfl rfl (Nat.le_of_ble_eq_true rfl) ⟨by decide, by decide⟩ ⟨rfl, rfl⟩ ⟨by decide, by decide⟩ ?_
        intro r37 S37 L37 R37 p37
        obtain ⟨rfl, rfl, rfl, rfl⟩ := p37
        first | with_reducible refine z_if_neB C 40 47 dX9_comesAhead_40 (by decide) (fun h40 => ?_) (fun h40 => ?_) | with_reducible refine z_if_neN C 40 47 dX9_comesAhead_40 (by decide) (by omega) (fun h40 => ?_) (fun h40 => ?_) | refine z_if_ne C 40 47 dX9_comesAhead_40 (by decide) (fun h40 => ?_) (fun h40 => ?_)
        · refine z_iconst (v := nI 0) C 47 dX9_comesAhead_47 (by decide) ?_
          exact ret 48 _ _ _ _ _ dX9_comesAhead_48 (by first | rfl | exact bI_n | decide) (⟨(by first | (exfalso; omega) | exact bI_1 (by unfold fAhead; rw [if_pos ⟨hk45, hiff⟩]; assumption) | exact bI_0 (by unfold fAhead; rw [if_pos ⟨hk45, hiff⟩]; exact not_not_intro (by assumption))), rfl, rfl, rfl⟩)
        · refine z_iconst (v := nI 1) C 43 dX9_comesAhead_43 (by decide) ?_
          refine z_goto C 44 48 dX9_comesAhead_44 (by decide) ?_
          exact ret 48 _ _ _ _ _ dX9_comesAhead_48 (by first | rfl | exact bI_n | decide) (⟨(by first | (exfalso; omega) | exact bI_1 (by unfold fAhead; rw [if_pos ⟨hk45, hiff⟩]; assumption) | exact bI_0 (by unfold fAhead; rw [if_pos ⟨hk45, hiff⟩]; exact not_not_intro (by assumption))), rfl, rfl, rfl⟩)
  · refine z_iload_n C 5 3 3 dX9_comesAhead_5 rfl rfl ?_
    refine z_iconst (v := nI 5) C 6 dX9_comesAhead_6 (by decide) ?_
    first | with_reducible refine z_icmp_neN C 7 14 dX9_comesAhead_7 (by decide) (by omega) (by omega) (fun h7 => ?_) (fun h7 => ?_) | refine z_icmp_ne C 7 14 dX9_comesAhead_7 (by decide) (fun h7 => ?_) (fun h7 => ?_)
    · refine z_iconst (v := nI 0) C 14 dX9_comesAhead_14 (by decide) ?_
      refine z_istore C 15 4 [(4, _), (0, _), (1, _), (2, _), (3, _)] dX9_comesAhead_15 (by decide) rfl ?_
      refine z_iload C 17 4 0 dX9_comesAhead_17 rfl ?_
      first | with_reducible refine z_if_eqB C 19 49 dX9_comesAhead_19 (by decide) (fun h19 => ?_) (fun h19 => ?_) | with_reducible refine z_if_eqN C 19 49 dX9_comesAhead_19 (by decide) (by omega) (fun h19 => ?_) (fun h19 => ?_) | refine z_if_eq C 19 49 dX9_comesAhead_19 (by decide) (fun h19 => ?_) (fun h19 => ?_)
      · have hk45 : ¬ (k = 4 ∨ k = 5) := by omega
        refine z_aload_n C 49 0 1 dX9_comesAhead_49 rfl rfl ?_
        refine z_iload_n C 50 1 2 dX9_comesAhead_50 rfl rfl ?_
        refine z_cVi0 C 51 dX9_comesAhead_51 cv_X9_231 (c_X9_rankOf hR hn hn10 hI (by first | assumption | omega)) rfl ⟨by decide, rfl⟩ (by first | assumption | exact Nat.zero_lt_one | omega) rfl rfl (Nat.le_of_ble_eq_true rfl) ⟨by decide, by decide⟩ ⟨rfl, rfl⟩ ⟨by decide, by decide⟩ ?_
        intro r51 S51 L51 R51 p51
        obtain ⟨rfl, rfl, rfl, rfl⟩ := p51
        refine z_aload_n C 54 0 1 dX9_comesAhead_54 rfl rfl ?_
        refine z_iload_n C 55 2 3 dX9_comesAhead_55 rfl rfl ?_
        refine z_cVi0 C 56 dX9_comesAhead_56 cv_X9_231 (c_X9_rankOf hR hn hn10 hI (by first | assumption | omega)) rfl ⟨by decide, rfl⟩ (by first | assumption | exact Nat.zero_lt_one | omega) rfl rfl (Nat.le_of_ble_eq_true rfl) ⟨by decide, by decide⟩ ⟨rfl, rfl⟩ ⟨by decide, by decide⟩ ?_
        intro r56 S56 L56 R56 p56
        obtain ⟨rfl, rfl, rfl, rfl⟩ := p56
        first | with_reducible refine z_icmp_leN C 59 66 dX9_comesAhead_59 (by decide) (by omega) (by omega) (fun h59 => ?_) (fun h59 => ?_) | refine z_icmp_le C 59 66 dX9_comesAhead_59 (by decide) (fun h59 => ?_) (fun h59 => ?_)
        · refine z_iconst (v := nI 0) C 66 dX9_comesAhead_66 (by decide) ?_
          exact ret 67 _ _ _ _ _ dX9_comesAhead_67 (by first | rfl | exact bI_n | decide) (⟨(by first | (exfalso; omega) | exact bI_1 (by unfold fAhead; rw [if_neg (fun z => by first | exact hk45 z.1 | exact z.2 hiff)]; exact Int32.not_le.mp h59) | exact bI_0 (by unfold fAhead; rw [if_neg (fun z => by first | exact hk45 z.1 | exact z.2 hiff)]; exact Int32.not_lt.mpr h59)), rfl, rfl, rfl⟩)
        · refine z_iconst (v := nI 1) C 62 dX9_comesAhead_62 (by decide) ?_
          refine z_goto C 63 67 dX9_comesAhead_63 (by decide) ?_
          exact ret 67 _ _ _ _ _ dX9_comesAhead_67 (by first | rfl | exact bI_n | decide) (⟨(by first | (exfalso; omega) | exact bI_1 (by unfold fAhead; rw [if_neg (fun z => by first | exact hk45 z.1 | exact z.2 hiff)]; exact Int32.not_le.mp h59) | exact bI_0 (by unfold fAhead; rw [if_neg (fun z => by first | exact hk45 z.1 | exact z.2 hiff)]; exact Int32.not_lt.mpr h59)), rfl, rfl, rfl⟩)
      · have hk45 : k = 4 ∨ k = 5 := by omega
        refine z_aload_n C 22 0 1 dX9_comesAhead_22 rfl rfl ?_
        refine z_iload_n C 23 1 2 dX9_comesAhead_23 rfl rfl ?_
        refine z_cVi0 C 24 dX9_comesAhead_24 cv_X9_228 (c_X9_isPrecious hR (by first | assumption | omega)) rfl ⟨by decide, rfl⟩ (by first | assumption | exact Nat.zero_lt_one | omega) rfl rfl (Nat.le_of_ble_eq_true rfl) ⟨by decide, by decide⟩ ⟨rfl, rfl⟩ ⟨by decide, by decide⟩ ?_
        intro r24 S24 L24 R24 p24
        obtain ⟨rfl, rfl, rfl, rfl⟩ := p24
        refine z_aload_n C 27 0 1 dX9_comesAhead_27 rfl rfl ?_
        refine z_iload_n C 28 2 3 dX9_comesAhead_28 rfl rfl ?_
        refine z_cVi0 C 29 dX9_comesAhead_29 cv_X9_228 (c_X9_isPrecious hR (by first | assumption | omega)) rfl ⟨by decide, rfl⟩ (by first | assumption | exact Nat.zero_lt_one | omega) rfl rfl (Nat.le_of_ble_eq_true rfl) ⟨by decide, by decide⟩ ⟨rfl, rfl⟩ ⟨by decide, by decide⟩ ?_
        intro r29 S29 L29 R29 p29
        obtain ⟨rfl, rfl, rfl, rfl⟩ := p29
        first | with_reducible refine z_icmp_eqN C 32 49 dX9_comesAhead_32 (by decide) (by omega) (by omega) (fun h32 => ?_) (fun h32 => ?_) | refine z_icmp_eq C 32 49 dX9_comesAhead_32 (by decide) (fun h32 => ?_) (fun h32 => ?_)
        · have hiff := bI_inj h32
          refine z_aload_n C 49 0 1 dX9_comesAhead_49 rfl rfl ?_
          refine z_iload_n C 50 1 2 dX9_comesAhead_50 rfl rfl ?_
          refine z_cVi0 C 51 dX9_comesAhead_51 cv_X9_231 (c_X9_rankOf hR hn hn10 hI (by first | assumption | omega)) rfl ⟨by decide, rfl⟩ (by first | assumption | exact Nat.zero_lt_one | omega) rfl rfl (Nat.le_of_ble_eq_true rfl) ⟨by decide, by decide⟩ ⟨rfl, rfl⟩ ⟨by decide, by decide⟩ ?_
          intro r51 S51 L51 R51 p51
          obtain ⟨rfl, rfl, rfl, rfl⟩ := p51
          refine z_aload_n C 54 0 1 dX9_comesAhead_54 rfl rfl ?_
          refine z_iload_n C 55 2 3 dX9_comesAhead_55 rfl rfl ?_
          refine z_cVi0 C 56 dX9_comesAhead_56 cv_X9_231 (c_X9_rankOf hR hn hn10 hI (by first | assumption | omega)) rfl ⟨by decide, rfl⟩ (by first | assumption | exact Nat.zero_lt_one | omega) rfl rfl (Nat.le_of_ble_eq_true rfl) ⟨by decide, by decide⟩ ⟨rfl, rfl⟩ ⟨by decide, by decide⟩ ?_
          intro r56 S56 L56 R56 p56
          obtain ⟨rfl, rfl, rfl, rfl⟩ := p56
          first | with_reducible refine z_icmp_leN C 59 66 dX9_comesAhead_59 (by decide) (by omega) (by omega) (fun h59 => ?_) (fun h59 => ?_) | refine z_icmp_le C 59 66 dX9_comesAhead_59 (by decide) (fun h59 => ?_) (fun h59 => ?_)
          · refine z_iconst (v := nI 0) C 66 dX9_comesAhead_66 (by decide) ?_
            exact ret 67 _ _ _ _ _ dX9_comesAhead_67 (by first | rfl | exact bI_n | decide) (⟨(by first | (exfalso; omega) | exact bI_1 (by unfold fAhead; rw [if_neg (fun z => by first | exact hk45 z.1 | exact z.2 hiff)]; exact Int32.not_le.mp h59) | exact bI_0 (by unfold fAhead; rw [if_neg (fun z => by first | exact hk45 z.1 | exact z.2 hiff)]; exact Int32.not_lt.mpr h59)), rfl, rfl, rfl⟩)
          · refine z_iconst (v := nI 1) C 62 dX9_comesAhead_62 (by decide) ?_
            refine z_goto C 63 67 dX9_comesAhead_63 (by decide) ?_
            exact ret 67 _ _ _ _ _ dX9_comesAhead_67 (by first | rfl | exact bI_n | decide) (⟨(by first | (exfalso; omega) | exact bI_1 (by unfold fAhead; rw [if_neg (fun z => by first | exact hk45 z.1 | exact z.2 hiff)]; exact Int32.not_le.mp h59) | exact bI_0 (by unfold fAhead; rw [if_neg (fun z => by first | exact hk45 z.1 | exact z.2 hiff)]; exact Int32.not_lt.mpr h59)), rfl, rfl, rfl⟩)
        · have hiff : ¬ (fPrec (S 44 0) p ↔ fPrec (S 44 0) q) := fun z => h32 (bI_c z)
          refine z_aload_n C 35 0 1 dX9_comesAhead_35 rfl rfl ?_
          refine z_iload_n C 36 1 2 dX9_comesAhead_36 rfl rfl ?_
          refine z_cVi0 C 37 dX9_comesAhead_37 cv_X9_228 (c_X9_isPrecious hR (by first | assumption | omega)) rfl ⟨by decide, rfl⟩ (by first | assumption | exact Nat.zero_lt_one | omega) rfl rfl (Nat.le_of_ble_eq_true rfl) ⟨by decide, by decide⟩ ⟨rfl, rfl⟩ ⟨by decide, by decide⟩ ?_
          intro r37 S37 L37 R37 p37
          obtain ⟨rfl, rfl, rfl, rfl⟩ := p37
          first | with_reducible refine z_if_neB C 40 47 dX9_comesAhead_40 (by decide) (fun h40 => ?_) (fun h40 => ?_) | with_reducible refine z_if_neN C 40 47 dX9_comesAhead_40 (by decide) (by omega) (fun h40 => ?_) (fun h40 => ?_) | refine z_if_ne C 40 47 dX9_comesAhead_40 (by decide) (fun h40 => ?_) (fun h40 => ?_)
          · refine z_iconst (v := nI 0) C 47 dX9_comesAhead_47 (by decide) ?_
            exact ret 48 _ _ _ _ _ dX9_comesAhead_48 (by first | rfl | exact bI_n | decide) (⟨(by first | (exfalso; omega) | exact bI_1 (by unfold fAhead; rw [if_pos ⟨hk45, hiff⟩]; assumption) | exact bI_0 (by unfold fAhead; rw [if_pos ⟨hk45, hiff⟩]; exact not_not_intro (by assumption))), rfl, rfl, rfl⟩)
          · refine z_iconst (v := nI 1) C 43 dX9_comesAhead_43 (by decide) ?_
            refine z_goto C 44 48 dX9_comesAhead_44 (by decide) ?_
            exact ret 48 _ _ _ _ _ dX9_comesAhead_48 (by first | rfl | exact bI_n | decide) (⟨(by first | (exfalso; omega) | exact bI_1 (by unfold fAhead; rw [if_pos ⟨hk45, hiff⟩]; assumption) | exact bI_0 (by unfold fAhead; rw [if_pos ⟨hk45, hiff⟩]; exact not_not_intro (by assumption))), rfl, rfl, rfl⟩)
    · refine z_iconst (v := nI 1) C 10 dX9_comesAhead_10 (by decide) ?_
      refine z_goto C 11 15 dX9_comesAhead_11 (by decide) ?_
      refine z_istore C 15 4 [(4, _), (0, _), (1, _), (2, _), (3, _)] dX9_comesAhead_15 (by decide) rfl ?_
      refine z_iload C 17 4 0 dX9_comesAhead_17 rfl ?_
      first | with_reducible refine z_if_eqB C 19 49 dX9_comesAhead_19 (by decide) (fun h19 => ?_) (fun h19 => ?_) | with_reducible refine z_if_eqN C 19 49 dX9_comesAhead_19 (by decide) (by omega) (fun h19 => ?_) (fun h19 => ?_) | refine z_if_eq C 19 49 dX9_comesAhead_19 (by decide) (fun h19 => ?_) (fun h19 => ?_)
      · have hk45 : ¬ (k = 4 ∨ k = 5) := by omega
        refine z_aload_n C 49 0 1 dX9_comesAhead_49 rfl rfl ?_
        refine z_iload_n C 50 1 2 dX9_comesAhead_50 rfl rfl ?_
        refine z_cVi0 C 51 dX9_comesAhead_51 cv_X9_231 (c_X9_rankOf hR hn hn10 hI (by first | assumption | omega)) rfl ⟨by decide, rfl⟩ (by first | assumption | exact Nat.zero_lt_one | omega) rfl rfl (Nat.le_of_ble_eq_true rfl) ⟨by decide, by decide⟩ ⟨rfl, rfl⟩ ⟨by decide, by decide⟩ ?_
        intro r51 S51 L51 R51 p51
        obtain ⟨rfl, rfl, rfl, rfl⟩ := p51
        refine z_aload_n C 54 0 1 dX9_comesAhead_54 rfl rfl ?_
        refine z_iload_n C 55 2 3 dX9_comesAhead_55 rfl rfl ?_
        refine z_cVi0 C 56 dX9_comesAhead_56 cv_X9_231 (c_X9_rankOf hR hn hn10 hI (by first | assumption | omega)) rfl ⟨by decide, rfl⟩ (by first | assumption | exact Nat.zero_lt_one | omega) rfl rfl (Nat.le_of_ble_eq_true rfl) ⟨by decide, by decide⟩ ⟨rfl, rfl⟩ ⟨by decide, by decide⟩ ?_
        intro r56 S56 L56 R56 p56
        obtain ⟨rfl, rfl, rfl, rfl⟩ := p56
        first | with_reducible refine z_icmp_leN C 59 66 dX9_comesAhead_59 (by decide) (by omega) (by omega) (fun h59 => ?_) (fun h59 => ?_) | refine z_icmp_le C 59 66 dX9_comesAhead_59 (by decide) (fun h59 => ?_) (fun h59 => ?_)
        · refine z_iconst (v := nI 0) C 66 dX9_comesAhead_66 (by decide) ?_
          exact ret 67 _ _ _ _ _ dX9_comesAhead_67 (by first | rfl | exact bI_n | decide) (⟨(by first | (exfalso; omega) | exact bI_1 (by unfold fAhead; rw [if_neg (fun z => by first | exact hk45 z.1 | exact z.2 hiff)]; exact Int32.not_le.mp h59) | exact bI_0 (by unfold fAhead; rw [if_neg (fun z => by first | exact hk45 z.1 | exact z.2 hiff)]; exact Int32.not_lt.mpr h59)), rfl, rfl, rfl⟩)
        · refine z_iconst (v := nI 1) C 62 dX9_comesAhead_62 (by decide) ?_
          refine z_goto C 63 67 dX9_comesAhead_63 (by decide) ?_
          exact ret 67 _ _ _ _ _ dX9_comesAhead_67 (by first | rfl | exact bI_n | decide) (⟨(by first | (exfalso; omega) | exact bI_1 (by unfold fAhead; rw [if_neg (fun z => by first | exact hk45 z.1 | exact z.2 hiff)]; exact Int32.not_le.mp h59) | exact bI_0 (by unfold fAhead; rw [if_neg (fun z => by first | exact hk45 z.1 | exact z.2 hiff)]; exact Int32.not_lt.mpr h59)), rfl, rfl, rfl⟩)
      · have hk45 : k = 4 ∨ k = 5 := by omega
        refine z_aload_n C 22 0 1 dX9_comesAhead_22 rfl rfl ?_
        refine z_iload_n C 23 1 2 dX9_comesAhead_23 rfl rfl ?_
        refine z_cVi0 C 24 dX9_comesAhead_24 cv_X9_228 (c_X9_isPrecious hR (by first | assumption | omega)) rfl ⟨by decide, rfl⟩ (by first | assumption | exact Nat.zero_lt_one | omega) rfl rfl (Nat.le_of_ble_eq_true rfl) ⟨by decide, by decide⟩ ⟨rfl, rfl⟩ ⟨by decide, by decide⟩ ?_
        intro r24 S24 L24 R24 p24
        obtain ⟨rfl, rfl, rfl, rfl⟩ := p24
        refine z_aload_n C 27 0 1 dX9_comesAhead_27 rfl rfl ?_
        refine z_iload_n C 28 2 3 dX9_comesAhead_28 rfl rfl ?_
        refine z_cVi0 C 29 dX9_comesAhead_29 cv_X9_228 (c_X9_isPrecious hR (by first | assumption | omega)) rfl ⟨by decide, rfl⟩ (by first | assumption | exact Nat.zero_lt_one | omega) rfl rfl (Nat.le_of_ble_eq_true rfl) ⟨by decide, by decide⟩ ⟨rfl, rfl⟩ ⟨by decide, by decide⟩ ?_
        intro r29 S29 L29 R29 p29
        obtain ⟨rfl, rfl, rfl, rfl⟩ := p29
        first | with_reducible refine z_icmp_eqN C 32 49 dX9_comesAhead_32 (by decide) (by omega) (by omega) (fun h32 => ?_) (fun h32 => ?_) | refine z_icmp_eq C 32 49 dX9_comesAhead_32 (by decide) (fun h32 => ?_) (fun h32 => ?_)
        · have hiff := bI_inj h32
          refine z_aload_n C 49 0 1 dX9_comesAhead_49 rfl rfl ?_
          refine z_iload_n C 50 1 2 dX9_comesAhead_50 rfl rfl ?_
          refine z_cVi0 C 51 dX9_comesAhead_51 cv_X9_231 (c_X9_rankOf hR hn hn10 hI (by first | assumption | omega)) rfl ⟨by decide, rfl⟩ (by first | assumption | exact Nat.zero_lt_one | omega) rfl rfl (Nat.le_of_ble_eq_true rfl) ⟨by decide, by decide⟩ ⟨rfl, rfl⟩ ⟨by decide, by decide⟩ ?_
          intro r51 S51 L51 R51 p51
          obtain ⟨rfl, rfl, rfl, rfl⟩ := p51
          refine z_aload_n C 54 0 1 dX9_comesAhead_54 rfl rfl ?_
          refine z_iload_n C 55 2 3 dX9_comesAhead_55 rfl rfl ?_
          refine z_cVi0 C 56 dX9_comesAhead_56 cv_X9_231 (c_X9_rankOf hR hn hn10 hI (by first | assumption | omega)) rfl ⟨by decide, rfl⟩ (by first | assumption | exact Nat.zero_lt_one | omega) rfl rfl (Nat.le_of_ble_eq_true rfl) ⟨by decide, by decide⟩ ⟨rfl, rfl⟩ ⟨by decide, by decide⟩ ?_
          intro r56 S56 L56 R56 p56
          obtain ⟨rfl, rfl, rfl, rfl⟩ := p56
          first | with_reducible refine z_icmp_leN C 59 66 dX9_comesAhead_59 (by decide) (by omega) (by omega) (fun h59 => ?_) (fun h59 => ?_) | refine z_icmp_le C 59 66 dX9_comesAhead_59 (by decide) (fun h59 => ?_) (fun h59 => ?_)
          · refine z_iconst (v := nI 0) C 66 dX9_comesAhead_66 (by decide) ?_
            exact ret 67 _ _ _ _ _ dX9_comesAhead_67 (by first | rfl | exact bI_n | decide) (⟨(by first | (exfalso; omega) | exact bI_1 (by unfold fAhead; rw [if_neg (fun z => by first | exact hk45 z.1 | exact z.2 hiff)]; exact Int32.not_le.mp h59) | exact bI_0 (by unfold fAhead; rw [if_neg (fun z => by first | exact hk45 z.1 | exact z.2 hiff)]; exact Int32.not_lt.mpr h59)), rfl, rfl, rfl⟩)
          · refine z_iconst (v := nI 1) C 62 dX9_comesAhead_62 (by decide) ?_
            refine z_goto C 63 67 dX9_comesAhead_63 (by decide) ?_
            exact ret 67 _ _ _ _ _ dX9_comesAhead_67 (by first | rfl | exact bI_n | decide) (⟨(by first | (exfalso; omega) | exact bI_1 (by unfold fAhead; rw [if_neg (fun z => by first | exact hk45 z.1 | exact z.2 hiff)]; exact Int32.not_le.mp h59) | exact bI_0 (by unfold fAhead; rw [if_neg (fun z => by first | exact hk45 z.1 | exact z.2 hiff)]; exact Int32.not_lt.mpr h59)), rfl, rfl, rfl⟩)
        · have hiff : ¬ (fPrec (S 44 0) p ↔ fPrec (S 44 0) q) := fun z => h32 (bI_c z)
          refine z_aload_n C 35 0 1 dX9_comesAhead_35 rfl rfl ?_
          refine z_iload_n C 36 1 2 dX9_comesAhead_36 rfl rfl ?_
          refine z_cVi0 C 37 dX9_comesAhead_37 cv_X9_228 (c_X9_isPrecious hR (by first | assumption | omega)) rfl ⟨by decide, rfl⟩ (by first | assumption | exact Nat.zero_lt_one | omega) rfl rfl (Nat.le_of_ble_eq_true rfl) ⟨by decide, by decide⟩ ⟨rfl, rfl⟩ ⟨by decide, by decide⟩ ?_
          intro r37 S37 L37 R37 p37
          obtain ⟨rfl, rfl, rfl, rfl⟩ := p37
          first | with_reducible refine z_if_neB C 40 47 dX9_comesAhead_40 (by decide) (fun h40 => ?_) (fun h40 => ?_) | with_reducible refine z_if_neN C 40 47 dX9_comesAhead_40 (by decide) (by omega) (fun h40 => ?_) (fun h40 => ?_) | refine z_if_ne C 40 47 dX9_comesAhead_40 (by decide) (fun h40 => ?_) (fun h40 => ?_)
          · refine z_iconst (v := nI 0) C 47 dX9_comesAhead_47 (by decide) ?_
            exact ret 48 _ _ _ _ _ dX9_comesAhead_48 (by first | rfl | exact bI_n | decide) (⟨(by first | (exfalso; omega) | exact bI_1 (by unfold fAhead; rw [if_pos ⟨hk45, hiff⟩]; assumption) | exact bI_0 (by unfold fAhead; rw [if_pos ⟨hk45, hiff⟩]; exact not_not_intro (by assumption))), rfl, rfl, rfl⟩)
          · refine z_iconst (v := nI 1) C 43 dX9_comesAhead_43 (by decide) ?_
            refine z_goto C 44 48 dX9_comesAhead_44 (by decide) ?_
            exact ret 48 _ _ _ _ _ dX9_comesAhead_48 (by first | rfl | exact bI_n | decide) (⟨(by first | (exfalso; omega) | exact bI_1 (by unfold fAhead; rw [if_pos ⟨hk45, hiff⟩]; assumption) | exact bI_0 (by unfold fAhead; rw [if_pos ⟨hk45, hiff⟩]; exact not_not_intro (by assumption))), rfl, rfl, rfl⟩)
