/-! A PHONE v OF THE CLASS holds the row N -/
def AH (S : mS) (v : Nat) (N : NN) (n : Nat) : Prop := S 17 v 0 = nI n ∧ S 17 v 1 = N 3 ∧ (∀ p, p < 10 → S 19 v p = fo N p 10) ∧ (∀ p t g, p < 10 → fo N p 10 = nI g → t < g → g ≤ 4 → S 20 v (p * 4 + t) = fo N p (11 + t)) ∧ (∀ a b, a < 10 → b < 10 → S 21 v (a * 10 + b) = fFol N a b)
/-- the minute at which the latest showing ended -/
def AU (S : mS) (v : Nat) (N : NN) : Prop := ∀ p, p < 10 → (fo N p 9 = nI 1 ∧ S 18 v p = fo N p 8 ∧ ∃ s, s < 2 ^ 31 ∧ fo N p 8 = nI s) ∨ (S 18 v p = -1 ∧ (fo N p 0 = nI 1 ∨ (fo N p 0 = nI 0 ∧ fo N p 9 = nI 0)))
def AJ (S : mS) (v : Nat) (N : NN) : Prop := ∃ x k, x < 24 ∧ k ≤ 24 ∧ S 22 v 1 = nI x ∧ S 22 v 0 = nI k ∧ N 5 = nI k ∧ (∀ e t, e < k → t < 3 → S 23 v ((x + 23 - e) % 24 * 3 + t) = N (306 + 3 * e + t)) ∧ ∀ w, w < 10 → S 24 v w = N (378 + w)
def AP (S : mS) (v : Nat) (N : NN) : Prop := S 25 v 5 = N 1 ∧ S 25 v 6 = N 4 ∧ S 25 v 7 = N 2 ∧ ∀ p, p < 10 → S 26 v p = fo N p 3 ∧ S 27 v p = fo N p 4 ∧ (fo N p 4 = nI 0 ∨ S 28 v p = fo N p 5) ∧ S 29 v p = fo N p 15 ∧ ∀ t w, fo N p 15 = nI w → t < w → w ≤ 5 → S 30 v (p * 5 + t) = N (388 + 5 * p + t)
def AB (S : mS) (v : Nat) (N : NN) (n : Nat) : Prop := AR S v N ∧ AH S v N n ∧ AU S v N ∧ AJ S v N ∧ AP S v N
theorem AB.off {S S2 : mS} {v n : Nat} {N : NN} (h : AB S v N n) (e : ∀ k, 12 ≤ k → k ≤ 30 → S2 k v = S k v) : AB S2 v N n := by
  refine ⟨h.1.off (fun k a b => e k (by omega) (by omega)), ?_, ?_, ?_, ?_⟩
  · unfold AH
    rw [e 17 (by omega) (by omega), e 19 (by omega) (by omega), e 20 (by omega) (by omega), e 21 (by omega) (by omega)]
    exact h.2.1
  · unfold AU
    rw [e 18 (by omega) (by omega)]
    exact h.2.2.1
  · unfold AJ
    rw [e 22 (by omega) (by omega), e 23 (by omega) (by omega), e 24 (by omega) (by omega)]
    exact h.2.2.2.1
  · unfold AP
    rw [e 25 (by omega) (by omega), e 26 (by omega) (by omega), e 27 (by omega) (by omega), e 28 (by omega) (by omega), e 29 (by omega) (by omega), e 30 (by omega) (by omega)]
    exact h.2.2.2.2
/-- times and pages: what the class needs of a row beside rI and cI; B bounds the minutes -/
def pI (N : NN) (B : Nat) : Prop := (∃ t, t ≤ B ∧ N 1 = nI t ∧ (∀ p, p < 10 → fo N p 4 = nI 0 ∨ ∃ s, s ≤ t ∧ fo N p 5 = nI s) ∧ (∀ p, p < 10 → ∃ s, s ≤ t ∧ fo N p 8 = nI s)) ∧ (∀ p, p < 10 → fo N p 7 = fo N p 8) ∧ (∃ q, q < 3 ∧ N 4 = nI q)
theorem max_0 (x : Int32) : (if nI 0 < x then x else nI 0) = if x < 0 then nI 0 else x := by
  by_cases h : x < 0
  · rw [if_pos h, if_neg (show ¬ nI 0 < x from fun z => absurd (Int32.lt_trans h z) (Int32.lt_irrefl))]
  · rw [if_neg h]
    by_cases h2 : nI 0 < x
    · rw [if_pos h2]
    · rw [if_neg h2]
      exact Int32.le_antisymm (Int32.not_lt.mp h) (Int32.not_lt.mp h2)
def lkM (N : NN) (a : Nat) (b : Option Nat) : Int32 := match b with | none => nI 0 | some q => fFol N a q
theorem fLikF_t {N : NN} {a i : Nat} (h : lkM N a (fLikF N a i) < fFol N a i) : fLikF N a (i + 1) = some i := if_pos h
theorem fLikF_f {N : NN} {a i : Nat} (h : ¬ lkM N a (fLikF N a i) < fFol N a i) : fLikF N a (i + 1) = fLikF N a i := if_neg h
def hCopy (S : mS) (q v : Nat) : mS := fun k i j => if i = v ∧ ((18 ≤ k ∧ k ≤ 21) ∨ (k = 17 ∧ j < 2)) then S k q j else S k i j
theorem hCopy_end {S : mS} {q v : Nat} (h : q ≠ v) : ∀ k i j, mrg k j → mcp (mcp (mcp (mcp (up3 (up3 S 17 v 0 (S 17 q 0)) 17 v 1 ((up3 S 17 v 0 (S 17 q 0)) 17 q 1)) 18 q 0 18 v 0 10) 19 q 0 19 v 0 10) 20 q 0 20 v 0 40) 21 q 0 21 v 0 100 k i j = hCopy S q v k i j := by
  intro k i j hj
  simp only [mcp, hCopy, up3, Nat.zero_add, Nat.zero_le, true_and, Nat.sub_zero, h, false_and, and_false, if_false]
  by_cases h18 : k = 18
  · subst h18
    have hj : j < 10 := hj
    by_cases hi : i = v
    · subst hi; simp [hj]
    · simp [hi]
  by_cases h19 : k = 19
  · subst h19
    have hj : j < 10 := hj
    by_cases hi : i = v
    · subst hi; simp [hj]
    · simp [hi]
  by_cases h20 : k = 20
  · subst h20
    have hj : j < 40 := hj
    by_cases hi : i = v
    · subst hi; simp [hj]
    · simp [hi]
  by_cases h21 : k = 21
  · subst h21
    have hj : j < 100 := hj
    by_cases hi : i = v
    · subst hi; simp [hj]
    · simp [hi]
  by_cases h17 : k = 17
  · subst h17
    by_cases hi : i = v
    · subst hi
      rcases (show j = 0 ∨ j = 1 ∨ 2 ≤ j by omega) with rfl | rfl | h2
      · simp
      · simp
      · rw [if_neg (by omega), if_neg (by omega), if_neg (by omega), if_neg (by omega), if_neg (by omega), if_neg (by omega), if_neg (by omega)]
    · simp [hi]
  rw [if_neg (by omega), if_neg (by omega), if_neg (by omega), if_neg (by omega), if_neg (by omega), if_neg (by omega), if_neg (by omega)]

def rm_X1_habitOf : Room := { frames := 0, cells := 0, slots := 0, locals := 0 }
set_option maxHeartbeats 4000000 in
set_option maxRecDepth 100000 in
theorem c_X1_habitOf {l : Launch} {G : mG} {ad : mA} {S : mS} {L : mL} {R : mR} {N : NN} {n v p g : Nat} (hR : mlk R) (hv : v < 15) (hH : AH S v N n) (hp : p < 10) (hg : fo N p 10 = nI g) (hg4 : g ≤ 4) : Ki l yX1_habitOf cX1_habitOf 5 .int rm_X1_habitOf G ad mdm [.ref (ad 17 v), .int (nI p)] S L R (fun r_ S2 L2 R2 => r_ = fHabit N p ∧ S = S2 ∧ L = L2 ∧ R = R2) := by
  refine Ki.of RX1 (by decide) rfl (Nat.le_of_ble_eq_true rfl) ?_
  intro X hXl hXG C ret
  subst hXl; subst hXG
  change Z X 5 ad mdm S L R 0 0 0 [(0, _), (1, _)] []
  refine z_aload_n C 0 0 0 dX1_habitOf_0 rfl rfl ?_
  refine z_getr C 1 dX1_habitOf_1 gf_X1_15 rfl (by first | assumption | exact Nat.zero_lt_one | exact (show (15 : Nat) < 16 by decide) | exact Nat.lt_succ_of_lt (by assumption) | omega) (by first | exact hR _ _ _ _ rfl | exact hR2 _ _ _ _ rfl | assumption) ?_
  refine z_iload_n C 4 1 1 dX1_habitOf_4 rfl rfl ?_
  refine z_iald C 5 dX1_habitOf_5 (by first | rfl | assumption) (by first | assumption | exact Nat.zero_lt_one | exact (show (15 : Nat) < 16 by decide) | exact Nat.lt_succ_of_lt (by assumption) | omega) (by first | rfl | assumption) (by first | decide | omega) (by first | assumption | omega) ?_
  rw [hH.2.2.1 p hp, hg]
  refine z_istore_n C 6 2 [(2, _), (0, _), (1, _)] dX1_habitOf_6 rfl (by decide) rfl ?_
  refine z_iload_n C 7 2 0 dX1_habitOf_7 rfl rfl ?_
  refine z_iconst (v := nI 1) C 8 dX1_habitOf_8 (by decide) ?_
  first | with_reducible refine z_icmp_geN C 9 16 dX1_habitOf_9 (by decide) (by omega) (by omega) (fun h9 => ?_) (fun h9 => ?_) | refine z_icmp_ge C 9 16 dX1_habitOf_9 (by decide) (fun h9 => ?_) (fun h9 => ?_)
  · refine z_iconst (v := nI 0) C 16 dX1_habitOf_16 (by decide) ?_
    refine z_istore_n C 17 3 [(3, _), (2, _), (0, _), (1, _)] dX1_habitOf_17 rfl (by decide) rfl ?_
    refine z_iconst (v := nI 0) C 18 dX1_habitOf_18 (by decide) ?_
    refine z_istore C 19 4 [(4, _), (3, _), (2, _), (0, _), (1, _)] dX1_habitOf_19 (by decide) rfl ?_
    have loop_21 : ∀ (n_21 : Nat) (i : Nat) (a : Int32), i ≤ g → a = smI (fun k => fo N p (11 + k)) i → g - i < n_21 → Z X 5 ad mdm S L R 0 0 21 [(0, .ref (ad 17 v)), (1, .int (nI p)), (2, .int (nI g)), (3, .int a), (4, .int (nI i))] [] := by
      intro n_21
      induction n_21 with
      | zero => intro i a hi ha hm21; exact absurd hm21 (Nat.not_lt_zero _)
      | succ n_21 ih21 =>
        intro i a hi ha hm21
        refine z_iload C 21 4 4 dX1_habitOf_21 rfl ?_
        refine z_iload_n C 23 2 2 dX1_habitOf_23 rfl rfl ?_
        first | with_reducible refine z_icmp_geN C 24 53 dX1_habitOf_24 (by decide) (by omega) (by omega) (fun h24 => ?_) (fun h24 => ?_) | refine z_icmp_ge C 24 53 dX1_habitOf_24 (by decide) (fun h24 => ?_) (fun h24 => ?_)
        · refine z_iload_n C 53 3 3 dX1_habitOf_53 rfl rfl ?_
          refine z_iload_n C 54 2 2 dX1_habitOf_54 rfl rfl ?_
          first | with_reducible refine z_idivN C 55 dX1_habitOf_55 (by omega) (by omega) (by omega) ?_ | refine z_idiv C 55 dX1_habitOf_55 (by first | decide | assumption | exact nI_ne0 (by omega) (by omega)) ?_
          exact ret 56 _ _ _ _ _ dX1_habitOf_56 (by first | rfl | exact bI_n | decide) (⟨(by unfold fHabit; rw [hg, ha, show i = g by omega, if_neg (nI_ne0 (by omega) (by omega)), nI_clamp (by omega)]), rfl, rfl, rfl⟩)
        · refine z_iload C 27 4 4 dX1_habitOf_27 rfl ?_
          refine z_iconst (v := nI 4) C 29 dX1_habitOf_29 (by decide) ?_
          first | with_reducible refine z_icmp_geN C 30 53 dX1_habitOf_30 (by decide) (by omega) (by omega) (fun h30 => absurd h30 (by omega)) (fun h30 => ?_) | refine z_icmp_ge C 30 53 dX1_habitOf_30 (by decide) (fun h30 => absurd h30 (by omega)) (fun h30 => ?_)
          · refine z_iload_n C 33 3 3 dX1_habitOf_33 rfl rfl ?_
            refine z_aload_n C 34 0 0 dX1_habitOf_34 rfl rfl ?_
            refine z_getr C 35 dX1_habitOf_35 gf_X1_18 rfl (by first | assumption | exact Nat.zero_lt_one | exact (show (15 : Nat) < 16 by decide) | exact Nat.lt_succ_of_lt (by assumption) | omega) (by first | exact hR _ _ _ _ rfl | exact hR2 _ _ _ _ rfl | assumption) ?_
            refine z_iload_n C 38 1 1 dX1_habitOf_38 rfl rfl ?_
            refine z_iconst (v := nI 4) C 39 dX1_habitOf_39 (by decide) ?_
            first | with_reducible refine z_imulN C 40 dX1_habitOf_40 ?_ | refine z_imul C 40 dX1_habitOf_40 ?_
            refine z_iload C 41 4 4 dX1_habitOf_41 rfl ?_
            first | with_reducible refine z_iaddN C 43 dX1_habitOf_43 ?_ | refine z_iadd C 43 dX1_habitOf_43 ?_
            refine z_iald C 44 dX1_habitOf_44 (by first | rfl | assumption) (by first | assumption | exact Nat.zero_lt_one | exact (show (15 : Nat) < 16 by decide) | exact Nat.lt_succ_of_lt (by assumption) | omega) (by first | rfl | assumption) (by first | decide | omega) (by first | assumption | omega) ?_
            first | with_reducible refine z_iaddN C 45 dX1_habitOf_45 ?_ | refine z_iadd C 45 dX1_habitOf_45 ?_
            refine z_istore_n C 46 3 [(3, _), (0, _), (1, _), (2, _), (4, _)] dX1_habitOf_46 rfl (by decide) rfl ?_
            refine z_iinc C 47 4 4 [(4, _), (3, _), (0, _), (1, _), (2, _)] dX1_habitOf_47 rfl (by first | exact nI_1 _ | rfl) (by decide) rfl ?_
            refine z_goto C 50 21 dX1_habitOf_50 (by decide) ?_
            refine z_sub [(0, _), (1, _), (2, _), (3, _), (4, _)] [2, 3, 4, 1, 0] rfl ?_
            exact ih21 (i + 1) _ (by omega) (by rw [ha, hH.2.2.2.1 p i g hp hg (by omega) hg4]; rfl) (by omega)
    refine z_sub [(0, _), (1, _), (2, _), (3, _), (4, _)] [3, 4, 2, 1, 0] rfl ?_
    exact loop_21 (g + 1) 0 _ (Nat.zero_le _) rfl (by omega)
  · refine z_sipush (v := nI 600) C 12 dX1_habitOf_12 (by decide +kernel) ?_
    exact ret 15 _ _ _ _ _ dX1_habitOf_15 (by first | rfl | exact bI_n | decide) (⟨(by unfold fHabit; rw [hg, show g = 0 by omega]; rfl), rfl, rfl, rfl⟩)
def rm_X1_timesFollowed : Room := { frames := 0, cells := 0, slots := 0, locals := 0 }
set_option maxHeartbeats 4000000 in
set_option maxRecDepth 100000 in
theorem c_X1_timesFollowed {l : Launch} {G : mG} {ad : mA} {S : mS} {L : mL} {R : mR} {v a b : Nat} (hR : mlk R) (hv : v < 15) (ha : a < 10) (hb : b < 10) : Ki l yX1_timesFollowed cX1_timesFollowed 3 .int rm_X1_timesFollowed G ad mdm [.ref (ad 17 v), .int (nI a), .int (nI b)] S L R (fun r_ S2 L2 R2 => r_ = S 21 v (a * 10 + b) ∧ S = S2 ∧ L = L2 ∧ R = R2) := by
  refine Ki.of RX1 (by decide) rfl (Nat.le_of_ble_eq_true rfl) ?_
  intro X hXl hXG C ret
  subst hXl; subst hXG
  change Z X 3 ad mdm S L R 0 0 0 [(0, _), (1, _), (2, _)] []
  refine z_aload_n C 0 0 0 dX1_timesFollowed_0 rfl rfl ?_
  refine z_getr C 1 dX1_timesFollowed_1 gf_X1_21 rfl (by first | assumption | exact Nat.zero_lt_one | exact (show (15 : Nat) < 16 by decide) | exact Nat.lt_succ_of_lt (by assumption) | omega) (by first | exact hR _ _ _ _ rfl | exact hR2 _ _ _ _ rfl | assumption) ?_
  refine z_iload_n C 4 1 1 dX1_timesFollowed_4 rfl rfl ?_
  refine z_bipush (v := nI 10) C 5 dX1_timesFollowed_5 (by decide +kernel) ?_
  first | with_reducible refine z_imulN C 7 dX1_timesFollowed_7 ?_ | refine z_imul C 7 dX1_timesFollowed_7 ?_
  refine z_iload_n C 8 2 2 dX1_timesFollowed_8 rfl rfl ?_
  first | with_reducible refine z_iaddN C 9 dX1_timesFollowed_9 ?_ | refine z_iadd C 9 dX1_timesFollowed_9 ?_
  refine z_iald C 10 dX1_timesFollowed_10 (by first | rfl | assumption) (by first | assumption | exact Nat.zero_lt_one | exact (show (15 : Nat) < 16 by decide) | exact Nat.lt_succ_of_lt (by assumption) | omega) (by first | rfl | assumption) (by first | decide | omega) (by first | assumption | omega) ?_
  exact ret 11 _ _ _ _ _ dX1_timesFollowed_11 (by first | rfl | exact bI_n | decide) (⟨by first | rfl | assumption | (simp; done), rfl, rfl, rfl⟩)
def rm_X1_oftenFollowsLast : Room := { frames := 0, cells := 0, slots := 0, locals := 0 }
set_option maxHeartbeats 4000000 in
set_option maxRecDepth 100000 in
theorem c_X1_oftenFollowsLast {l : Launch} {G : mG} {ad : mA} {S : mS} {L : mL} {R : mR} {N : NN} {n v p : Nat} (hR : mlk R) (hv : v < 15) (hH : AH S v N n) (hn10 : n ≤ 10) (hI : rI N n) (hp : p < 10) : Ki l yX1_oftenFollowsLast cX1_oftenFollowsLast 5 .boolean rm_X1_oftenFollowsLast G ad mdm [.ref (ad 17 v), .int (nI p)] S L R (fun r_ S2 L2 R2 => r_ = bI (fExp N n p) ∧ S = S2 ∧ L = L2 ∧ R = R2) := by
  refine Ki.of RX1 (by decide) rfl (Nat.le_of_ble_eq_true rfl) ?_
  intro X hXl hXG C ret
  subst hXl; subst hXG
  change Z X 5 ad mdm S L R 0 0 0 [(0, _), (1, _)] []
  refine z_aload_n C 0 0 0 dX1_oftenFollowsLast_0 rfl rfl ?_
  refine z_getiv C 1 dX1_oftenFollowsLast_1 gf_X1_31 rfl (by first | assumption | exact Nat.zero_lt_one | exact (show (15 : Nat) < 16 by decide) | exact Nat.lt_succ_of_lt (by assumption) | omega) hH.2.1 ?_
  refine z_if_ge C 4 9 dX1_oftenFollowsLast_4 (by decide) (fun h4 => ?_) (fun h4 => ?_)
  · obtain ⟨q, hq, hqe⟩ := hI.2.1.resolve_left (fun e => absurd h4 (by rw [e]; decide))
    have hfe := fExp_iff (n := n) (p := p) hqe (by omega)
    refine z_aload_n C 9 0 0 dX1_oftenFollowsLast_9 rfl rfl ?_
    refine z_getiv C 10 dX1_oftenFollowsLast_10 gf_X1_31 rfl (by first | assumption | exact Nat.zero_lt_one | exact (show (15 : Nat) < 16 by decide) | exact Nat.lt_succ_of_lt (by assumption) | omega) (hH.2.1.trans hqe) ?_
    refine z_bipush (v := nI 10) C 13 dX1_oftenFollowsLast_13 (by decide +kernel) ?_
    first | with_reducible refine z_imulN C 15 dX1_oftenFollowsLast_15 ?_ | refine z_imul C 15 dX1_oftenFollowsLast_15 ?_
    refine z_istore_n C 16 2 [(2, _), (0, _), (1, _)] dX1_oftenFollowsLast_16 rfl (by decide) rfl ?_
    refine z_iconst (v := nI 0) C 17 dX1_oftenFollowsLast_17 (by decide) ?_
    refine z_istore_n C 18 3 [(3, _), (2, _), (0, _), (1, _)] dX1_oftenFollowsLast_18 rfl (by decide) rfl ?_
    refine z_iconst (v := nI 0) C 19 dX1_oftenFollowsLast_19 (by decide) ?_
    refine z_istore C 20 4 [(4, _), (3, _), (2, _), (0, _), (1, _)] dX1_oftenFollowsLast_20 (by decide) rfl ?_
    have loop_22 : ∀ (n_22 : Nat) (i : Nat) (a : Int32), i ≤ n → a = smI (fFol N q) i → n - i < n_22 → Z X 5 ad mdm S L R 0 0 22 [(0, .ref (ad 17 v)), (1, .int (nI p)), (2, .int (nI (q * 10))), (3, .int a), (4, .int (nI i))] [] := by
      intro n_22
      induction n_22 with
      | zero => intro i a hi ha hm22; exact absurd hm22 (Nat.not_lt_zero _)
      | succ n_22 ih22 =>
        intro i a hi ha hm22
        refine z_iload C 22 4 4 dX1_oftenFollowsLast_22 rfl ?_
        refine z_aload_n C 24 0 0 dX1_oftenFollowsLast_24 rfl rfl ?_
        refine z_getiv C 25 dX1_oftenFollowsLast_25 gf_X1_30 rfl (by first | assumption | exact Nat.zero_lt_one | exact (show (15 : Nat) < 16 by decide) | exact Nat.lt_succ_of_lt (by assumption) | omega) hH.1 ?_
        first | with_reducible refine z_icmp_geN C 28 49 dX1_oftenFollowsLast_28 (by decide) (by omega) (by omega) (fun h28 => ?_) (fun h28 => ?_) | refine z_icmp_ge C 28 49 dX1_oftenFollowsLast_28 (by decide) (fun h28 => ?_) (fun h28 => ?_)
        · obtain rfl : i = n := by omega
          refine z_aload_n C 49 0 0 dX1_oftenFollowsLast_49 rfl rfl ?_
          refine z_getr C 50 dX1_oftenFollowsLast_50 gf_X1_21 rfl (by first | assumption | exact Nat.zero_lt_one | exact (show (15 : Nat) < 16 by decide) | exact Nat.lt_succ_of_lt (by assumption) | omega) (by first | exact hR _ _ _ _ rfl | exact hR2 _ _ _ _ rfl | assumption) ?_
          refine z_iload_n C 53 2 2 dX1_oftenFollowsLast_53 rfl rfl ?_
          refine z_iload_n C 54 1 1 dX1_oftenFollowsLast_54 rfl rfl ?_
          first | with_reducible refine z_iaddN C 55 dX1_oftenFollowsLast_55 ?_ | refine z_iadd C 55 dX1_oftenFollowsLast_55 ?_
          refine z_iald C 56 dX1_oftenFollowsLast_56 (by first | rfl | assumption) (by first | assumption | exact Nat.zero_lt_one | exact (show (15 : Nat) < 16 by decide) | exact Nat.lt_succ_of_lt (by assumption) | omega) (by first | rfl | assumption) (by first | decide | omega) (by first | assumption | omega) ?_
          rw [hH.2.2.2.2 q p (by omega) hp]
          refine z_istore C 57 4 [(4, _), (0, _), (1, _), (2, _), (3, _)] dX1_oftenFollowsLast_57 (by decide) rfl ?_
          refine z_iload C 59 4 0 dX1_oftenFollowsLast_59 rfl ?_
          first | with_reducible refine z_if_leN C 61 76 dX1_oftenFollowsLast_61 (by decide) (by omega) (fun h61 => ?_) (fun h61 => ?_) | refine z_if_le C 61 76 dX1_oftenFollowsLast_61 (by decide) (fun h61 => ?_) (fun h61 => ?_)
          · refine z_iconst (v := nI 0) C 76 dX1_oftenFollowsLast_76 (by decide) ?_
            exact ret 77 _ _ _ _ _ dX1_oftenFollowsLast_77 (by first | rfl | exact bI_n | decide) (⟨(by first | exact bI_1 (hfe.mpr ⟨Int32.not_le.mp h61, by rw [← ha]; exact Int32.not_lt.mp h69⟩) | exact bI_0 (fun z => absurd (hfe.mp z).2 (by rw [← ha]; exact Int32.not_le.mpr h69)) | exact bI_0 (fun z => absurd (hfe.mp z).1 (Int32.not_lt.mpr h61))), rfl, rfl, rfl⟩)
          · refine z_iconst (v := nI 2) C 64 dX1_oftenFollowsLast_64 (by decide) ?_
            refine z_iload C 65 4 0 dX1_oftenFollowsLast_65 rfl ?_
            first | with_reducible refine z_imulN C 67 dX1_oftenFollowsLast_67 ?_ | refine z_imul C 67 dX1_oftenFollowsLast_67 ?_
            refine z_iload_n C 68 3 4 dX1_oftenFollowsLast_68 rfl rfl ?_
            first | with_reducible refine z_icmp_ltN C 69 76 dX1_oftenFollowsLast_69 (by decide) (by omega) (by omega) (fun h69 => ?_) (fun h69 => ?_) | refine z_icmp_lt C 69 76 dX1_oftenFollowsLast_69 (by decide) (fun h69 => ?_) (fun h69 => ?_)
            · refine z_iconst (v := nI 0) C 76 dX1_oftenFollowsLast_76 (by decide) ?_
              exact ret 77 _ _ _ _ _ dX1_oftenFollowsLast_77 (by first | rfl | exact bI_n | decide) (⟨(by first | exact bI_1 (hfe.mpr ⟨Int32.not_le.mp h61, by rw [← ha]; exact Int32.not_lt.mp h69⟩) | exact bI_0 (fun z => absurd (hfe.mp z).2 (by rw [← ha]; exact Int32.not_le.mpr h69)) | exact bI_0 (fun z => absurd (hfe.mp z).1 (Int32.not_lt.mpr h61))), rfl, rfl, rfl⟩)
            · refine z_iconst (v := nI 1) C 72 dX1_oftenFollowsLast_72 (by decide) ?_
              refine z_goto C 73 77 dX1_oftenFollowsLast_73 (by decide) ?_
              exact ret 77 _ _ _ _ _ dX1_oftenFollowsLast_77 (by first | rfl | exact bI_n | decide) (⟨(by first | exact bI_1 (hfe.mpr ⟨Int32.not_le.mp h61, by rw [← ha]; exact Int32.not_lt.mp h69⟩) | exact bI_0 (fun z => absurd (hfe.mp z).2 (by rw [← ha]; exact Int32.not_le.mpr h69)) | exact bI_0 (fun z => absurd (hfe.mp z).1 (Int32.not_lt.mpr h61))), rfl, rfl, rfl⟩)
        · refine z_iload_n C 31 3 3 dX1_oftenFollowsLast_31 rfl rfl ?_
          refine z_aload_n C 32 0 0 dX1_oftenFollowsLast_32 rfl rfl ?_
          refine z_getr C 33 dX1_oftenFollowsLast_33 gf_X1_21 rfl (by first | assumption | exact Nat.zero_lt_one | exact (show (15 : Nat) < 16 by decide) | exact Nat.lt_succ_of_lt (by assumption) | omega) (by first | exact hR _ _ _ _ rfl | exact hR2 _ _ _ _ rfl | assumption) ?_
          refine z_iload_n C 36 2 2 dX1_oftenFollowsLast_36 rfl rfl ?_
          refine z_iload C 37 4 4 dX1_oftenFollowsLast_37 rfl ?_
          first | with_reducible refine z_iaddN C 39 dX1_oftenFollowsLast_39 ?_ | refine z_iadd C 39 dX1_oftenFollowsLast_39 ?_
          refine z_iald C 40 dX1_oftenFollowsLast_40 (by first | rfl | assumption) (by first | assumption | exact Nat.zero_lt_one | exact (show (15 : Nat) < 16 by decide) | exact Nat.lt_succ_of_lt (by assumption) | omega) (by first | rfl | assumption) (by first | decide | omega) (by first | assumption | omega) ?_
          first | with_reducible refine z_iaddN C 41 dX1_oftenFollowsLast_41 ?_ | refine z_iadd C 41 dX1_oftenFollowsLast_41 ?_
          refine z_istore_n C 42 3 [(3, _), (0, _), (1, _), (2, _), (4, _)] dX1_oftenFollowsLast_42 rfl (by decide) rfl ?_
          refine z_iinc C 43 4 4 [(4, _), (3, _), (0, _), (1, _), (2, _)] dX1_oftenFollowsLast_43 rfl (by first | exact nI_1 _ | rfl) (by decide) rfl ?_
          refine z_goto C 46 22 dX1_oftenFollowsLast_46 (by decide) ?_
          refine z_sub [(0, _), (1, _), (2, _), (3, _), (4, _)] [2, 3, 4, 1, 0] rfl ?_
          exact ih22 (i + 1) _ (by omega) (by rw [ha, hH.2.2.2.2 q i (by omega) (by omega)]; rfl) (by omega)
    refine z_sub [(0, _), (1, _), (2, _), (3, _), (4, _)] [3, 4, 2, 1, 0] rfl ?_
    exact loop_22 (n + 1) 0 _ (Nat.zero_le _) rfl (by omega)
  · refine z_iconst (v := nI 0) C 7 dX1_oftenFollowsLast_7 (by decide) ?_
    exact ret 8 _ _ _ _ _ dX1_oftenFollowsLast_8 (by first | rfl | exact bI_n | decide) (⟨bI_0 (fun z => by obtain ⟨q, hq, hqe⟩ := hI.2.1.resolve_left z.1; rw [hqe] at h4; exact h4 (Int32.not_lt.mp (nI_pos (by omega)))), rfl, rfl, rfl⟩)
def rm_X1_promiseOf : Room := { frames := 1, cells := 0, slots := 0, locals := 24 }
set_option maxHeartbeats 4000000 in
set_option maxRecDepth 100000 in
theorem c_X1_promiseOf {l : Launch} {G : mG} {ad : mA} {S : mS} {L : mL} {R : mR} {N : NN} {n v p : Nat} (hR : mlk R) (hv : v < 15) (hH : AH S v N n) (hU : AU S v N) (hn10 : n ≤ 10) (hI : rI N n) (hp : p < 10) : Ki l yX1_promiseOf cX1_promiseOf 4 .int rm_X1_promiseOf G ad mdm [.ref (ad 17 v), .int (nI p), .int (N 2), .int (N 1)] S L R (fun r_ S2 L2 R2 => r_ = fProm N n p ∧ S = S2 ∧ L = L2 ∧ R = R2) := by
  refine Ki.of RX1 (by decide) rfl (Nat.le_of_ble_eq_true rfl) ?_
  intro X hXl hXG C ret
  subst hXl; subst hXG
  change Z X 4 ad mdm S L R 0 0 0 [(0, _), (1, _), (2, _), (3, _)] []
  obtain ⟨g, hg4, hg⟩ := hI.2.2.2.2.1 p hp
  refine z_iload_n C 0 1 1 dX1_promiseOf_0 rfl rfl ?_
  refine z_iload_n C 1 2 2 dX1_promiseOf_1 rfl rfl ?_
  first | with_reducible refine z_icmp_eqN C 2 13 dX1_promiseOf_2 (by decide) (by omega) (by omega) (fun h2 => ?_) (fun h2 => ?_) | refine z_icmp_eq C 2 13 dX1_promiseOf_2 (by decide) (fun h2 => ?_) (fun h2 => ?_)
  · refine z_iconst (v := nI 0) C 13 dX1_promiseOf_13 (by decide) ?_
    exact ret 14 _ _ _ _ _ dX1_promiseOf_14 (by first | rfl | exact bI_n | decide) (⟨(fProm_0 (by first | exact Or.inl ((hI.2.2.2.1 p hp).mpr h2.symm) | exact Or.inr h10)).symm, rfl, rfl, rfl⟩)
  · refine z_aload_n C 5 0 0 dX1_promiseOf_5 rfl rfl ?_
    refine z_iload_n C 6 1 1 dX1_promiseOf_6 rfl rfl ?_
    refine z_cVi0 C 7 dX1_promiseOf_7 cv_X1_46 (c_X1_oftenFollowsLast hR hv hH hn10 hI hp) rfl ⟨by decide, rfl⟩ (by first | assumption | exact Nat.zero_lt_one | exact (show (15 : Nat) < 16 by decide) | exact Nat.lt_succ_of_lt (by assumption) | omega) rfl rfl (Nat.le_of_ble_eq_true rfl) ⟨by decide, by decide⟩ ⟨rfl, rfl⟩ ⟨by decide, by decide⟩ ?_
    intro r7 S7 L7 R7 p7
    obtain ⟨rfl, rfl, rfl, rfl⟩ := p7
    first | with_reducible refine z_if_eqB C 10 15 dX1_promiseOf_10 (by decide) (fun h10 => ?_) (fun h10 => ?_) | with_reducible refine z_if_eqN C 10 15 dX1_promiseOf_10 (by decide) (by omega) (fun h10 => ?_) (fun h10 => ?_) | refine z_if_eq C 10 15 dX1_promiseOf_10 (by decide) (fun h10 => ?_) (fun h10 => ?_)
    · refine z_aload_n C 15 0 0 dX1_promiseOf_15 rfl rfl ?_
      refine z_getr C 16 dX1_promiseOf_16 gf_X1_9 rfl (by first | assumption | exact Nat.zero_lt_one | exact (show (15 : Nat) < 16 by decide) | exact Nat.lt_succ_of_lt (by assumption) | omega) (by first | exact hR _ _ _ _ rfl | exact hR2 _ _ _ _ rfl | assumption) ?_
      refine z_iload_n C 19 1 1 dX1_promiseOf_19 rfl rfl ?_
      refine z_iald C 20 dX1_promiseOf_20 (by first | rfl | assumption) (by first | assumption | exact Nat.zero_lt_one | exact (show (15 : Nat) < 16 by decide) | exact Nat.lt_succ_of_lt (by assumption) | omega) (by first | rfl | assumption) (by first | decide | omega) (by first | assumption | omega) ?_
      refine z_iconst (v := (-1)) C 21 dX1_promiseOf_21 (by decide) ?_
      first | with_reducible refine z_icmp_neN C 22 29 dX1_promiseOf_22 (by decide) (by omega) (by omega) (fun h22 => ?_) (fun h22 => ?_) | refine z_icmp_ne C 22 29 dX1_promiseOf_22 (by decide) (fun h22 => ?_) (fun h22 => ?_)
      · obtain ⟨u9, u8, s, hs, us⟩ := (hU p hp).resolve_right (fun z => h22 z.1)
        have h10n : ¬ fo N p 0 = nI 1 := fun z => h2 ((hI.2.2.2.1 p hp).mp z).symm
        refine z_iconst (v := nI 0) C 29 dX1_promiseOf_29 (by decide) ?_
        refine z_aload_n C 30 0 0 dX1_promiseOf_30 rfl rfl ?_
        refine z_iload_n C 31 1 1 dX1_promiseOf_31 rfl rfl ?_
        refine z_cVi0 C 32 dX1_promiseOf_32 cv_X1_50 (c_X1_habitOf hR hv hH hp hg hg4) rfl ⟨by decide, rfl⟩ (by first | assumption | exact Nat.zero_lt_one | exact (show (15 : Nat) < 16 by decide) | exact Nat.lt_succ_of_lt (by assumption) | omega) rfl rfl (Nat.le_of_ble_eq_true rfl) ⟨by decide, by decide⟩ ⟨rfl, rfl⟩ ⟨by decide, by decide⟩ ?_
        intro r32 S32 L32 R32 p32
        obtain ⟨rfl, rfl, rfl, rfl⟩ := p32
        refine z_iload_n C 35 3 3 dX1_promiseOf_35 rfl rfl ?_
        refine z_aload_n C 36 0 0 dX1_promiseOf_36 rfl rfl ?_
        refine z_getr C 37 dX1_promiseOf_37 gf_X1_9 rfl (by first | assumption | exact Nat.zero_lt_one | exact (show (15 : Nat) < 16 by decide) | exact Nat.lt_succ_of_lt (by assumption) | omega) (by first | exact hR _ _ _ _ rfl | exact hR2 _ _ _ _ rfl | assumption) ?_
        refine z_iload_n C 40 1 1 dX1_promiseOf_40 rfl rfl ?_
        refine z_iald C 41 dX1_promiseOf_41 (by first | rfl | assumption) (by first | assumption | exact Nat.zero_lt_one | exact (show (15 : Nat) < 16 by decide) | exact Nat.lt_succ_of_lt (by assumption) | omega) (by first | rfl | assumption) (by first | decide | omega) (by first | assumption | omega) ?_
        first | with_reducible refine z_isubN C 42 dX1_promiseOf_42 (by omega) ?_ | refine z_isub C 42 dX1_promiseOf_42 ?_
        first | with_reducible refine z_isubN C 43 dX1_promiseOf_43 (by omega) ?_ | refine z_isub C 43 dX1_promiseOf_43 ?_
        refine z_max C 44 dX1_promiseOf_44 lj_X1_54 (Nat.le_of_ble_eq_true rfl) ⟨by decide, by decide⟩ ⟨by decide, by decide⟩ ?_
        exact ret 47 _ _ _ _ _ dX1_promiseOf_47 (by first | rfl | exact bI_n | decide) (⟨(by rw [fProm_2 (fun z => z.elim h10n h10) (by rw [u9]; decide), u8, show fAway N p = N 1 - fo N p 8 from if_neg h10n]; exact max_0 _), rfl, rfl, rfl⟩)
      · have h9 : fo N p 9 = 0 := (hU p hp).elim (fun z => by obtain ⟨u9, u8, s, hs, us⟩ := z; rw [u8, us] at h22; exact absurd h22 (nI_m1 hs)) (fun z => z.2.elim (fun y => absurd ((hI.2.2.2.1 p hp).mp y).symm h2) (fun y => y.2))
        have h10n : ¬ fo N p 0 = nI 1 := fun z => h2 ((hI.2.2.2.1 p hp).mp z).symm
        refine z_sipush (v := nI 600) C 25 dX1_promiseOf_25 (by decide +kernel) ?_
        exact ret 28 _ _ _ _ _ dX1_promiseOf_28 (by first | rfl | exact bI_n | decide) (⟨(fProm_1 (fun z => z.elim h10n h10) h9).symm, rfl, rfl, rfl⟩)
    · refine z_iconst (v := nI 0) C 13 dX1_promiseOf_13 (by decide) ?_
      exact ret 14 _ _ _ _ _ dX1_promiseOf_14 (by first | rfl | exact bI_n | decide) (⟨(fProm_0 (by first | exact Or.inl ((hI.2.2.2.1 p hp).mpr h2.symm) | exact Or.inr h10)).symm, rfl, rfl, rfl⟩)
def rm_X1_likeliestAfter : Room := { frames := 1, cells := 0, slots := 0, locals := 22 }
set_option maxHeartbeats 4000000 in
set_option maxRecDepth 100000 in
theorem c_X1_likeliestAfter {l : Launch} {G : mG} {ad : mA} {S : mS} {L : mL} {R : mR} {N : NN} {n v a : Nat} (hR : mlk R) (hv : v < 15) (hH : AH S v N n) (hn10 : n ≤ 10) (ha : a < 10) : Ki l yX1_likeliestAfter cX1_likeliestAfter 5 .int rm_X1_likeliestAfter G ad mdm [.ref (ad 17 v), .int (nI a)] S L R (fun r_ S2 L2 R2 => r_ = oI (fLikF N a n) ∧ S = S2 ∧ L = L2 ∧ R = R2) := by
  refine Ki.of RX1 (by decide) rfl (Nat.le_of_ble_eq_true rfl) ?_
  intro X hXl hXG C ret
  subst hXl; subst hXG
  change Z X 5 ad mdm S L R 0 0 0 [(0, _), (1, _)] []
  refine z_iconst (v := (-1)) C 0 dX1_likeliestAfter_0 (by decide) ?_
  refine z_istore_n C 1 2 [(2, _), (0, _), (1, _)] dX1_likeliestAfter_1 rfl (by decide) rfl ?_
  refine z_iconst (v := nI 0) C 2 dX1_likeliestAfter_2 (by decide) ?_
  refine z_istore_n C 3 3 [(3, _), (2, _), (0, _), (1, _)] dX1_likeliestAfter_3 rfl (by decide) rfl ?_
  refine z_iconst (v := nI 0) C 4 dX1_likeliestAfter_4 (by decide) ?_
  refine z_istore C 5 4 [(4, _), (3, _), (2, _), (0, _), (1, _)] dX1_likeliestAfter_5 (by decide) rfl ?_
  have loop_7 : ∀ (n_7 : Nat) (i : Nat) (b : Option Nat), i ≤ n → fLikF N a i = b → n - i < n_7 → Z X 5 ad mdm S L R 0 0 7 [(0, .ref (ad 17 v)), (1, .int (nI a)), (2, .int (oI b)), (3, .int (lkM N a b)), (4, .int (nI i))] [] := by
    intro n_7
    induction n_7 with
    | zero => intro i b hi hb hm7; exact absurd hm7 (Nat.not_lt_zero _)
    | succ n_7 ih7 =>
      intro i b hi hb hm7
      refine z_iload C 7 4 4 dX1_likeliestAfter_7 rfl ?_
      refine z_aload_n C 9 0 0 dX1_likeliestAfter_9 rfl rfl ?_
      refine z_getiv C 10 dX1_likeliestAfter_10 gf_X1_30 rfl (by first | assumption | exact Nat.zero_lt_one | exact (show (15 : Nat) < 16 by decide) | exact Nat.lt_succ_of_lt (by assumption) | omega) hH.1 ?_
      first | with_reducible refine z_icmp_geN C 13 44 dX1_likeliestAfter_13 (by decide) (by omega) (by omega) (fun h13 => ?_) (fun h13 => ?_) | refine z_icmp_ge C 13 44 dX1_likeliestAfter_13 (by decide) (fun h13 => ?_) (fun h13 => ?_)
      · refine z_iload_n C 44 2 2 dX1_likeliestAfter_44 rfl rfl ?_
        exact ret 45 _ _ _ _ _ dX1_likeliestAfter_45 (by first | rfl | exact bI_n | decide) (⟨(by rw [← hb, show i = n by omega]), rfl, rfl, rfl⟩)
      · refine z_aload_n C 16 0 0 dX1_likeliestAfter_16 rfl rfl ?_
        refine z_iload_n C 17 1 1 dX1_likeliestAfter_17 rfl rfl ?_
        refine z_iload C 18 4 4 dX1_likeliestAfter_18 rfl ?_
        refine z_cVi0 C 20 dX1_likeliestAfter_20 cv_X1_60 (c_X1_timesFollowed hR hv ha (by omega)) rfl ⟨by decide, rfl⟩ (by first | assumption | exact Nat.zero_lt_one | exact (show (15 : Nat) < 16 by decide) | exact Nat.lt_succ_of_lt (by assumption) | omega) rfl rfl (Nat.le_of_ble_eq_true rfl) ⟨by decide, by decide⟩ ⟨rfl, rfl⟩ ⟨by decide, by decide⟩ ?_
        intro r20 S20 L20 R20 p20
        obtain ⟨rfl, rfl, rfl, rfl⟩ := p20
        rw [hH.2.2.2.2 a i ha (by omega)]
        refine z_iload_n C 23 3 3 dX1_likeliestAfter_23 rfl rfl ?_
        first | with_reducible refine z_icmp_leN C 24 38 dX1_likeliestAfter_24 (by decide) (by omega) (by omega) (fun h24 => ?_) (fun h24 => ?_) | refine z_icmp_le C 24 38 dX1_likeliestAfter_24 (by decide) (fun h24 => ?_) (fun h24 => ?_)
        · have hnx : fLikF N a (i + 1) = b := by rw [fLikF_f (by rw [hb]; exact Int32.not_lt.mpr h24)]; exact hb
          refine z_iinc C 38 4 4 [(4, _), (0, _), (1, _), (2, _), (3, _)] dX1_likeliestAfter_38 rfl (by first | exact nI_1 _ | rfl) (by decide) rfl ?_
          refine z_goto C 41 7 dX1_likeliestAfter_41 (by decide) ?_
          refine z_sub [(0, _), (1, _), (2, _), (3, _), (4, _)] [1, 2, 3, 4, 0] rfl ?_
          exact ih7 (i + 1) _ (by omega) hnx (by omega)
        · have hnx : fLikF N a (i + 1) = some i := fLikF_t (by rw [hb]; exact Int32.not_le.mp h24)
          refine z_aload_n C 27 0 0 dX1_likeliestAfter_27 rfl rfl ?_
          refine z_iload_n C 28 1 1 dX1_likeliestAfter_28 rfl rfl ?_
          refine z_iload C 29 4 4 dX1_likeliestAfter_29 rfl ?_
          refine z_cVi0 C 31 dX1_likeliestAfter_31 cv_X1_60 (c_X1_timesFollowed hR hv ha (by omega)) rfl ⟨by decide, rfl⟩ (by first | assumption | exact Nat.zero_lt_one | exact (show (15 : Nat) < 16 by decide) | exact Nat.lt_succ_of_lt (by assumption) | omega) rfl rfl (Nat.le_of_ble_eq_true rfl) ⟨by decide, by decide⟩ ⟨rfl, rfl⟩ ⟨by decide, by decide⟩ ?_
          intro r31 S31 L31 R31 p31
          obtain ⟨rfl, rfl, rfl, rfl⟩ := p31
          rw [hH.2.2.2.2 a i ha (by omega)]
          refine z_istore_n C 34 3 [(3, _), (0, _), (1, _), (2, _), (4, _)] dX1_likeliestAfter_34 rfl (by decide) rfl ?_
          refine z_iload C 35 4 4 dX1_likeliestAfter_35 rfl ?_
          refine z_istore_n C 37 2 [(2, _), (3, _), (0, _), (1, _), (4, _)] dX1_likeliestAfter_37 rfl (by decide) rfl ?_
          refine z_iinc C 38 4 4 [(4, _), (2, _), (3, _), (0, _), (1, _)] dX1_likeliestAfter_38 rfl (by first | exact nI_1 _ | rfl) (by decide) rfl ?_
          refine z_goto C 41 7 dX1_likeliestAfter_41 (by decide) ?_
          refine z_sub [(0, _), (1, _), (2, _), (3, _), (4, _)] [3, 4, 1, 2, 0] rfl ?_
          exact ih7 (i + 1) _ (by omega) hnx (by omega)
  refine z_sub [(0, _), (1, _), (2, _), (3, _), (4, _)] [3, 4, 2, 1, 0] rfl ?_
  exact loop_7 (n + 1) 0 none (Nat.zero_le _) rfl (by omega)
def rm_X1_copyFrom : Room := { frames := 1, cells := 0, slots := 0, locals := 60 }
set_option maxHeartbeats 4000000 in
set_option maxRecDepth 100000 in
theorem c_X1_copyFrom {l : Launch} {G : mG} {ad : mA} {S : mS} {L : mL} {R : mR} {q v : Nat} (hR : mlk R) (hv : v < 15) (hq : q < 15) (hne : q ≠ v) : Kv l yX1_copyFrom cX1_copyFrom 2 rm_X1_copyFrom G ad mdm [.ref (ad 17 v), .ref (ad 17 q)] S L R (fun S2 L2 R2 => hCopy S q v = S2 ∧ L = L2 ∧ R = R2) := by
  refine Kv.of RX1 (by decide) rfl (Nat.le_of_ble_eq_true rfl) ?_
  intro X hXl hXG C ret
  subst hXl; subst hXG
  change Z X 2 ad mdm S L R 0 0 0 [(0, _), (1, _)] []
  refine z_aload_n C 0 0 0 dX1_copyFrom_0 rfl rfl ?_
  refine z_aload_n C 1 1 1 dX1_copyFrom_1 rfl rfl ?_
  refine z_geti C 2 dX1_copyFrom_2 gf_X1_30 rfl (by first | assumption | exact Nat.zero_lt_one | exact (show (15 : Nat) < 16 by decide) | exact Nat.lt_succ_of_lt (by assumption) | omega) ?_
  refine z_puti C 5 dX1_copyFrom_5 gf_X1_30 ⟨rfl, rfl⟩ rfl (by first | assumption | exact Nat.zero_lt_one | exact (show (15 : Nat) < 16 by decide) | exact Nat.lt_succ_of_lt (by assumption) | omega) ?_
  refine z_aload_n C 8 0 0 dX1_copyFrom_8 rfl rfl ?_
  refine z_aload_n C 9 1 1 dX1_copyFrom_9 rfl rfl ?_
  refine z_geti C 10 dX1_copyFrom_10 gf_X1_31 rfl (by first | assumption | exact Nat.zero_lt_one | exact (show (15 : Nat) < 16 by decide) | exact Nat.lt_succ_of_lt (by assumption) | omega) ?_
  refine z_puti C 13 dX1_copyFrom_13 gf_X1_31 ⟨rfl, rfl⟩ rfl (by first | assumption | exact Nat.zero_lt_one | exact (show (15 : Nat) < 16 by decide) | exact Nat.lt_succ_of_lt (by assumption) | omega) ?_
  refine z_aload_n C 16 1 1 dX1_copyFrom_16 rfl rfl ?_
  refine z_getr C 17 dX1_copyFrom_17 gf_X1_9 rfl (by first | assumption | exact Nat.zero_lt_one | exact (show (15 : Nat) < 16 by decide) | exact Nat.lt_succ_of_lt (by assumption) | omega) (by first | exact hR _ _ _ _ rfl | exact hR2 _ _ _ _ rfl | assumption) ?_
  refine z_iconst (v := nI 0) C 20 dX1_copyFrom_20 (by decide) ?_
  refine z_aload_n C 21 0 0 dX1_copyFrom_21 rfl rfl ?_
  refine z_getr C 22 dX1_copyFrom_22 gf_X1_9 rfl (by first | assumption | exact Nat.zero_lt_one | exact (show (15 : Nat) < 16 by decide) | exact Nat.lt_succ_of_lt (by assumption) | omega) (by first | exact hR _ _ _ _ rfl | exact hR2 _ _ _ _ rfl | assumption) ?_
  refine z_iconst (v := nI 0) C 25 dX1_copyFrom_25 (by decide) ?_
  refine z_aload_n C 26 0 0 dX1_copyFrom_26 rfl rfl ?_
  refine z_getr C 27 dX1_copyFrom_27 gf_X1_9 rfl (by first | assumption | exact Nat.zero_lt_one | exact (show (15 : Nat) < 16 by decide) | exact Nat.lt_succ_of_lt (by assumption) | omega) (by first | exact hR _ _ _ _ rfl | exact hR2 _ _ _ _ rfl | assumption) ?_
  refine z_alen C 30 dX1_copyFrom_30 rfl (by decide) (by decide) (by first | assumption | exact Nat.zero_lt_one | exact (show (15 : Nat) < 16 by decide) | exact Nat.lt_succ_of_lt (by assumption) | omega) ?_
  refine z_copy C 31 dX1_copyFrom_31 lj_X1_40 rfl rfl (by first | assumption | exact Nat.zero_lt_one | exact (show (15 : Nat) < 16 by decide) | exact Nat.lt_succ_of_lt (by assumption) | omega) (by first | assumption | exact Nat.zero_lt_one | exact (show (15 : Nat) < 16 by decide) | exact Nat.lt_succ_of_lt (by assumption) | omega) (by first | rfl | assumption) (by first | rfl | assumption) (by first | rfl | assumption) (by decide) (by decide) (by omega) (by omega) (Nat.le_of_ble_eq_true rfl) ⟨by decide, by decide⟩ ?_
  refine z_aload_n C 34 1 1 dX1_copyFrom_34 rfl rfl ?_
  refine z_getr C 35 dX1_copyFrom_35 gf_X1_15 rfl (by first | assumption | exact Nat.zero_lt_one | exact (show (15 : Nat) < 16 by decide) | exact Nat.lt_succ_of_lt (by assumption) | omega) (by first | exact hR _ _ _ _ rfl | exact hR2 _ _ _ _ rfl | assumption) ?_
  refine z_iconst (v := nI 0) C 38 dX1_copyFrom_38 (by decide) ?_
  refine z_aload_n C 39 0 0 dX1_copyFrom_39 rfl rfl ?_
  refine z_getr C 40 dX1_copyFrom_40 gf_X1_15 rfl (by first | assumption | exact Nat.zero_lt_one | exact (show (15 : Nat) < 16 by decide) | exact Nat.lt_succ_of_lt (by assumption) | omega) (by first | exact hR _ _ _ _ rfl | exact hR2 _ _ _ _ rfl | assumption) ?_
  refine z_iconst (v := nI 0) C 43 dX1_copyFrom_43 (by decide) ?_
  refine z_aload_n C 44 0 0 dX1_copyFrom_44 rfl rfl ?_
  refine z_getr C 45 dX1_copyFrom_45 gf_X1_15 rfl (by first | assumption | exact Nat.zero_lt_one | exact (show (15 : Nat) < 16 by decide) | exact Nat.lt_succ_of_lt (by assumption) | omega) (by first | exact hR _ _ _ _ rfl | exact hR2 _ _ _ _ rfl | assumption) ?_
  refine z_alen C 48 dX1_copyFrom_48 rfl (by decide) (by decide) (by first | assumption | exact Nat.zero_lt_one | exact (show (15 : Nat) < 16 by decide) | exact Nat.lt_succ_of_lt (by assumption) | omega) ?_
  refine z_copy C 49 dX1_copyFrom_49 lj_X1_40 rfl rfl (by first | assumption | exact Nat.zero_lt_one | exact (show (15 : Nat) < 16 by decide) | exact Nat.lt_succ_of_lt (by assumption) | omega) (by first | assumption | exact Nat.zero_lt_one | exact (show (15 : Nat) < 16 by decide) | exact Nat.lt_succ_of_lt (by assumption) | omega) (by first | rfl | assumption) (by first | rfl | assumption) (by first | rfl | assumption) (by decide) (by decide) (by omega) (by omega) (Nat.le_of_ble_eq_true rfl) ⟨by decide, by decide⟩ ?_
  refine z_aload_n C 52 1 1 dX1_copyFrom_52 rfl rfl ?_
  refine z_getr C 53 dX1_copyFrom_53 gf_X1_18 rfl (by first | assumption | exact Nat.zero_lt_one | exact (show (15 : Nat) < 16 by decide) | exact Nat.lt_succ_of_lt (by assumption) | omega) (by first | exact hR _ _ _ _ rfl | exact hR2 _ _ _ _ rfl | assumption) ?_
  refine z_iconst (v := nI 0) C 56 dX1_copyFrom_56 (by decide) ?_
  refine z_aload_n C 57 0 0 dX1_copyFrom_57 rfl rfl ?_
  refine z_getr C 58 dX1_copyFrom_58 gf_X1_18 rfl (by first | assumption | exact Nat.zero_lt_one | exact (show (15 : Nat) < 16 by decide) | exact Nat.lt_succ_of_lt (by assumption) | omega) (by first | exact hR _ _ _ _ rfl | exact hR2 _ _ _ _ rfl | assumption) ?_
  refine z_iconst (v := nI 0) C 61 dX1_copyFrom_61 (by decide) ?_
  refine z_aload_n C 62 0 0 dX1_copyFrom_62 rfl rfl ?_
  refine z_getr C 63 dX1_copyFrom_63 gf_X1_18 rfl (by first | assumption | exact Nat.zero_lt_one | exact (show (15 : Nat) < 16 by decide) | exact Nat.lt_succ_of_lt (by assumption) | omega) (by first | exact hR _ _ _ _ rfl | exact hR2 _ _ _ _ rfl | assumption) ?_
  refine z_alen C 66 dX1_copyFrom_66 rfl (by decide) (by decide) (by first | assumption | exact Nat.zero_lt_one | exact (show (15 : Nat) < 16 by decide) | exact Nat.lt_succ_of_lt (by assumption) | omega) ?_
  refine z_copy C 67 dX1_copyFrom_67 lj_X1_40 rfl rfl (by first | assumption | exact Nat.zero_lt_one | exact (show (15 : Nat) < 16 by decide) | exact Nat.lt_succ_of_lt (by assumption) | omega) (by first | assumption | exact Nat.zero_lt_one | exact (show (15 : Nat) < 16 by decide) | exact Nat.lt_succ_of_lt (by assumption) | omega) (by first | rfl | assumption) (by first | rfl | assumption) (by first | rfl | assumption) (by decide) (by decide) (by omega) (by omega) (Nat.le_of_ble_eq_true rfl) ⟨by decide, by decide⟩ ?_
  refine z_aload_n C 70 1 1 dX1_copyFrom_70 rfl rfl ?_
  refine z_getr C 71 dX1_copyFrom_71 gf_X1_21 rfl (by first | assumption | exact Nat.zero_lt_one | exact (show (15 : Nat) < 16 by decide) | exact Nat.lt_succ_of_lt (by assumption) | omega) (by first | exact hR _ _ _ _ rfl | exact hR2 _ _ _ _ rfl | assumption) ?_
  refine z_iconst (v := nI 0) C 74 dX1_copyFrom_74 (by decide) ?_
  refine z_aload_n C 75 0 0 dX1_copyFrom_75 rfl rfl ?_
  refine z_getr C 76 dX1_copyFrom_76 gf_X1_21 rfl (by first | assumption | exact Nat.zero_lt_one | exact (show (15 : Nat) < 16 by decide) | exact Nat.lt_succ_of_lt (by assumption) | omega) (by first | exact hR _ _ _ _ rfl | exact hR2 _ _ _ _ rfl | assumption) ?_
  refine z_iconst (v := nI 0) C 79 dX1_copyFrom_79 (by decide) ?_
  refine z_aload_n C 80 0 0 dX1_copyFrom_80 rfl rfl ?_
  refine z_getr C 81 dX1_copyFrom_81 gf_X1_21 rfl (by first | assumption | exact Nat.zero_lt_one | exact (show (15 : Nat) < 16 by decide) | exact Nat.lt_succ_of_lt (by assumption) | omega) (by first | exact hR _ _ _ _ rfl | exact hR2 _ _ _ _ rfl | assumption) ?_
  refine z_alen C 84 dX1_copyFrom_84 rfl (by decide) (by decide) (by first | assumption | exact Nat.zero_lt_one | exact (show (15 : Nat) < 16 by decide) | exact Nat.lt_succ_of_lt (by assumption) | omega) ?_
  refine z_copy C 85 dX1_copyFrom_85 lj_X1_40 rfl rfl (by first | assumption | exact Nat.zero_lt_one | exact (show (15 : Nat) < 16 by decide) | exact Nat.lt_succ_of_lt (by assumption) | omega) (by first | assumption | exact Nat.zero_lt_one | exact (show (15 : Nat) < 16 by decide) | exact Nat.lt_succ_of_lt (by assumption) | omega) (by first | rfl | assumption) (by first | rfl | assumption) (by first | rfl | assumption) (by decide) (by decide) (by omega) (by omega) (Nat.le_of_ble_eq_true rfl) ⟨by decide, by decide⟩ ?_
  refine z_ext (hCopy S q v) (hCopy_end hne) ?_
  exact ret 88 _ _ _ _ dX1_copyFrom_88 (⟨rfl, rfl, rfl⟩)
