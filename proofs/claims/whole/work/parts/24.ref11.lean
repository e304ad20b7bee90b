theorem sA_up44 (S : mS) (k : Nat) (v : Int32) : up3 S 44 0 k v = sA S 44 (upd (S 44 0) k v) := sA_up S 44 k v
theorem up3_26_27 (S : mS) (v w : Int32) : up3 (up3 S 40 0 26 v) 40 0 27 w = up3 (up3 S 40 0 27 w) 40 0 26 v := by
  funext k i j
  simp only [up3]
  by_cases h : k = 40 ∧ i = 0 ∧ j = 27
  · rw [if_pos h, if_neg (by omega), if_pos h]
  · rw [if_neg h, if_neg h]
/-- the undo rows B behind a change: those of U, but for the eldest if there were ten, and A -/
def kP (U A : NN) (u : Nat) (B : NN) : Prop := (∀ k j, j < 438 → k < (if u = 10 then 9 else u) → B (438 * k + j) = U (438 * (if u = 10 then k + 1 else k) + j)) ∧ ∀ j, j < 438 → B (438 * (if u = 10 then 9 else u) + j) = A j
def shF (U : NN) (k : Nat) : NN := fun j => if j < 438 * k then U (j + 438) else U j
theorem shF_0 (U : NN) : shF U 0 = U := by
  funext j
  unfold shF
  rw [if_neg (by omega)]
theorem shF_up (S1 : mS) (U : NN) (k : Nat) : sA (sA S1 51 (shF U k)) 51 (cpF (sA S1 51 (shF U k)) 51 (438 * (k + 1)) 51 (438 * k) 438) = sA S1 51 (shF U (k + 1)) := by
  rw [sA_sA]
  congr 1
  funext j
  unfold cpF
  rw [sA_s]
  unfold shF
  by_cases h : 438 * k ≤ j ∧ j < 438 * k + 438
  · rw [if_pos h, if_neg (by omega), if_pos (by omega)]
    congr 1
    omega
  · rw [if_neg h]
    by_cases h2 : j < 438 * k
    · rw [if_pos h2, if_pos (by omega)]
    · rw [if_neg h2, if_neg (by omega)]
theorem kP_1 {S : mS} {u : Nat} (h : ¬ u = 10) : kP (S 51 0) (S 50 0) u (cpF S 50 0 51 (438 * u) 438) := by
  refine ⟨fun k j hj hk => ?_, fun j hj => ?_⟩
  · rw [if_neg h] at hk ⊢
    unfold cpF
    have : 438 * k + 438 ≤ 438 * u := by omega
    rw [if_neg (by omega)]
  · rw [if_neg h]
    unfold cpF
    rw [if_pos (by omega)]
    exact congrArg (S 50 0) (by omega)
theorem kP_2 {S1 : mS} {U : NN} : kP U (S1 50 0) 10 (cpF (sA S1 51 (shF U 9)) 50 0 51 (438 * 9) 438) := by
  refine ⟨fun k j hj hk => ?_, fun j hj => ?_⟩
  · rw [if_pos rfl] at hk ⊢
    unfold cpF
    rw [if_neg (by omega), sA_s]
    unfold shF
    rw [if_pos (by omega)]
    exact congrArg U (by omega)
  · rw [if_pos rfl]
    unfold cpF
    rw [if_pos (by omega), sA_n _ _ (by decide)]
    exact congrArg (S1 50 0) (by omega)
/-- behind a change: thrown is 0, the row is M, the rows that can be come back to are as they must be -/
def rC0 (S S2 : mS) (u : Nat) : Prop := S2 40 0 0 = nI 0 ∧ S2 40 0 27 = nI (if u = 10 then 10 else u + 1) ∧ kP (S 51 0) (S 44 0) u (S2 51 0) ∧ ∀ k i j, ¬ (k = 44 ∨ k = 49 ∨ k = 50 ∨ k = 51 ∨ (k = 40 ∧ (j = 0 ∨ j = 26 ∨ j = 27))) → S2 k i j = S k i j
def rC (S S2 : mS) (M : NN) (u : Nat) : Prop := rC0 S S2 u ∧ S2 44 0 = M
theorem rC0.s {S S2 : mS} {u kd : Nat} (h : rC0 S S2 u) (hk : kd = 44 ∨ kd = 49 ∨ kd = 50) {A : NN} : rC0 S (sA S2 kd A) u := by
  refine ⟨by rw [sA_n _ _ (by omega)]; exact h.1, by rw [sA_n _ _ (by omega)]; exact h.2.1, by rw [sA_n _ _ (by omega)]; exact h.2.2.1, fun k i j hn => ?_⟩
  simp only [sA]
  rw [if_neg (by omega)]
  exact h.2.2.2 k i j hn
theorem rC0.up26 {S S2 : mS} {u : Nat} (h : rC0 S S2 u) {v : Int32} : rC0 S (up3 S2 40 0 26 v) u := by
  refine ⟨by rw [up3_j _ (by decide)]; exact h.1, by rw [up3_j _ (by decide)]; exact h.2.1, by rw [up3_k _ (by decide)]; exact h.2.2.1, fun k i j hn => ?_⟩
  simp only [up3]
  rw [if_neg (by omega)]
  exact h.2.2.2 k i j hn
theorem rC0_b {S : mS} {u : Nat} {B : NN} (hB : kP (S 51 0) (S 44 0) u B) : rC0 S (sA (up3 (up3 S 40 0 0 (nI 0)) 40 0 27 (nI (if u = 10 then 10 else u + 1))) 51 B) u := by
  refine ⟨by rw [sA_n _ _ (by decide), up3_j _ (by decide), up3_s], by rw [sA_n _ _ (by decide), up3_s], by rw [sA_s]; exact hB, fun k i j hn => ?_⟩
  simp only [sA, up3]
  rw [if_neg (by omega), if_neg (by omega), if_neg (by omega)]
theorem rC0_c {S : mS} {u : Nat} {v : Int32} {B : NN} (hB : kP (S 51 0) (S 44 0) u B) : rC0 S (sA (up3 (up3 (up3 S 40 0 0 (nI 0)) 40 0 27 (nI (if u = 10 then 10 else u + 1))) 40 0 26 v) 51 B) u := by
  rw [← up3_sA _ (by decide)]
  exact (rC0_b hB).up26
theorem rC.top {S X : mS} {M : NN} {u : Nat} (h : rC0 S X u) : rC S (sA X 44 M) M u := ⟨h.s (Or.inl rfl), sA_s _ _ _⟩
def fHome (N : NN) : NN := if N 2 = -1 then N else upd (fRest N (N 2).toNatClampNeg) 2 (-1)
noncomputable def fPassN (N T : NN) (n : Nat) : Nat → Nat × NN
  | 0 => (0, N)
  | k + 1 => ((fPassN N T n k).1 + (fPass (fPassN N T n k).2 T n).1, (fPass (fPassN N T n k).2 T n).2)
theorem rI.passN {N T : NN} {n : Nat} (h : rI N n) (hn : n ≤ 10) : ∀ k, rI (fPassN N T n k).2 n
  | 0 => h
  | k + 1 => (rI.passN h hn k).pass hn
/-- a notice is sent -/
def fPut (N : NN) (p w : Nat) (v : Int32) : NN := fset (upd N (388 + 5 * p + w) v) p 15 (nI (w + 1))
def fSend (N : NN) (p w : Nat) (v : Int32) : NN := if fo N p 0 = nI 1 then fTake N p v else if fo N p 0 = nI 0 then N else if w = 5 then fPut (fLeave N p 5) p 4 v else fPut N p w v
def fShut (N : NN) (p : Nat) : NN := fEmpty (if N 2 = nI p then upd (fRest N p) 2 (-1) else N) p
theorem fLeave_fo15 {N : NN} {p w : Nat} (hp : p < 10) : fo (fLeave N p w) p 15 = nI (w - 1) := (fLv_fo hp (by omega)).trans (fo_set_s _ _ _ _)
theorem fo_updn {N : NN} {j p x : Nat} {v : Int32} (hj : 388 ≤ j) (hp : p < 10) (hx : x < 20) : fo (upd N j v) p x = fo N p x := upd_n N (by omega)
theorem up3_26_0 (S : mS) (v w : Int32) : up3 (up3 S 40 0 26 v) 40 0 0 w = up3 (up3 S 40 0 0 w) 40 0 26 v := by
  funext k i j
  simp only [up3]
  by_cases h : k = 40 ∧ i = 0 ∧ j = 0
  · rw [if_pos h, if_neg (by omega), if_pos h]
  · rw [if_neg h, if_neg h]
theorem fHome_n {N : NN} (h : N 2 = -1) : fHome N = N := if_pos h
theorem fHome_s {N : NN} {q : Nat} (hq : q < 2 ^ 31) (h : N 2 = nI q) : fHome N = upd (fRest N q) 2 (-1) := by unfold fHome; rw [h, if_neg (nI_m1 hq), nI_clamp hq]
theorem z_st {X : mX} {nL : Nat} {ad : mA} {dm : mD} {S : mS} {L : mL} {R : mR} {ce sl pc : Nat} {lv : List (Nat × Value)} {st st' : List Value} (h : st' = st) (k : Z X nL ad dm S L R ce sl pc lv st) : Z X nL ad dm S L R ce sl pc lv st' := h ▸ k
theorem mid_49 (S X : mS) (B A N : NN) (h : X 49 0 = S 49 0) (h2 : X 44 0 = N) : sA (sA (sA (sA X 51 B) 50 A) 49 (S 49 0)) 44 N = sA (sA X 51 B) 50 A := by
  have e1 : (sA (sA X 51 B) 50 A) 49 0 = S 49 0 := by rw [sA_n _ _ (by decide), sA_n _ _ (by decide)]; exact h
  have e2 : (sA (sA X 51 B) 50 A) 44 0 = N := by rw [sA_n _ _ (by decide), sA_n _ _ (by decide)]; exact h2
  rw [← e1, sA_id, ← e2, sA_id]
theorem fSend_1 {N : NN} {p w : Nat} {v : Int32} (h : fo N p 0 = nI 1) : fSend N p w v = fTake N p v := if_pos h
theorem fSend_0 {N : NN} {p w : Nat} {v : Int32} (h : fo N p 0 = 0) : fSend N p w v = N := by
  unfold fSend
  rw [if_neg (by rw [h]; decide), if_pos (show fo N p 0 = nI 0 from h)]
theorem fSend_5 {N : NN} {p : Nat} {v : Int32} (h : ¬ fo N p 0 = nI 1) (h0 : ¬ fo N p 0 = 0) : fSend N p 5 v = fPut (fLeave N p 5) p 4 v := by
  unfold fSend
  rw [if_neg h, if_neg (show ¬ fo N p 0 = nI 0 from h0), if_pos rfl]
theorem fSend_n {N : NN} {p w : Nat} {v : Int32} (h : ¬ fo N p 0 = nI 1) (h0 : ¬ fo N p 0 = 0) (h5 : ¬ w = 5) : fSend N p w v = fPut N p w v := by
  unfold fSend
  rw [if_neg h, if_neg (show ¬ fo N p 0 = nI 0 from h0), if_neg h5]
theorem fStep_lo {N : NN} {p k j : Nat} (h : j < 5) : fStep N p k j = N j := by
  unfold fStep
  rw [wr_lo h]
  unfold fStep0 fEmpty
  repeat' split
  all_goals simp only [fset_lo _ (show j < 6 by omega)]
/-- behind undo, restore: the row is A, u undo rows are left -/
def rB (S S2 : mS) (A : NN) (u : Nat) : Prop := S2 40 0 0 = nI 0 ∧ (∀ j, j < 438 → S2 44 0 j = A j) ∧ S2 40 0 27 = nI u ∧ ∀ k i j, ¬ (k = 44 ∨ (k = 40 ∧ (j = 0 ∨ j = 27))) → S2 k i j = S k i j
theorem rB_of {S : mS} {A : NN} {u : Nat} {X : mS} {k0 a : Nat} (hA : ∀ j, j < 438 → A j = S k0 0 (a + j)) (h0 : X k0 0 = S k0 0) (hx0 : X 40 0 0 = nI 0) (hx27 : X 40 0 27 = nI u) (hr : ∀ k i j, ¬ (k = 44 ∨ (k = 40 ∧ (j = 0 ∨ j = 27))) → X k i j = S k i j) : rB S (sA X 44 (cpF X k0 a 44 0 438)) A u := by
  refine ⟨by rw [sA_n _ _ (by decide)]; exact hx0, fun j hj => ?_, by rw [sA_n _ _ (by decide)]; exact hx27, fun k i j hn => ?_⟩
  · rw [sA_s]
    unfold cpF
    rw [if_pos (by omega), h0, hA j hj]
    exact congrArg (S k0 0) (by omega)
  · simp only [sA]
    rw [if_neg (fun q => hn (Or.inl q.1))]
    exact hr k i j hn
theorem rB_res {S : mS} {s : Nat} : rB S (sA (up3 (up3 S 40 0 0 (nI 0)) 40 0 27 (nI 0)) 44 (cpF (up3 S 40 0 0 (nI 0)) 52 (438 * s) 44 0 438)) (fun j => S 52 0 (438 * s + j)) 0 := by
  have e : cpF (up3 S 40 0 0 (nI 0)) 52 (438 * s) 44 0 438 = cpF (up3 (up3 S 40 0 0 (nI 0)) 40 0 27 (nI 0)) 52 (438 * s) 44 0 438 := rfl
  rw [e]
  exact rB_of (a := 438 * s) (fun _ _ => rfl) rfl rfl (up3_s _ _ _ _ _) (fun k i j hn => by simp only [up3]; rw [if_neg (by omega), if_neg (by omega)])

def rm_X9_keeps : Room := { frames := 1, cells := 0, slots := 0, locals := 24 }
set_option maxHeartbeats 4000000 in
set_option maxRecDepth 100000 in
theorem c_X9_keeps {l : Launch} {G : mG} {ad : mA} {S : mS} {L : mL} {R : mR} {u : Nat} (hR : mlk R) (hu : S 40 0 27 = nI u) (hu10 : u ≤ 10) : Kv l yX9_keeps cX9_keeps 2 rm_X9_keeps G ad mdm [.ref (ad 40 0)] S L R (fun S2 L2 R2 => (∃ B, up3 (sA S 51 B) 40 0 27 (nI (if u = 10 then 10 else u + 1)) = S2 ∧ kP (S 51 0) (S 50 0) u B) ∧ L = L2 ∧ R = R2) := by
  refine Kv.of RX9 (by decide) rfl (Nat.le_of_ble_eq_true rfl) ?_
  intro X hXl hXG C ret
  subst hXl; subst hXG
  change Z X 2 ad mdm S L R 0 0 0 [(0, _)] []
  refine z_aload_n C 0 0 0 dX9_keeps_0 rfl rfl ?_
  refine z_getiv C 1 dX9_keeps_1 gf_X9_200 rfl (by first | assumption | exact Nat.zero_lt_one | omega) hu ?_
  refine z_bipush (v := nI 10) C 4 dX9_keeps_4 (by decide +kernel) ?_
  first | with_reducible refine z_icmp_neN C 6 58 dX9_keeps_6 (by decide) (by omega) (by omega) (fun h6 => ?_) (fun h6 => ?_) | refine z_icmp_ne C 6 58 dX9_keeps_6 (by decide) (fun h6 => ?_) (fun h6 => ?_)
  · first | skip | skip
    refine z_aload_n C 58 0 0 dX9_keeps_58 rfl rfl ?_
    refine z_getr C 59 dX9_keeps_59 gf_X9_43 rfl (by first | assumption | exact Nat.zero_lt_one | omega) (by first | exact hR _ _ _ _ rfl | assumption) ?_
    refine z_iconst (v := nI 0) C 62 dX9_keeps_62 (by decide) ?_
    refine z_aload_n C 63 0 0 dX9_keeps_63 rfl rfl ?_
    refine z_getr C 64 dX9_keeps_64 gf_X9_46 rfl (by first | assumption | exact Nat.zero_lt_one | omega) (by first | exact hR _ _ _ _ rfl | assumption) ?_
    refine z_sipush (v := nI 438) C 67 dX9_keeps_67 (by decide +kernel) ?_
    refine z_aload_n C 70 0 0 dX9_keeps_70 rfl rfl ?_
    refine z_getiv C 71 dX9_keeps_71 gf_X9_200 rfl (by first | assumption | exact Nat.zero_lt_one | omega) (by first | exact hu | exact (show _ = nI 9 from rfl)) ?_
    first | with_reducible refine z_imulN C 74 dX9_keeps_74 ?_ | refine z_imul C 74 dX9_keeps_74 ?_
    refine z_cSv0 C 75 dX9_keeps_75 cs_X9_318 (c_X9_copies (by rfl) (by rfl) (by first | assumption | exact Nat.zero_lt_one | omega) (by first | assumption | exact Nat.zero_lt_one | omega) (by decide) (by decide) (by omega) (by omega) (by first | exact Or.inl (by decide) | (right; omega))) rfl rfl (Nat.le_of_ble_eq_true rfl) ⟨by decide, by decide⟩ ⟨rfl, rfl⟩ ⟨by decide, by decide⟩ ?_
    intro S75 L75 R75 p75
    obtain ⟨rfl, rfl, rfl⟩ := p75
    refine z_aload_n C 78 0 0 dX9_keeps_78 rfl rfl ?_
    refine z_dup C 79 dX9_keeps_79 rfl ?_
    refine z_getiv C 80 dX9_keeps_80 gf_X9_200 rfl (by first | assumption | exact Nat.zero_lt_one | omega) (by first | exact hu | exact (show _ = nI 9 from rfl)) ?_
    refine z_iconst (v := nI 1) C 83 dX9_keeps_83 (by decide) ?_
    first | with_reducible refine z_iaddN C 84 dX9_keeps_84 ?_ | refine z_iadd C 84 dX9_keeps_84 ?_
    refine z_puti C 85 dX9_keeps_85 gf_X9_200 ⟨rfl, rfl⟩ rfl (by first | assumption | exact Nat.zero_lt_one | omega) ?_
    exact ret 88 _ _ _ _ dX9_keeps_88 (⟨by first | exact ⟨_, by rw [if_neg h6], kP_1 h6⟩ | (obtain rfl : k = 9 := (by omega); exact ⟨cpF (sA (up3 S 40 0 27 (nI 9)) 51 (shF (S 51 0) 9)) 50 0 51 (438 * 9) 438, (by simp only [if_true, sA_sA, up3_sA _ (show (40 : Nat) ≠ 51 by decide), up3_up3]), kP_2⟩), rfl, rfl⟩)
  · subst h6
    refine z_aload_n C 9 0 0 dX9_keeps_9 rfl rfl ?_
    refine z_dup C 10 dX9_keeps_10 rfl ?_
    refine z_getiv C 11 dX9_keeps_11 gf_X9_200 rfl (by first | assumption | exact Nat.zero_lt_one | omega) hu ?_
    refine z_iconst (v := nI 1) C 14 dX9_keeps_14 (by decide) ?_
    first | with_reducible refine z_isubN C 15 dX9_keeps_15 (by omega) ?_ | refine z_isub C 15 dX9_keeps_15 ?_
    refine z_puti C 16 dX9_keeps_16 gf_X9_200 ⟨rfl, rfl⟩ rfl (by first | assumption | exact Nat.zero_lt_one | omega) ?_
    refine z_iconst (v := nI 0) C 19 dX9_keeps_19 (by decide) ?_
    refine z_istore_n C 20 1 [(1, _), (0, _)] dX9_keeps_20 rfl (by decide) rfl ?_
    have loop_21 : ∀ (n_21 : Nat) (k : Nat), k ≤ 9 → 9 - k < n_21 → Z X 2 ad mdm (sA (up3 S 40 0 27 (nI 9)) 51 (shF (S 51 0) k)) L R 0 0 21 [(0, .ref (ad 40 0)), (1, .int (nI k))] [] := by
      intro n_21
      induction n_21 with
      | zero => intro k hk hm21; exact absurd hm21 (Nat.not_lt_zero _)
      | succ n_21 ih21 =>
        intro k hk hm21
        refine z_iload_n C 21 1 1 dX9_keeps_21 rfl rfl ?_
        refine z_aload_n C 22 0 0 dX9_keeps_22 rfl rfl ?_
        refine z_getiv C 23 dX9_keeps_23 gf_X9_200 rfl (by first | assumption | exact Nat.zero_lt_one | omega) (show _ = nI 9 from rfl) ?_
        first | with_reducible refine z_icmp_geN C 26 58 dX9_keeps_26 (by decide) (by omega) (by omega) (fun h26 => ?_) (fun h26 => ?_) | refine z_icmp_ge C 26 58 dX9_keeps_26 (by decide) (fun h26 => ?_) (fun h26 => ?_)
        · first | skip | skip
          refine z_aload_n C 58 0 0 dX9_keeps_58 rfl rfl ?_
          refine z_getr C 59 dX9_keeps_59 gf_X9_43 rfl (by first | assumption | exact Nat.zero_lt_one | omega) (by first | exact hR _ _ _ _ rfl | assumption) ?_
          refine z_iconst (v := nI 0) C 62 dX9_keeps_62 (by decide) ?_
          refine z_aload_n C 63 0 0 dX9_keeps_63 rfl rfl ?_
          refine z_getr C 64 dX9_keeps_64 gf_X9_46 rfl (by first | assumption | exact Nat.zero_lt_one | omega) (by first | exact hR _ _ _ _ rfl | assumption) ?_
          refine z_sipush (v := nI 438) C 67 dX9_keeps_67 (by decide +kernel) ?_
          refine z_aload_n C 70 0 0 dX9_keeps_70 rfl rfl ?_
          refine z_getiv C 71 dX9_keeps_71 gf_X9_200 rfl (by first | assumption | exact Nat.zero_lt_one | omega) (by first | exact hu | exact (show _ = nI 9 from rfl)) ?_
          first | with_reducible refine z_imulN C 74 dX9_keeps_74 ?_ | refine z_imul C 74 dX9_keeps_74 ?_
          refine z_cSv0 C 75 dX9_keeps_75 cs_X9_318 (c_X9_copies (by rfl) (by rfl) (by first | assumption | exact Nat.zero_lt_one | omega) (by first | assumption | exact Nat.zero_lt_one | omega) (by decide) (by decide) (by omega) (by omega) (by first | exact Or.inl (by decide) | (right; omega))) rfl rfl (Nat.le_of_ble_eq_true rfl) ⟨by decide, by decide⟩ ⟨rfl, rfl⟩ ⟨by decide, by decide⟩ ?_
          intro S75 L75 R75 p75
          obtain ⟨rfl, rfl, rfl⟩ := p75
          refine z_aload_n C 78 0 0 dX9_keeps_78 rfl rfl ?_
          refine z_dup C 79 dX9_keeps_79 rfl ?_
          refine z_getiv C 80 dX9_keeps_80 gf_X9_200 rfl (by first | assumption | exact Nat.zero_lt_one | omega) (by first | exact hu | exact (show _ = nI 9 from rfl)) ?_
          refine z_iconst (v := nI 1) C 83 dX9_keeps_83 (by decide) ?_
          first | with_reducible refine z_iaddN C 84 dX9_keeps_84 ?_ | refine z_iadd C 84 dX9_keeps_84 ?_
          refine z_puti C 85 dX9_keeps_85 gf_X9_200 ⟨rfl, rfl⟩ rfl (by first | assumption | exact Nat.zero_lt_one | omega) ?_
          exact ret 88 _ _ _ _ dX9_keeps_88 (⟨by first | exact ⟨_, by rw [if_neg h6], kP_1 h6⟩ | (obtain rfl : k = 9 := (by omega); exact ⟨cpF (sA (up3 S 40 0 27 (nI 9)) 51 (shF (S 51 0) 9)) 50 0 51 (438 * 9) 438, (by simp only [if_true, sA_sA, up3_sA _ (show (40 : Nat) ≠ 51 by decide), up3_up3]), kP_2⟩), rfl, rfl⟩)
        · refine z_aload_n C 29 0 0 dX9_keeps_29 rfl rfl ?_
          refine z_getr C 30 dX9_keeps_30 gf_X9_46 rfl (by first | assumption | exact Nat.zero_lt_one | omega) (by first | exact hR _ _ _ _ rfl | assumption) ?_
          refine z_sipush (v := nI 438) C 33 dX9_keeps_33 (by decide +kernel) ?_
          refine z_iload_n C 36 1 1 dX9_keeps_36 rfl rfl ?_
          refine z_iconst (v := nI 1) C 37 dX9_keeps_37 (by decide) ?_
          first | with_reducible refine z_iaddN C 38 dX9_keeps_38 ?_ | refine z_iadd C 38 dX9_keeps_38 ?_
          first | with_reducible refine z_imulN C 39 dX9_keeps_39 ?_ | refine z_imul C 39 dX9_keeps_39 ?_
          refine z_aload_n C 40 0 0 dX9_keeps_40 rfl rfl ?_
          refine z_getr C 41 dX9_keeps_41 gf_X9_46 rfl (by first | assumption | exact Nat.zero_lt_one | omega) (by first | exact hR _ _ _ _ rfl | assumption) ?_
          refine z_sipush (v := nI 438) C 44 dX9_keeps_44 (by decide +kernel) ?_
          refine z_iload_n C 47 1 1 dX9_keeps_47 rfl rfl ?_
          first | with_reducible refine z_imulN C 48 dX9_keeps_48 ?_ | refine z_imul C 48 dX9_keeps_48 ?_
          refine z_cSv0 C 49 dX9_keeps_49 cs_X9_318 (c_X9_copies (by rfl) (by rfl) (by first | assumption | exact Nat.zero_lt_one | omega) (by first | assumption | exact Nat.zero_lt_one | omega) (by decide) (by decide) (by omega) (by omega) (by first | exact Or.inl (by decide) | (right; omega))) rfl rfl (Nat.le_of_ble_eq_true rfl) ⟨by decide, by decide⟩ ⟨rfl, rfl⟩ ⟨by decide, by decide⟩ ?_
          intro S49 L49 R49 p49
          obtain ⟨rfl, rfl, rfl⟩ := p49
          refine z_iinc C 52 1 1 [(1, _), (0, _)] dX9_keeps_52 rfl (by first | exact nI_1 _ | rfl) (by decide) rfl ?_
          refine z_goto C 55 21 dX9_keeps_55 (by decide) ?_
          refine z_sub [(0, _), (1, _)] [1, 0] rfl ?_
          rw [shF_up]
          exact ih21 (k + 1) (by omega) (by omega)
    refine z_sub [(0, _), (1, _)] [1, 0] rfl ?_
    refine z_mem (sA (up3 S 40 0 27 (nI 9)) 51 (shF (S 51 0) 0)) (by rw [shF_0, show S 51 0 = up3 S 40 0 27 (nI 9) 51 0 from rfl, sA_id]) ?_
    exact loop_21 10 0 (by omega) (by omega)
def rm_X9_show : Room := { frames := 8, cells := 0, slots := 0, locals := 181 }
set_option maxHeartbeats 4000000 in
set_option maxRecDepth 100000 in
theorem c_X9_show {l : Launch} {G : mG} {ad : mA} {S : mS} {L : mL} {R : mR} {n p u : Nat} (hR : mlk R) (hu : S 40 0 27 = nI u) (hu10 : u ≤ 10) (hn : S 40 0 1 = nI n) (hn10 : n ≤ 10) (hI : rI (S 44 0) n) (hp : p < n) (hw : ¬ (fShowR (S 44 0) (S 41 0) (S 43 0) n p).1 = -1) : Ki l yX9_show cX9_show 3 .int rm_X9_show G ad mdm [.ref (ad 40 0), .int (nI p)] S L R (fun r_ S2 L2 R2 => rC S S2 ((fShowR (S 44 0) (S 41 0) (S 43 0) n p).2.2) u ∧ r_ = (fShowR (S 44 0) (S 41 0) (S 43 0) n p).1 ∧ L = L2 ∧ R = R2) := by
  refine Ki.of RX9 (by decide) rfl (Nat.le_of_ble_eq_true rfl) ?_
  intro X hXl hXG C ret
  subst hXl; subst hXG
  change Z X 3 ad mdm S L R 0 0 0 [(0, _), (1, _)] []
  refine z_aload_n C 0 0 0 dX9_show_0 rfl rfl ?_
  refine z_iload_n C 1 1 1 dX9_show_1 rfl rfl ?_
  refine z_cVi0 C 2 dX9_show_2 cv_X9_291 (c_X9_noProgram hR hn hn10 (by assumption)) rfl ⟨by decide, rfl⟩ (by first | assumption | exact Nat.zero_lt_one | omega) rfl rfl (Nat.le_of_ble_eq_true rfl) ⟨by decide, by decide⟩ ⟨rfl, rfl⟩ ⟨by decide, by decide⟩ ?_
  intro r2 S2 L2 R2 p2
  obtain ⟨rfl, rfl, rfl, rfl⟩ := p2
  first | with_reducible refine z_if_eqB C 5 10 dX9_show_5 (by decide) (fun h5 => ?_) (fun h5 => by omega) | with_reducible refine z_if_eqN C 5 10 dX9_show_5 (by decide) (by omega) (fun h5 => ?_) (fun h5 => by omega) | refine z_if_eq C 5 10 dX9_show_5 (by decide) (fun h5 => ?_) (fun h5 => by omega)
  · refine z_aload_n C 10 0 0 dX9_show_10 rfl rfl ?_
    refine z_getr C 11 dX9_show_11 gf_X9_20 rfl (by first | assumption | exact Nat.zero_lt_one | omega) (by first | exact hR _ _ _ _ rfl | assumption) ?_
    refine z_aload_n C 14 0 0 dX9_show_14 rfl rfl ?_
    refine z_getr C 15 dX9_show_15 gf_X9_43 rfl (by first | assumption | exact Nat.zero_lt_one | omega) (by first | exact hR _ _ _ _ rfl | assumption) ?_
    refine z_cSv0 C 18 dX9_show_18 cs_X9_269 (c_X9_puts (by rfl) (by rfl) (by first | assumption | exact Nat.zero_lt_one | omega) (by first | assumption | exact Nat.zero_lt_one | omega) (by decide)) rfl rfl (Nat.le_of_ble_eq_true rfl) ⟨by decide, by decide⟩ ⟨rfl, rfl⟩ ⟨by decide, by decide⟩ ?_
    intro S18 L18 R18 p18
    obtain ⟨rfl, rfl, rfl⟩ := p18
    refine z_aload_n C 21 0 0 dX9_show_21 rfl rfl ?_
    refine z_iload_n C 22 1 1 dX9_show_22 rfl rfl ?_
    refine z_cVi0 C 23 dX9_show_23 cv_X9_300 (c_X9_shows (n := n) hR hn hn10 hI hp) rfl ⟨by decide, rfl⟩ (by first | assumption | exact Nat.zero_lt_one | omega) rfl rfl (Nat.le_of_ble_eq_true rfl) ⟨by decide, by decide⟩ ⟨rfl, rfl⟩ ⟨by decide, by decide⟩ ?_
    intro r23 S23 L23 R23 p23
    obtain ⟨rfl, ⟨K, rfl⟩, rfl, rfl⟩ := p23
    refine z_istore_n C 26 2 [(2, _), (0, _), (1, _)] dX9_show_26 rfl (by decide) rfl ?_
    refine z_aload_n C 27 0 1 dX9_show_27 rfl rfl ?_
    refine z_iload_n C 28 2 0 dX9_show_28 rfl rfl ?_
    refine z_iconst (v := (-1)) C 29 dX9_show_29 (by decide) ?_
    first | with_reducible refine z_icmp_neN C 30 37 dX9_show_30 (by decide) (by omega) (by omega) (fun h30 => ?_) (fun h30 => absurd h30 hw) | refine z_icmp_ne C 30 37 dX9_show_30 (by decide) (fun h30 => ?_) (fun h30 => absurd h30 hw)
    · refine z_iconst (v := nI 0) C 37 dX9_show_37 (by decide) ?_
      refine z_iconst (v := nI 2) C 38 dX9_show_38 (by decide) ?_
      refine z_cVi0 C 39 dX9_show_39 cv_X9_185 (c_X9_throwsIf_0 hR (by first | assumption | rfl)) rfl ⟨by decide, rfl⟩ (by first | assumption | exact Nat.zero_lt_one | omega) rfl rfl (Nat.le_of_ble_eq_true rfl) ⟨by decide, by decide⟩ ⟨rfl, rfl⟩ ⟨by decide, by decide⟩ ?_
      intro r39 S39 L39 R39 p39
      obtain ⟨rfl, rfl, rfl, rfl⟩ := p39
      first | with_reducible refine z_if_eqB C 42 47 dX9_show_42 (by decide) (fun h42 => ?_) (fun h42 => by omega) | with_reducible refine z_if_eqN C 42 47 dX9_show_42 (by decide) (by omega) (fun h42 => ?_) (fun h42 => by omega) | refine z_if_eq C 42 47 dX9_show_42 (by decide) (fun h42 => ?_) (fun h42 => by omega)
      · refine z_aload_n C 47 0 1 dX9_show_47 rfl rfl ?_
        refine z_cVv0 C 48 dX9_show_48 cv_X9_306 (c_X9_keeps (u := u) hR hu hu10) rfl ⟨by decide, rfl⟩ (by first | assumption | exact Nat.zero_lt_one | omega) rfl rfl (Nat.le_of_ble_eq_true rfl) ⟨by decide, by decide⟩ ⟨rfl, rfl⟩ ⟨by decide, by decide⟩ ?_
        intro S48 L48 R48 p48
        obtain ⟨⟨B, rfl, hB⟩, rfl, rfl⟩ := p48
        refine z_iload_n C 51 2 0 dX9_show_51 rfl rfl ?_
        exact ret 52 _ _ _ _ _ dX9_show_52 (by first | rfl | exact bI_n | decide) (⟨(by have hB : kP (S 51 0) (S 44 0) u B := hB; (try simp only [up3_k _ (show (44 : Nat) ≠ 40 by decide), up3_k _ (show (41 : Nat) ≠ 40 by decide), up3_k _ (show (43 : Nat) ≠ 40 by decide), up3_k _ (show (49 : Nat) ≠ 40 by decide), up3_k _ (show (50 : Nat) ≠ 40 by decide), up3_k _ (show (51 : Nat) ≠ 40 by decide), up3_k _ (show (52 : Nat) ≠ 40 by decide), up3_k _ (show (53 : Nat) ≠ 40 by decide), sA_s, sA_n _ _ (show (40 : Nat) ≠ 44 by decide), sA_n _ _ (show (40 : Nat) ≠ 49 by decide), sA_n _ _ (show (40 : Nat) ≠ 50 by decide), sA_n _ _ (show (40 : Nat) ≠ 51 by decide), sA_n _ _ (show (40 : Nat) ≠ 52 by decide), sA_n _ _ (show (41 : Nat) ≠ 44 by decide), sA_n _ _ (show (41 : Nat) ≠ 49 by decide), sA_n _ _ (show (41 : Nat) ≠ 50 by decide), sA_n _ _ (show (41 : Nat) ≠ 51 by decide), sA_n _ _ (show (41 : Nat) ≠ 52 by decide), sA_n _ _ (show (43 : Nat) ≠ 44 by decide), sA_n _ _ (show (43 : Nat) ≠ 49 by decide), sA_n _ _ (show (43 : Nat) ≠ 50 by decide), sA_n _ _ (show (43 : Nat) ≠ 51 by decide), sA_n _ _ (show (43 : Nat) ≠ 52 by decide), sA_n _ _ (show (44 : Nat) ≠ 49 by decide), sA_n _ _ (show (44 : Nat) ≠ 50 by decide), sA_n _ _ (show (44 : Nat) ≠ 51 by decide), sA_n _ _ (show (44 : Nat) ≠ 52 by decide), sA_n _ _ (show (49 : Nat) ≠ 44 by decide), sA_n _ _ (show (49 : Nat) ≠ 50 by decide), sA_n _ _ (show (49 : Nat) ≠ 51 by decide), sA_n _ _ (show (49 : Nat) ≠ 52 by decide), sA_n _ _ (show (50 : Nat) ≠ 44 by decide), sA_n _ _ (show (50 : Nat) ≠ 49 by decide), sA_n _ _ (show (50 : Nat) ≠ 51 by decide), sA_n _ _ (show (50 : Nat) ≠ 52 by decide), sA_n _ _ (show (51 : Nat) ≠ 44 by decide), sA_n _ _ (show (51 : Nat) ≠ 49 by decide), sA_n _ _ (show (51 : Nat) ≠ 50 by decide), sA_n _ _ (show (51 : Nat) ≠ 52 by decide), sA_n _ _ (show (52 : Nat) ≠ 44 by decide), sA_n _ _ (show (52 : Nat) ≠ 49 by decide), sA_n _ _ (show (52 : Nat) ≠ 50 by decide), sA_n _ _ (show (52 : Nat) ≠ 51 by decide), sA_n _ _ (show (53 : Nat) ≠ 44 by decide), sA_n _ _ (show (53 : Nat) ≠ 49 by decide), sA_n _ _ (show (53 : Nat) ≠ 50 by decide), sA_n _ _ (show (53 : Nat) ≠ 51 by decide), sA_n _ _ (show (53 : Nat) ≠ 52 by decide), up3_sA _ (show (40 : Nat) ≠ 44 by decide), up3_sA _ (show (40 : Nat) ≠ 49 by decide), up3_sA _ (show (40 : Nat) ≠ 50 by decide), up3_sA _ (show (40 : Nat) ≠ 51 by decide), up3_sA _ (show (40 : Nat) ≠ 52 by decide), sA_44_49, sA_44_50, sA_49_50, sA_44_51, sA_49_51, sA_50_51, sA_44_52, sA_sA, up3_up3, sA_up44, up3_26_27, up3_sA _ (show (40 : Nat) ≠ 52 by decide)]); first | exact rC.top ((rC0_b hB).s (Or.inr (Or.inr rfl))) | exact rC.top (((rC0_c hB).s (Or.inr (Or.inr rfl))).s (Or.inr (Or.inl rfl))) | exact rC.top (((rC0_b hB).s (Or.inr (Or.inr rfl))).s (Or.inr (Or.inl rfl))) | exact ⟨(rC0_b hB).s (Or.inr (Or.inr rfl)), rfl⟩), rfl, rfl, rfl⟩)

set_option maxHeartbeats 4000000 in
set_option maxRecDepth 100000 in
theorem c_X9_show_2 {l : Launch} {G : mG} {ad : mA} {S : mS} {L : mL} {R : mR} {n p u : Nat} (hR : mlk R) (hu : S 40 0 27 = nI u) (hu10 : u ≤ 10) (hn : S 40 0 1 = nI n) (hn10 : n ≤ 10) (hI : rI (S 44 0) n) (hp : p < n) (hw : (fShowR (S 44 0) (S 41 0) (S 43 0) n p).1 = -1) (hN : (fShowR (S 44 0) (S 41 0) (S 43 0) n p).2.2 = S 44 0) : Ki l yX9_show cX9_show 3 .int rm_X9_show G ad mdm [.ref (ad 40 0), .int (nI p)] S L R (fun r_ S2 L2 R2 => rQ S S2 2 ∧ L = L2 ∧ R = R2) := by
  refine Ki.of RX9 (by decide) rfl (Nat.le_of_ble_eq_true rfl) ?_
  intro X hXl hXG C ret
  subst hXl; subst hXG
  change Z X 3 ad mdm S L R 0 0 0 [(0, _), (1, _)] []
  refine z_aload_n C 0 0 0 dX9_show_0 rfl rfl ?_
  refine z_iload_n C 1 1 1 dX9_show_1 rfl rfl ?_
  refine z_cVi0 C 2 dX9_show_2 cv_X9_291 (c_X9_noProgram hR hn hn10 (by assumption)) rfl ⟨by decide, rfl⟩ (by first | assumption | exact Nat.zero_lt_one | omega) rfl rfl (Nat.le_of_ble_eq_true rfl) ⟨by decide, by decide⟩ ⟨rfl, rfl⟩ ⟨by decide, by decide⟩ ?_
  intro r2 S2 L2 R2 p2
  obtain ⟨rfl, rfl, rfl, rfl⟩ := p2
  first | with_reducible refine z_if_eqB C 5 10 dX9_show_5 (by decide) (fun h5 => ?_) (fun h5 => by omega) | with_reducible refine z_if_eqN C 5 10 dX9_show_5 (by decide) (by omega) (fun h5 => ?_) (fun h5 => by omega) | refine z_if_eq C 5 10 dX9_show_5 (by decide) (fun h5 => ?_) (fun h5 => by omega)
  · refine z_aload_n C 10 0 0 dX9_show_10 rfl rfl ?_
    refine z_getr C 11 dX9_show_11 gf_X9_20 rfl (by first | assumption | exact Nat.zero_lt_one | omega) (by first | exact hR _ _ _ _ rfl | assumption) ?_
    refine z_aload_n C 14 0 0 dX9_show_14 rfl rfl ?_
    refine z_getr C 15 dX9_show_15 gf_X9_43 rfl (by first | assumption | exact Nat.zero_lt_one | omega) (by first | exact hR _ _ _ _ rfl | assumption) ?_
    refine z_cSv0 C 18 dX9_show_18 cs_X9_269 (c_X9_puts (by rfl) (by rfl) (by first | assumption | exact Nat.zero_lt_one | omega) (by first | assumption | exact Nat.zero_lt_one | omega) (by decide)) rfl rfl (Nat.le_of_ble_eq_true rfl) ⟨by decide, by decide⟩ ⟨rfl, rfl⟩ ⟨by decide, by decide⟩ ?_
    intro S18 L18 R18 p18
    obtain ⟨rfl, rfl, rfl⟩ := p18
    refine z_aload_n C 21 0 0 dX9_show_21 rfl rfl ?_
    refine z_iload_n C 22 1 1 dX9_show_22 rfl rfl ?_
    refine z_cVi0 C 23 dX9_show_23 cv_X9_300 (c_X9_shows (n := n) hR hn hn10 hI hp) rfl ⟨by decide, rfl⟩ (by first | assumption | exact Nat.zero_lt_one | omega) rfl rfl (Nat.le_of_ble_eq_true rfl) ⟨by decide, by decide⟩ ⟨rfl, rfl⟩ ⟨by decide, by decide⟩ ?_
    intro r23 S23 L23 R23 p23
    obtain ⟨rfl, ⟨K, rfl⟩, rfl, rfl⟩ := p23
    refine z_istore_n C 26 2 [(2, _), (0, _), (1, _)] dX9_show_26 rfl (by decide) rfl ?_
    refine z_aload_n C 27 0 1 dX9_show_27 rfl rfl ?_
    refine z_iload_n C 28 2 0 dX9_show_28 rfl rfl ?_
    refine z_iconst (v := (-1)) C 29 dX9_show_29 (by decide) ?_
    first | with_reducible refine z_icmp_neN C 30 37 dX9_show_30 (by decide) (by omega) (by omega) (fun h30 => absurd hw h30) (fun h30 => ?_) | refine z_icmp_ne C 30 37 dX9_show_30 (by decide) (fun h30 => absurd hw h30) (fun h30 => ?_)
    · refine z_iconst (v := nI 1) C 33 dX9_show_33 (by decide) ?_
      refine z_goto C 34 38 dX9_show_34 (by decide) ?_
      refine z_iconst (v := nI 2) C 38 dX9_show_38 (by decide) ?_
      refine z_cVi0 C 39 dX9_show_39 cv_X9_185 (c_X9_throwsIf_1 hR (by first | assumption | rfl) (by decide) (by decide)) rfl ⟨by decide, rfl⟩ (by first | assumption | exact Nat.zero_lt_one | omega) rfl rfl (Nat.le_of_ble_eq_true rfl) ⟨by decide, by decide⟩ ⟨rfl, rfl⟩ ⟨by decide, by decide⟩ ?_
      intro r39 S39 L39 R39 p39
      obtain ⟨rfl, rfl, rfl, rfl⟩ := p39
      first | with_reducible refine z_if_eqB C 42 47 dX9_show_42 (by decide) (fun h42 => by omega) (fun h42 => ?_) | with_reducible refine z_if_eqN C 42 47 dX9_show_42 (by decide) (by omega) (fun h42 => by omega) (fun h42 => ?_) | refine z_if_eq C 42 47 dX9_show_42 (by decide) (fun h42 => by omega) (fun h42 => ?_)
      · refine z_iconst (v := nI 0) C 45 dX9_show_45 (by decide) ?_
        exact ret 46 _ _ _ _ _ dX9_show_46 (by first | rfl | exact bI_n | decide) (⟨(by simp only [up3_k _ (show (44 : Nat) ≠ 40 by decide), up3_k _ (show (41 : Nat) ≠ 40 by decide), up3_k _ (show (43 : Nat) ≠ 40 by decide), up3_k _ (show (49 : Nat) ≠ 40 by decide), up3_k _ (show (50 : Nat) ≠ 40 by decide), up3_k _ (show (51 : Nat) ≠ 40 by decide), up3_k _ (show (52 : Nat) ≠ 40 by decide), up3_k _ (show (53 : Nat) ≠ 40 by decide), sA_s, sA_n _ _ (show (40 : Nat) ≠ 44 by decide), sA_n _ _ (show (40 : Nat) ≠ 49 by decide), sA_n _ _ (show (40 : Nat) ≠ 50 by decide), sA_n _ _ (show (40 : Nat) ≠ 51 by decide), sA_n _ _ (show (40 : Nat) ≠ 52 by decide), sA_n _ _ (show (41 : Nat) ≠ 44 by decide), sA_n _ _ (show (41 : Nat) ≠ 49 by decide), sA_n _ _ (show (41 : Nat) ≠ 50 by decide), sA_n _ _ (show (41 : Nat) ≠ 51 by decide), sA_n _ _ (show (41 : Nat) ≠ 52 by decide), sA_n _ _ (show (43 : Nat) ≠ 44 by decide), sA_n _ _ (show (43 : Nat) ≠ 49 by decide), sA_n _ _ (show (43 : Nat) ≠ 50 by decide), sA_n _ _ (show (43 : Nat) ≠ 51 by decide), sA_n _ _ (show (43 : Nat) ≠ 52 by decide), sA_n _ _ (show (44 : Nat) ≠ 49 by decide), sA_n _ _ (show (44 : Nat) ≠ 50 by decide), sA_n _ _ (show (44 : Nat) ≠ 51 by decide), sA_n _ _ (show (44 : Nat) ≠ 52 by decide), sA_n _ _ (show (49 : Nat) ≠ 44 by decide), sA_n _ _ (show (49 : Nat) ≠ 50 by decide), sA_n _ _ (show (49 : Nat) ≠ 51 by decide), sA_n _ _ (show (49 : Nat) ≠ 52 by decide), sA_n _ _ (show (50 : Nat) ≠ 44 by decide), sA_n _ _ (show (50 : Nat) ≠ 49 by decide), sA_n _ _ (show (50 : Nat) ≠ 51 by decide), sA_n _ _ (show (50 : Nat) ≠ 52 by decide), sA_n _ _ (show (51 : Nat) ≠ 44 by decide), sA_n _ _ (show (51 : Nat) ≠ 49 by decide), sA_n _ _ (show (51 : Nat) ≠ 50 by decide), sA_n _ _ (show (51 : Nat) ≠ 52 by decide), sA_n _ _ (show (52 : Nat) ≠ 44 by decide), sA_n _ _ (show (52 : Nat) ≠ 49 by decide), sA_n _ _ (show (52 : Nat) ≠ 50 by decide), sA_n _ _ (show (52 : Nat) ≠ 51 by decide), sA_n _ _ (show (53 : Nat) ≠ 44 by decide), sA_n _ _ (show (53 : Nat) ≠ 49 by decide), sA_n _ _ (show (53 : Nat) ≠ 50 by decide), sA_n _ _ (show (53 : Nat) ≠ 51 by decide), sA_n _ _ (show (53 : Nat) ≠ 52 by decide), up3_sA _ (show (40 : Nat) ≠ 44 by decide), up3_sA _ (show (40 : Nat) ≠ 49 by decide), up3_sA _ (show (40 : Nat) ≠ 50 by decide), up3_sA _ (show (40 : Nat) ≠ 51 by decide), up3_sA _ (show (40 : Nat) ≠ 52 by decide), sA_44_49, sA_44_50, sA_49_50, sA_44_51, sA_49_51, sA_50_51, sA_44_52, sA_sA, up3_up3, sA_up44, up3_26_27, up3_sA _ (show (40 : Nat) ≠ 52 by decide), up3_26_0, hN]; repeat (first | exact rQ_t _ _ | apply rQ.up26 | apply rQ.s49 | apply rQ.s50 | refine rQ.s44 ?_ rfl)), rfl, rfl⟩)

set_option maxHeartbeats 4000000 in
set_option maxRecDepth 100000 in
theorem c_X9_show_1 {l : Launch} {G : mG} {ad : mA} {S : mS} {L : mL} {R : mR} {n : Nat} {x : Int32} (hR : mlk R) (hn : S 40 0 1 = nI n) (hn10 : n ≤ 10) (hx : ¬ isP n x) : Ki l yX9_show cX9_show 3 .int rm_X9_show G ad mdm [.ref (ad 40 0), .int x] S L R (fun r_ S2 L2 R2 => rQ S S2 1 ∧ L = L2 ∧ R = R2) := by
  refine Ki.of RX9 (by decide) rfl (Nat.le_of_ble_eq_true rfl) ?_
  intro X hXl hXG C ret
  subst hXl; subst hXG
  change Z X 3 ad mdm S L R 0 0 0 [(0, _), (1, _)] []
  refine z_aload_n C 0 0 0 dX9_show_0 rfl rfl ?_
  refine z_iload_n C 1 1 1 dX9_show_1 rfl rfl ?_
  refine z_cVi0 C 2 dX9_show_2 cv_X9_291 (c_X9_noProgram_1 hR hn hn10 hx) rfl ⟨by decide, rfl⟩ (by first | assumption | exact Nat.zero_lt_one | omega) rfl rfl (Nat.le_of_ble_eq_true rfl) ⟨by decide, by decide⟩ ⟨rfl, rfl⟩ ⟨by decide, by decide⟩ ?_
  intro r2 S2 L2 R2 p2
  obtain ⟨rfl, rfl, rfl, rfl⟩ := p2
  first | with_reducible refine z_if_eqB C 5 10 dX9_show_5 (by decide) (fun h5 => by omega) (fun h5 => ?_) | with_reducible refine z_if_eqN C 5 10 dX9_show_5 (by decide) (by omega) (fun h5 => by omega) (fun h5 => ?_) | refine z_if_eq C 5 10 dX9_show_5 (by decide) (fun h5 => by omega) (fun h5 => ?_)
  · refine z_iconst (v := nI 0) C 8 dX9_show_8 (by decide) ?_
    exact ret 9 _ _ _ _ _ dX9_show_9 (by first | rfl | exact bI_n | decide) (⟨(by first | exact rQ_t _ _ | (simp only [up3_up3]; exact rQ_t _ _)), rfl, rfl⟩)
def rm_X9_home : Room := { frames := 2, cells := 0, slots := 0, locals := 45 }
set_option maxHeartbeats 4000000 in
set_option maxRecDepth 100000 in
theorem c_X9_home {l : Launch} {G : mG} {ad : mA} {S : mS} {L : mL} {R : mR} {n u : Nat} (hR : mlk R) (hu : S 40 0 27 = nI u) (hu10 : u ≤ 10) (hI : rI (S 44 0) n) (hn10 : n ≤ 10) : Ki l yX9_home cX9_home 2 .int rm_X9_home G ad mdm [.ref (ad 40 0)] S L R (fun r_ S2 L2 R2 => rC S S2 (fHome (S 44 0)) u ∧ r_ = (S 44 0) 2 ∧ L = L2 ∧ R = R2) := by
  refine Ki.of RX9 (by decide) rfl (Nat.le_of_ble_eq_true rfl) ?_
  intro X hXl hXG C ret
  subst hXl; subst hXG
  change Z X 2 ad mdm S L R 0 0 0 [(0, _)] []
  refine z_aload_n C 0 0 0 dX9_home_0 rfl rfl ?_
  refine z_iconst (v := nI 0) C 1 dX9_home_1 (by decide) ?_
  refine z_puti C 2 dX9_home_2 gf_X9_65 ⟨rfl, rfl⟩ rfl (by first | assumption | exact Nat.zero_lt_one | omega) ?_
  refine z_aload_n C 5 0 0 dX9_home_5 rfl rfl ?_
  refine z_getr C 6 dX9_home_6 gf_X9_20 rfl (by first | assumption | exact Nat.zero_lt_one | omega) (by first | exact hR _ _ _ _ rfl | assumption) ?_
  refine z_aload_n C 9 0 0 dX9_home_9 rfl rfl ?_
  refine z_getr C 10 dX9_home_10 gf_X9_43 rfl (by first | assumption | exact Nat.zero_lt_one | omega) (by first | exact hR _ _ _ _ rfl | assumption) ?_
  refine z_cSv0 C 13 dX9_home_13 cs_X9_269 (c_X9_puts (by rfl) (by rfl) (by first | assumption | exact Nat.zero_lt_one | omega) (by first | assumption | exact Nat.zero_lt_one | omega) (by decide)) rfl rfl (Nat.le_of_ble_eq_true rfl) ⟨by decide, by decide⟩ ⟨rfl, rfl⟩ ⟨by decide, by decide⟩ ?_
  intro S13 L13 R13 p13
  obtain ⟨rfl, rfl, rfl⟩ := p13
  refine z_aload_n C 16 0 0 dX9_home_16 rfl rfl ?_
  refine z_cVv0 C 17 dX9_home_17 cv_X9_306 (c_X9_keeps (u := u) hR hu hu10) rfl ⟨by decide, rfl⟩ (by first | assumption | exact Nat.zero_lt_one | omega) rfl rfl (Nat.le_of_ble_eq_true rfl) ⟨by decide, by decide⟩ ⟨rfl, rfl⟩ ⟨by decide, by decide⟩ ?_
  intro S17 L17 R17 p17
  obtain ⟨⟨B, rfl, hB⟩, rfl, rfl⟩ := p17
  refine z_aload_n C 20 0 0 dX9_home_20 rfl rfl ?_
  refine z_getr C 21 dX9_home_21 gf_X9_20 rfl (by first | assumption | exact Nat.zero_lt_one | omega) (by first | exact hR _ _ _ _ rfl | assumption) ?_
  refine z_iconst (v := nI 2) C 24 dX9_home_24 (by decide) ?_
  refine z_iald C 25 dX9_home_25 (by first | rfl | assumption) (by first | assumption | exact Nat.zero_lt_one | omega) (by first | rfl | assumption) (by first | decide | omega) (by first | assumption | omega) ?_
  refine z_istore_n C 26 1 [(1, _), (0, _)] dX9_home_26 rfl (by decide) rfl ?_
  refine z_iload_n C 27 1 0 dX9_home_27 rfl rfl ?_
  refine z_iconst (v := (-1)) C 28 dX9_home_28 (by decide) ?_
  first | with_reducible refine z_icmp_eqN C 29 44 dX9_home_29 (by decide) (by omega) (by omega) (fun h29 => ?_) (fun h29 => ?_) | refine z_icmp_eq C 29 44 dX9_home_29 (by decide) (fun h29 => ?_) (fun h29 => ?_)
  · have hh := fHome_n (N := (S 44 0)) h29
    refine z_iload_n C 44 1 0 dX9_home_44 rfl rfl ?_
    exact ret 45 _ _ _ _ _ dX9_home_45 (by first | rfl | exact bI_n | decide) (⟨(by rw [hh]; exact (by have hB : kP (S 51 0) (S 44 0) u B := hB; (try simp only [up3_k _ (show (44 : Nat) ≠ 40 by decide), up3_k _ (show (41 : Nat) ≠ 40 by decide), up3_k _ (show (43 : Nat) ≠ 40 by decide), up3_k _ (show (49 : Nat) ≠ 40 by decide), up3_k _ (show (50 : Nat) ≠ 40 by decide), up3_k _ (show (51 : Nat) ≠ 40 by decide), up3_k _ (show (52 : Nat) ≠ 40 by decide), up3_k _ (show (53 : Nat) ≠ 40 by decide), sA_s, sA_n _ _ (show (40 : Nat) ≠ 44 by decide), sA_n _ _ (show (40 : Nat) ≠ 49 by decide), sA_n _ _ (show (40 : Nat) ≠ 50 by decide), sA_n _ _ (show (40 : Nat) ≠ 51 by decide), sA_n _ _ (show (40 : Nat) ≠ 52 by decide), sA_n _ _ (show (41 : Nat) ≠ 44 by decide), sA_n _ _ (show (41 : Nat) ≠ 49 by decide), sA_n _ _ (show (41 : Nat) ≠ 50 by decide), sA_n _ _ (show (41 : Nat) ≠ 51 by decide), sA_n _ _ (show (41 : Nat) ≠ 52 by decide), sA_n _ _ (show (43 : Nat) ≠ 44 by decide), sA_n _ _ (show (43 : Nat) ≠ 49 by decide), sA_n _ _ (show (43 : Nat) ≠ 50 by decide), sA_n _ _ (show (43 : Nat) ≠ 51 by decide), sA_n _ _ (show (43 : Nat) ≠ 52 by decide), sA_n _ _ (show (44 : Nat) ≠ 49 by decide), sA_n _ _ (show (44 : Nat) ≠ 50 by decide), sA_n _ _ (show (44 : Nat) ≠ 51 by decide), sA_n _ _ (show (44 : Nat) ≠ 52 by decide), sA_n _ _ (show (49 : Nat) ≠ 44 by decide), sA_n _ _ (show (49 : Nat) ≠ 50 by decide), sA_n _ _ (show (49 : Nat) ≠ 51 by decide), sA_n _ _ (show (49 : Nat) ≠ 52 by decide), sA_n _ _ (show (50 : Nat) ≠ 44 by decide), sA_n _ _ (show (50 : Nat) ≠ 49 by decide), sA_n _ _ (show (50 : Nat) ≠ 51 by decide), sA_n _ _ (show (50 : Nat) ≠ 52 by decide), sA_n _ _ (show (51 : Nat) ≠ 44 by decide), sA_n _ _ (show (51 : Nat) ≠ 49 by decide), sA_n _ _ (show (51 : Nat) ≠ 50 by decide), sA_n _ _ (show (51 : Nat) ≠ 52 by decide), sA_n _ _ (show (52 : Nat) ≠ 44 by decide), sA_n _ _ (show (52 : Nat) ≠ 49 by decide), sA_n _ _ (show (52 : Nat) ≠ 50 by decide), sA_n _ _ (show (52 : Nat) ≠ 51 by decide), sA_n _ _ (show (53 : Nat) ≠ 44 by decide), sA_n _ _ (show (53 : Nat) ≠ 49 by decide), sA_n _ _ (show (53 : Nat) ≠ 50 by decide), sA_n _ _ (show (53 : Nat) ≠ 51 by decide), sA_n _ _ (show (53 : Nat) ≠ 52 by decide), up3_sA _ (show (40 : Nat) ≠ 44 by decide), up3_sA _ (show (40 : Nat) ≠ 49 by decide), up3_sA _ (show (40 : Nat) ≠ 50 by decide), up3_sA _ (show (40 : Nat) ≠ 51 by decide), up3_sA _ (show (40 : Nat) ≠ 52 by decide), sA_44_49, sA_44_50, sA_49_50, sA_44_51, sA_49_51, sA_50_51, sA_44_52, sA_sA, up3_up3, sA_up44, up3_26_27, up3_sA _ (show (40 : Nat) ≠ 52 by decide)]); first | exact rC.top ((rC0_b hB).s (Or.inr (Or.inr rfl))) | exact rC.top (((rC0_c hB).s (Or.inr (Or.inr rfl))).s (Or.inr (Or.inl rfl))) | exact rC.top (((rC0_b hB).s (Or.inr (Or.inr rfl))).s (Or.inr (Or.inl rfl))) | exact ⟨(rC0_b hB).s (Or.inr (Or.inr rfl)), rfl⟩)), rfl, rfl, rfl⟩)
  · obtain ⟨q, hq, hqe⟩ := hI.1.resolve_left h29
    have hqe : (S 44 0) 2 = nI q := hqe
    have hh := fHome_s (by omega) hqe
    refine z_aload_n C 32 0 1 dX9_home_32 rfl rfl ?_
    refine z_iload_n C 33 1 0 dX9_home_33 rfl rfl ?_
    refine z_st (st := [.int (nI q), .ref (ad 40 0)]) (by rw [← hqe]; rfl) ?_
    refine z_cVv0 C 34 dX9_home_34 cv_X9_260 (c_X9_rests hR (by first | assumption | omega)) rfl ⟨by decide, rfl⟩ (by first | assumption | exact Nat.zero_lt_one | omega) rfl rfl (Nat.le_of_ble_eq_true rfl) ⟨by decide, by decide⟩ ⟨rfl, rfl⟩ ⟨by decide, by decide⟩ ?_
    intro S34 L34 R34 p34
    obtain ⟨rfl, rfl, rfl⟩ := p34
    refine z_aload_n C 37 0 1 dX9_home_37 rfl rfl ?_
    refine z_getr C 38 dX9_home_38 gf_X9_20 rfl (by first | assumption | exact Nat.zero_lt_one | omega) (by first | exact hR _ _ _ _ rfl | assumption) ?_
    refine z_iconst (v := nI 2) C 41 dX9_home_41 (by decide) ?_
    refine z_iconst (v := (-1)) C 42 dX9_home_42 (by decide) ?_
    refine z_iast C 43 dX9_home_43 (by first | rfl | assumption) (by first | assumption | exact Nat.zero_lt_one | omega)  (by first | rfl | assumption) (by first | decide | omega) (by first | assumption | omega) ?_
    refine z_iload_n C 44 1 0 dX9_home_44 rfl rfl ?_
    exact ret 45 _ _ _ _ _ dX9_home_45 (by first | rfl | exact bI_n | decide) (⟨(by rw [hh]; exact (by have hB : kP (S 51 0) (S 44 0) u B := hB; (try simp only [up3_k _ (show (44 : Nat) ≠ 40 by decide), up3_k _ (show (41 : Nat) ≠ 40 by decide), up3_k _ (show (43 : Nat) ≠ 40 by decide), up3_k _ (show (49 : Nat) ≠ 40 by decide), up3_k _ (show (50 : Nat) ≠ 40 by decide), up3_k _ (show (51 : Nat) ≠ 40 by decide), up3_k _ (show (52 : Nat) ≠ 40 by decide), up3_k _ (show (53 : Nat) ≠ 40 by decide), sA_s, sA_n _ _ (show (40 : Nat) ≠ 44 by decide), sA_n _ _ (show (40 : Nat) ≠ 49 by decide), sA_n _ _ (show (40 : Nat) ≠ 50 by decide), sA_n _ _ (show (40 : Nat) ≠ 51 by decide), sA_n _ _ (show (40 : Nat) ≠ 52 by decide), sA_n _ _ (show (41 : Nat) ≠ 44 by decide), sA_n _ _ (show (41 : Nat) ≠ 49 by decide), sA_n _ _ (show (41 : Nat) ≠ 50 by decide), sA_n _ _ (show (41 : Nat) ≠ 51 by decide), sA_n _ _ (show (41 : Nat) ≠ 52 by decide), sA_n _ _ (show (43 : Nat) ≠ 44 by decide), sA_n _ _ (show (43 : Nat) ≠ 49 by decide), sA_n _ _ (show (43 : Nat) ≠ 50 by decide), sA_n _ _ (show (43 : Nat) ≠ 51 by decide), sA_n _ _ (show (43 : Nat) ≠ 52 by decide), sA_n _ _ (show (44 : Nat) ≠ 49 by decide), sA_n _ _ (show (44 : Nat) ≠ 50 by decide), sA_n _ _ (show (44 : Nat) ≠ 51 by decide), sA_n _ _ (show (44 : Nat) ≠ 52 by decide), sA_n _ _ (show (49 : Nat) ≠ 44 by decide), sA_n _ _ (show (49 : Nat) ≠ 50 by decide), sA_n _ _ (show (49 : Nat) ≠ 51 by decide), sA_n _ _ (show (49 : Nat) ≠ 52 by decide), sA_n _ _ (show (50 : Nat) ≠ 44 by decide), sA_n _ _ (show (50 : Nat) ≠ 49 by decide), sA_n _ _ (show (50 : Nat) ≠ 51 by decide), sA_n _ _ (show (50 : Nat) ≠ 52 by decide), sA_n _ _ (show (51 : Nat) ≠ 44 by decide), sA_n _ _ (show (51 : Nat) ≠ 49 by decide), sA_n _ _ (show (51 : Nat) ≠ 50 by decide), sA_n _ _ (show (51 : Nat) ≠ 52 by decide), sA_n _ _ (show (52 : Nat) ≠ 44 by decide), sA_n _ _ (show (52 : Nat) ≠ 49 by decide), sA_n _ _ (show (52 : Nat) ≠ 50 by decide), sA_n _ _ (show (52 : Nat) ≠ 51 by decide), sA_n _ _ (show (53 : Nat) ≠ 44 by decide), sA_n _ _ (show (53 : Nat) ≠ 49 by decide), sA_n _ _ (show (53 : Nat) ≠ 50 by decide), sA_n _ _ (show (53 : Nat) ≠ 51 by decide), sA_n _ _ (show (53 : Nat) ≠ 52 by decide), up3_sA _ (show (40 : Nat) ≠ 44 by decide), up3_sA _ (show (40 : Nat) ≠ 49 by decide), up3_sA _ (show (40 : Nat) ≠ 50 by decide), up3_sA _ (show (40 : Nat) ≠ 51 by decide), up3_sA _ (show (40 : Nat) ≠ 52 by decide), sA_44_49, sA_44_50, sA_49_50, sA_44_51, sA_49_51, sA_50_51, sA_44_52, sA_sA, up3_up3, sA_up44, up3_26_27, up3_sA _ (show (40 : Nat) ≠ 52 by decide)]); first | exact rC.top ((rC0_b hB).s (Or.inr (Or.inr rfl))) | exact rC.top (((rC0_c hB).s (Or.inr (Or.inr rfl))).s (Or.inr (Or.inl rfl))) | exact rC.top (((rC0_b hB).s (Or.inr (Or.inr rfl))).s (Or.inr (Or.inl rfl))) | exact ⟨(rC0_b hB).s (Or.inr (Or.inr rfl)), rfl⟩)), rfl, rfl, rfl⟩)
def rm_X9_touch : Room := { frames := 2, cells := 0, slots := 0, locals := 45 }
set_option maxHeartbeats 4000000 in
set_option maxRecDepth 100000 in
theorem c_X9_touch {l : Launch} {G : mG} {ad : mA} {S : mS} {L : mL} {R : mR} {n q u : Nat} {v : Nat} (hR : mlk R) (hu : S 40 0 27 = nI u) (hu10 : u ≤ 10) (hI : rI (S 44 0) n) (hn10 : n ≤ 10) (hq : q < n) (hqe : (S 44 0) 2 = nI q) (hv : v ≤ 999) : Ki l yX9_touch cX9_touch 2 .int rm_X9_touch G ad mdm [.ref (ad 40 0), .int (nI v)] S L R (fun r_ S2 L2 R2 => rC S S2 (fTake (S 44 0) q (nI v)) u ∧ r_ = nI 31 * fo (S 44 0) q 3 + nI v ∧ L = L2 ∧ R = R2) := by
  refine Ki.of RX9 (by decide) rfl (Nat.le_of_ble_eq_true rfl) ?_
  intro X hXl hXG C ret
  subst hXl; subst hXG
  change Z X 2 ad mdm S L R 0 0 0 [(0, _), (1, _)] []
  refine z_aload_n C 0 0 0 dX9_touch_0 rfl rfl ?_
  refine z_iconst (v := nI 0) C 1 dX9_touch_1 (by decide) ?_
  refine z_puti C 2 dX9_touch_2 gf_X9_65 ⟨rfl, rfl⟩ rfl (by first | assumption | exact Nat.zero_lt_one | omega) ?_
  refine z_aload_n C 5 0 0 dX9_touch_5 rfl rfl ?_
  refine z_iload_n C 6 1 1 dX9_touch_6 rfl rfl ?_
  refine z_iconst (v := nI 0) C 7 dX9_touch_7 (by decide) ?_
  refine z_sipush (v := nI 999) C 8 dX9_touch_8 (by decide +kernel) ?_
  refine z_cSi0 C 11 dX9_touch_11 cs_X9_89 (c_X9_within_1 (by omega) (by omega) (by first | decide | omega)) rfl rfl (Nat.le_of_ble_eq_true rfl) ⟨by decide, by decide⟩ ⟨rfl, rfl⟩ ⟨by decide, by decide⟩ ?_
  intro r11 S11 L11 R11 p11
  obtain ⟨rfl, rfl, rfl, rfl⟩ := p11
  first | with_reducible refine z_if_neB C 14 21 dX9_touch_14 (by decide) (fun h14 => ?_) (fun h14 => by omega) | with_reducible refine z_if_neN C 14 21 dX9_touch_14 (by decide) (by omega) (fun h14 => ?_) (fun h14 => by omega) | refine z_if_ne C 14 21 dX9_touch_14 (by decide) (fun h14 => ?_) (fun h14 => by omega)
  · refine z_iconst (v := nI 0) C 21 dX9_touch_21 (by decide) ?_
    refine z_iconst (v := nI 1) C 22 dX9_touch_22 (by decide) ?_
    refine z_cVi0 C 23 dX9_touch_23 cv_X9_185 (c_X9_throwsIf_0 hR (by first | assumption | rfl)) rfl ⟨by decide, rfl⟩ (by first | assumption | exact Nat.zero_lt_one | omega) rfl rfl (Nat.le_of_ble_eq_true rfl) ⟨by decide, by decide⟩ ⟨rfl, rfl⟩ ⟨by decide, by decide⟩ ?_
    intro r23 S23 L23 R23 p23
    obtain ⟨rfl, rfl, rfl, rfl⟩ := p23
    first | with_reducible refine z_if_neB C 26 52 dX9_touch_26 (by decide) (fun h26 => by omega) (fun h26 => ?_) | with_reducible refine z_if_neN C 26 52 dX9_touch_26 (by decide) (by omega) (fun h26 => by omega) (fun h26 => ?_) | refine z_if_ne C 26 52 dX9_touch_26 (by decide) (fun h26 => by omega) (fun h26 => ?_)
    · refine z_aload_n C 29 0 0 dX9_touch_29 rfl rfl ?_
      refine z_aload_n C 30 0 0 dX9_touch_30 rfl rfl ?_
      refine z_getr C 31 dX9_touch_31 gf_X9_20 rfl (by first | assumption | exact Nat.zero_lt_one | omega) (by first | exact hR _ _ _ _ rfl | assumption) ?_
      refine z_iconst (v := nI 2) C 34 dX9_touch_34 (by decide) ?_
      refine z_iald C 35 dX9_touch_35 (by first | rfl | assumption) (by first | assumption | exact Nat.zero_lt_one | omega) (by first | rfl | assumption) (by first | decide | omega) (by first | assumption | omega) ?_
      refine z_iconst (v := (-1)) C 36 dX9_touch_36 (by decide) ?_
      first | with_reducible refine z_icmp_neN C 37 44 dX9_touch_37 (by decide) (by omega) (by omega) (fun h37 => ?_) (fun h37 => absurd (hqe.symm.trans h37) (nI_m1 (by omega))) | refine z_icmp_ne C 37 44 dX9_touch_37 (by decide) (fun h37 => ?_) (fun h37 => absurd (hqe.symm.trans h37) (nI_m1 (by omega)))
      · refine z_iconst (v := nI 0) C 44 dX9_touch_44 (by decide) ?_
        refine z_iconst (v := nI 2) C 45 dX9_touch_45 (by decide) ?_
        refine z_cVi0 C 46 dX9_touch_46 cv_X9_185 (c_X9_throwsIf_0 hR (by first | assumption | rfl)) rfl ⟨by decide, rfl⟩ (by first | assumption | exact Nat.zero_lt_one | omega) rfl rfl (Nat.le_of_ble_eq_true rfl) ⟨by decide, by decide⟩ ⟨rfl, rfl⟩ ⟨by decide, by decide⟩ ?_
        intro r46 S46 L46 R46 p46
        obtain ⟨rfl, rfl, rfl, rfl⟩ := p46
        first | with_reducible refine z_if_eqB C 49 54 dX9_touch_49 (by decide) (fun h49 => ?_) (fun h49 => by omega) | with_reducible refine z_if_eqN C 49 54 dX9_touch_49 (by decide) (by omega) (fun h49 => ?_) (fun h49 => by omega) | refine z_if_eq C 49 54 dX9_touch_49 (by decide) (fun h49 => ?_) (fun h49 => by omega)
        · refine z_aload_n C 54 0 0 dX9_touch_54 rfl rfl ?_
          refine z_getr C 55 dX9_touch_55 gf_X9_20 rfl (by first | assumption | exact Nat.zero_lt_one | omega) (by first | exact hR _ _ _ _ rfl | assumption) ?_
          refine z_aload_n C 58 0 0 dX9_touch_58 rfl rfl ?_
          refine z_getr C 59 dX9_touch_59 gf_X9_43 rfl (by first | assumption | exact Nat.zero_lt_one | omega) (by first | exact hR _ _ _ _ rfl | assumption) ?_
          refine z_cSv0 C 62 dX9_touch_62 cs_X9_269 (c_X9_puts (by rfl) (by rfl) (by first | assumption | exact Nat.zero_lt_one | omega) (by first | assumption | exact Nat.zero_lt_one | omega) (by decide)) rfl rfl (Nat.le_of_ble_eq_true rfl) ⟨by decide, by decide⟩ ⟨rfl, rfl⟩ ⟨by decide, by decide⟩ ?_
          intro S62 L62 R62 p62
          obtain ⟨rfl, rfl, rfl⟩ := p62
          refine z_aload_n C 65 0 0 dX9_touch_65 rfl rfl ?_
          refine z_cVv0 C 66 dX9_touch_66 cv_X9_306 (c_X9_keeps (u := u) hR hu hu10) rfl ⟨by decide, rfl⟩ (by first | assumption | exact Nat.zero_lt_one | omega) rfl rfl (Nat.le_of_ble_eq_true rfl) ⟨by decide, by decide⟩ ⟨rfl, rfl⟩ ⟨by decide, by decide⟩ ?_
          intro S66 L66 R66 p66
          obtain ⟨⟨B, rfl, hB⟩, rfl, rfl⟩ := p66
          refine z_aload_n C 69 0 0 dX9_touch_69 rfl rfl ?_
          refine z_aload_n C 70 0 0 dX9_touch_70 rfl rfl ?_
          refine z_getr C 71 dX9_touch_71 gf_X9_20 rfl (by first | assumption | exact Nat.zero_lt_one | omega) (by first | exact hR _ _ _ _ rfl | assumption) ?_
          refine z_iconst (v := nI 2) C 74 dX9_touch_74 (by decide) ?_
          refine z_iald C 75 dX9_touch_75 rfl (by exact Nat.zero_lt_one) (by rfl) (by decide) (by decide) ?_
          refine z_st (st := [.int (nI q), .ref (ad 40 0)]) (by rw [← hqe]; rfl) ?_
          refine z_iload_n C 76 1 1 dX9_touch_76 rfl rfl ?_
          refine z_cVi0 C 77 dX9_touch_77 cv_X9_312 (c_X9_takesIn hR (by omega)) rfl ⟨by decide, rfl⟩ (by first | assumption | exact Nat.zero_lt_one | omega) rfl rfl (Nat.le_of_ble_eq_true rfl) ⟨by decide, by decide⟩ ⟨rfl, rfl⟩ ⟨by decide, by decide⟩ ?_
          intro r77 S77 L77 R77 p77
          obtain ⟨rfl, rfl, rfl, rfl⟩ := p77
          exact ret 80 _ _ _ _ _ dX9_touch_80 (by first | rfl | exact bI_n | decide) (⟨(by have hB : kP (S 51 0) (S 44 0) u B := hB; (try simp only [up3_k _ (show (44 : Nat) ≠ 40 by decide), up3_k _ (show (41 : Nat) ≠ 40 by decide), up3_k _ (show (43 : Nat) ≠ 40 by decide), up3_k _ (show (49 : Nat) ≠ 40 by decide), up3_k _ (show (50 : Nat) ≠ 40 by decide), up3_k _ (show (51 : Nat) ≠ 40 by decide), up3_k _ (show (52 : Nat) ≠ 40 by decide), up3_k _ (show (53 : Nat) ≠ 40 by decide), sA_s, sA_n _ _ (show (40 : Nat) ≠ 44 by decide), sA_n _ _ (show (40 : Nat) ≠ 49 by decide), sA_n _ _ (show (40 : Nat) ≠ 50 by decide), sA_n _ _ (show (40 : Nat) ≠ 51 by decide), sA_n _ _ (show (40 : Nat) ≠ 52 by decide), sA_n _ _ (show (41 : Nat) ≠ 44 by decide), sA_n _ _ (show (41 : Nat) ≠ 49 by decide), sA_n _ _ (show (41 : Nat) ≠ 50 by decide), sA_n _ _ (show (41 : Nat) ≠ 51 by decide), sA_n _ _ (show (41 : Nat) ≠ 52 by decide), sA_n _ _ (show (43 : Nat) ≠ 44 by decide), sA_n _ _ (show (43 : Nat) ≠ 49 by decide), sA_n _ _ (show (43 : Nat) ≠ 50 by decide), sA_n _ _ (show (43 : Nat) ≠ 51 by decide), sA_n _ _ (show (43 : Nat) ≠ 52 by decide), sA_n _ _ (show (44 : Nat) ≠ 49 by decide), sA_n _ _ (show (44 : Nat) ≠ 50 by decide), sA_n _ _ (show (44 : Nat) ≠ 51 by decide), sA_n _ _ (show (44 : Nat) ≠ 52 by decide), sA_n _ _ (show (49 : Nat) ≠ 44 by decide), sA_n _ _ (show (49 : Nat) ≠ 50 by decide), sA_n _ _ (show (49 : Nat) ≠ 51 by decide), sA_n _ _ (show (49 : Nat) ≠ 52 by decide), sA_n _ _ (show (50 : Nat) ≠ 44 by decide), sA_n _ _ (show (50 : Nat) ≠ 49 by decide), sA_n _ _ (show (50 : Nat) ≠ 51 by decide), sA_n _ _ (show (50 : Nat) ≠ 52 by decide), sA_n _ _ (show (51 : Nat) ≠ 44 by decide), sA_n _ _ (show (51 : Nat) ≠ 49 by decide), sA_n _ _ (show (51 : Nat) ≠ 50 by decide), sA_n _ _ (show (51 : Nat) ≠ 52 by decide), sA_n _ _ (show (52 : Nat) ≠ 44 by decide), sA_n _ _ (show (52 : Nat) ≠ 49 by decide), sA_n _ _ (show (52 : Nat) ≠ 50 by decide), sA_n _ _ (show (52 : Nat) ≠ 51 by decide), sA_n _ _ (show (53 : Nat) ≠ 44 by decide), sA_n _ _ (show (53 : Nat) ≠ 49 by decide), sA_n _ _ (show (53 : Nat) ≠ 50 by decide), sA_n _ _ (show (53 : Nat) ≠ 51 by decide), sA_n _ _ (show (53 : Nat) ≠ 52 by decide), up3_sA _ (show (40 : Nat) ≠ 44 by decide), up3_sA _ (show (40 : Nat) ≠ 49 by decide), up3_sA _ (show (40 : Nat) ≠ 50 by decide), up3_sA _ (show (40 : Nat) ≠ 51 by decide), up3_sA _ (show (40 : Nat) ≠ 52 by decide), sA_44_49, sA_44_50, sA_49_50, sA_44_51, sA_49_51, sA_50_51, sA_44_52, sA_sA, up3_up3, sA_up44, up3_26_27, up3_sA _ (show (40 : Nat) ≠ 52 by decide)]); first | exact rC.top ((rC0_b hB).s (Or.inr (Or.inr rfl))) | exact rC.top (((rC0_c hB).s (Or.inr (Or.inr rfl))).s (Or.inr (Or.inl rfl))) | exact rC.top (((rC0_b hB).s (Or.inr (Or.inr rfl))).s (Or.inr (Or.inl rfl))) | exact ⟨(rC0_b hB).s (Or.inr (Or.inr rfl)), rfl⟩), rfl, rfl, rfl⟩)

set_option maxHeartbeats 4000000 in
set_option maxRecDepth 100000 in
theorem c_X9_touch_1 {l : Launch} {G : mG} {ad : mA} {S : mS} {L : mL} {R : mR} {x : Int32} (hR : mlk R) (hx : ¬ isR 0 999 x) : Ki l yX9_touch cX9_touch 2 .int rm_X9_touch G ad mdm [.ref (ad 40 0), .int x] S L R (fun r_ S2 L2 R2 => rQ S S2 1 ∧ L = L2 ∧ R = R2) := by
  refine Ki.of RX9 (by decide) rfl (Nat.le_of_ble_eq_true rfl) ?_
  intro X hXl hXG C ret
  subst hXl; subst hXG
  change Z X 2 ad mdm S L R 0 0 0 [(0, _), (1, _)] []
  refine z_aload_n C 0 0 0 dX9_touch_0 rfl rfl ?_
  refine z_iconst (v := nI 0) C 1 dX9_touch_1 (by decide) ?_
  refine z_puti C 2 dX9_touch_2 gf_X9_65 ⟨rfl, rfl⟩ rfl (by first | assumption | exact Nat.zero_lt_one | omega) ?_
  refine z_aload_n C 5 0 0 dX9_touch_5 rfl rfl ?_
  refine z_iload_n C 6 1 1 dX9_touch_6 rfl rfl ?_
  refine z_iconst (v := nI 0) C 7 dX9_touch_7 (by decide) ?_
  refine z_sipush (v := nI 999) C 8 dX9_touch_8 (by decide +kernel) ?_
  refine z_cSi0 C 11 dX9_touch_11 cs_X9_89 (c_X9_within_0 hx (by decide) (by decide)) rfl rfl (Nat.le_of_ble_eq_true rfl) ⟨by decide, by decide⟩ ⟨rfl, rfl⟩ ⟨by decide, by decide⟩ ?_
  intro r11 S11 L11 R11 p11
  obtain ⟨rfl, rfl, rfl, rfl⟩ := p11
  first | with_reducible refine z_if_neB C 14 21 dX9_touch_14 (by decide) (fun h14 => by omega) (fun h14 => ?_) | with_reducible refine z_if_neN C 14 21 dX9_touch_14 (by decide) (by omega) (fun h14 => by omega) (fun h14 => ?_) | refine z_if_ne C 14 21 dX9_touch_14 (by decide) (fun h14 => by omega) (fun h14 => ?_)
  · refine z_iconst (v := nI 1) C 17 dX9_touch_17 (by decide) ?_
    refine z_goto C 18 22 dX9_touch_18 (by decide) ?_
    refine z_iconst (v := nI 1) C 22 dX9_touch_22 (by decide) ?_
    refine z_cVi0 C 23 dX9_touch_23 cv_X9_185 (c_X9_throwsIf_1 hR (by first | assumption | rfl) (by decide) (by decide)) rfl ⟨by decide, rfl⟩ (by first | assumption | exact Nat.zero_lt_one | omega) rfl rfl (Nat.le_of_ble_eq_true rfl) ⟨by decide, by decide⟩ ⟨rfl, rfl⟩ ⟨by decide, by decide⟩ ?_
    intro r23 S23 L23 R23 p23
    obtain ⟨rfl, rfl, rfl, rfl⟩ := p23
    first | with_reducible refine z_if_neB C 26 52 dX9_touch_26 (by decide) (fun h26 => ?_) (fun h26 => by omega) | with_reducible refine z_if_neN C 26 52 dX9_touch_26 (by decide) (by omega) (fun h26 => ?_) (fun h26 => by omega) | refine z_if_ne C 26 52 dX9_touch_26 (by decide) (fun h26 => ?_) (fun h26 => by omega)
    · refine z_iconst (v := nI 0) C 52 dX9_touch_52 (by decide) ?_
      exact ret 53 _ _ _ _ _ dX9_touch_53 (by first | rfl | exact bI_n | decide) (⟨(by first | exact rQ_t _ _ | (simp only [up3_up3]; exact rQ_t _ _)), rfl, rfl⟩)

set_option maxHeartbeats 4000000 in
set_option maxRecDepth 100000 in
theorem c_X9_touch_2 {l : Launch} {G : mG} {ad : mA} {S : mS} {L : mL} {R : mR} {v : Nat} (hR : mlk R) (hv : v ≤ 999) (hm : (S 44 0) 2 = -1) : Ki l yX9_touch cX9_touch 2 .int rm_X9_touch G ad mdm [.ref (ad 40 0), .int (nI v)] S L R (fun r_ S2 L2 R2 => rQ S S2 2 ∧ L = L2 ∧ R = R2) := by
  refine Ki.of RX9 (by decide) rfl (Nat.le_of_ble_eq_true rfl) ?_
  intro X hXl hXG C ret
  subst hXl; subst hXG
  change Z X 2 ad mdm S L R 0 0 0 [(0, _), (1, _)] []
  refine z_aload_n C 0 0 0 dX9_touch_0 rfl rfl ?_
  refine z_iconst (v := nI 0) C 1 dX9_touch_1 (by decide) ?_
  refine z_puti C 2 dX9_touch_2 gf_X9_65 ⟨rfl, rfl⟩ rfl (by first | assumption | exact Nat.zero_lt_one | omega) ?_
  refine z_aload_n C 5 0 0 dX9_touch_5 rfl rfl ?_
  refine z_iload_n C 6 1 1 dX9_touch_6 rfl rfl ?_
  refine z_iconst (v := nI 0) C 7 dX9_touch_7 (by decide) ?_
  refine z_sipush (v := nI 999) C 8 dX9_touch_8 (by decide +kernel) ?_
  refine z_cSi0 C 11 dX9_touch_11 cs_X9_89 (c_X9_within_1 (by omega) (by omega) (by first | decide | omega)) rfl rfl (Nat.le_of_ble_eq_true rfl) ⟨by decide, by decide⟩ ⟨rfl, rfl⟩ ⟨by decide, by decide⟩ ?_
  intro r11 S11 L11 R11 p11
  obtain ⟨rfl, rfl, rfl, rfl⟩ := p11
  first | with_reducible refine z_if_neB C 14 21 dX9_touch_14 (by decide) (fun h14 => ?_) (fun h14 => by omega) | with_reducible refine z_if_neN C 14 21 dX9_touch_14 (by decide) (by omega) (fun h14 => ?_) (fun h14 => by omega) | refine z_if_ne C 14 21 dX9_touch_14 (by decide) (fun h14 => ?_) (fun h14 => by omega)
  · refine z_iconst (v := nI 0) C 21 dX9_touch_21 (by decide) ?_
    refine z_iconst (v := nI 1) C 22 dX9_touch_22 (by decide) ?_
    refine z_cVi0 C 23 dX9_touch_23 cv_X9_185 (c_X9_throwsIf_0 hR (by first | assumption | rfl)) rfl ⟨by decide, rfl⟩ (by first | assumption | exact Nat.zero_lt_one | omega) rfl rfl (Nat.le_of_ble_eq_true rfl) ⟨by decide, by decide⟩ ⟨rfl, rfl⟩ ⟨by decide, by decide⟩ ?_
    intro r23 S23 L23 R23 p23
    obtain ⟨rfl, rfl, rfl, rfl⟩ := p23
    first | with_reducible refine z_if_neB C 26 52 dX9_touch_26 (by decide) (fun h26 => by omega) (fun h26 => ?_) | with_reducible refine z_if_neN C 26 52 dX9_touch_26 (by decide) (by omega) (fun h26 => by omega) (fun h26 => ?_) | refine z_if_ne C 26 52 dX9_touch_26 (by decide) (fun h26 => by omega) (fun h26 => ?_)
    · refine z_aload_n C 29 0 0 dX9_touch_29 rfl rfl ?_
      refine z_aload_n C 30 0 0 dX9_touch_30 rfl rfl ?_
      refine z_getr C 31 dX9_touch_31 gf_X9_20 rfl (by first | assumption | exact Nat.zero_lt_one | omega) (by first | exact hR _ _ _ _ rfl | assumption) ?_
      refine z_iconst (v := nI 2) C 34 dX9_touch_34 (by decide) ?_
      refine z_iald C 35 dX9_touch_35 (by first | rfl | assumption) (by first | assumption | exact Nat.zero_lt_one | omega) (by first | rfl | assumption) (by first | decide | omega) (by first | assumption | omega) ?_
      refine z_iconst (v := (-1)) C 36 dX9_touch_36 (by decide) ?_
      first | with_reducible refine z_icmp_neN C 37 44 dX9_touch_37 (by decide) (by omega) (by omega) (fun h37 => absurd hm h37) (fun h37 => ?_) | refine z_icmp_ne C 37 44 dX9_touch_37 (by decide) (fun h37 => absurd hm h37) (fun h37 => ?_)
      · refine z_iconst (v := nI 1) C 40 dX9_touch_40 (by decide) ?_
        refine z_goto C 41 45 dX9_touch_41 (by decide) ?_
        refine z_iconst (v := nI 2) C 45 dX9_touch_45 (by decide) ?_
        refine z_cVi0 C 46 dX9_touch_46 cv_X9_185 (c_X9_throwsIf_1 hR (by first | assumption | rfl) (by decide) (by decide)) rfl ⟨by decide, rfl⟩ (by first | assumption | exact Nat.zero_lt_one | omega) rfl rfl (Nat.le_of_ble_eq_true rfl) ⟨by decide, by decide⟩ ⟨rfl, rfl⟩ ⟨by decide, by decide⟩ ?_
        intro r46 S46 L46 R46 p46
        obtain ⟨rfl, rfl, rfl, rfl⟩ := p46
        first | with_reducible refine z_if_eqB C 49 54 dX9_touch_49 (by decide) (fun h49 => by omega) (fun h49 => ?_) | with_reducible refine z_if_eqN C 49 54 dX9_touch_49 (by decide) (by omega) (fun h49 => by omega) (fun h49 => ?_) | refine z_if_eq C 49 54 dX9_touch_49 (by decide) (fun h49 => by omega) (fun h49 => ?_)
        · refine z_iconst (v := nI 0) C 52 dX9_touch_52 (by decide) ?_
          exact ret 53 _ _ _ _ _ dX9_touch_53 (by first | rfl | exact bI_n | decide) (⟨(by first | exact rQ_t _ _ | (simp only [up3_up3]; exact rQ_t _ _)), rfl, rfl⟩)
def rm_X9_pass : Room := { frames := 9, cells := 0, slots := 0, locals := 206 }
set_option maxHeartbeats 4000000 in
set_option maxRecDepth 100000 in
theorem c_X9_pass {l : Launch} {G : mG} {ad : mA} {S : mS} {L : mL} {R : mR} {n m u : Nat} (hR : mlk R) (hu : S 40 0 27 = nI u) (hu10 : u ≤ 10) (hn : S 40 0 1 = nI n) (hn10 : n ≤ 10) (hI : rI (S 44 0) n) (hm1 : 1 ≤ m) (hm2 : m ≤ 240) : Ki l yX9_pass cX9_pass 4 .int rm_X9_pass G ad mdm [.ref (ad 40 0), .int (nI m)] S L R (fun r_ S2 L2 R2 => rC S S2 ((fPassN (S 44 0) (S 41 0) n m).2) u ∧ r_ = nI (fPassN (S 44 0) (S 41 0) n m).1 ∧ L = L2 ∧ R = R2) := by
  refine Ki.of RX9 (by decide) rfl (Nat.le_of_ble_eq_true rfl) ?_
  intro X hXl hXG C ret
  subst hXl; subst hXG
  change Z X 4 ad mdm S L R 0 0 0 [(0, _), (1, _)] []
  refine z_aload_n C 0 0 0 dX9_pass_0 rfl rfl ?_
  refine z_iconst (v := nI 0) C 1 dX9_pass_1 (by decide) ?_
  refine z_puti C 2 dX9_pass_2 gf_X9_65 ⟨rfl, rfl⟩ rfl (by first | assumption | exact Nat.zero_lt_one | omega) ?_
  refine z_aload_n C 5 0 0 dX9_pass_5 rfl rfl ?_
  refine z_iload_n C 6 1 1 dX9_pass_6 rfl rfl ?_
  refine z_iconst (v := nI 1) C 7 dX9_pass_7 (by decide) ?_
  refine z_sipush (v := nI 240) C 8 dX9_pass_8 (by decide +kernel) ?_
  refine z_cSi0 C 11 dX9_pass_11 cs_X9_89 (c_X9_within_1 (by omega) (by omega) (by first | decide | omega)) rfl rfl (Nat.le_of_ble_eq_true rfl) ⟨by decide, by decide⟩ ⟨rfl, rfl⟩ ⟨by decide, by decide⟩ ?_
  intro r11 S11 L11 R11 p11
  obtain ⟨rfl, rfl, rfl, rfl⟩ := p11
  first | with_reducible refine z_if_neB C 14 21 dX9_pass_14 (by decide) (fun h14 => ?_) (fun h14 => by omega) | with_reducible refine z_if_neN C 14 21 dX9_pass_14 (by decide) (by omega) (fun h14 => ?_) (fun h14 => by omega) | refine z_if_ne C 14 21 dX9_pass_14 (by decide) (fun h14 => ?_) (fun h14 => by omega)
  · refine z_iconst (v := nI 0) C 21 dX9_pass_21 (by decide) ?_
    refine z_iconst (v := nI 1) C 22 dX9_pass_22 (by decide) ?_
    refine z_cVi0 C 23 dX9_pass_23 cv_X9_185 (c_X9_throwsIf_0 hR (by first | assumption | rfl)) rfl ⟨by decide, rfl⟩ (by first | assumption | exact Nat.zero_lt_one | omega) rfl rfl (Nat.le_of_ble_eq_true rfl) ⟨by decide, by decide⟩ ⟨rfl, rfl⟩ ⟨by decide, by decide⟩ ?_
    intro r23 S23 L23 R23 p23
    obtain ⟨rfl, rfl, rfl, rfl⟩ := p23
    first | with_reducible refine z_if_eqB C 26 31 dX9_pass_26 (by decide) (fun h26 => ?_) (fun h26 => by omega) | with_reducible refine z_if_eqN C 26 31 dX9_pass_26 (by decide) (by omega) (fun h26 => ?_) (fun h26 => by omega) | refine z_if_eq C 26 31 dX9_pass_26 (by decide) (fun h26 => ?_) (fun h26 => by omega)
    · refine z_aload_n C 31 0 0 dX9_pass_31 rfl rfl ?_
      refine z_getr C 32 dX9_pass_32 gf_X9_20 rfl (by first | assumption | exact Nat.zero_lt_one | omega) (by first | exact hR _ _ _ _ rfl | assumption) ?_
      refine z_aload_n C 35 0 0 dX9_pass_35 rfl rfl ?_
      refine z_getr C 36 dX9_pass_36 gf_X9_43 rfl (by first | assumption | exact Nat.zero_lt_one | omega) (by first | exact hR _ _ _ _ rfl | assumption) ?_
      refine z_cSv0 C 39 dX9_pass_39 cs_X9_269 (c_X9_puts (by rfl) (by rfl) (by first | assumption | exact Nat.zero_lt_one | omega) (by first | assumption | exact Nat.zero_lt_one | omega) (by decide)) rfl rfl (Nat.le_of_ble_eq_true rfl) ⟨by decide, by decide⟩ ⟨rfl, rfl⟩ ⟨by decide, by decide⟩ ?_
      intro S39 L39 R39 p39
      obtain ⟨rfl, rfl, rfl⟩ := p39
      refine z_aload_n C 42 0 0 dX9_pass_42 rfl rfl ?_
      refine z_cVv0 C 43 dX9_pass_43 cv_X9_306 (c_X9_keeps (u := u) hR hu hu10) rfl ⟨by decide, rfl⟩ (by first | assumption | exact Nat.zero_lt_one | omega) rfl rfl (Nat.le_of_ble_eq_true rfl) ⟨by decide, by decide⟩ ⟨rfl, rfl⟩ ⟨by decide, by decide⟩ ?_
      intro S43 L43 R43 p43
      obtain ⟨⟨B, rfl, hB⟩, rfl, rfl⟩ := p43
      refine z_iconst (v := nI 0) C 46 dX9_pass_46 (by decide) ?_
      refine z_istore_n C 47 2 [(2, _), (0, _), (1, _)] dX9_pass_47 rfl (by decide) rfl ?_
      refine z_iconst (v := nI 0) C 48 dX9_pass_48 (by decide) ?_
      refine z_istore_n C 49 3 [(3, _), (2, _), (0, _), (1, _)] dX9_pass_49 rfl (by decide) rfl ?_
      have loop_50 : ∀ (n_50 : Nat) (i a : Nat) (K : NN), i ≤ m → a = (fPassN (S 44 0) (S 41 0) n i).1 → rI (fPassN (S 44 0) (S 41 0) n i).2 n → m - i < n_50 → Z X 4 ad mdm (sA (sA (sA (sA (up3 (up3 S 40 0 0 (nI 0)) 40 0 27 (nI (if u = 10 then 10 else u + 1))) 51 B) 50 (S 44 0)) 49 K) 44 (fPassN (S 44 0) (S 41 0) n i).2) L R 0 0 50 [(0, .ref (ad 40 0)), (1, .int (nI m)), (2, .int (nI a)), (3, .int (nI i))] [] := by
        intro n_50
        induction n_50 with
        | zero => intro i a K him ha hi hm50; exact absurd hm50 (Nat.not_lt_zero _)
        | succ n_50 ih50 =>
          intro i a K him ha hi hm50
          refine z_iload_n C 50 3 3 dX9_pass_50 rfl rfl ?_
          refine z_iload_n C 51 1 1 dX9_pass_51 rfl rfl ?_
          first | with_reducible refine z_icmp_geN C 52 68 dX9_pass_52 (by decide) (by omega) (by omega) (fun h52 => ?_) (fun h52 => ?_) | refine z_icmp_ge C 52 68 dX9_pass_52 (by decide) (fun h52 => ?_) (fun h52 => ?_)
          · refine z_iload_n C 68 2 2 dX9_pass_68 rfl rfl ?_
            exact ret 69 _ _ _ _ _ dX9_pass_69 (by first | rfl | exact bI_n | decide) (⟨(by rw [show m = i by omega]; exact (by have hB : kP (S 51 0) (S 44 0) u B := hB; (try simp only [up3_k _ (show (44 : Nat) ≠ 40 by decide), up3_k _ (show (41 : Nat) ≠ 40 by decide), up3_k _ (show (43 : Nat) ≠ 40 by decide), up3_k _ (show (49 : Nat) ≠ 40 by decide), up3_k _ (show (50 : Nat) ≠ 40 by decide), up3_k _ (show (51 : Nat) ≠ 40 by decide), up3_k _ (show (52 : Nat) ≠ 40 by decide), up3_k _ (show (53 : Nat) ≠ 40 by decide), sA_s, sA_n _ _ (show (40 : Nat) ≠ 44 by decide), sA_n _ _ (show (40 : Nat) ≠ 49 by decide), sA_n _ _ (show (40 : Nat) ≠ 50 by decide), sA_n _ _ (show (40 : Nat) ≠ 51 by decide), sA_n _ _ (show (40 : Nat) ≠ 52 by decide), sA_n _ _ (show (41 : Nat) ≠ 44 by decide), sA_n _ _ (show (41 : Nat) ≠ 49 by decide), sA_n _ _ (show (41 : Nat) ≠ 50 by decide), sA_n _ _ (show (41 : Nat) ≠ 51 by decide), sA_n _ _ (show (41 : Nat) ≠ 52 by decide), sA_n _ _ (show (43 : Nat) ≠ 44 by decide), sA_n _ _ (show (43 : Nat) ≠ 49 by decide), sA_n _ _ (show (43 : Nat) ≠ 50 by decide), sA_n _ _ (show (43 : Nat) ≠ 51 by decide), sA_n _ _ (show (43 : Nat) ≠ 52 by decide), sA_n _ _ (show (44 : Nat) ≠ 49 by decide), sA_n _ _ (show (44 : Nat) ≠ 50 by decide), sA_n _ _ (show (44 : Nat) ≠ 51 by decide), sA_n _ _ (show (44 : Nat) ≠ 52 by decide), sA_n _ _ (show (49 : Nat) ≠ 44 by decide), sA_n _ _ (show (49 : Nat) ≠ 50 by decide), sA_n _ _ (show (49 : Nat) ≠ 51 by decide), sA_n _ _ (show (49 : Nat) ≠ 52 by decide), sA_n _ _ (show (50 : Nat) ≠ 44 by decide), sA_n _ _ (show (50 : Nat) ≠ 49 by decide), sA_n _ _ (show (50 : Nat) ≠ 51 by decide), sA_n _ _ (show (50 : Nat) ≠ 52 by decide), sA_n _ _ (show (51 : Nat) ≠ 44 by decide), sA_n _ _ (show (51 : Nat) ≠ 49 by decide), sA_n _ _ (show (51 : Nat) ≠ 50 by decide), sA_n _ _ (show (51 : Nat) ≠ 52 by decide), sA_n _ _ (show (52 : Nat) ≠ 44 by decide), sA_n _ _ (show (52 : Nat) ≠ 49 by decide), sA_n _ _ (show (52 : Nat) ≠ 50 by decide), sA_n _ _ (show (52 : Nat) ≠ 51 by decide), sA_n _ _ (show (53 : Nat) ≠ 44 by decide), sA_n _ _ (show (53 : Nat) ≠ 49 by decide), sA_n _ _ (show (53 : Nat) ≠ 50 by decide), sA_n _ _ (show (53 : Nat) ≠ 51 by decide), sA_n _ _ (show (53 : Nat) ≠ 52 by decide), up3_sA _ (show (40 : Nat) ≠ 44 by decide), up3_sA _ (show (40 : Nat) ≠ 49 by decide), up3_sA _ (show (40 : Nat) ≠ 50 by decide), up3_sA _ (show (40 : Nat) ≠ 51 by decide), up3_sA _ (show (40 : Nat) ≠ 52 by decide), sA_44_49, sA_44_50, sA_49_50, sA_44_51, sA_49_51, sA_50_51, sA_44_52, sA_sA, up3_up3, sA_up44, up3_26_27, up3_sA _ (show (40 : Nat) ≠ 52 by decide)]); first | exact rC.top ((rC0_b hB).s (Or.inr (Or.inr rfl))) | exact rC.top (((rC0_c hB).s (Or.inr (Or.inr rfl))).s (Or.inr (Or.inl rfl))) | exact rC.top (((rC0_b hB).s (Or.inr (Or.inr rfl))).s (Or.inr (Or.inl rfl))) | exact ⟨(rC0_b hB).s (Or.inr (Or.inr rfl)), rfl⟩)), (by rw [ha, show m = i by omega]), rfl, rfl⟩)
          · refine z_iload_n C 55 2 2 dX9_pass_55 rfl rfl ?_
            refine z_aload_n C 56 0 0 dX9_pass_56 rfl rfl ?_
            refine z_cVi0 C 57 dX9_pass_57 cv_X9_309 (c_X9_passes (n := n) hR hn hn10 hi) rfl ⟨by decide, rfl⟩ (by first | assumption | exact Nat.zero_lt_one | omega) rfl rfl (Nat.le_of_ble_eq_true rfl) ⟨by decide, by decide⟩ ⟨rfl, rfl⟩ ⟨by decide, by decide⟩ ?_
            intro r57 S57 L57 R57 p57
            obtain ⟨rfl, ⟨K3, rfl⟩, rfl, rfl⟩ := p57
            first | with_reducible refine z_iaddN C 60 dX9_pass_60 ?_ | refine z_iadd C 60 dX9_pass_60 ?_
            refine z_istore_n C 61 2 [(2, _), (0, _), (1, _), (3, _)] dX9_pass_61 rfl (by decide) rfl ?_
            refine z_iinc C 62 3 3 [(3, _), (2, _), (0, _), (1, _)] dX9_pass_62 rfl (by first | exact nI_1 _ | rfl) (by decide) rfl ?_
            refine z_goto C 65 50 dX9_pass_65 (by decide) ?_
            refine z_sub [(0, _), (1, _), (2, _), (3, _)] [2, 3, 1, 0] rfl ?_
            refine z_mem (sA (sA (sA (sA (up3 (up3 S 40 0 0 (nI 0)) 40 0 27 (nI (if u = 10 then 10 else u + 1))) 51 B) 50 (S 44 0)) 49 K3) 44 (fPassN (S 44 0) (S 41 0) n (i + 1)).2) (by simp only [up3_k _ (show (44 : Nat) ≠ 40 by decide), up3_k _ (show (41 : Nat) ≠ 40 by decide), up3_k _ (show (43 : Nat) ≠ 40 by decide), up3_k _ (show (49 : Nat) ≠ 40 by decide), up3_k _ (show (50 : Nat) ≠ 40 by decide), up3_k _ (show (51 : Nat) ≠ 40 by decide), up3_k _ (show (52 : Nat) ≠ 40 by decide), up3_k _ (show (53 : Nat) ≠ 40 by decide), sA_s, sA_n _ _ (show (40 : Nat) ≠ 44 by decide), sA_n _ _ (show (40 : Nat) ≠ 49 by decide), sA_n _ _ (show (40 : Nat) ≠ 50 by decide), sA_n _ _ (show (40 : Nat) ≠ 51 by decide), sA_n _ _ (show (40 : Nat) ≠ 52 by decide), sA_n _ _ (show (41 : Nat) ≠ 44 by decide), sA_n _ _ (show (41 : Nat) ≠ 49 by decide), sA_n _ _ (show (41 : Nat) ≠ 50 by decide), sA_n _ _ (show (41 : Nat) ≠ 51 by decide), sA_n _ _ (show (41 : Nat) ≠ 52 by decide), sA_n _ _ (show (43 : Nat) ≠ 44 by decide), sA_n _ _ (show (43 : Nat) ≠ 49 by decide), sA_n _ _ (show (43 : Nat) ≠ 50 by decide), sA_n _ _ (show (43 : Nat) ≠ 51 by decide), sA_n _ _ (show (43 : Nat) ≠ 52 by decide), sA_n _ _ (show (44 : Nat) ≠ 49 by decide), sA_n _ _ (show (44 : Nat) ≠ 50 by decide), sA_n _ _ (show (44 : Nat) ≠ 51 by decide), sA_n _ _ (show (44 : Nat) ≠ 52 by decide), sA_n _ _ (show (49 : Nat) ≠ 44 by decide), sA_n _ _ (show (49 : Nat) ≠ 50 by decide), sA_n _ _ (show (49 : Nat) ≠ 51 by decide), sA_n _ _ (show (49 : Nat) ≠ 52 by decide), sA_n _ _ (show (50 : Nat) ≠ 44 by decide), sA_n _ _ (show (50 : Nat) ≠ 49 by decide), sA_n _ _ (show (50 : Nat) ≠ 51 by decide), sA_n _ _ (show (50 : Nat) ≠ 52 by decide), sA_n _ _ (show (51 : Nat) ≠ 44 by decide), sA_n _ _ (show (51 : Nat) ≠ 49 by decide), sA_n _ _ (show (51 : Nat) ≠ 50 by decide), sA_n _ _ (show (51 : Nat) ≠ 52 by decide), sA_n _ _ (show (52 : Nat) ≠ 44 by decide), sA_n _ _ (show (52 : Nat) ≠ 49 by decide), sA_n _ _ (show (52 : Nat) ≠ 50 by decide), sA_n _ _ (show (52 : Nat) ≠ 51 by decide), sA_n _ _ (show (53 : Nat) ≠ 44 by decide), sA_n _ _ (show (53 : Nat) ≠ 49 by decide), sA_n _ _ (show (53 : Nat) ≠ 50 by decide), sA_n _ _ (show (53 : Nat) ≠ 51 by decide), sA_n _ _ (show (53 : Nat) ≠ 52 by decide), up3_sA _ (show (40 : Nat) ≠ 44 by decide), up3_sA _ (show (40 : Nat) ≠ 49 by decide), up3_sA _ (show (40 : Nat) ≠ 50 by decide), up3_sA _ (show (40 : Nat) ≠ 51 by decide), up3_sA _ (show (40 : Nat) ≠ 52 by decide), sA_44_49, sA_44_50, sA_49_50, sA_44_51, sA_49_51, sA_50_51, sA_44_52, sA_sA, up3_up3, sA_up44, up3_26_27, up3_sA _ (show (40 : Nat) ≠ 52 by decide)]; rfl) ?_
            exact ih50 (i + 1) _ _ (by omega) (by rw [ha]; rfl) (hI.passN hn10 (i + 1)) (by omega)
      refine z_sub [(0, _), (1, _), (2, _), (3, _)] [2, 3, 1, 0] rfl ?_
      refine z_mem (sA (sA (sA (sA (up3 (up3 S 40 0 0 (nI 0)) 40 0 27 (nI (if u = 10 then 10 else u + 1))) 51 B) 50 (S 44 0)) 49 (S 49 0)) 44 (fPassN (S 44 0) (S 41 0) n 0).2) (by simp only [up3_k _ (show (44 : Nat) ≠ 40 by decide), up3_k _ (show (41 : Nat) ≠ 40 by decide), up3_k _ (show (43 : Nat) ≠ 40 by decide), up3_k _ (show (49 : Nat) ≠ 40 by decide), up3_k _ (show (50 : Nat) ≠ 40 by decide), up3_k _ (show (51 : Nat) ≠ 40 by decide), up3_k _ (show (52 : Nat) ≠ 40 by decide), up3_k _ (show (53 : Nat) ≠ 40 by decide), sA_s, sA_n _ _ (show (40 : Nat) ≠ 44 by decide), sA_n _ _ (show (40 : Nat) ≠ 49 by decide), sA_n _ _ (show (40 : Nat) ≠ 50 by decide), sA_n _ _ (show (40 : Nat) ≠ 51 by decide), sA_n _ _ (show (40 : Nat) ≠ 52 by decide), sA_n _ _ (show (41 : Nat) ≠ 44 by decide), sA_n _ _ (show (41 : Nat) ≠ 49 by decide), sA_n _ _ (show (41 : Nat) ≠ 50 by decide), sA_n _ _ (show (41 : Nat) ≠ 51 by decide), sA_n _ _ (show (41 : Nat) ≠ 52 by decide), sA_n _ _ (show (43 : Nat) ≠ 44 by decide), sA_n _ _ (show (43 : Nat) ≠ 49 by decide), sA_n _ _ (show (43 : Nat) ≠ 50 by decide), sA_n _ _ (show (43 : Nat) ≠ 51 by decide), sA_n _ _ (show (43 : Nat) ≠ 52 by decide), sA_n _ _ (show (44 : Nat) ≠ 49 by decide), sA_n _ _ (show (44 : Nat) ≠ 50 by decide), sA_n _ _ (show (44 : Nat) ≠ 51 by decide), sA_n _ _ (show (44 : Nat) ≠ 52 by decide), sA_n _ _ (show (49 : Nat) ≠ 44 by decide), sA_n _ _ (show (49 : Nat) ≠ 50 by decide), sA_n _ _ (show (49 : Nat) ≠ 51 by decide), sA_n _ _ (show (49 : Nat) ≠ 52 by decide), sA_n _ _ (show (50 : Nat) ≠ 44 by decide), sA_n _ _ (show (50 : Nat) ≠ 49 by decide), sA_n _ _ (show (50 : Nat) ≠ 51 by decide), sA_n _ _ (show (50 : Nat) ≠ 52 by decide), sA_n _ _ (show (51 : Nat) ≠ 44 by decide), sA_n _ _ (show (51 : Nat) ≠ 49 by decide), sA_n _ _ (show (51 : Nat) ≠ 50 by decide), sA_n _ _ (show (51 : Nat) ≠ 52 by decide), sA_n _ _ (show (52 : Nat) ≠ 44 by decide), sA_n _ _ (show (52 : Nat) ≠ 49 by decide), sA_n _ _ (show (52 : Nat) ≠ 50 by decide), sA_n _ _ (show (52 : Nat) ≠ 51 by decide), sA_n _ _ (show (53 : Nat) ≠ 44 by decide), sA_n _ _ (show (53 : Nat) ≠ 49 by decide), sA_n _ _ (show (53 : Nat) ≠ 50 by decide), sA_n _ _ (show (53 : Nat) ≠ 51 by decide), sA_n _ _ (show (53 : Nat) ≠ 52 by decide), up3_sA _ (show (40 : Nat) ≠ 44 by decide), up3_sA _ (show (40 : Nat) ≠ 49 by decide), up3_sA _ (show (40 : Nat) ≠ 50 by decide), up3_sA _ (show (40 : Nat) ≠ 51 by decide), up3_sA _ (show (40 : Nat) ≠ 52 by decide), sA_44_49, sA_44_50, sA_49_50, sA_44_51, sA_49_51, sA_50_51, sA_44_52, sA_sA, up3_up3, sA_up44, up3_26_27, up3_sA _ (show (40 : Nat) ≠ 52 by decide)]; exact (mid_49 _ _ _ _ _ rfl rfl).symm) ?_
      exact loop_50 (m + 1) 0 0 _ (Nat.zero_le _) rfl hI (by omega)

set_option maxHeartbeats 4000000 in
set_option maxRecDepth 100000 in
theorem c_X9_pass_1 {l : Launch} {G : mG} {ad : mA} {S : mS} {L : mL} {R : mR} {x : Int32} (hR : mlk R) (hx : ¬ isR 1 240 x) : Ki l yX9_pass cX9_pass 4 .int rm_X9_pass G ad mdm [.ref (ad 40 0), .int x] S L R (fun r_ S2 L2 R2 => rQ S S2 1 ∧ L = L2 ∧ R = R2) := by
  refine Ki.of RX9 (by decide) rfl (Nat.le_of_ble_eq_true rfl) ?_
  intro X hXl hXG C ret
  subst hXl; subst hXG
  change Z X 4 ad mdm S L R 0 0 0 [(0, _), (1, _)] []
  refine z_aload_n C 0 0 0 dX9_pass_0 rfl rfl ?_
  refine z_iconst (v := nI 0) C 1 dX9_pass_1 (by decide) ?_
  refine z_puti C 2 dX9_pass_2 gf_X9_65 ⟨rfl, rfl⟩ rfl (by first | assumption | exact Nat.zero_lt_one | omega) ?_
  refine z_aload_n C 5 0 0 dX9_pass_5 rfl rfl ?_
  refine z_iload_n C 6 1 1 dX9_pass_6 rfl rfl ?_
  refine z_iconst (v := nI 1) C 7 dX9_pass_7 (by decide) ?_
  refine z_sipush (v := nI 240) C 8 dX9_pass_8 (by decide +kernel) ?_
  refine z_cSi0 C 11 dX9_pass_11 cs_X9_89 (c_X9_within_0 hx (by decide) (by decide)) rfl rfl (Nat.le_of_ble_eq_true rfl) ⟨by decide, by decide⟩ ⟨rfl, rfl⟩ ⟨by decide, by decide⟩ ?_
  intro r11 S11 L11 R11 p11
  obtain ⟨rfl, rfl, rfl, rfl⟩ := p11
  first | with_reducible refine z_if_neB C 14 21 dX9_pass_14 (by decide) (fun h14 => by omega) (fun h14 => ?_) | with_reducible refine z_if_neN C 14 21 dX9_pass_14 (by decide) (by omega) (fun h14 => by omega) (fun h14 => ?_) | refine z_if_ne C 14 21 dX9_pass_14 (by decide) (fun h14 => by omega) (fun h14 => ?_)
  · refine z_iconst (v := nI 1) C 17 dX9_pass_17 (by decide) ?_
    refine z_goto C 18 22 dX9_pass_18 (by decide) ?_
    refine z_iconst (v := nI 1) C 22 dX9_pass_22 (by decide) ?_
    refine z_cVi0 C 23 dX9_pass_23 cv_X9_185 (c_X9_throwsIf_1 hR (by first | assumption | rfl) (by decide) (by decide)) rfl ⟨by decide, rfl⟩ (by first | assumption | exact Nat.zero_lt_one | omega) rfl rfl (Nat.le_of_ble_eq_true rfl) ⟨by decide, by decide⟩ ⟨rfl, rfl⟩ ⟨by decide, by decide⟩ ?_
    intro r23 S23 L23 R23 p23
    obtain ⟨rfl, rfl, rfl, rfl⟩ := p23
    first | with_reducible refine z_if_eqB C 26 31 dX9_pass_26 (by decide) (fun h26 => by omega) (fun h26 => ?_) | with_reducible refine z_if_eqN C 26 31 dX9_pass_26 (by decide) (by omega) (fun h26 => by omega) (fun h26 => ?_) | refine z_if_eq C 26 31 dX9_pass_26 (by decide) (fun h26 => by omega) (fun h26 => ?_)
    · refine z_iconst (v := nI 0) C 29 dX9_pass_29 (by decide) ?_
      exact ret 30 _ _ _ _ _ dX9_pass_30 (by first | rfl | exact bI_n | decide) (⟨(by first | exact rQ_t _ _ | (simp only [up3_up3]; exact rQ_t _ _)), rfl, rfl⟩)
def rm_X9_send : Room := { frames := 3, cells := 0, slots := 0, locals := 65 }
set_option maxHeartbeats 4000000 in
set_option maxRecDepth 100000 in
theorem c_X9_send {l : Launch} {G : mG} {ad : mA} {S : mS} {L : mL} {R : mR} {n p u w v : Nat} (hR : mlk R) (hu : S 40 0 27 = nI u) (hu10 : u ≤ 10) (hn : S 40 0 1 = nI n) (hn10 : n ≤ 10) (hI : rI (S 44 0) n) (hp : p < n) (hw : fo (S 44 0) p 15 = nI w) (hw5 : w ≤ 5) (hv : v ≤ 999) : Ki l yX9_send cX9_send 5 .int rm_X9_send G ad mdm [.ref (ad 40 0), .int (nI p), .int (nI v)] S L R (fun r_ S2 L2 R2 => rC S S2 (fSend (S 44 0) p w (nI v)) u ∧ r_ = fo (fSend (S 44 0) p w (nI v)) p 15 ∧ L = L2 ∧ R = R2) := by
  refine Ki.of RX9 (by decide) rfl (Nat.le_of_ble_eq_true rfl) ?_
  intro X hXl hXG C ret
  subst hXl; subst hXG
  change Z X 5 ad mdm S L R 0 0 0 [(0, _), (1, _), (2, _)] []
  refine z_aload_n C 0 0 0 dX9_send_0 rfl rfl ?_
  refine z_iload_n C 1 1 1 dX9_send_1 rfl rfl ?_
  refine z_cVi0 C 2 dX9_send_2 cv_X9_291 (c_X9_noProgram hR hn hn10 (by assumption)) rfl ⟨by decide, rfl⟩ (by first | assumption | exact Nat.zero_lt_one | omega) rfl rfl (Nat.le_of_ble_eq_true rfl) ⟨by decide, by decide⟩ ⟨rfl, rfl⟩ ⟨by decide, by decide⟩ ?_
  intro r2 S2 L2 R2 p2
  obtain ⟨rfl, rfl, rfl, rfl⟩ := p2
  first | with_reducible refine z_if_neB C 5 32 dX9_send_5 (by decide) (fun h5 => by omega) (fun h5 => ?_) | with_reducible refine z_if_neN C 5 32 dX9_send_5 (by decide) (by omega) (fun h5 => by omega) (fun h5 => ?_) | refine z_if_ne C 5 32 dX9_send_5 (by decide) (fun h5 => by omega) (fun h5 => ?_)
  · refine z_aload_n C 8 0 0 dX9_send_8 rfl rfl ?_
    refine z_iload_n C 9 2 2 dX9_send_9 rfl rfl ?_
    refine z_iconst (v := nI 0) C 10 dX9_send_10 (by decide) ?_
    refine z_sipush (v := nI 999) C 11 dX9_send_11 (by decide +kernel) ?_
    refine z_cSi0 C 14 dX9_send_14 cs_X9_89 (c_X9_within_1 (by omega) (by omega) (by first | decide | omega)) rfl rfl (Nat.le_of_ble_eq_true rfl) ⟨by decide, by decide⟩ ⟨rfl, rfl⟩ ⟨by decide, by decide⟩ ?_
    intro r14 S14 L14 R14 p14
    obtain ⟨rfl, rfl, rfl, rfl⟩ := p14
    first | with_reducible refine z_if_neB C 17 24 dX9_send_17 (by decide) (fun h17 => ?_) (fun h17 => by omega) | with_reducible refine z_if_neN C 17 24 dX9_send_17 (by decide) (by omega) (fun h17 => ?_) (fun h17 => by omega) | refine z_if_ne C 17 24 dX9_send_17 (by decide) (fun h17 => ?_) (fun h17 => by omega)
    · refine z_iconst (v := nI 0) C 24 dX9_send_24 (by decide) ?_
      refine z_iconst (v := nI 2) C 25 dX9_send_25 (by decide) ?_
      refine z_cVi0 C 26 dX9_send_26 cv_X9_185 (c_X9_throwsIf_0 hR (by first | assumption | rfl)) rfl ⟨by decide, rfl⟩ (by first | assumption | exact Nat.zero_lt_one | omega) rfl rfl (Nat.le_of_ble_eq_true rfl) ⟨by decide, by decide⟩ ⟨rfl, rfl⟩ ⟨by decide, by decide⟩ ?_
      intro r26 S26 L26 R26 p26
      obtain ⟨rfl, rfl, rfl, rfl⟩ := p26
      first | with_reducible refine z_if_eqB C 29 34 dX9_send_29 (by decide) (fun h29 => ?_) (fun h29 => by omega) | with_reducible refine z_if_eqN C 29 34 dX9_send_29 (by decide) (by omega) (fun h29 => ?_) (fun h29 => by omega) | refine z_if_eq C 29 34 dX9_send_29 (by decide) (fun h29 => ?_) (fun h29 => by omega)
      · refine z_aload_n C 34 0 0 dX9_send_34 rfl rfl ?_
        refine z_getr C 35 dX9_send_35 gf_X9_20 rfl (by first | assumption | exact Nat.zero_lt_one | omega) (by first | exact hR _ _ _ _ rfl | assumption) ?_
        refine z_aload_n C 38 0 0 dX9_send_38 rfl rfl ?_
        refine z_getr C 39 dX9_send_39 gf_X9_43 rfl (by first | assumption | exact Nat.zero_lt_one | omega) (by first | exact hR _ _ _ _ rfl | assumption) ?_
        refine z_cSv0 C 42 dX9_send_42 cs_X9_269 (c_X9_puts (by rfl) (by rfl) (by first | assumption | exact Nat.zero_lt_one | omega) (by first | assumption | exact Nat.zero_lt_one | omega) (by decide)) rfl rfl (Nat.le_of_ble_eq_true rfl) ⟨by decide, by decide⟩ ⟨rfl, rfl⟩ ⟨by decide, by decide⟩ ?_
        intro S42 L42 R42 p42
        obtain ⟨rfl, rfl, rfl⟩ := p42
        refine z_aload_n C 45 0 0 dX9_send_45 rfl rfl ?_
        refine z_cVv0 C 46 dX9_send_46 cv_X9_306 (c_X9_keeps (u := u) hR hu hu10) rfl ⟨by decide, rfl⟩ (by first | assumption | exact Nat.zero_lt_one | omega) rfl rfl (Nat.le_of_ble_eq_true rfl) ⟨by decide, by decide⟩ ⟨rfl, rfl⟩ ⟨by decide, by decide⟩ ?_
        intro S46 L46 R46 p46
        obtain ⟨⟨B, rfl, hB⟩, rfl, rfl⟩ := p46
        refine z_aload_n C 49 0 0 dX9_send_49 rfl rfl ?_
        refine z_iload_n C 50 1 1 dX9_send_50 rfl rfl ?_
        refine z_iconst (v := nI 0) C 51 dX9_send_51 (by decide) ?_
        refine z_cVi0 C 52 dX9_send_52 cv_X9_203 (c_X9_of hR (by first | assumption | omega) (by omega)) rfl ⟨by decide, rfl⟩ (by first | assumption | exact Nat.zero_lt_one | omega) rfl rfl (Nat.le_of_ble_eq_true rfl) ⟨by decide, by decide⟩ ⟨rfl, rfl⟩ ⟨by decide, by decide⟩ ?_
        intro r52 S52 L52 R52 p52
        obtain ⟨rfl, rfl, rfl, rfl⟩ := p52
        refine z_istore_n C 55 3 [(3, _), (0, _), (1, _), (2, _)] dX9_send_55 rfl (by decide) rfl ?_
        refine z_iload_n C 56 3 0 dX9_send_56 rfl rfl ?_
        refine z_iconst (v := nI 1) C 57 dX9_send_57 (by decide) ?_
        first | with_reducible refine z_icmp_neN C 58 72 dX9_send_58 (by decide) (by omega) (by omega) (fun h58 => ?_) (fun h58 => ?_) | refine z_icmp_ne C 58 72 dX9_send_58 (by decide) (fun h58 => ?_) (fun h58 => ?_)
        · have h58 : ¬ fo (S 44 0) p 0 = nI 1 := h58
          refine z_iload_n C 72 3 0 dX9_send_72 rfl rfl ?_
          first | with_reducible refine z_if_eqB C 73 129 dX9_send_73 (by decide) (fun h73 => ?_) (fun h73 => ?_) | with_reducible refine z_if_eqN C 73 129 dX9_send_73 (by decide) (by omega) (fun h73 => ?_) (fun h73 => ?_) | refine z_if_eq C 73 129 dX9_send_73 (by decide) (fun h73 => ?_) (fun h73 => ?_)
          · have h73 : fo (S 44 0) p 0 = 0 := h73
            have hs := fSend_0 (w := w) (v := nI v) h73
            refine z_aload_n C 129 0 1 dX9_send_129 rfl rfl ?_
            refine z_iload_n C 130 1 2 dX9_send_130 rfl rfl ?_
            refine z_bipush (v := nI 15) C 131 dX9_send_131 (by decide +kernel) ?_
            refine z_cVi0 C 133 dX9_send_133 cv_X9_203 (c_X9_of hR (by first | assumption | omega) (by omega)) rfl ⟨by decide, rfl⟩ (by first | assumption | exact Nat.zero_lt_one | omega) rfl rfl (Nat.le_of_ble_eq_true rfl) ⟨by decide, by decide⟩ ⟨rfl, rfl⟩ ⟨by decide, by decide⟩ ?_
            intro r133 S133 L133 R133 p133
            obtain ⟨rfl, rfl, rfl, rfl⟩ := p133
            exact ret 136 _ _ _ _ _ dX9_send_136 (by first | rfl | exact bI_n | decide) (⟨(by rw [hs]; exact (by have hB : kP (S 51 0) (S 44 0) u B := hB; (try simp only [up3_k _ (show (44 : Nat) ≠ 40 by decide), up3_k _ (show (41 : Nat) ≠ 40 by decide), up3_k _ (show (43 : Nat) ≠ 40 by decide), up3_k _ (show (49 : Nat) ≠ 40 by decide), up3_k _ (show (50 : Nat) ≠ 40 by decide), up3_k _ (show (51 : Nat) ≠ 40 by decide), up3_k _ (show (52 : Nat) ≠ 40 by decide), up3_k _ (show (53 : Nat) ≠ 40 by decide), sA_s, sA_n _ _ (show (40 : Nat) ≠ 44 by decide), sA_n _ _ (show (40 : Nat) ≠ 49 by decide), sA_n _ _ (show (40 : Nat) ≠ 50 by decide), sA_n _ _ (show (40 : Nat) ≠ 51 by decide), sA_n _ _ (show (40 : Nat) ≠ 52 by decide), sA_n _ _ (show (41 : Nat) ≠ 44 by decide), sA_n _ _ (show (41 : Nat) ≠ 49 by decide), sA_n _ _ (show (41 : Nat) ≠ 50 by decide), sA_n _ _ (show (41 : Nat) ≠ 51 by decide), sA_n _ _ (show (41 : Nat) ≠ 52 by decide), sA_n _ _ (show (43 : Nat) ≠ 44 by decide), sA_n _ _ (show (43 : Nat) ≠ 49 by decide), sA_n _ _ (show (43 : Nat) ≠ 50 by decide), sA_n _ _ (show (43 : Nat) ≠ 51 by decide), sA_n _ _ (show (43 : Nat) ≠ 52 by decide), sA_n _ _ (show (44 : Nat) ≠ 49 by decide), sA_n _ _ (show (44 : Nat) ≠ 50 by decide), sA_n _ _ (show (44 : Nat) ≠ 51 by decide), sA_n _ _ (show (44 : Nat) ≠ 52 by decide), sA_n _ _ (show (49 : Nat) ≠ 44 by decide), sA_n _ _ (show (49 : Nat) ≠ 50 by decide), sA_n _ _ (show (49 : Nat) ≠ 51 by decide), sA_n _ _ (show (49 : Nat) ≠ 52 by decide), sA_n _ _ (show (50 : Nat) ≠ 44 by decide), sA_n _ _ (show (50 : Nat) ≠ 49 by decide), sA_n _ _ (show (50 : Nat) ≠ 51 by decide), sA_n _ _ (show (50 : Nat) ≠ 52 by decide), sA_n _ _ (show (51 : Nat) ≠ 44 by decide), sA_n _ _ (show (51 : Nat) ≠ 49 by decide), sA_n _ _ (show (51 : Nat) ≠ 50 by decide), sA_n _ _ (show (51 : Nat) ≠ 52 by decide), sA_n _ _ (show (52 : Nat) ≠ 44 by decide), sA_n _ _ (show (52 : Nat) ≠ 49 by decide), sA_n _ _ (show (52 : Nat) ≠ 50 by decide), sA_n _ _ (show (52 : Nat) ≠ 51 by decide), sA_n _ _ (show (53 : Nat) ≠ 44 by decide), sA_n _ _ (show (53 : Nat) ≠ 49 by decide), sA_n _ _ (show (53 : Nat) ≠ 50 by decide), sA_n _ _ (show (53 : Nat) ≠ 51 by decide), sA_n _ _ (show (53 : Nat) ≠ 52 by decide), up3_sA _ (show (40 : Nat) ≠ 44 by decide), up3_sA _ (show (40 : Nat) ≠ 49 by decide), up3_sA _ (show (40 : Nat) ≠ 50 by decide), up3_sA _ (show (40 : Nat) ≠ 51 by decide), up3_sA _ (show (40 : Nat) ≠ 52 by decide), sA_44_49, sA_44_50, sA_49_50, sA_44_51, sA_49_51, sA_50_51, sA_44_52, sA_sA, up3_up3, sA_up44, up3_26_27, up3_sA _ (show (40 : Nat) ≠ 52 by decide)]); first | exact rC.top ((rC0_b hB).s (Or.inr (Or.inr rfl))) | exact rC.top (((rC0_c hB).s (Or.inr (Or.inr rfl))).s (Or.inr (Or.inl rfl))) | exact rC.top (((rC0_b hB).s (Or.inr (Or.inr rfl))).s (Or.inr (Or.inl rfl))) | exact ⟨(rC0_b hB).s (Or.inr (Or.inr rfl)), rfl⟩)), (by rw [hs]; first | rfl | (simp only [up3_k _ (show (44 : Nat) ≠ 40 by decide), up3_k _ (show (41 : Nat) ≠ 40 by decide), up3_k _ (show (43 : Nat) ≠ 40 by decide), up3_k _ (show (49 : Nat) ≠ 40 by decide), up3_k _ (show (50 : Nat) ≠ 40 by decide), up3_k _ (show (51 : Nat) ≠ 40 by decide), up3_k _ (show (52 : Nat) ≠ 40 by decide), up3_k _ (show (53 : Nat) ≠ 40 by decide), sA_s, sA_n _ _ (show (40 : Nat) ≠ 44 by decide), sA_n _ _ (show (40 : Nat) ≠ 49 by decide), sA_n _ _ (show (40 : Nat) ≠ 50 by decide), sA_n _ _ (show (40 : Nat) ≠ 51 by decide), sA_n _ _ (show (40 : Nat) ≠ 52 by decide), sA_n _ _ (show (41 : Nat) ≠ 44 by decide), sA_n _ _ (show (41 : Nat) ≠ 49 by decide), sA_n _ _ (show (41 : Nat) ≠ 50 by decide), sA_n _ _ (show (41 : Nat) ≠ 51 by decide), sA_n _ _ (show (41 : Nat) ≠ 52 by decide), sA_n _ _ (show (43 : Nat) ≠ 44 by decide), sA_n _ _ (show (43 : Nat) ≠ 49 by decide), sA_n _ _ (show (43 : Nat) ≠ 50 by decide), sA_n _ _ (show (43 : Nat) ≠ 51 by decide), sA_n _ _ (show (43 : Nat) ≠ 52 by decide), sA_n _ _ (show (44 : Nat) ≠ 49 by decide), sA_n _ _ (show (44 : Nat) ≠ 50 by decide), sA_n _ _ (show (44 : Nat) ≠ 51 by decide), sA_n _ _ (show (44 : Nat) ≠ 52 by decide), sA_n _ _ (show (49 : Nat) ≠ 44 by decide), sA_n _ _ (show (49 : Nat) ≠ 50 by decide), sA_n _ _ (show (49 : Nat) ≠ 51 by decide), sA_n _ _ (show (49 : Nat) ≠ 52 by decide), sA_n _ _ (show (50 : Nat) ≠ 44 by decide), sA_n _ _ (show (50 : Nat) ≠ 49 by decide), sA_n _ _ (show (50 : Nat) ≠ 51 by decide), sA_n _ _ (show (50 : Nat) ≠ 52 by decide), sA_n _ _ (show (51 : Nat) ≠ 44 by decide), sA_n _ _ (show (51 : Nat) ≠ 49 by decide), sA_n _ _ (show (51 : Nat) ≠ 50 by decide), sA_n _ _ (show (51 : Nat) ≠ 52 by decide), sA_n _ _ (show (52 : Nat) ≠ 44 by decide), sA_n _ _ (show (52 : Nat) ≠ 49 by decide), sA_n _ _ (show (52 : Nat) ≠ 50 by decide), sA_n _ _ (show (52 : Nat) ≠ 51 by decide), sA_n _ _ (show (53 : Nat) ≠ 44 by decide), sA_n _ _ (show (53 : Nat) ≠ 49 by decide), sA_n _ _ (show (53 : Nat) ≠ 50 by decide), sA_n _ _ (show (53 : Nat) ≠ 51 by decide), sA_n _ _ (show (53 : Nat) ≠ 52 by decide), up3_sA _ (show (40 : Nat) ≠ 44 by decide), up3_sA _ (show (40 : Nat) ≠ 49 by decide), up3_sA _ (show (40 : Nat) ≠ 50 by decide), up3_sA _ (show (40 : Nat) ≠ 51 by decide), up3_sA _ (show (40 : Nat) ≠ 52 by decide), sA_44_49, sA_44_50, sA_49_50, sA_44_51, sA_49_51, sA_50_51, sA_44_52, sA_sA, up3_up3, sA_up44, up3_26_27, up3_sA _ (show (40 : Nat) ≠ 52 by decide)]; done) | (simp only [up3_k _ (show (44 : Nat) ≠ 40 by decide), up3_k _ (show (41 : Nat) ≠ 40 by decide), up3_k _ (show (43 : Nat) ≠ 40 by decide), up3_k _ (show (49 : Nat) ≠ 40 by decide), up3_k _ (show (50 : Nat) ≠ 40 by decide), up3_k _ (show (51 : Nat) ≠ 40 by decide), up3_k _ (show (52 : Nat) ≠ 40 by decide), up3_k _ (show (53 : Nat) ≠ 40 by decide), sA_s, sA_n _ _ (show (40 : Nat) ≠ 44 by decide), sA_n _ _ (show (40 : Nat) ≠ 49 by decide), sA_n _ _ (show (40 : Nat) ≠ 50 by decide), sA_n _ _ (show (40 : Nat) ≠ 51 by decide), sA_n _ _ (show (40 : Nat) ≠ 52 by decide), sA_n _ _ (show (41 : Nat) ≠ 44 by decide), sA_n _ _ (show (41 : Nat) ≠ 49 by decide), sA_n _ _ (show (41 : Nat) ≠ 50 by decide), sA_n _ _ (show (41 : Nat) ≠ 51 by decide), sA_n _ _ (show (41 : Nat) ≠ 52 by decide), sA_n _ _ (show (43 : Nat) ≠ 44 by decide), sA_n _ _ (show (43 : Nat) ≠ 49 by decide), sA_n _ _ (show (43 : Nat) ≠ 50 by decide), sA_n _ _ (show (43 : Nat) ≠ 51 by decide), sA_n _ _ (show (43 : Nat) ≠ 52 by decide), sA_n _ _ (show (44 : Nat) ≠ 49 by decide), sA_n _ _ (show (44 : Nat) ≠ 50 by decide), sA_n _ _ (show (44 : Nat) ≠ 51 by decide), sA_n _ _ (show (44 : Nat) ≠ 52 by decide), sA_n _ _ (show (49 : Nat) ≠ 44 by decide), sA_n _ _ (show (49 : Nat) ≠ 50 by decide), sA_n _ _ (show (49 : Nat) ≠ 51 by decide), sA_n _ _ (show (49 : Nat) ≠ 52 by decide), sA_n _ _ (show (50 : Nat) ≠ 44 by decide), sA_n _ _ (show (50 : Nat) ≠ 49 by decide), sA_n _ _ (show (50 : Nat) ≠ 51 by decide), sA_n _ _ (show (50 : Nat) ≠ 52 by decide), sA_n _ _ (show (51 : Nat) ≠ 44 by decide), sA_n _ _ (show (51 : Nat) ≠ 49 by decide), sA_n _ _ (show (51 : Nat) ≠ 50 by decide), sA_n _ _ (show (51 : Nat) ≠ 52 by decide), sA_n _ _ (show (52 : Nat) ≠ 44 by decide), sA_n _ _ (show (52 : Nat) ≠ 49 by decide), sA_n _ _ (show (52 : Nat) ≠ 50 by decide), sA_n _ _ (show (52 : Nat) ≠ 51 by decide), sA_n _ _ (show (53 : Nat) ≠ 44 by decide), sA_n _ _ (show (53 : Nat) ≠ 49 by decide), sA_n _ _ (show (53 : Nat) ≠ 50 by decide), sA_n _ _ (show (53 : Nat) ≠ 51 by decide), sA_n _ _ (show (53 : Nat) ≠ 52 by decide), up3_sA _ (show (40 : Nat) ≠ 44 by decide), up3_sA _ (show (40 : Nat) ≠ 49 by decide), up3_sA _ (show (40 : Nat) ≠ 50 by decide), up3_sA _ (show (40 : Nat) ≠ 51 by decide), up3_sA _ (show (40 : Nat) ≠ 52 by decide), sA_44_49, sA_44_50, sA_49_50, sA_44_51, sA_49_51, sA_50_51, sA_44_52, sA_sA, up3_up3, sA_up44, up3_26_27, up3_sA _ (show (40 : Nat) ≠ 52 by decide)]; rfl)), rfl, rfl⟩)
          · have h73 : ¬ fo (S 44 0) p 0 = 0 := h73
            refine z_aload_n C 76 0 1 dX9_send_76 rfl rfl ?_
            refine z_iload_n C 77 1 2 dX9_send_77 rfl rfl ?_
            refine z_bipush (v := nI 15) C 78 dX9_send_78 (by decide +kernel) ?_
            refine z_cVi0 C 80 dX9_send_80 cv_X9_203 (c_X9_of hR (by first | assumption | omega) (by omega)) rfl ⟨by decide, rfl⟩ (by first | assumption | exact Nat.zero_lt_one | omega) rfl rfl (Nat.le_of_ble_eq_true rfl) ⟨by decide, by decide⟩ ⟨rfl, rfl⟩ ⟨by decide, by decide⟩ ?_
            intro r80 S80 L80 R80 p80
            obtain ⟨rfl, rfl, rfl, rfl⟩ := p80
            refine z_st (st := [.int (nI w)]) (by rw [← hw]; rfl) ?_
            refine z_iconst (v := nI 5) C 83 dX9_send_83 (by decide) ?_
            first | with_reducible refine z_icmp_neN C 84 92 dX9_send_84 (by decide) (by omega) (by omega) (fun h84 => ?_) (fun h84 => ?_) | refine z_icmp_ne C 84 92 dX9_send_84 (by decide) (fun h84 => ?_) (fun h84 => ?_)
            · have hs := fSend_n (v := nI v) h58 h73 h84
              refine z_aload_n C 92 0 1 dX9_send_92 rfl rfl ?_
              refine z_getr C 93 dX9_send_93 gf_X9_20 rfl (by first | assumption | exact Nat.zero_lt_one | omega) (by first | exact hR _ _ _ _ rfl | assumption) ?_
              refine z_sipush (v := nI 388) C 96 dX9_send_96 (by decide +kernel) ?_
              refine z_iconst (v := nI 5) C 99 dX9_send_99 (by decide) ?_
              refine z_iload_n C 100 1 2 dX9_send_100 rfl rfl ?_
              first | with_reducible refine z_imulN C 101 dX9_send_101 ?_ | refine z_imul C 101 dX9_send_101 ?_
              first | with_reducible refine z_iaddN C 102 dX9_send_102 ?_ | refine z_iadd C 102 dX9_send_102 ?_
              refine z_aload_n C 103 0 1 dX9_send_103 rfl rfl ?_
              refine z_iload_n C 104 1 2 dX9_send_104 rfl rfl ?_
              refine z_bipush (v := nI 15) C 105 dX9_send_105 (by decide +kernel) ?_
              refine z_cVi0 C 107 dX9_send_107 cv_X9_203 (c_X9_of hR (by first | assumption | omega) (by omega)) rfl ⟨by decide, rfl⟩ (by first | assumption | exact Nat.zero_lt_one | omega) rfl rfl (Nat.le_of_ble_eq_true rfl) ⟨by decide, by decide⟩ ⟨rfl, rfl⟩ ⟨by decide, by decide⟩ ?_
              intro r107 S107 L107 R107 p107
              obtain ⟨rfl, rfl, rfl, rfl⟩ := p107
              first | refine z_st (st := [.int (nI w), .int (nI (388 + 5 * p)), .ref (ad 44 0)]) (by rw [← hw]; rfl) ?_ | refine z_st (st := [.int (nI 4), .int (nI (388 + 5 * p)), .ref (ad 44 0)]) (by rw [show nI 4 = fo (fLeave (S 44 0) p 5) p 15 from (fLeave_fo15 (N := S 44 0) (p := p) (w := 5) (by omega)).symm]; rfl) ?_
              first | with_reducible refine z_iaddN C 110 dX9_send_110 ?_ | refine z_iadd C 110 dX9_send_110 ?_
              refine z_iload_n C 111 2 3 dX9_send_111 rfl rfl ?_
              refine z_iast C 112 dX9_send_112 (by first | rfl | assumption) (by first | assumption | exact Nat.zero_lt_one | omega)  (by first | rfl | assumption) (by first | decide | omega) (by first | assumption | omega) ?_
              refine z_aload_n C 113 0 1 dX9_send_113 rfl rfl ?_
              refine z_iload_n C 114 1 2 dX9_send_114 rfl rfl ?_
              refine z_bipush (v := nI 15) C 115 dX9_send_115 (by decide +kernel) ?_
              refine z_aload_n C 117 0 1 dX9_send_117 rfl rfl ?_
              refine z_iload_n C 118 1 2 dX9_send_118 rfl rfl ?_
              refine z_bipush (v := nI 15) C 119 dX9_send_119 (by decide +kernel) ?_
              refine z_cVi0 C 121 dX9_send_121 cv_X9_203 (c_X9_of hR (by first | assumption | omega) (by omega)) rfl ⟨by decide, rfl⟩ (by first | assumption | exact Nat.zero_lt_one | omega) rfl rfl (Nat.le_of_ble_eq_true rfl) ⟨by decide, by decide⟩ ⟨rfl, rfl⟩ ⟨by decide, by decide⟩ ?_
              intro r121 S121 L121 R121 p121
              obtain ⟨rfl, rfl, rfl, rfl⟩ := p121
              first | refine z_st (st := [.int (nI w), .int (nI 15), .int (nI p), .ref (ad 40 0)]) (by simp only [up3_k _ (show (44 : Nat) ≠ 40 by decide), up3_k _ (show (41 : Nat) ≠ 40 by decide), up3_k _ (show (43 : Nat) ≠ 40 by decide), up3_k _ (show (49 : Nat) ≠ 40 by decide), up3_k _ (show (50 : Nat) ≠ 40 by decide), up3_k _ (show (51 : Nat) ≠ 40 by decide), up3_k _ (show (52 : Nat) ≠ 40 by decide), up3_k _ (show (53 : Nat) ≠ 40 by decide), sA_s, sA_n _ _ (show (40 : Nat) ≠ 44 by decide), sA_n _ _ (show (40 : Nat) ≠ 49 by decide), sA_n _ _ (show (40 : Nat) ≠ 50 by decide), sA_n _ _ (show (40 : Nat) ≠ 51 by decide), sA_n _ _ (show (40 : Nat) ≠ 52 by decide), sA_n _ _ (show (41 : Nat) ≠ 44 by decide), sA_n _ _ (show (41 : Nat) ≠ 49 by decide), sA_n _ _ (show (41 : Nat) ≠ 50 by decide), sA_n _ _ (show (41 : Nat) ≠ 51 by decide), sA_n _ _ (show (41 : Nat) ≠ 52 by decide), sA_n _ _ (show (43 : Nat) ≠ 44 by decide), sA_n _ _ (show (43 : Nat) ≠ 49 by decide), sA_n _ _ (show (43 : Nat) ≠ 50 by decide), sA_n _ _ (show (43 : Nat) ≠ 51 by decide), sA_n _ _ (show (43 : Nat) ≠ 52 by decide), sA_n _ _ (show (44 : Nat) ≠ 49 by decide), sA_n _ _ (show (44 : Nat) ≠ 50 by decide), sA_n _ _ (show (44 : Nat) ≠ 51 by decide), sA_n _ _ (show (44 : Nat) ≠ 52 by decide), sA_n _ _ (show (49 : Nat) ≠ 44 by decide), sA_n _ _ (show (49 : Nat) ≠ 50 by decide), sA_n _ _ (show (49 : Nat) ≠ 51 by decide), sA_n _ _ (show (49 : Nat) ≠ 52 by decide), sA_n _ _ (show (50 : Nat) ≠ 44 by decide), sA_n _ _ (show (50 : Nat) ≠ 49 by decide), sA_n _ _ (show (50 : Nat) ≠ 51 by decide), sA_n _ _ (show (50 : Nat) ≠ 52 by decide), sA_n _ _ (show (51 : Nat) ≠ 44 by decide), sA_n _ _ (show (51 : Nat) ≠ 49 by decide), sA_n _ _ (show (51 : Nat) ≠ 50 by decide), sA_n _ _ (show (51 : Nat) ≠ 52 by decide), sA_n _ _ (show (52 : Nat) ≠ 44 by decide), sA_n _ _ (show (52 : Nat) ≠ 49 by decide), sA_n _ _ (show (52 : Nat) ≠ 50 by decide), sA_n _ _ (show (52 : Nat) ≠ 51 by decide), sA_n _ _ (show (53 : Nat) ≠ 44 by decide), sA_n _ _ (show (53 : Nat) ≠ 49 by decide), sA_n _ _ (show (53 : Nat) ≠ 50 by decide), sA_n _ _ (show (53 : Nat) ≠ 51 by decide), sA_n _ _ (show (53 : Nat) ≠ 52 by decide), up3_sA _ (show (40 : Nat) ≠ 44 by decide), up3_sA _ (show (40 : Nat) ≠ 49 by decide), up3_sA _ (show (40 : Nat) ≠ 50 by decide), up3_sA _ (show (40 : Nat) ≠ 51 by decide), up3_sA _ (show (40 : Nat) ≠ 52 by decide), sA_44_49, sA_44_50, sA_49_50, sA_44_51, sA_49_51, sA_50_51, sA_44_52, sA_sA, up3_up3, sA_up44, up3_26_27, up3_sA _ (show (40 : Nat) ≠ 52 by decide)]; rw [fo_updn (by omega) (by omega) (by omega), hw]) ?_ | refine z_st (st := [.int (nI 4), .int (nI 15), .int (nI p), .ref (ad 40 0)]) (by simp only [up3_k _ (show (44 : Nat) ≠ 40 by decide), up3_k _ (show (41 : Nat) ≠ 40 by decide), up3_k _ (show (43 : Nat) ≠ 40 by decide), up3_k _ (show (49 : Nat) ≠ 40 by decide), up3_k _ (show (50 : Nat) ≠ 40 by decide), up3_k _ (show (51 : Nat) ≠ 40 by decide), up3_k _ (show (52 : Nat) ≠ 40 by decide), up3_k _ (show (53 : Nat) ≠ 40 by decide), sA_s, sA_n _ _ (show (40 : Nat) ≠ 44 by decide), sA_n _ _ (show (40 : Nat) ≠ 49 by decide), sA_n _ _ (show (40 : Nat) ≠ 50 by decide), sA_n _ _ (show (40 : Nat) ≠ 51 by decide), sA_n _ _ (show (40 : Nat) ≠ 52 by decide), sA_n _ _ (show (41 : Nat) ≠ 44 by decide), sA_n _ _ (show (41 : Nat) ≠ 49 by decide), sA_n _ _ (show (41 : Nat) ≠ 50 by decide), sA_n _ _ (show (41 : Nat) ≠ 51 by decide), sA_n _ _ (show (41 : Nat) ≠ 52 by decide), sA_n _ _ (show (43 : Nat) ≠ 44 by decide), sA_n _ _ (show (43 : Nat) ≠ 49 by decide), sA_n _ _ (show (43 : Nat) ≠ 50 by decide), sA_n _ _ (show (43 : Nat) ≠ 51 by decide), sA_n _ _ (show (43 : Nat) ≠ 52 by decide), sA_n _ _ (show (44 : Nat) ≠ 49 by decide), sA_n _ _ (show (44 : Nat) ≠ 50 by decide), sA_n _ _ (show (44 : Nat) ≠ 51 by decide), sA_n _ _ (show (44 : Nat) ≠ 52 by decide), sA_n _ _ (show (49 : Nat) ≠ 44 by decide), sA_n _ _ (show (49 : Nat) ≠ 50 by decide), sA_n _ _ (show (49 : Nat) ≠ 51 by decide), sA_n _ _ (show (49 : Nat) ≠ 52 by decide), sA_n _ _ (show (50 : Nat) ≠ 44 by decide), sA_n _ _ (show (50 : Nat) ≠ 49 by decide), sA_n _ _ (show (50 : Nat) ≠ 51 by decide), sA_n _ _ (show (50 : Nat) ≠ 52 by decide), sA_n _ _ (show (51 : Nat) ≠ 44 by decide), sA_n _ _ (show (51 : Nat) ≠ 49 by decide), sA_n _ _ (show (51 : Nat) ≠ 50 by decide), sA_n _ _ (show (51 : Nat) ≠ 52 by decide), sA_n _ _ (show (52 : Nat) ≠ 44 by decide), sA_n _ _ (show (52 : Nat) ≠ 49 by decide), sA_n _ _ (show (52 : Nat) ≠ 50 by decide), sA_n _ _ (show (52 : Nat) ≠ 51 by decide), sA_n _ _ (show (53 : Nat) ≠ 44 by decide), sA_n _ _ (show (53 : Nat) ≠ 49 by decide), sA_n _ _ (show (53 : Nat) ≠ 50 by decide), sA_n _ _ (show (53 : Nat) ≠ 51 by decide), sA_n _ _ (show (53 : Nat) ≠ 52 by decide), up3_sA _ (show (40 : Nat) ≠ 44 by decide), up3_sA _ (show (40 : Nat) ≠ 49 by decide), up3_sA _ (show (40 : Nat) ≠ 50 by decide), up3_sA _ (show (40 : Nat) ≠ 51 by decide), up3_sA _ (show (40 : Nat) ≠ 52 by decide), sA_44_49, sA_44_50, sA_49_50, sA_44_51, sA_49_51, sA_50_51, sA_44_52, sA_sA, up3_up3, sA_up44, up3_26_27, up3_sA _ (show (40 : Nat) ≠ 52 by decide)]; rw [fo_updn (by omega) (by omega) (by omega), fLeave_fo15 (by omega)]) ?_
              refine z_iconst (v := nI 1) C 124 dX9_send_124 (by decide) ?_
              first | with_reducible refine z_iaddN C 125 dX9_send_125 ?_ | refine z_iadd C 125 dX9_send_125 ?_
              refine z_cVv0 C 126 dX9_send_126 cv_X9_240 (c_X9_sets hR (by omega) (by omega)) rfl ⟨by decide, rfl⟩ (by first | assumption | exact Nat.zero_lt_one | omega) rfl rfl (Nat.le_of_ble_eq_true rfl) ⟨by decide, by decide⟩ ⟨rfl, rfl⟩ ⟨by decide, by decide⟩ ?_
              intro S126 L126 R126 p126
              obtain ⟨rfl, rfl, rfl⟩ := p126
              refine z_aload_n C 129 0 1 dX9_send_129 rfl rfl ?_
              refine z_iload_n C 130 1 2 dX9_send_130 rfl rfl ?_
              refine z_bipush (v := nI 15) C 131 dX9_send_131 (by decide +kernel) ?_
              refine z_cVi0 C 133 dX9_send_133 cv_X9_203 (c_X9_of hR (by first | assumption | omega) (by omega)) rfl ⟨by decide, rfl⟩ (by first | assumption | exact Nat.zero_lt_one | omega) rfl rfl (Nat.le_of_ble_eq_true rfl) ⟨by decide, by decide⟩ ⟨rfl, rfl⟩ ⟨by decide, by decide⟩ ?_
              intro r133 S133 L133 R133 p133
              obtain ⟨rfl, rfl, rfl, rfl⟩ := p133
              exact ret 136 _ _ _ _ _ dX9_send_136 (by first | rfl | exact bI_n | decide) (⟨(by rw [hs]; exact (by have hB : kP (S 51 0) (S 44 0) u B := hB; (try simp only [up3_k _ (show (44 : Nat) ≠ 40 by decide), up3_k _ (show (41 : Nat) ≠ 40 by decide), up3_k _ (show (43 : Nat) ≠ 40 by decide), up3_k _ (show (49 : Nat) ≠ 40 by decide), up3_k _ (show (50 : Nat) ≠ 40 by decide), up3_k _ (show (51 : Nat) ≠ 40 by decide), up3_k _ (show (52 : Nat) ≠ 40 by decide), up3_k _ (show (53 : Nat) ≠ 40 by decide), sA_s, sA_n _ _ (show (40 : Nat) ≠ 44 by decide), sA_n _ _ (show (40 : Nat) ≠ 49 by decide), sA_n _ _ (show (40 : Nat) ≠ 50 by decide), sA_n _ _ (show (40 : Nat) ≠ 51 by decide), sA_n _ _ (show (40 : Nat) ≠ 52 by decide), sA_n _ _ (show (41 : Nat) ≠ 44 by decide), sA_n _ _ (show (41 : Nat) ≠ 49 by decide), sA_n _ _ (show (41 : Nat) ≠ 50 by decide), sA_n _ _ (show (41 : Nat) ≠ 51 by decide), sA_n _ _ (show (41 : Nat) ≠ 52 by decide), sA_n _ _ (show (43 : Nat) ≠ 44 by decide), sA_n _ _ (show (43 : Nat) ≠ 49 by decide), sA_n _ _ (show (43 : Nat) ≠ 50 by decide), sA_n _ _ (show (43 : Nat) ≠ 51 by decide), sA_n _ _ (show (43 : Nat) ≠ 52 by decide), sA_n _ _ (show (44 : Nat) ≠ 49 by decide), sA_n _ _ (show (44 : Nat) ≠ 50 by decide), sA_n _ _ (show (44 : Nat) ≠ 51 by decide), sA_n _ _ (show (44 : Nat) ≠ 52 by decide), sA_n _ _ (show (49 : Nat) ≠ 44 by decide), sA_n _ _ (show (49 : Nat) ≠ 50 by decide), sA_n _ _ (show (49 : Nat) ≠ 51 by decide), sA_n _ _ (show (49 : Nat) ≠ 52 by decide), sA_n _ _ (show (50 : Nat) ≠ 44 by decide), sA_n _ _ (show (50 : Nat) ≠ 49 by decide), sA_n _ _ (show (50 : Nat) ≠ 51 by decide), sA_n _ _ (show (50 : Nat) ≠ 52 by decide), sA_n _ _ (show (51 : Nat) ≠ 44 by decide), sA_n _ _ (show (51 : Nat) ≠ 49 by decide), sA_n _ _ (show (51 : Nat) ≠ 50 by decide), sA_n _ _ (show (51 : Nat) ≠ 52 by decide), sA_n _ _ (show (52 : Nat) ≠ 44 by decide), sA_n _ _ (show (52 : Nat) ≠ 49 by decide), sA_n _ _ (show (52 : Nat) ≠ 50 by decide), sA_n _ _ (show (52 : Nat) ≠ 51 by decide), sA_n _ _ (show (53 : Nat) ≠ 44 by decide), sA_n _ _ (show (53 : Nat) ≠ 49 by decide), sA_n _ _ (show (53 : Nat) ≠ 50 by decide), sA_n _ _ (show (53 : Nat) ≠ 51 by decide), sA_n _ _ (show (53 : Nat) ≠ 52 by decide), up3_sA _ (show (40 : Nat) ≠ 44 by decide), up3_sA _ (show (40 : Nat) ≠ 49 by decide), up3_sA _ (show (40 : Nat) ≠ 50 by decide), up3_sA _ (show (40 : Nat) ≠ 51 by decide), up3_sA _ (show (40 : Nat) ≠ 52 by decide), sA_44_49, sA_44_50, sA_49_50, sA_44_51, sA_49_51, sA_50_51, sA_44_52, sA_sA, up3_up3, sA_up44, up3_26_27, up3_sA _ (show (40 : Nat) ≠ 52 by decide)]); first | exact rC.top ((rC0_b hB).s (Or.inr (Or.inr rfl))) | exact rC.top (((rC0_c hB).s (Or.inr (Or.inr rfl))).s (Or.inr (Or.inl rfl))) | exact rC.top (((rC0_b hB).s (Or.inr (Or.inr rfl))).s (Or.inr (Or.inl rfl))) | exact ⟨(rC0_b hB).s (Or.inr (Or.inr rfl)), rfl⟩)), (by rw [hs]; first | rfl | (simp only [up3_k _ (show (44 : Nat) ≠ 40 by decide), up3_k _ (show (41 : Nat) ≠ 40 by decide), up3_k _ (show (43 : Nat) ≠ 40 by decide), up3_k _ (show (49 : Nat) ≠ 40 by decide), up3_k _ (show (50 : Nat) ≠ 40 by decide), up3_k _ (show (51 : Nat) ≠ 40 by decide), up3_k _ (show (52 : Nat) ≠ 40 by decide), up3_k _ (show (53 : Nat) ≠ 40 by decide), sA_s, sA_n _ _ (show (40 : Nat) ≠ 44 by decide), sA_n _ _ (show (40 : Nat) ≠ 49 by decide), sA_n _ _ (show (40 : Nat) ≠ 50 by decide), sA_n _ _ (show (40 : Nat) ≠ 51 by decide), sA_n _ _ (show (40 : Nat) ≠ 52 by decide), sA_n _ _ (show (41 : Nat) ≠ 44 by decide), sA_n _ _ (show (41 : Nat) ≠ 49 by decide), sA_n _ _ (show (41 : Nat) ≠ 50 by decide), sA_n _ _ (show (41 : Nat) ≠ 51 by decide), sA_n _ _ (show (41 : Nat) ≠ 52 by decide), sA_n _ _ (show (43 : Nat) ≠ 44 by decide), sA_n _ _ (show (43 : Nat) ≠ 49 by decide), sA_n _ _ (show (43 : Nat) ≠ 50 by decide), sA_n _ _ (show (43 : Nat) ≠ 51 by decide), sA_n _ _ (show (43 : Nat) ≠ 52 by decide), sA_n _ _ (show (44 : Nat) ≠ 49 by decide), sA_n _ _ (show (44 : Nat) ≠ 50 by decide), sA_n _ _ (show (44 : Nat) ≠ 51 by decide), sA_n _ _ (show (44 : Nat) ≠ 52 by decide), sA_n _ _ (show (49 : Nat) ≠ 44 by decide), sA_n _ _ (show (49 : Nat) ≠ 50 by decide), sA_n _ _ (show (49 : Nat) ≠ 51 by decide), sA_n _ _ (show (49 : Nat) ≠ 52 by decide), sA_n _ _ (show (50 : Nat) ≠ 44 by decide), sA_n _ _ (show (50 : Nat) ≠ 49 by decide), sA_n _ _ (show (50 : Nat) ≠ 51 by decide), sA_n _ _ (show (50 : Nat) ≠ 52 by decide), sA_n _ _ (show (51 : Nat) ≠ 44 by decide), sA_n _ _ (show (51 : Nat) ≠ 49 by decide), sA_n _ _ (show (51 : Nat) ≠ 50 by decide), sA_n _ _ (show (51 : Nat) ≠ 52 by decide), sA_n _ _ (show (52 : Nat) ≠ 44 by decide), sA_n _ _ (show (52 : Nat) ≠ 49 by decide), sA_n _ _ (show (52 : Nat) ≠ 50 by decide), sA_n _ _ (show (52 : Nat) ≠ 51 by decide), sA_n _ _ (show (53 : Nat) ≠ 44 by decide), sA_n _ _ (show (53 : Nat) ≠ 49 by decide), sA_n _ _ (show (53 : Nat) ≠ 50 by decide), sA_n _ _ (show (53 : Nat) ≠ 51 by decide), sA_n _ _ (show (53 : Nat) ≠ 52 by decide), up3_sA _ (show (40 : Nat) ≠ 44 by decide), up3_sA _ (show (40 : Nat) ≠ 49 by decide), up3_sA _ (show (40 : Nat) ≠ 50 by decide), up3_sA _ (show (40 : Nat) ≠ 51 by decide), up3_sA _ (show (40 : Nat) ≠ 52 by decide), sA_44_49, sA_44_50, sA_49_50, sA_44_51, sA_49_51, sA_50_51, sA_44_52, sA_sA, up3_up3, sA_up44, up3_26_27, up3_sA _ (show (40 : Nat) ≠ 52 by decide)]; done) | (simp only [up3_k _ (show (44 : Nat) ≠ 40 by decide), up3_k _ (show (41 : Nat) ≠ 40 by decide), up3_k _ (show (43 : Nat) ≠ 40 by decide), up3_k _ (show (49 : Nat) ≠ 40 by decide), up3_k _ (show (50 : Nat) ≠ 40 by decide), up3_k _ (show (51 : Nat) ≠ 40 by decide), up3_k _ (show (52 : Nat) ≠ 40 by decide), up3_k _ (show (53 : Nat) ≠ 40 by decide), sA_s, sA_n _ _ (show (40 : Nat) ≠ 44 by decide), sA_n _ _ (show (40 : Nat) ≠ 49 by decide), sA_n _ _ (show (40 : Nat) ≠ 50 by decide), sA_n _ _ (show (40 : Nat) ≠ 51 by decide), sA_n _ _ (show (40 : Nat) ≠ 52 by decide), sA_n _ _ (show (41 : Nat) ≠ 44 by decide), sA_n _ _ (show (41 : Nat) ≠ 49 by decide), sA_n _ _ (show (41 : Nat) ≠ 50 by decide), sA_n _ _ (show (41 : Nat) ≠ 51 by decide), sA_n _ _ (show (41 : Nat) ≠ 52 by decide), sA_n _ _ (show (43 : Nat) ≠ 44 by decide), sA_n _ _ (show (43 : Nat) ≠ 49 by decide), sA_n _ _ (show (43 : Nat) ≠ 50 by decide), sA_n _ _ (show (43 : Nat) ≠ 51 by decide), sA_n _ _ (show (43 : Nat) ≠ 52 by decide), sA_n _ _ (show (44 : Nat) ≠ 49 by decide), sA_n _ _ (show (44 : Nat) ≠ 50 by decide), sA_n _ _ (show (44 : Nat) ≠ 51 by decide), sA_n _ _ (show (44 : Nat) ≠ 52 by decide), sA_n _ _ (show (49 : Nat) ≠ 44 by decide), sA_n _ _ (show (49 : Nat) ≠ 50 by decide), sA_n _ _ (show (49 : Nat) ≠ 51 by decide), sA_n _ _ (show (49 : Nat) ≠ 52 by decide), sA_n _ _ (show (50 : Nat) ≠ 44 by decide), sA_n _ _ (show (50 : Nat) ≠ 49 by decide), sA_n _ _ (show (50 : Nat) ≠ 51 by decide), sA_n _ _ (show (50 : Nat) ≠ 52 by decide), sA_n _ _ (show (51 : Nat) ≠ 44 by decide), sA_n _ _ (show (51 : Nat) ≠ 49 by decide), sA_n _ _ (show (51 : Nat) ≠ 50 by decide), sA_n _ _ (show (51 : Nat) ≠ 52 by decide), sA_n _ _ (show (52 : Nat) ≠ 44 by decide), sA_n _ _ (show (52 : Nat) ≠ 49 by decide), sA_n _ _ (show (52 : Nat) ≠ 50 by decide), sA_n _ _ (show (52 : Nat) ≠ 51 by decide), sA_n _ _ (show (53 : Nat) ≠ 44 by decide), sA_n _ _ (show (53 : Nat) ≠ 49 by decide), sA_n _ _ (show (53 : Nat) ≠ 50 by decide), sA_n _ _ (show (53 : Nat) ≠ 51 by decide), sA_n _ _ (show (53 : Nat) ≠ 52 by decide), up3_sA _ (show (40 : Nat) ≠ 44 by decide), up3_sA _ (show (40 : Nat) ≠ 49 by decide), up3_sA _ (show (40 : Nat) ≠ 50 by decide), up3_sA _ (show (40 : Nat) ≠ 51 by decide), up3_sA _ (show (40 : Nat) ≠ 52 by decide), sA_44_49, sA_44_50, sA_49_50, sA_44_51, sA_49_51, sA_50_51, sA_44_52, sA_sA, up3_up3, sA_up44, up3_26_27, up3_sA _ (show (40 : Nat) ≠ 52 by decide)]; rfl)), rfl, rfl⟩)
            · obtain rfl : w = 5 := h84
              have hs := fSend_5 (v := nI v) h58 h73
              refine z_aload_n C 87 0 1 dX9_send_87 rfl rfl ?_
              refine z_iload_n C 88 1 2 dX9_send_88 rfl rfl ?_
              refine z_cVv0 C 89 dX9_send_89 cv_X9_315 (c_X9_leavesFirst (w := 5) hR (by omega) hw (by omega) (by omega)) rfl ⟨by decide, rfl⟩ (by first | assumption | exact Nat.zero_lt_one | omega) rfl rfl (Nat.le_of_ble_eq_true rfl) ⟨by decide, by decide⟩ ⟨rfl, rfl⟩ ⟨by decide, by decide⟩ ?_
              intro S89 L89 R89 p89
              obtain ⟨rfl, rfl, rfl⟩ := p89
              refine z_aload_n C 92 0 1 dX9_send_92 rfl rfl ?_
              refine z_getr C 93 dX9_send_93 gf_X9_20 rfl (by first | assumption | exact Nat.zero_lt_one | omega) (by first | exact hR _ _ _ _ rfl | assumption) ?_
              refine z_sipush (v := nI 388) C 96 dX9_send_96 (by decide +kernel) ?_
              refine z_iconst (v := nI 5) C 99 dX9_send_99 (by decide) ?_
              refine z_iload_n C 100 1 2 dX9_send_100 rfl rfl ?_
              first | with_reducible refine z_imulN C 101 dX9_send_101 ?_ | refine z_imul C 101 dX9_send_101 ?_
              first | with_reducible refine z_iaddN C 102 dX9_send_102 ?_ | refine z_iadd C 102 dX9_send_102 ?_
              refine z_aload_n C 103 0 1 dX9_send_103 rfl rfl ?_
              refine z_iload_n C 104 1 2 dX9_send_104 rfl rfl ?_
              refine z_bipush (v := nI 15) C 105 dX9_send_105 (by decide +kernel) ?_
              refine z_cVi0 C 107 dX9_send_107 cv_X9_203 (c_X9_of hR (by first | assumption | omega) (by omega)) rfl ⟨by decide, rfl⟩ (by first | assumption | exact Nat.zero_lt_one | omega) rfl rfl (Nat.le_of_ble_eq_true rfl) ⟨by decide, by decide⟩ ⟨rfl, rfl⟩ ⟨by decide, by decide⟩ ?_
              intro r107 S107 L107 R107 p107
              obtain ⟨rfl, rfl, rfl, rfl⟩ := p107
              first | refine z_st (st := [.int (nI w), .int (nI (388 + 5 * p)), .ref (ad 44 0)]) (by rw [← hw]; rfl) ?_ | refine z_st (st := [.int (nI 4), .int (nI (388 + 5 * p)), .ref (ad 44 0)]) (by rw [show nI 4 = fo (fLeave (S 44 0) p 5) p 15 from (fLeave_fo15 (N := S 44 0) (p := p) (w := 5) (by omega)).symm]; rfl) ?_
              first | with_reducible refine z_iaddN C 110 dX9_send_110 ?_ | refine z_iadd C 110 dX9_send_110 ?_
              refine z_iload_n C 111 2 3 dX9_send_111 rfl rfl ?_
              refine z_iast C 112 dX9_send_112 (by first | rfl | assumption) (by first | assumption | exact Nat.zero_lt_one | omega)  (by first | rfl | assumption) (by first | decide | omega) (by first | assumption | omega) ?_
              refine z_aload_n C 113 0 1 dX9_send_113 rfl rfl ?_
              refine z_iload_n C 114 1 2 dX9_send_114 rfl rfl ?_
              refine z_bipush (v := nI 15) C 115 dX9_send_115 (by decide +kernel) ?_
              refine z_aload_n C 117 0 1 dX9_send_117 rfl rfl ?_
              refine z_iload_n C 118 1 2 dX9_send_118 rfl rfl ?_
              refine z_bipush (v := nI 15) C 119 dX9_send_119 (by decide +kernel) ?_
              refine z_cVi0 C 121 dX9_send_121 cv_X9_203 (c_X9_of hR (by first | assumption | omega) (by omega)) rfl ⟨by decide, rfl⟩ (by first | assumption | exact Nat.zero_lt_one | omega) rfl rfl (Nat.le_of_ble_eq_true rfl) ⟨by decide, by decide⟩ ⟨rfl, rfl⟩ ⟨by decide, by decide⟩ ?_
              intro r121 S121 L121 R121 p121
              obtain ⟨rfl, rfl, rfl, rfl⟩ := p121
              first | refine z_st (st := [.int (nI w), .int (nI 15), .int (nI p), .ref (ad 40 0)]) (by simp only [up3_k _ (show (44 : Nat) ≠ 40 by decide), up3_k _ (show (41 : Nat) ≠ 40 by decide), up3_k _ (show (43 : Nat) ≠ 40 by decide), up3_k _ (show (49 : Nat) ≠ 40 by decide), up3_k _ (show (50 : Nat) ≠ 40 by decide), up3_k _ (show (51 : Nat) ≠ 40 by decide), up3_k _ (show (52 : Nat) ≠ 40 by decide), up3_k _ (show (53 : Nat) ≠ 40 by decide), sA_s, sA_n _ _ (show (40 : Nat) ≠ 44 by decide), sA_n _ _ (show (40 : Nat) ≠ 49 by decide), sA_n _ _ (show (40 : Nat) ≠ 50 by decide), sA_n _ _ (show (40 : Nat) ≠ 51 by decide), sA_n _ _ (show (40 : Nat) ≠ 52 by decide), sA_n _ _ (show (41 : Nat) ≠ 44 by decide), sA_n _ _ (show (41 : Nat) ≠ 49 by decide), sA_n _ _ (show (41 : Nat) ≠ 50 by decide), sA_n _ _ (show (41 : Nat) ≠ 51 by decide), sA_n _ _ (show (41 : Nat) ≠ 52 by decide), sA_n _ _ (show (43 : Nat) ≠ 44 by decide), sA_n _ _ (show (43 : Nat) ≠ 49 by decide), sA_n _ _ (show (43 : Nat) ≠ 50 by decide), sA_n _ _ (show (43 : Nat) ≠ 51 by decide), sA_n _ _ (show (43 : Nat) ≠ 52 by decide), sA_n _ _ (show (44 : Nat) ≠ 49 by decide), sA_n _ _ (show (44 : Nat) ≠ 50 by decide), sA_n _ _ (show (44 : Nat) ≠ 51 by decide), sA_n _ _ (show (44 : Nat) ≠ 52 by decide), sA_n _ _ (show (49 : Nat) ≠ 44 by decide), sA_n _ _ (show (49 : Nat) ≠ 50 by decide), sA_n _ _ (show (49 : Nat) ≠ 51 by decide), sA_n _ _ (show (49 : Nat) ≠ 52 by decide), sA_n _ _ (show (50 : Nat) ≠ 44 by decide), sA_n _ _ (show (50 : Nat) ≠ 49 by decide), sA_n _ _ (show (50 : Nat) ≠ 51 by decide), sA_n _ _ (show (50 : Nat) ≠ 52 by decide), sA_n _ _ (show (51 : Nat) ≠ 44 by decide), sA_n _ _ (show (51 : Nat) ≠ 49 by decide), sA_n _ _ (show (51 : Nat) ≠ 50 by decide), sA_n _ _ (show (51 : Nat) ≠ 52 by decide), sA_n _ _ (show (52 : Nat) ≠ 44 by decide), sA_n _ _ (show (52 : Nat) ≠ 49 by decide), sA_n _ _ (show (52 : Nat) ≠ 50 by decide), sA_n _ _ (show (52 : Nat) ≠ 51 by decide), sA_n _ _ (show (53 : Nat) ≠ 44 by decide), sA_n _ _ (show (53 : Nat) ≠ 49 by decide), sA_n _ _ (show (53 : Nat) ≠ 50 by decide), sA_n _ _ (show (53 : Nat) ≠ 51 by decide), sA_n _ _ (show (53 : Nat) ≠ 52 by decide), up3_sA _ (show (40 : Nat) ≠ 44 by decide), up3_sA _ (show (40 : Nat) ≠ 49 by decide), up3_sA _ (show (40 : Nat) ≠ 50 by decide), up3_sA _ (show (40 : Nat) ≠ 51 by decide), up3_sA _ (show (40 : Nat) ≠ 52 by decide), sA_44_49, sA_44_50, sA_49_50, sA_44_51, sA_49_51, sA_50_51, sA_44_52, sA_sA, up3_up3, sA_up44, up3_26_27, up3_sA _ (show (40 : Nat) ≠ 52 by decide)]; rw [fo_updn (by omega) (by omega) (by omega), hw]) ?_ | refine z_st (st := [.int (nI 4), .int (nI 15), .int (nI p), .ref (ad 40 0)]) (by simp only [up3_k _ (show (44 : Nat) ≠ 40 by decide), up3_k _ (show (41 : Nat) ≠ 40 by decide), up3_k _ (show (43 : Nat) ≠ 40 by decide), up3_k _ (show (49 : Nat) ≠ 40 by decide), up3_k _ (show (50 : Nat) ≠ 40 by decide), up3_k _ (show (51 : Nat) ≠ 40 by decide), up3_k _ (show (52 : Nat) ≠ 40 by decide), up3_k _ (show (53 : Nat) ≠ 40 by decide), sA_s, sA_n _ _ (show (40 : Nat) ≠ 44 by decide), sA_n _ _ (show (40 : Nat) ≠ 49 by decide), sA_n _ _ (show (40 : Nat) ≠ 50 by decide), sA_n _ _ (show (40 : Nat) ≠ 51 by decide), sA_n _ _ (show (40 : Nat) ≠ 52 by decide), sA_n _ _ (show (41 : Nat) ≠ 44 by decide), sA_n _ _ (show (41 : Nat) ≠ 49 by decide), sA_n _ _ (show (41 : Nat) ≠ 50 by decide), sA_n _ _ (show (41 : Nat) ≠ 51 by decide), sA_n _ _ (show (41 : Nat) ≠ 52 by decide), sA_n _ _ (show (43 : Nat) ≠ 44 by decide), sA_n _ _ (show (43 : Nat) ≠ 49 by decide), sA_n _ _ (show (43 : Nat) ≠ 50 by decide), sA_n _ _ (show (43 : Nat) ≠ 51 by decide), sA_n _ _ (show (43 : Nat) ≠ 52 by decide), sA_n _ _ (show (44 : Nat) ≠ 49 by decide), sA_n _ _ (show (44 : Nat) ≠ 50 by decide), sA_n _ _ (show (44 : Nat) ≠ 51 by decide), sA_n _ _ (show (44 : Nat) ≠ 52 by decide), sA_n _ _ (show (49 : Nat) ≠ 44 by decide), sA_n _ _ (show (49 : Nat) ≠ 50 by decide), sA_n _ _ (show (49 : Nat) ≠ 51 by decide), sA_n _ _ (show (49 : Nat) ≠ 52 by decide), sA_n _ _ (show (50 : Nat) ≠ 44 by decide), sA_n _ _ (show (50 : Nat) ≠ 49 by decide), sA_n _ _ (show (50 : Nat) ≠ 51 by decide), sA_n _ _ (show (50 : Nat) ≠ 52 by decide), sA_n _ _ (show (51 : Nat) ≠ 44 by decide), sA_n _ _ (show (51 : Nat) ≠ 49 by decide), sA_n _ _ (show (51 : Nat) ≠ 50 by decide), sA_n _ _ (show (51 : Nat) ≠ 52 by decide), sA_n _ _ (show (52 : Nat) ≠ 44 by decide), sA_n _ _ (show (52 : Nat) ≠ 49 by decide), sA_n _ _ (show (52 : Nat) ≠ 50 by decide), sA_n _ _ (show (52 : Nat) ≠ 51 by decide), sA_n _ _ (show (53 : Nat) ≠ 44 by decide), sA_n _ _ (show (53 : Nat) ≠ 49 by decide), sA_n _ _ (show (53 : Nat) ≠ 50 by decide), sA_n _ _ (show (53 : Nat) ≠ 51 by decide), sA_n _ _ (show (53 : Nat) ≠ 52 by decide), up3_sA _ (show (40 : Nat) ≠ 44 by decide), up3_sA _ (show (40 : Nat) ≠ 49 by decide), up3_sA _ (show (40 : Nat) ≠ 50 by decide), up3_sA _ (show (40 : Nat) ≠ 51 by decide), up3_sA _ (show (40 : Nat) ≠ 52 by decide), sA_44_49, sA_44_50, sA_49_50, sA_44_51, sA_49_51, sA_50_51, sA_44_52, sA_sA, up3_up3, sA_up44, up3_26_27, up3_sA _ (show (40 : Nat) ≠ 52 by decide)]; rw [fo_updn (by omega) (by omega) (by omega), fLeave_fo15 (by omega)]) ?_
              refine z_iconst (v := nI 1) C 124 dX9_send_124 (by decide) ?_
              first | with_reducible refine z_iaddN C 125 dX9_send_125 ?_ | refine z_iadd C 125 dX9_send_125 ?_
              refine z_cVv0 C 126 dX9_send_126 cv_X9_240 (c_X9_sets hR (by omega) (by omega)) rfl ⟨by decide, rfl⟩ (by first | assumption | exact Nat.zero_lt_one | omega) rfl rfl (Nat.le_of_ble_eq_true rfl) ⟨by decide, by decide⟩ ⟨rfl, rfl⟩ ⟨by decide, by decide⟩ ?_
              intro S126 L126 R126 p126
              obtain ⟨rfl, rfl, rfl⟩ := p126
              refine z_aload_n C 129 0 1 dX9_send_129 rfl rfl ?_
              refine z_iload_n C 130 1 2 dX9_send_130 rfl rfl ?_
              refine z_bipush (v := nI 15) C 131 dX9_send_131 (by decide +kernel) ?_
              refine z_cVi0 C 133 dX9_send_133 cv_X9_203 (c_X9_of hR (by first | assumption | omega) (by omega)) rfl ⟨by decide, rfl⟩ (by first | assumption | exact Nat.zero_lt_one | omega) rfl rfl (Nat.le_of_ble_eq_true rfl) ⟨by decide, by decide⟩ ⟨rfl, rfl⟩ ⟨by decide, by decide⟩ ?_
              intro r133 S133 L133 R133 p133
              obtain ⟨rfl, rfl, rfl, rfl⟩ := p133
              exact ret 136 _ _ _ _ _ dX9_send_136 (by first | rfl | exact bI_n | decide) (⟨(by rw [hs]; exact (by have hB : kP (S 51 0) (S 44 0) u B := hB; (try simp only [up3_k _ (show (44 : Nat) ≠ 40 by decide), up3_k _ (show (41 : Nat) ≠ 40 by decide), up3_k _ (show (43 : Nat) ≠ 40 by decide), up3_k _ (show (49 : Nat) ≠ 40 by decide), up3_k _ (show (50 : Nat) ≠ 40 by decide), up3_k _ (show (51 : Nat) ≠ 40 by decide), up3_k _ (show (52 : Nat) ≠ 40 by decide), up3_k _ (show (53 : Nat) ≠ 40 by decide), sA_s, sA_n _ _ (show (40 : Nat) ≠ 44 by decide), sA_n _ _ (show (40 : Nat) ≠ 49 by decide), sA_n _ _ (show (40 : Nat) ≠ 50 by decide), sA_n _ _ (show (40 : Nat) ≠ 51 by decide), sA_n _ _ (show (40 : Nat) ≠ 52 by decide), sA_n _ _ (show (41 : Nat) ≠ 44 by decide), sA_n _ _ (show (41 : Nat) ≠ 49 by decide), sA_n _ _ (show (41 : Nat) ≠ 50 by decide), sA_n _ _ (show (41 : Nat) ≠ 51 by decide), sA_n _ _ (show (41 : Nat) ≠ 52 by decide), sA_n _ _ (show (43 : Nat) ≠ 44 by decide), sA_n _ _ (show (43 : Nat) ≠ 49 by decide), sA_n _ _ (show (43 : Nat) ≠ 50 by decide), sA_n _ _ (show (43 : Nat) ≠ 51 by decide), sA_n _ _ (show (43 : Nat) ≠ 52 by decide), sA_n _ _ (show (44 : Nat) ≠ 49 by decide), sA_n _ _ (show (44 : Nat) ≠ 50 by decide), sA_n _ _ (show (44 : Nat) ≠ 51 by decide), sA_n _ _ (show (44 : Nat) ≠ 52 by decide), sA_n _ _ (show (49 : Nat) ≠ 44 by decide), sA_n _ _ (show (49 : Nat) ≠ 50 by decide), sA_n _ _ (show (49 : Nat) ≠ 51 by decide), sA_n _ _ (show (49 : Nat) ≠ 52 by decide), sA_n _ _ (show (50 : Nat) ≠ 44 by decide), sA_n _ _ (show (50 : Nat) ≠ 49 by decide), sA_n _ _ (show (50 : Nat) ≠ 51 by decide), sA_n _ _ (show (50 : Nat) ≠ 52 by decide), sA_n _ _ (show (51 : Nat) ≠ 44 by decide), sA_n _ _ (show (51 : Nat) ≠ 49 by decide), sA_n _ _ (show (51 : Nat) ≠ 50 by decide), sA_n _ _ (show (51 : Nat) ≠ 52 by decide), sA_n _ _ (show (52 : Nat) ≠ 44 by decide), sA_n _ _ (show (52 : Nat) ≠ 49 by decide), sA_n _ _ (show (52 : Nat) ≠ 50 by decide), sA_n _ _ (show (52 : Nat) ≠ 51 by decide), sA_n _ _ (show (53 : Nat) ≠ 44 by decide), sA_n _ _ (show (53 : Nat) ≠ 49 by decide), sA_n _ _ (show (53 : Nat) ≠ 50 by decide), sA_n _ _ (show (53 : Nat) ≠ 51 by decide), sA_n _ _ (show (53 : Nat) ≠ 52 by decide), up3_sA _ (show (40 : Nat) ≠ 44 by decide), up3_sA _ (show (40 : Nat) ≠ 49 by decide), up3_sA _ (show (40 : Nat) ≠ 50 by decide), up3_sA _ (show (40 : Nat) ≠ 51 by decide), up3_sA _ (show (40 : Nat) ≠ 52 by decide), sA_44_49, sA_44_50, sA_49_50, sA_44_51, sA_49_51, sA_50_51, sA_44_52, sA_sA, up3_up3, sA_up44, up3_26_27, up3_sA _ (show (40 : Nat) ≠ 52 by decide)]); first | exact rC.top ((rC0_b hB).s (Or.inr (Or.inr rfl))) | exact rC.top (((rC0_c hB).s (Or.inr (Or.inr rfl))).s (Or.inr (Or.inl rfl))) | exact rC.top (((rC0_b hB).s (Or.inr (Or.inr rfl))).s (Or.inr (Or.inl rfl))) | exact ⟨(rC0_b hB).s (Or.inr (Or.inr rfl)), rfl⟩)), (by rw [hs]; first | rfl | (simp only [up3_k _ (show (44 : Nat) ≠ 40 by decide), up3_k _ (show (41 : Nat) ≠ 40 by decide), up3_k _ (show (43 : Nat) ≠ 40 by decide), up3_k _ (show (49 : Nat) ≠ 40 by decide), up3_k _ (show (50 : Nat) ≠ 40 by decide), up3_k _ (show (51 : Nat) ≠ 40 by decide), up3_k _ (show (52 : Nat) ≠ 40 by decide), up3_k _ (show (53 : Nat) ≠ 40 by decide), sA_s, sA_n _ _ (show (40 : Nat) ≠ 44 by decide), sA_n _ _ (show (40 : Nat) ≠ 49 by decide), sA_n _ _ (show (40 : Nat) ≠ 50 by decide), sA_n _ _ (show (40 : Nat) ≠ 51 by decide), sA_n _ _ (show (40 : Nat) ≠ 52 by decide), sA_n _ _ (show (41 : Nat) ≠ 44 by decide), sA_n _ _ (show (41 : Nat) ≠ 49 by decide), sA_n _ _ (show (41 : Nat) ≠ 50 by decide), sA_n _ _ (show (41 : Nat) ≠ 51 by decide), sA_n _ _ (show (41 : Nat) ≠ 52 by decide), sA_n _ _ (show (43 : Nat) ≠ 44 by decide), sA_n _ _ (show (43 : Nat) ≠ 49 by decide), sA_n _ _ (show (43 : Nat) ≠ 50 by decide), sA_n _ _ (show (43 : Nat) ≠ 51 by decide), sA_n _ _ (show (43 : Nat) ≠ 52 by decide), sA_n _ _ (show (44 : Nat) ≠ 49 by decide), sA_n _ _ (show (44 : Nat) ≠ 50 by decide), sA_n _ _ (show (44 : Nat) ≠ 51 by decide), sA_n _ _ (show (44 : Nat) ≠ 52 by decide), sA_n _ _ (show (49 : Nat) ≠ 44 by decide), sA_n _ _ (show (49 : Nat) ≠ 50 by decide), sA_n _ _ (show (49 : Nat) ≠ 51 by decide), sA_n _ _ (show (49 : Nat) ≠ 52 by decide), sA_n _ _ (show (50 : Nat) ≠ 44 by decide), sA_n _ _ (show (50 : Nat) ≠ 49 by decide), sA_n _ _ (show (50 : Nat) ≠ 51 by decide), sA_n _ _ (show (50 : Nat) ≠ 52 by decide), sA_n _ _ (show (51 : Nat) ≠ 44 by decide), sA_n _ _ (show (51 : Nat) ≠ 49 by decide), sA_n _ _ (show (51 : Nat) ≠ 50 by decide), sA_n _ _ (show (51 : Nat) ≠ 52 by decide), sA_n _ _ (show (52 : Nat) ≠ 44 by decide), sA_n _ _ (show (52 : Nat) ≠ 49 by decide), sA_n _ _ (show (52 : Nat) ≠ 50 by decide), sA_n _ _ (show (52 : Nat) ≠ 51 by decide), sA_n _ _ (show (53 : Nat) ≠ 44 by decide), sA_n _ _ (show (53 : Nat) ≠ 49 by decide), sA_n _ _ (show (53 : Nat) ≠ 50 by decide), sA_n _ _ (show (53 : Nat) ≠ 51 by decide), sA_n _ _ (show (53 : Nat) ≠ 52 by decide), up3_sA _ (show (40 : Nat) ≠ 44 by decide), up3_sA _ (show (40 : Nat) ≠ 49 by decide), up3_sA _ (show (40 : Nat) ≠ 50 by decide), up3_sA _ (show (40 : Nat) ≠ 51 by decide), up3_sA _ (show (40 : Nat) ≠ 52 by decide), sA_44_49, sA_44_50, sA_49_50, sA_44_51, sA_49_51, sA_50_51, sA_44_52, sA_sA, up3_up3, sA_up44, up3_26_27, up3_sA _ (show (40 : Nat) ≠ 52 by decide)]; done) | (simp only [up3_k _ (show (44 : Nat) ≠ 40 by decide), up3_k _ (show (41 : Nat) ≠ 40 by decide), up3_k _ (show (43 : Nat) ≠ 40 by decide), up3_k _ (show (49 : Nat) ≠ 40 by decide), up3_k _ (show (50 : Nat) ≠ 40 by decide), up3_k _ (show (51 : Nat) ≠ 40 by decide), up3_k _ (show (52 : Nat) ≠ 40 by decide), up3_k _ (show (53 : Nat) ≠ 40 by decide), sA_s, sA_n _ _ (show (40 : Nat) ≠ 44 by decide), sA_n _ _ (show (40 : Nat) ≠ 49 by decide), sA_n _ _ (show (40 : Nat) ≠ 50 by decide), sA_n _ _ (show (40 : Nat) ≠ 51 by decide), sA_n _ _ (show (40 : Nat) ≠ 52 by decide), sA_n _ _ (show (41 : Nat) ≠ 44 by decide), sA_n _ _ (show (41 : Nat) ≠ 49 by decide), sA_n _ _ (show (41 : Nat) ≠ 50 by decide), sA_n _ _ (show (41 : Nat) ≠ 51 by decide), sA_n _ _ (show (41 : Nat) ≠ 52 by decide), sA_n _ _ (show (43 : Nat) ≠ 44 by decide), sA_n _ _ (show (43 : Nat) ≠ 49 by decide), sA_n _ _ (show (43 : Nat) ≠ 50 by decide), sA_n _ _ (show (43 : Nat) ≠ 51 by decide), sA_n _ _ (show (43 : Nat) ≠ 52 by decide), sA_n _ _ (show (44 : Nat) ≠ 49 by decide), sA_n _ _ (show (44 : Nat) ≠ 50 by decide), sA_n _ _ (show (44 : Nat) ≠ 51 by decide), sA_n _ _ (show (44 : Nat) ≠ 52 by decide), sA_n _ _ (show (49 : Nat) ≠ 44 by decide), sA_n _ _ (show (49 : Nat) ≠ 50 by decide), sA_n _ _ (show (49 : Nat) ≠ 51 by decide), sA_n _ _ (show (49 : Nat) ≠ 52 by decide), sA_n _ _ (show (50 : Nat) ≠ 44 by decide), sA_n _ _ (show (50 : Nat) ≠ 49 by decide), sA_n _ _ (show (50 : Nat) ≠ 51 by decide), sA_n _ _ (show (50 : Nat) ≠ 52 by decide), sA_n _ _ (show (51 : Nat) ≠ 44 by decide), sA_n _ _ (show (51 : Nat) ≠ 49 by decide), sA_n _ _ (show (51 : Nat) ≠ 50 by decide), sA_n _ _ (show (51 : Nat) ≠ 52 by decide), sA_n _ _ (show (52 : Nat) ≠ 44 by decide), sA_n _ _ (show (52 : Nat) ≠ 49 by decide), sA_n _ _ (show (52 : Nat) ≠ 50 by decide), sA_n _ _ (show (52 : Nat) ≠ 51 by decide), sA_n _ _ (show (53 : Nat) ≠ 44 by decide), sA_n _ _ (show (53 : Nat) ≠ 49 by decide), sA_n _ _ (show (53 : Nat) ≠ 50 by decide), sA_n _ _ (show (53 : Nat) ≠ 51 by decide), sA_n _ _ (show (53 : Nat) ≠ 52 by decide), up3_sA _ (show (40 : Nat) ≠ 44 by decide), up3_sA _ (show (40 : Nat) ≠ 49 by decide), up3_sA _ (show (40 : Nat) ≠ 50 by decide), up3_sA _ (show (40 : Nat) ≠ 51 by decide), up3_sA _ (show (40 : Nat) ≠ 52 by decide), sA_44_49, sA_44_50, sA_49_50, sA_44_51, sA_49_51, sA_50_51, sA_44_52, sA_sA, up3_up3, sA_up44, up3_26_27, up3_sA _ (show (40 : Nat) ≠ 52 by decide)]; rfl)), rfl, rfl⟩)
        · have h58 : fo (S 44 0) p 0 = nI 1 := h58
          have hs := fSend_1 (w := w) (v := nI v) h58
          refine z_aload_n C 61 0 1 dX9_send_61 rfl rfl ?_
          refine z_iload_n C 62 1 2 dX9_send_62 rfl rfl ?_
          refine z_iload_n C 63 2 3 dX9_send_63 rfl rfl ?_
          refine z_cVi0 C 64 dX9_send_64 cv_X9_312 (c_X9_takesIn hR (by omega)) rfl ⟨by decide, rfl⟩ (by first | assumption | exact Nat.zero_lt_one | omega) rfl rfl (Nat.le_of_ble_eq_true rfl) ⟨by decide, by decide⟩ ⟨rfl, rfl⟩ ⟨by decide, by decide⟩ ?_
          intro r64 S64 L64 R64 p64
          obtain ⟨rfl, rfl, rfl, rfl⟩ := p64
          refine z_istore C 67 4 [(4, _), (3, _), (0, _), (1, _), (2, _)] dX9_send_67 (by decide) rfl ?_
          refine z_goto C 69 129 dX9_send_69 (by decide) ?_
          refine z_aload_n C 129 0 2 dX9_send_129 rfl rfl ?_
          refine z_iload_n C 130 1 3 dX9_send_130 rfl rfl ?_
          refine z_bipush (v := nI 15) C 131 dX9_send_131 (by decide +kernel) ?_
          refine z_cVi0 C 133 dX9_send_133 cv_X9_203 (c_X9_of hR (by first | assumption | omega) (by omega)) rfl ⟨by decide, rfl⟩ (by first | assumption | exact Nat.zero_lt_one | omega) rfl rfl (Nat.le_of_ble_eq_true rfl) ⟨by decide, by decide⟩ ⟨rfl, rfl⟩ ⟨by decide, by decide⟩ ?_
          intro r133 S133 L133 R133 p133
          obtain ⟨rfl, rfl, rfl, rfl⟩ := p133
          exact ret 136 _ _ _ _ _ dX9_send_136 (by first | rfl | exact bI_n | decide) (⟨(by rw [hs]; exact (by have hB : kP (S 51 0) (S 44 0) u B := hB; (try simp only [up3_k _ (show (44 : Nat) ≠ 40 by decide), up3_k _ (show (41 : Nat) ≠ 40 by decide), up3_k _ (show (43 : Nat) ≠ 40 by decide), up3_k _ (show (49 : Nat) ≠ 40 by decide), up3_k _ (show (50 : Nat) ≠ 40 by decide), up3_k _ (show (51 : Nat) ≠ 40 by decide), up3_k _ (show (52 : Nat) ≠ 40 by decide), up3_k _ (show (53 : Nat) ≠ 40 by decide), sA_s, sA_n _ _ (show (40 : Nat) ≠ 44 by decide), sA_n _ _ (show (40 : Nat) ≠ 49 by decide), sA_n _ _ (show (40 : Nat) ≠ 50 by decide), sA_n _ _ (show (40 : Nat) ≠ 51 by decide), sA_n _ _ (show (40 : Nat) ≠ 52 by decide), sA_n _ _ (show (41 : Nat) ≠ 44 by decide), sA_n _ _ (show (41 : Nat) ≠ 49 by decide), sA_n _ _ (show (41 : Nat) ≠ 50 by decide), sA_n _ _ (show (41 : Nat) ≠ 51 by decide), sA_n _ _ (show (41 : Nat) ≠ 52 by decide), sA_n _ _ (show (43 : Nat) ≠ 44 by decide), sA_n _ _ (show (43 : Nat) ≠ 49 by decide), sA_n _ _ (show (43 : Nat) ≠ 50 by decide), sA_n _ _ (show (43 : Nat) ≠ 51 by decide), sA_n _ _ (show (43 : Nat) ≠ 52 by decide), sA_n _ _ (show (44 : Nat) ≠ 49 by decide), sA_n _ _ (show (44 : Nat) ≠ 50 by decide), sA_n _ _ (show (44 : Nat) ≠ 51 by decide), sA_n _ _ (show (44 : Nat) ≠ 52 by decide), sA_n _ _ (show (49 : Nat) ≠ 44 by decide), sA_n _ _ (show (49 : Nat) ≠ 50 by decide), sA_n _ _ (show (49 : Nat) ≠ 51 by decide), sA_n _ _ (show (49 : Nat) ≠ 52 by decide), sA_n _ _ (show (50 : Nat) ≠ 44 by decide), sA_n _ _ (show (50 : Nat) ≠ 49 by decide), sA_n _ _ (show (50 : Nat) ≠ 51 by decide), sA_n _ _ (show (50 : Nat) ≠ 52 by decide), sA_n _ _ (show (51 : Nat) ≠ 44 by decide), sA_n _ _ (show (51 : Nat) ≠ 49 by decide), sA_n _ _ (show (51 : Nat) ≠ 50 by decide), sA_n _ _ (show (51 : Nat) ≠ 52 by decide), sA_n _ _ (show (52 : Nat) ≠ 44 by decide), sA_n _ _ (show (52 : Nat) ≠ 49 by decide), sA_n _ _ (show (52 : Nat) ≠ 50 by decide), sA_n _ _ (show (52 : Nat) ≠ 51 by decide), sA_n _ _ (show (53 : Nat) ≠ 44 by decide), sA_n _ _ (show (53 : Nat) ≠ 49 by decide), sA_n _ _ (show (53 : Nat) ≠ 50 by decide), sA_n _ _ (show (53 : Nat) ≠ 51 by decide), sA_n _ _ (show (53 : Nat) ≠ 52 by decide), up3_sA _ (show (40 : Nat) ≠ 44 by decide), up3_sA _ (show (40 : Nat) ≠ 49 by decide), up3_sA _ (show (40 : Nat) ≠ 50 by decide), up3_sA _ (show (40 : Nat) ≠ 51 by decide), up3_sA _ (show (40 : Nat) ≠ 52 by decide), sA_44_49, sA_44_50, sA_49_50, sA_44_51, sA_49_51, sA_50_51, sA_44_52, sA_sA, up3_up3, sA_up44, up3_26_27, up3_sA _ (show (40 : Nat) ≠ 52 by decide)]); first | exact rC.top ((rC0_b hB).s (Or.inr (Or.inr rfl))) | exact rC.top (((rC0_c hB).s (Or.inr (Or.inr rfl))).s (Or.inr (Or.inl rfl))) | exact rC.top (((rC0_b hB).s (Or.inr (Or.inr rfl))).s (Or.inr (Or.inl rfl))) | exact ⟨(rC0_b hB).s (Or.inr (Or.inr rfl)), rfl⟩)), (by rw [hs]; first | rfl | (simp only [up3_k _ (show (44 : Nat) ≠ 40 by decide), up3_k _ (show (41 : Nat) ≠ 40 by decide), up3_k _ (show (43 : Nat) ≠ 40 by decide), up3_k _ (show (49 : Nat) ≠ 40 by decide), up3_k _ (show (50 : Nat) ≠ 40 by decide), up3_k _ (show (51 : Nat) ≠ 40 by decide), up3_k _ (show (52 : Nat) ≠ 40 by decide), up3_k _ (show (53 : Nat) ≠ 40 by decide), sA_s, sA_n _ _ (show (40 : Nat) ≠ 44 by decide), sA_n _ _ (show (40 : Nat) ≠ 49 by decide), sA_n _ _ (show (40 : Nat) ≠ 50 by decide), sA_n _ _ (show (40 : Nat) ≠ 51 by decide), sA_n _ _ (show (40 : Nat) ≠ 52 by decide), sA_n _ _ (show (41 : Nat) ≠ 44 by decide), sA_n _ _ (show (41 : Nat) ≠ 49 by decide), sA_n _ _ (show (41 : Nat) ≠ 50 by decide), sA_n _ _ (show (41 : Nat) ≠ 51 by decide), sA_n _ _ (show (41 : Nat) ≠ 52 by decide), sA_n _ _ (show (43 : Nat) ≠ 44 by decide), sA_n _ _ (show (43 : Nat) ≠ 49 by decide), sA_n _ _ (show (43 : Nat) ≠ 50 by decide), sA_n _ _ (show (43 : Nat) ≠ 51 by decide), sA_n _ _ (show (43 : Nat) ≠ 52 by decide), sA_n _ _ (show (44 : Nat) ≠ 49 by decide), sA_n _ _ (show (44 : Nat) ≠ 50 by decide), sA_n _ _ (show (44 : Nat) ≠ 51 by decide), sA_n _ _ (show (44 : Nat) ≠ 52 by decide), sA_n _ _ (show (49 : Nat) ≠ 44 by decide), sA_n _ _ (show (49 : Nat) ≠ 50 by decide), sA_n _ _ (show (49 : Nat) ≠ 51 by decide), sA_n _ _ (show (49 : Nat) ≠ 52 by decide), sA_n _ _ (show (50 : Nat) ≠ 44 by decide), sA_n _ _ (show (50 : Nat) ≠ 49 by decide), sA_n _ _ (show (50 : Nat) ≠ 51 by decide), sA_n _ _ (show (50 : Nat) ≠ 52 by decide), sA_n _ _ (show (51 : Nat) ≠ 44 by decide), sA_n _ _ (show (51 : Nat) ≠ 49 by decide), sA_n _ _ (show (51 : Nat) ≠ 50 by decide), sA_n _ _ (show (51 : Nat) ≠ 52 by decide), sA_n _ _ (show (52 : Nat) ≠ 44 by decide), sA_n _ _ (show (52 : Nat) ≠ 49 by decide), sA_n _ _ (show (52 : Nat) ≠ 50 by decide), sA_n _ _ (show (52 : Nat) ≠ 51 by decide), sA_n _ _ (show (53 : Nat) ≠ 44 by decide), sA_n _ _ (show (53 : Nat) ≠ 49 by decide), sA_n _ _ (show (53 : Nat) ≠ 50 by decide), sA_n _ _ (show (53 : Nat) ≠ 51 by decide), sA_n _ _ (show (53 : Nat) ≠ 52 by decide), up3_sA _ (show (40 : Nat) ≠ 44 by decide), up3_sA _ (show (40 : Nat) ≠ 49 by decide), up3_sA _ (show (40 : Nat) ≠ 50 by decide), up3_sA _ (show (40 : Nat) ≠ 51 by decide), up3_sA _ (show (40 : Nat) ≠ 52 by decide), sA_44_49, sA_44_50, sA_49_50, sA_44_51, sA_49_51, sA_50_51, sA_44_52, sA_sA, up3_up3, sA_up44, up3_26_27, up3_sA _ (show (40 : Nat) ≠ 52 by decide)]; done) | (simp only [up3_k _ (show (44 : Nat) ≠ 40 by decide), up3_k _ (show (41 : Nat) ≠ 40 by decide), up3_k _ (show (43 : Nat) ≠ 40 by decide), up3_k _ (show (49 : Nat) ≠ 40 by decide), up3_k _ (show (50 : Nat) ≠ 40 by decide), up3_k _ (show (51 : Nat) ≠ 40 by decide), up3_k _ (show (52 : Nat) ≠ 40 by decide), up3_k _ (show (53 : Nat) ≠ 40 by decide), sA_s, sA_n _ _ (show (40 : Nat) ≠ 44 by decide), sA_n _ _ (show (40 : Nat) ≠ 49 by decide), sA_n _ _ (show (40 : Nat) ≠ 50 by decide), sA_n _ _ (show (40 : Nat) ≠ 51 by decide), sA_n _ _ (show (40 : Nat) ≠ 52 by decide), sA_n _ _ (show (41 : Nat) ≠ 44 by decide), sA_n _ _ (show (41 : Nat) ≠ 49 by decide), sA_n _ _ (show (41 : Nat) ≠ 50 by decide), sA_n _ _ (show (41 : Nat) ≠ 51 by decide), sA_n _ _ (show (41 : Nat) ≠ 52 by decide), sA_n _ _ (show (43 : Nat) ≠ 44 by decide), sA_n _ _ (show (43 : Nat) ≠ 49 by decide), sA_n _ _ (show (43 : Nat) ≠ 50 by decide), sA_n _ _ (show (43 : Nat) ≠ 51 by decide), sA_n _ _ (show (43 : Nat) ≠ 52 by decide), sA_n _ _ (show (44 : Nat) ≠ 49 by decide), sA_n _ _ (show (44 : Nat) ≠ 50 by decide), sA_n _ _ (show (44 : Nat) ≠ 51 by decide), sA_n _ _ (show (44 : Nat) ≠ 52 by decide), sA_n _ _ (show (49 : Nat) ≠ 44 by decide), sA_n _ _ (show (49 : Nat) ≠ 50 by decide), sA_n _ _ (show (49 : Nat) ≠ 51 by decide), sA_n _ _ (show (49 : Nat) ≠ 52 by decide), sA_n _ _ (show (50 : Nat) ≠ 44 by decide), sA_n _ _ (show (50 : Nat) ≠ 49 by decide), sA_n _ _ (show (50 : Nat) ≠ 51 by decide), sA_n _ _ (show (50 : Nat) ≠ 52 by decide), sA_n _ _ (show (51 : Nat) ≠ 44 by decide), sA_n _ _ (show (51 : Nat) ≠ 49 by decide), sA_n _ _ (show (51 : Nat) ≠ 50 by decide), sA_n _ _ (show (51 : Nat) ≠ 52 by decide), sA_n _ _ (show (52 : Nat) ≠ 44 by decide), sA_n _ _ (show (52 : Nat) ≠ 49 by decide), sA_n _ _ (show (52 : Nat) ≠ 50 by decide), sA_n _ _ (show (52 : Nat) ≠ 51 by decide), sA_n _ _ (show (53 : Nat) ≠ 44 by decide), sA_n _ _ (show (53 : Nat) ≠ 49 by decide), sA_n _ _ (show (53 : Nat) ≠ 50 by decide), sA_n _ _ (show (53 : Nat) ≠ 51 by decide), sA_n _ _ (show (53 : Nat) ≠ 52 by decide), up3_sA _ (show (40 : Nat) ≠ 44 by decide), up3_sA _ (show (40 : Nat) ≠ 49 by decide), up3_sA _ (show (40 : Nat) ≠ 50 by decide), up3_sA _ (show (40 : Nat) ≠ 51 by decide), up3_sA _ (show (40 : Nat) ≠ 52 by decide), sA_44_49, sA_44_50, sA_49_50, sA_44_51, sA_49_51, sA_50_51, sA_44_52, sA_sA, up3_up3, sA_up44, up3_26_27, up3_sA _ (show (40 : Nat) ≠ 52 by decide)]; rfl)), rfl, rfl⟩)

set_option maxHeartbeats 4000000 in
set_option maxRecDepth 100000 in
theorem c_X9_send_1 {l : Launch} {G : mG} {ad : mA} {S : mS} {L : mL} {R : mR} {n : Nat} {x y : Int32} (hR : mlk R) (hn : S 40 0 1 = nI n) (hn10 : n ≤ 10) (hx : ¬ isP n x) : Ki l yX9_send cX9_send 5 .int rm_X9_send G ad mdm [.ref (ad 40 0), .int x, .int y] S L R (fun r_ S2 L2 R2 => rQ S S2 1 ∧ L = L2 ∧ R = R2) := by
  refine Ki.of RX9 (by decide) rfl (Nat.le_of_ble_eq_true rfl) ?_
  intro X hXl hXG C ret
  subst hXl; subst hXG
  change Z X 5 ad mdm S L R 0 0 0 [(0, _), (1, _), (2, _)] []
  refine z_aload_n C 0 0 0 dX9_send_0 rfl rfl ?_
  refine z_iload_n C 1 1 1 dX9_send_1 rfl rfl ?_
  refine z_cVi0 C 2 dX9_send_2 cv_X9_291 (c_X9_noProgram_1 hR hn hn10 hx) rfl ⟨by decide, rfl⟩ (by first | assumption | exact Nat.zero_lt_one | omega) rfl rfl (Nat.le_of_ble_eq_true rfl) ⟨by decide, by decide⟩ ⟨rfl, rfl⟩ ⟨by decide, by decide⟩ ?_
  intro r2 S2 L2 R2 p2
  obtain ⟨rfl, rfl, rfl, rfl⟩ := p2
  first | with_reducible refine z_if_neB C 5 32 dX9_send_5 (by decide) (fun h5 => ?_) (fun h5 => by omega) | with_reducible refine z_if_neN C 5 32 dX9_send_5 (by decide) (by omega) (fun h5 => ?_) (fun h5 => by omega) | refine z_if_ne C 5 32 dX9_send_5 (by decide) (fun h5 => ?_) (fun h5 => by omega)
  · refine z_iconst (v := nI 0) C 32 dX9_send_32 (by decide) ?_
    exact ret 33 _ _ _ _ _ dX9_send_33 (by first | rfl | exact bI_n | decide) (⟨(by first | exact rQ_t _ _ | (simp only [up3_up3]; exact rQ_t _ _)), rfl, rfl⟩)

set_option maxHeartbeats 4000000 in
set_option maxRecDepth 100000 in
theorem c_X9_send_2 {l : Launch} {G : mG} {ad : mA} {S : mS} {L : mL} {R : mR} {n p : Nat} {x : Int32} (hR : mlk R) (hn : S 40 0 1 = nI n) (hn10 : n ≤ 10) (hp : p < n) (hx : ¬ isR 0 999 x) : Ki l yX9_send cX9_send 5 .int rm_X9_send G ad mdm [.ref (ad 40 0), .int (nI p), .int x] S L R (fun r_ S2 L2 R2 => rQ S S2 2 ∧ L = L2 ∧ R = R2) := by
  refine Ki.of RX9 (by decide) rfl (Nat.le_of_ble_eq_true rfl) ?_
  intro X hXl hXG C ret
  subst hXl; subst hXG
  change Z X 5 ad mdm S L R 0 0 0 [(0, _), (1, _), (2, _)] []
  refine z_aload_n C 0 0 0 dX9_send_0 rfl rfl ?_
  refine z_iload_n C 1 1 1 dX9_send_1 rfl rfl ?_
  refine z_cVi0 C 2 dX9_send_2 cv_X9_291 (c_X9_noProgram hR hn hn10 (by assumption)) rfl ⟨by decide, rfl⟩ (by first | assumption | exact Nat.zero_lt_one | omega) rfl rfl (Nat.le_of_ble_eq_true rfl) ⟨by decide, by decide⟩ ⟨rfl, rfl⟩ ⟨by decide, by decide⟩ ?_
  intro r2 S2 L2 R2 p2
  obtain ⟨rfl, rfl, rfl, rfl⟩ := p2
  first | with_reducible refine z_if_neB C 5 32 dX9_send_5 (by decide) (fun h5 => by omega) (fun h5 => ?_) | with_reducible refine z_if_neN C 5 32 dX9_send_5 (by decide) (by omega) (fun h5 => by omega) (fun h5 => ?_) | refine z_if_ne C 5 32 dX9_send_5 (by decide) (fun h5 => by omega) (fun h5 => ?_)
  · refine z_aload_n C 8 0 0 dX9_send_8 rfl rfl ?_
    refine z_iload_n C 9 2 2 dX9_send_9 rfl rfl ?_
    refine z_iconst (v := nI 0) C 10 dX9_send_10 (by decide) ?_
    refine z_sipush (v := nI 999) C 11 dX9_send_11 (by decide +kernel) ?_
    refine z_cSi0 C 14 dX9_send_14 cs_X9_89 (c_X9_within_0 hx (by decide) (by decide)) rfl rfl (Nat.le_of_ble_eq_true rfl) ⟨by decide, by decide⟩ ⟨rfl, rfl⟩ ⟨by decide, by decide⟩ ?_
    intro r14 S14 L14 R14 p14
    obtain ⟨rfl, rfl, rfl, rfl⟩ := p14
    first | with_reducible refine z_if_neB C 17 24 dX9_send_17 (by decide) (fun h17 => by omega) (fun h17 => ?_) | with_reducible refine z_if_neN C 17 24 dX9_send_17 (by decide) (by omega) (fun h17 => by omega) (fun h17 => ?_) | refine z_if_ne C 17 24 dX9_send_17 (by decide) (fun h17 => by omega) (fun h17 => ?_)
    · refine z_iconst (v := nI 1) C 20 dX9_send_20 (by decide) ?_
      refine z_goto C 21 25 dX9_send_21 (by decide) ?_
      refine z_iconst (v := nI 2) C 25 dX9_send_25 (by decide) ?_
      refine z_cVi0 C 26 dX9_send_26 cv_X9_185 (c_X9_throwsIf_1 hR (by first | assumption | rfl) (by decide) (by decide)) rfl ⟨by decide, rfl⟩ (by first | assumption | exact Nat.zero_lt_one | omega) rfl rfl (Nat.le_of_ble_eq_true rfl) ⟨by decide, by decide⟩ ⟨rfl, rfl⟩ ⟨by decide, by decide⟩ ?_
      intro r26 S26 L26 R26 p26
      obtain ⟨rfl, rfl, rfl, rfl⟩ := p26
      first | with_reducible refine z_if_eqB C 29 34 dX9_send_29 (by decide) (fun h29 => by omega) (fun h29 => ?_) | with_reducible refine z_if_eqN C 29 34 dX9_send_29 (by decide) (by omega) (fun h29 => by omega) (fun h29 => ?_) | refine z_if_eq C 29 34 dX9_send_29 (by decide) (fun h29 => by omega) (fun h29 => ?_)
      · refine z_iconst (v := nI 0) C 32 dX9_send_32 (by decide) ?_
        exact ret 33 _ _ _ _ _ dX9_send_33 (by first | rfl | exact bI_n | decide) (⟨(by first | exact rQ_t _ _ | (simp only [up3_up3]; exact rQ_t _ _)), rfl, rfl⟩)
def rm_X9_read : Room := { frames := 2, cells := 0, slots := 0, locals := 45 }
set_option maxHeartbeats 4000000 in
set_option maxRecDepth 100000 in
theorem c_X9_read {l : Launch} {G : mG} {ad : mA} {S : mS} {L : mL} {R : mR} {n q u w : Nat} (hR : mlk R) (hu : S 40 0 27 = nI u) (hu10 : u ≤ 10) (hI : rI (S 44 0) n) (hn10 : n ≤ 10) (hq : q < n) (hqe : (S 44 0) 2 = nI q) (hw : fo (S 44 0) q 15 = nI w) (hw1 : 1 ≤ w) (hw5 : w ≤ 5) : Ki l yX9_read cX9_read 3 .int rm_X9_read G ad mdm [.ref (ad 40 0)] S L R (fun r_ S2 L2 R2 => rC S S2 (fTake (fLeave (S 44 0) q w) q ((S 44 0) (388 + 5 * q))) u ∧ r_ = nI 31 * fo (fLeave (S 44 0) q w) q 3 + (S 44 0) (388 + 5 * q) ∧ L = L2 ∧ R = R2) := by
  refine Ki.of RX9 (by decide) rfl (Nat.le_of_ble_eq_true rfl) ?_
  intro X hXl hXG C ret
  subst hXl; subst hXG
  change Z X 3 ad mdm S L R 0 0 0 [(0, _)] []
  refine z_aload_n C 0 0 0 dX9_read_0 rfl rfl ?_
  refine z_iconst (v := nI 0) C 1 dX9_read_1 (by decide) ?_
  refine z_puti C 2 dX9_read_2 gf_X9_65 ⟨rfl, rfl⟩ rfl (by first | assumption | exact Nat.zero_lt_one | omega) ?_
  refine z_aload_n C 5 0 0 dX9_read_5 rfl rfl ?_
  refine z_getr C 6 dX9_read_6 gf_X9_20 rfl (by first | assumption | exact Nat.zero_lt_one | omega) (by first | exact hR _ _ _ _ rfl | assumption) ?_
  refine z_iconst (v := nI 2) C 9 dX9_read_9 (by decide) ?_
  refine z_iald C 10 dX9_read_10 (by first | rfl | assumption) (by first | assumption | exact Nat.zero_lt_one | omega) (by first | rfl | assumption) (by first | decide | omega) (by first | assumption | omega) ?_
  refine z_st (st := [.int (nI q)]) (by rw [← hqe]; rfl) ?_
  refine z_istore_n C 11 1 [(1, _), (0, _)] dX9_read_11 rfl (by decide) rfl ?_
  refine z_aload_n C 12 0 1 dX9_read_12 rfl rfl ?_
  refine z_iload_n C 13 1 0 dX9_read_13 rfl rfl ?_
  refine z_iconst (v := (-1)) C 14 dX9_read_14 (by decide) ?_
  first | with_reducible refine z_icmp_eqN C 15 28 dX9_read_15 (by decide) (by omega) (by omega) (fun h15 => absurd h15 (nI_m1 (by omega))) (fun h15 => ?_) | refine z_icmp_eq C 15 28 dX9_read_15 (by decide) (fun h15 => absurd h15 (nI_m1 (by omega))) (fun h15 => ?_)
  · refine z_aload_n C 18 0 1 dX9_read_18 rfl rfl ?_
    refine z_iload_n C 19 1 0 dX9_read_19 rfl rfl ?_
    refine z_bipush (v := nI 15) C 20 dX9_read_20 (by decide +kernel) ?_
    refine z_cVi0 C 22 dX9_read_22 cv_X9_203 (c_X9_of hR (by first | assumption | omega) (by omega)) rfl ⟨by decide, rfl⟩ (by first | assumption | exact Nat.zero_lt_one | omega) rfl rfl (Nat.le_of_ble_eq_true rfl) ⟨by decide, by decide⟩ ⟨rfl, rfl⟩ ⟨by decide, by decide⟩ ?_
    intro r22 S22 L22 R22 p22
    obtain ⟨rfl, rfl, rfl, rfl⟩ := p22
    first | with_reducible refine z_if_neB C 25 32 dX9_read_25 (by decide) (fun h25 => ?_) (fun h25 => absurd (hw.symm.trans h25) (nI_ne0 (by omega) (by omega))) | with_reducible refine z_if_neN C 25 32 dX9_read_25 (by decide) (by omega) (fun h25 => ?_) (fun h25 => absurd (hw.symm.trans h25) (nI_ne0 (by omega) (by omega))) | refine z_if_ne C 25 32 dX9_read_25 (by decide) (fun h25 => ?_) (fun h25 => absurd (hw.symm.trans h25) (nI_ne0 (by omega) (by omega)))
    · refine z_iconst (v := nI 0) C 32 dX9_read_32 (by decide) ?_
      refine z_iconst (v := nI 1) C 33 dX9_read_33 (by decide) ?_
      refine z_cVi0 C 34 dX9_read_34 cv_X9_185 (c_X9_throwsIf_0 hR (by first | assumption | rfl)) rfl ⟨by decide, rfl⟩ (by first | assumption | exact Nat.zero_lt_one | omega) rfl rfl (Nat.le_of_ble_eq_true rfl) ⟨by decide, by decide⟩ ⟨rfl, rfl⟩ ⟨by decide, by decide⟩ ?_
      intro r34 S34 L34 R34 p34
      obtain ⟨rfl, rfl, rfl, rfl⟩ := p34
      first | with_reducible refine z_if_eqB C 37 42 dX9_read_37 (by decide) (fun h37 => ?_) (fun h37 => by omega) | with_reducible refine z_if_eqN C 37 42 dX9_read_37 (by decide) (by omega) (fun h37 => ?_) (fun h37 => by omega) | refine z_if_eq C 37 42 dX9_read_37 (by decide) (fun h37 => ?_) (fun h37 => by omega)
      · refine z_aload_n C 42 0 1 dX9_read_42 rfl rfl ?_
        refine z_getr C 43 dX9_read_43 gf_X9_20 rfl (by first | assumption | exact Nat.zero_lt_one | omega) (by first | exact hR _ _ _ _ rfl | assumption) ?_
        refine z_aload_n C 46 0 1 dX9_read_46 rfl rfl ?_
        refine z_getr C 47 dX9_read_47 gf_X9_43 rfl (by first | assumption | exact Nat.zero_lt_one | omega) (by first | exact hR _ _ _ _ rfl | assumption) ?_
        refine z_cSv0 C 50 dX9_read_50 cs_X9_269 (c_X9_puts (by rfl) (by rfl) (by first | assumption | exact Nat.zero_lt_one | omega) (by first | assumption | exact Nat.zero_lt_one | omega) (by decide)) rfl rfl (Nat.le_of_ble_eq_true rfl) ⟨by decide, by decide⟩ ⟨rfl, rfl⟩ ⟨by decide, by decide⟩ ?_
        intro S50 L50 R50 p50
        obtain ⟨rfl, rfl, rfl⟩ := p50
        refine z_aload_n C 53 0 1 dX9_read_53 rfl rfl ?_
        refine z_cVv0 C 54 dX9_read_54 cv_X9_306 (c_X9_keeps (u := u) hR hu hu10) rfl ⟨by decide, rfl⟩ (by first | assumption | exact Nat.zero_lt_one | omega) rfl rfl (Nat.le_of_ble_eq_true rfl) ⟨by decide, by decide⟩ ⟨rfl, rfl⟩ ⟨by decide, by decide⟩ ?_
        intro S54 L54 R54 p54
        obtain ⟨⟨B, rfl, hB⟩, rfl, rfl⟩ := p54
        refine z_aload_n C 57 0 1 dX9_read_57 rfl rfl ?_
        refine z_getr C 58 dX9_read_58 gf_X9_20 rfl (by first | assumption | exact Nat.zero_lt_one | omega) (by first | exact hR _ _ _ _ rfl | assumption) ?_
        refine z_sipush (v := nI 388) C 61 dX9_read_61 (by decide +kernel) ?_
        refine z_iconst (v := nI 5) C 64 dX9_read_64 (by decide) ?_
        refine z_iload_n C 65 1 0 dX9_read_65 rfl rfl ?_
        first | with_reducible refine z_imulN C 66 dX9_read_66 ?_ | refine z_imul C 66 dX9_read_66 ?_
        first | with_reducible refine z_iaddN C 67 dX9_read_67 ?_ | refine z_iadd C 67 dX9_read_67 ?_
        refine z_iald C 68 dX9_read_68 (by first | rfl | assumption) (by first | assumption | exact Nat.zero_lt_one | omega) (by first | rfl | assumption) (by first | decide | omega) (by first | assumption | omega) ?_
        refine z_istore_n C 69 2 [(2, _), (1, _), (0, _)] dX9_read_69 rfl (by decide) rfl ?_
        refine z_aload_n C 70 0 2 dX9_read_70 rfl rfl ?_
        refine z_iload_n C 71 1 1 dX9_read_71 rfl rfl ?_
        refine z_cVv0 C 72 dX9_read_72 cv_X9_315 (c_X9_leavesFirst (w := w) hR (by omega) hw hw1 hw5) rfl ⟨by decide, rfl⟩ (by first | assumption | exact Nat.zero_lt_one | omega) rfl rfl (Nat.le_of_ble_eq_true rfl) ⟨by decide, by decide⟩ ⟨rfl, rfl⟩ ⟨by decide, by decide⟩ ?_
        intro S72 L72 R72 p72
        obtain ⟨rfl, rfl, rfl⟩ := p72
        refine z_aload_n C 75 0 2 dX9_read_75 rfl rfl ?_
        refine z_iload_n C 76 1 1 dX9_read_76 rfl rfl ?_
        refine z_iload_n C 77 2 0 dX9_read_77 rfl rfl ?_
        refine z_cVi0 C 78 dX9_read_78 cv_X9_312 (c_X9_takesIn hR (by omega)) rfl ⟨by decide, rfl⟩ (by first | assumption | exact Nat.zero_lt_one | omega) rfl rfl (Nat.le_of_ble_eq_true rfl) ⟨by decide, by decide⟩ ⟨rfl, rfl⟩ ⟨by decide, by decide⟩ ?_
        intro r78 S78 L78 R78 p78
        obtain ⟨rfl, rfl, rfl, rfl⟩ := p78
        exact ret 81 _ _ _ _ _ dX9_read_81 (by first | rfl | exact bI_n | decide) (⟨(by have hB : kP (S 51 0) (S 44 0) u B := hB; (try simp only [up3_k _ (show (44 : Nat) ≠ 40 by decide), up3_k _ (show (41 : Nat) ≠ 40 by decide), up3_k _ (show (43 : Nat) ≠ 40 by decide), up3_k _ (show (49 : Nat) ≠ 40 by decide), up3_k _ (show (50 : Nat) ≠ 40 by decide), up3_k _ (show (51 : Nat) ≠ 40 by decide), up3_k _ (show (52 : Nat) ≠ 40 by decide), up3_k _ (show (53 : Nat) ≠ 40 by decide), sA_s, sA_n _ _ (show (40 : Nat) ≠ 44 by decide), sA_n _ _ (show (40 : Nat) ≠ 49 by decide), sA_n _ _ (show (40 : Nat) ≠ 50 by decide), sA_n _ _ (show (40 : Nat) ≠ 51 by decide), sA_n _ _ (show (40 : Nat) ≠ 52 by decide), sA_n _ _ (show (41 : Nat) ≠ 44 by decide), sA_n _ _ (show (41 : Nat) ≠ 49 by decide), sA_n _ _ (show (41 : Nat) ≠ 50 by decide), sA_n _ _ (show (41 : Nat) ≠ 51 by decide), sA_n _ _ (show (41 : Nat) ≠ 52 by decide), sA_n _ _ (show (43 : Nat) ≠ 44 by decide), sA_n _ _ (show (43 : Nat) ≠ 49 by decide), sA_n _ _ (show (43 : Nat) ≠ 50 by decide), sA_n _ _ (show (43 : Nat) ≠ 51 by decide), sA_n _ _ (show (43 : Nat) ≠ 52 by decide), sA_n _ _ (show (44 : Nat) ≠ 49 by decide), sA_n _ _ (show (44 : Nat) ≠ 50 by decide), sA_n _ _ (show (44 : Nat) ≠ 51 by decide), sA_n _ _ (show (44 : Nat) ≠ 52 by decide), sA_n _ _ (show (49 : Nat) ≠ 44 by decide), sA_n _ _ (show (49 : Nat) ≠ 50 by decide), sA_n _ _ (show (49 : Nat) ≠ 51 by decide), sA_n _ _ (show (49 : Nat) ≠ 52 by decide), sA_n _ _ (show (50 : Nat) ≠ 44 by decide), sA_n _ _ (show (50 : Nat) ≠ 49 by decide), sA_n _ _ (show (50 : Nat) ≠ 51 by decide), sA_n _ _ (show (50 : Nat) ≠ 52 by decide), sA_n _ _ (show (51 : Nat) ≠ 44 by decide), sA_n _ _ (show (51 : Nat) ≠ 49 by decide), sA_n _ _ (show (51 : Nat) ≠ 50 by decide), sA_n _ _ (show (51 : Nat) ≠ 52 by decide), sA_n _ _ (show (52 : Nat) ≠ 44 by decide), sA_n _ _ (show (52 : Nat) ≠ 49 by decide), sA_n _ _ (show (52 : Nat) ≠ 50 by decide), sA_n _ _ (show (52 : Nat) ≠ 51 by decide), sA_n _ _ (show (53 : Nat) ≠ 44 by decide), sA_n _ _ (show (53 : Nat) ≠ 49 by decide), sA_n _ _ (show (53 : Nat) ≠ 50 by decide), sA_n _ _ (show (53 : Nat) ≠ 51 by decide), sA_n _ _ (show (53 : Nat) ≠ 52 by decide), up3_sA _ (show (40 : Nat) ≠ 44 by decide), up3_sA _ (show (40 : Nat) ≠ 49 by decide), up3_sA _ (show (40 : Nat) ≠ 50 by decide), up3_sA _ (show (40 : Nat) ≠ 51 by decide), up3_sA _ (show (40 : Nat) ≠ 52 by decide), sA_44_49, sA_44_50, sA_49_50, sA_44_51, sA_49_51, sA_50_51, sA_44_52, sA_sA, up3_up3, sA_up44, up3_26_27, up3_sA _ (show (40 : Nat) ≠ 52 by decide)]); first | exact rC.top ((rC0_b hB).s (Or.inr (Or.inr rfl))) | exact rC.top (((rC0_c hB).s (Or.inr (Or.inr rfl))).s (Or.inr (Or.inl rfl))) | exact rC.top (((rC0_b hB).s (Or.inr (Or.inr rfl))).s (Or.inr (Or.inl rfl))) | exact ⟨(rC0_b hB).s (Or.inr (Or.inr rfl)), rfl⟩), rfl, rfl, rfl⟩)

set_option maxHeartbeats 4000000 in
set_option maxRecDepth 100000 in
theorem c_X9_read_1 {l : Launch} {G : mG} {ad : mA} {S : mS} {L : mL} {R : mR}  (hR : mlk R) (hm : (S 44 0) 2 = -1) : Ki l yX9_read cX9_read 3 .int rm_X9_read G ad mdm [.ref (ad 40 0)] S L R (fun r_ S2 L2 R2 => rQ S S2 1 ∧ L = L2 ∧ R = R2) := by
  refine Ki.of RX9 (by decide) rfl (Nat.le_of_ble_eq_true rfl) ?_
  intro X hXl hXG C ret
  subst hXl; subst hXG
  change Z X 3 ad mdm S L R 0 0 0 [(0, _)] []
  refine z_aload_n C 0 0 0 dX9_read_0 rfl rfl ?_
  refine z_iconst (v := nI 0) C 1 dX9_read_1 (by decide) ?_
  refine z_puti C 2 dX9_read_2 gf_X9_65 ⟨rfl, rfl⟩ rfl (by first | assumption | exact Nat.zero_lt_one | omega) ?_
  refine z_aload_n C 5 0 0 dX9_read_5 rfl rfl ?_
  refine z_getr C 6 dX9_read_6 gf_X9_20 rfl (by first | assumption | exact Nat.zero_lt_one | omega) (by first | exact hR _ _ _ _ rfl | assumption) ?_
  refine z_iconst (v := nI 2) C 9 dX9_read_9 (by decide) ?_
  refine z_iald C 10 dX9_read_10 (by first | rfl | assumption) (by first | assumption | exact Nat.zero_lt_one | omega) (by first | rfl | assumption) (by first | decide | omega) (by first | assumption | omega) ?_
  refine z_istore_n C 11 1 [(1, _), (0, _)] dX9_read_11 rfl (by decide) rfl ?_
  refine z_aload_n C 12 0 1 dX9_read_12 rfl rfl ?_
  refine z_iload_n C 13 1 0 dX9_read_13 rfl rfl ?_
  refine z_iconst (v := (-1)) C 14 dX9_read_14 (by decide) ?_
  first | with_reducible refine z_icmp_eqN C 15 28 dX9_read_15 (by decide) (by omega) (by omega) (fun h15 => ?_) (fun h15 => absurd hm h15) | refine z_icmp_eq C 15 28 dX9_read_15 (by decide) (fun h15 => ?_) (fun h15 => absurd hm h15)
  · refine z_iconst (v := nI 1) C 28 dX9_read_28 (by decide) ?_
    refine z_goto C 29 33 dX9_read_29 (by decide) ?_
    refine z_iconst (v := nI 1) C 33 dX9_read_33 (by decide) ?_
    refine z_cVi0 C 34 dX9_read_34 cv_X9_185 (c_X9_throwsIf_1 hR (by first | assumption | rfl) (by decide) (by decide)) rfl ⟨by decide, rfl⟩ (by first | assumption | exact Nat.zero_lt_one | omega) rfl rfl (Nat.le_of_ble_eq_true rfl) ⟨by decide, by decide⟩ ⟨rfl, rfl⟩ ⟨by decide, by decide⟩ ?_
    intro r34 S34 L34 R34 p34
    obtain ⟨rfl, rfl, rfl, rfl⟩ := p34
    first | with_reducible refine z_if_eqB C 37 42 dX9_read_37 (by decide) (fun h37 => by omega) (fun h37 => ?_) | with_reducible refine z_if_eqN C 37 42 dX9_read_37 (by decide) (by omega) (fun h37 => by omega) (fun h37 => ?_) | refine z_if_eq C 37 42 dX9_read_37 (by decide) (fun h37 => by omega) (fun h37 => ?_)
    · refine z_iconst (v := nI 0) C 40 dX9_read_40 (by decide) ?_
      exact ret 41 _ _ _ _ _ dX9_read_41 (by first | rfl | exact bI_n | decide) (⟨(by first | exact rQ_t _ _ | (simp only [up3_up3]; exact rQ_t _ _)), rfl, rfl⟩)

set_option maxHeartbeats 4000000 in
set_option maxRecDepth 100000 in
theorem c_X9_read_2 {l : Launch} {G : mG} {ad : mA} {S : mS} {L : mL} {R : mR} {n q : Nat} (hR : mlk R) (hn10 : n ≤ 10) (hq : q < n) (hqe : (S 44 0) 2 = nI q) (hw : fo (S 44 0) q 15 = 0) : Ki l yX9_read cX9_read 3 .int rm_X9_read G ad mdm [.ref (ad 40 0)] S L R (fun r_ S2 L2 R2 => rQ S S2 1 ∧ L = L2 ∧ R = R2) := by
  refine Ki.of RX9 (by decide) rfl (Nat.le_of_ble_eq_true rfl) ?_
  intro X hXl hXG C ret
  subst hXl; subst hXG
  change Z X 3 ad mdm S L R 0 0 0 [(0, _)] []
  refine z_aload_n C 0 0 0 dX9_read_0 rfl rfl ?_
  refine z_iconst (v := nI 0) C 1 dX9_read_1 (by decide) ?_
  refine z_puti C 2 dX9_read_2 gf_X9_65 ⟨rfl, rfl⟩ rfl (by first | assumption | exact Nat.zero_lt_one | omega) ?_
  refine z_aload_n C 5 0 0 dX9_read_5 rfl rfl ?_
  refine z_getr C 6 dX9_read_6 gf_X9_20 rfl (by first | assumption | exact Nat.zero_lt_one | omega) (by first | exact hR _ _ _ _ rfl | assumption) ?_
  refine z_iconst (v := nI 2) C 9 dX9_read_9 (by decide) ?_
  refine z_iald C 10 dX9_read_10 (by first | rfl | assumption) (by first | assumption | exact Nat.zero_lt_one | omega) (by first | rfl | assumption) (by first | decide | omega) (by first | assumption | omega) ?_
  refine z_st (st := [.int (nI q)]) (by rw [← hqe]; rfl) ?_
  refine z_istore_n C 11 1 [(1, _), (0, _)] dX9_read_11 rfl (by decide) rfl ?_
  refine z_aload_n C 12 0 1 dX9_read_12 rfl rfl ?_
  refine z_iload_n C 13 1 0 dX9_read_13 rfl rfl ?_
  refine z_iconst (v := (-1)) C 14 dX9_read_14 (by decide) ?_
  first | with_reducible refine z_icmp_eqN C 15 28 dX9_read_15 (by decide) (by omega) (by omega) (fun h15 => absurd h15 (nI_m1 (by omega))) (fun h15 => ?_) | refine z_icmp_eq C 15 28 dX9_read_15 (by decide) (fun h15 => absurd h15 (nI_m1 (by omega))) (fun h15 => ?_)
  · refine z_aload_n C 18 0 1 dX9_read_18 rfl rfl ?_
    refine z_iload_n C 19 1 0 dX9_read_19 rfl rfl ?_
    refine z_bipush (v := nI 15) C 20 dX9_read_20 (by decide +kernel) ?_
    refine z_cVi0 C 22 dX9_read_22 cv_X9_203 (c_X9_of hR (by first | assumption | omega) (by omega)) rfl ⟨by decide, rfl⟩ (by first | assumption | exact Nat.zero_lt_one | omega) rfl rfl (Nat.le_of_ble_eq_true rfl) ⟨by decide, by decide⟩ ⟨rfl, rfl⟩ ⟨by decide, by decide⟩ ?_
    intro r22 S22 L22 R22 p22
    obtain ⟨rfl, rfl, rfl, rfl⟩ := p22
    first | with_reducible refine z_if_neB C 25 32 dX9_read_25 (by decide) (fun h25 => absurd hw h25) (fun h25 => ?_) | with_reducible refine z_if_neN C 25 32 dX9_read_25 (by decide) (by omega) (fun h25 => absurd hw h25) (fun h25 => ?_) | refine z_if_ne C 25 32 dX9_read_25 (by decide) (fun h25 => absurd hw h25) (fun h25 => ?_)
    · refine z_iconst (v := nI 1) C 28 dX9_read_28 (by decide) ?_
      refine z_goto C 29 33 dX9_read_29 (by decide) ?_
      refine z_iconst (v := nI 1) C 33 dX9_read_33 (by decide) ?_
      refine z_cVi0 C 34 dX9_read_34 cv_X9_185 (c_X9_throwsIf_1 hR (by first | assumption | rfl) (by decide) (by decide)) rfl ⟨by decide, rfl⟩ (by first | assumption | exact Nat.zero_lt_one | omega) rfl rfl (Nat.le_of_ble_eq_true rfl) ⟨by decide, by decide⟩ ⟨rfl, rfl⟩ ⟨by decide, by decide⟩ ?_
      intro r34 S34 L34 R34 p34
      obtain ⟨rfl, rfl, rfl, rfl⟩ := p34
      first | with_reducible refine z_if_eqB C 37 42 dX9_read_37 (by decide) (fun h37 => by omega) (fun h37 => ?_) | with_reducible refine z_if_eqN C 37 42 dX9_read_37 (by decide) (by omega) (fun h37 => by omega) (fun h37 => ?_) | refine z_if_eq C 37 42 dX9_read_37 (by decide) (fun h37 => by omega) (fun h37 => ?_)
      · refine z_iconst (v := nI 0) C 40 dX9_read_40 (by decide) ?_
        exact ret 41 _ _ _ _ _ dX9_read_41 (by first | rfl | exact bI_n | decide) (⟨(by first | exact rQ_t _ _ | (simp only [up3_up3]; exact rQ_t _ _)), rfl, rfl⟩)
def rm_X9_setPolicy : Room := { frames := 2, cells := 0, slots := 0, locals := 45 }
set_option maxHeartbeats 4000000 in
set_option maxRecDepth 100000 in
theorem c_X9_setPolicy {l : Launch} {G : mG} {ad : mA} {S : mS} {L : mL} {R : mR} {w u : Nat} (hR : mlk R) (hu : S 40 0 27 = nI u) (hu10 : u ≤ 10) (hw : w ≤ 2) : Ki l yX9_setPolicy cX9_setPolicy 3 .int rm_X9_setPolicy G ad mdm [.ref (ad 40 0), .int (nI w)] S L R (fun r_ S2 L2 R2 => rC S S2 (upd (S 44 0) 4 (nI w)) u ∧ r_ = (S 44 0) 4 ∧ L = L2 ∧ R = R2) := by
  refine Ki.of RX9 (by decide) rfl (Nat.le_of_ble_eq_true rfl) ?_
  intro X hXl hXG C ret
  subst hXl; subst hXG
  change Z X 3 ad mdm S L R 0 0 0 [(0, _), (1, _)] []
  refine z_aload_n C 0 0 0 dX9_setPolicy_0 rfl rfl ?_
  refine z_iconst (v := nI 0) C 1 dX9_setPolicy_1 (by decide) ?_
  refine z_puti C 2 dX9_setPolicy_2 gf_X9_65 ⟨rfl, rfl⟩ rfl (by first | assumption | exact Nat.zero_lt_one | omega) ?_
  refine z_aload_n C 5 0 0 dX9_setPolicy_5 rfl rfl ?_
  refine z_iload_n C 6 1 1 dX9_setPolicy_6 rfl rfl ?_
  refine z_iconst (v := nI 0) C 7 dX9_setPolicy_7 (by decide) ?_
  refine z_iconst (v := nI 2) C 8 dX9_setPolicy_8 (by decide) ?_
  refine z_cSi0 C 9 dX9_setPolicy_9 cs_X9_89 (c_X9_within_1 (by omega) (by omega) (by first | decide | omega)) rfl rfl (Nat.le_of_ble_eq_true rfl) ⟨by decide, by decide⟩ ⟨rfl, rfl⟩ ⟨by decide, by decide⟩ ?_
  intro r9 S9 L9 R9 p9
  obtain ⟨rfl, rfl, rfl, rfl⟩ := p9
  first | with_reducible refine z_if_neB C 12 19 dX9_setPolicy_12 (by decide) (fun h12 => ?_) (fun h12 => by omega) | with_reducible refine z_if_neN C 12 19 dX9_setPolicy_12 (by decide) (by omega) (fun h12 => ?_) (fun h12 => by omega) | refine z_if_ne C 12 19 dX9_setPolicy_12 (by decide) (fun h12 => ?_) (fun h12 => by omega)
  · refine z_iconst (v := nI 0) C 19 dX9_setPolicy_19 (by decide) ?_
    refine z_iconst (v := nI 1) C 20 dX9_setPolicy_20 (by decide) ?_
    refine z_cVi0 C 21 dX9_setPolicy_21 cv_X9_185 (c_X9_throwsIf_0 hR (by first | assumption | rfl)) rfl ⟨by decide, rfl⟩ (by first | assumption | exact Nat.zero_lt_one | omega) rfl rfl (Nat.le_of_ble_eq_true rfl) ⟨by decide, by decide⟩ ⟨rfl, rfl⟩ ⟨by decide, by decide⟩ ?_
    intro r21 S21 L21 R21 p21
    obtain ⟨rfl, rfl, rfl, rfl⟩ := p21
    first | with_reducible refine z_if_eqB C 24 29 dX9_setPolicy_24 (by decide) (fun h24 => ?_) (fun h24 => by omega) | with_reducible refine z_if_eqN C 24 29 dX9_setPolicy_24 (by decide) (by omega) (fun h24 => ?_) (fun h24 => by omega) | refine z_if_eq C 24 29 dX9_setPolicy_24 (by decide) (fun h24 => ?_) (fun h24 => by omega)
    · refine z_aload_n C 29 0 0 dX9_setPolicy_29 rfl rfl ?_
      refine z_getr C 30 dX9_setPolicy_30 gf_X9_20 rfl (by first | assumption | exact Nat.zero_lt_one | omega) (by first | exact hR _ _ _ _ rfl | assumption) ?_
      refine z_aload_n C 33 0 0 dX9_setPolicy_33 rfl rfl ?_
      refine z_getr C 34 dX9_setPolicy_34 gf_X9_43 rfl (by first | assumption | exact Nat.zero_lt_one | omega) (by first | exact hR _ _ _ _ rfl | assumption) ?_
      refine z_cSv0 C 37 dX9_setPolicy_37 cs_X9_269 (c_X9_puts (by rfl) (by rfl) (by first | assumption | exact Nat.zero_lt_one | omega) (by first | assumption | exact Nat.zero_lt_one | omega) (by decide)) rfl rfl (Nat.le_of_ble_eq_true rfl) ⟨by decide, by decide⟩ ⟨rfl, rfl⟩ ⟨by decide, by decide⟩ ?_
      intro S37 L37 R37 p37
      obtain ⟨rfl, rfl, rfl⟩ := p37
      refine z_aload_n C 40 0 0 dX9_setPolicy_40 rfl rfl ?_
      refine z_cVv0 C 41 dX9_setPolicy_41 cv_X9_306 (c_X9_keeps (u := u) hR hu hu10) rfl ⟨by decide, rfl⟩ (by first | assumption | exact Nat.zero_lt_one | omega) rfl rfl (Nat.le_of_ble_eq_true rfl) ⟨by decide, by decide⟩ ⟨rfl, rfl⟩ ⟨by decide, by decide⟩ ?_
      intro S41 L41 R41 p41
      obtain ⟨⟨B, rfl, hB⟩, rfl, rfl⟩ := p41
      refine z_aload_n C 44 0 0 dX9_setPolicy_44 rfl rfl ?_
      refine z_getr C 45 dX9_setPolicy_45 gf_X9_20 rfl (by first | assumption | exact Nat.zero_lt_one | omega) (by first | exact hR _ _ _ _ rfl | assumption) ?_
      refine z_iconst (v := nI 4) C 48 dX9_setPolicy_48 (by decide) ?_
      refine z_iald C 49 dX9_setPolicy_49 (by first | rfl | assumption) (by first | assumption | exact Nat.zero_lt_one | omega) (by first | rfl | assumption) (by first | decide | omega) (by first | assumption | omega) ?_
      refine z_istore_n C 50 2 [(2, _), (0, _), (1, _)] dX9_setPolicy_50 rfl (by decide) rfl ?_
      refine z_aload_n C 51 0 1 dX9_setPolicy_51 rfl rfl ?_
      refine z_getr C 52 dX9_setPolicy_52 gf_X9_20 rfl (by first | assumption | exact Nat.zero_lt_one | omega) (by first | exact hR _ _ _ _ rfl | assumption) ?_
      refine z_iconst (v := nI 4) C 55 dX9_setPolicy_55 (by decide) ?_
      refine z_iload_n C 56 1 2 dX9_setPolicy_56 rfl rfl ?_
      refine z_iast C 57 dX9_setPolicy_57 (by first | rfl | assumption) (by first | assumption | exact Nat.zero_lt_one | omega)  (by first | rfl | assumption) (by first | decide | omega) (by first | assumption | omega) ?_
      refine z_iload_n C 58 2 0 dX9_setPolicy_58 rfl rfl ?_
      exact ret 59 _ _ _ _ _ dX9_setPolicy_59 (by first | rfl | exact bI_n | decide) (⟨(by have hB : kP (S 51 0) (S 44 0) u B := hB; (try simp only [up3_k _ (show (44 : Nat) ≠ 40 by decide), up3_k _ (show (41 : Nat) ≠ 40 by decide), up3_k _ (show (43 : Nat) ≠ 40 by decide), up3_k _ (show (49 : Nat) ≠ 40 by decide), up3_k _ (show (50 : Nat) ≠ 40 by decide), up3_k _ (show (51 : Nat) ≠ 40 by decide), up3_k _ (show (52 : Nat) ≠ 40 by decide), up3_k _ (show (53 : Nat) ≠ 40 by decide), sA_s, sA_n _ _ (show (40 : Nat) ≠ 44 by decide), sA_n _ _ (show (40 : Nat) ≠ 49 by decide), sA_n _ _ (show (40 : Nat) ≠ 50 by decide), sA_n _ _ (show (40 : Nat) ≠ 51 by decide), sA_n _ _ (show (40 : Nat) ≠ 52 by decide), sA_n _ _ (show (41 : Nat) ≠ 44 by decide), sA_n _ _ (show (41 : Nat) ≠ 49 by decide), sA_n _ _ (show (41 : Nat) ≠ 50 by decide), sA_n _ _ (show (41 : Nat) ≠ 51 by decide), sA_n _ _ (show (41 : Nat) ≠ 52 by decide), sA_n _ _ (show (43 : Nat) ≠ 44 by decide), sA_n _ _ (show (43 : Nat) ≠ 49 by decide), sA_n _ _ (show (43 : Nat) ≠ 50 by decide), sA_n _ _ (show (43 : Nat) ≠ 51 by decide), sA_n _ _ (show (43 : Nat) ≠ 52 by decide), sA_n _ _ (show (44 : Nat) ≠ 49 by decide), sA_n _ _ (show (44 : Nat) ≠ 50 by decide), sA_n _ _ (show (44 : Nat) ≠ 51 by decide), sA_n _ _ (show (44 : Nat) ≠ 52 by decide), sA_n _ _ (show (49 : Nat) ≠ 44 by decide), sA_n _ _ (show (49 : Nat) ≠ 50 by decide), sA_n _ _ (show (49 : Nat) ≠ 51 by decide), sA_n _ _ (show (49 : Nat) ≠ 52 by decide), sA_n _ _ (show (50 : Nat) ≠ 44 by decide), sA_n _ _ (show (50 : Nat) ≠ 49 by decide), sA_n _ _ (show (50 : Nat) ≠ 51 by decide), sA_n _ _ (show (50 : Nat) ≠ 52 by decide), sA_n _ _ (show (51 : Nat) ≠ 44 by decide), sA_n _ _ (show (51 : Nat) ≠ 49 by decide), sA_n _ _ (show (51 : Nat) ≠ 50 by decide), sA_n _ _ (show (51 : Nat) ≠ 52 by decide), sA_n _ _ (show (52 : Nat) ≠ 44 by decide), sA_n _ _ (show (52 : Nat) ≠ 49 by decide), sA_n _ _ (show (52 : Nat) ≠ 50 by decide), sA_n _ _ (show (52 : Nat) ≠ 51 by decide), sA_n _ _ (show (53 : Nat) ≠ 44 by decide), sA_n _ _ (show (53 : Nat) ≠ 49 by decide), sA_n _ _ (show (53 : Nat) ≠ 50 by decide), sA_n _ _ (show (53 : Nat) ≠ 51 by decide), sA_n _ _ (show (53 : Nat) ≠ 52 by decide), up3_sA _ (show (40 : Nat) ≠ 44 by decide), up3_sA _ (show (40 : Nat) ≠ 49 by decide), up3_sA _ (show (40 : Nat) ≠ 50 by decide), up3_sA _ (show (40 : Nat) ≠ 51 by decide), up3_sA _ (show (40 : Nat) ≠ 52 by decide), sA_44_49, sA_44_50, sA_49_50, sA_44_51, sA_49_51, sA_50_51, sA_44_52, sA_sA, up3_up3, sA_up44, up3_26_27, up3_sA _ (show (40 : Nat) ≠ 52 by decide)]); first | exact rC.top ((rC0_b hB).s (Or.inr (Or.inr rfl))) | exact rC.top (((rC0_c hB).s (Or.inr (Or.inr rfl))).s (Or.inr (Or.inl rfl))) | exact rC.top (((rC0_b hB).s (Or.inr (Or.inr rfl))).s (Or.inr (Or.inl rfl))) | exact ⟨(rC0_b hB).s (Or.inr (Or.inr rfl)), rfl⟩), rfl, rfl, rfl⟩)

set_option maxHeartbeats 4000000 in
set_option maxRecDepth 100000 in
theorem c_X9_setPolicy_1 {l : Launch} {G : mG} {ad : mA} {S : mS} {L : mL} {R : mR} {x : Int32} (hR : mlk R) (hx : ¬ isR 0 2 x) : Ki l yX9_setPolicy cX9_setPolicy 3 .int rm_X9_setPolicy G ad mdm [.ref (ad 40 0), .int x] S L R (fun r_ S2 L2 R2 => rQ S S2 1 ∧ L = L2 ∧ R = R2) := by
  refine Ki.of RX9 (by decide) rfl (Nat.le_of_ble_eq_true rfl) ?_
  intro X hXl hXG C ret
  subst hXl; subst hXG
  change Z X 3 ad mdm S L R 0 0 0 [(0, _), (1, _)] []
  refine z_aload_n C 0 0 0 dX9_setPolicy_0 rfl rfl ?_
  refine z_iconst (v := nI 0) C 1 dX9_setPolicy_1 (by decide) ?_
  refine z_puti C 2 dX9_setPolicy_2 gf_X9_65 ⟨rfl, rfl⟩ rfl (by first | assumption | exact Nat.zero_lt_one | omega) ?_
  refine z_aload_n C 5 0 0 dX9_setPolicy_5 rfl rfl ?_
  refine z_iload_n C 6 1 1 dX9_setPolicy_6 rfl rfl ?_
  refine z_iconst (v := nI 0) C 7 dX9_setPolicy_7 (by decide) ?_
  refine z_iconst (v := nI 2) C 8 dX9_setPolicy_8 (by decide) ?_
  refine z_cSi0 C 9 dX9_setPolicy_9 cs_X9_89 (c_X9_within_0 hx (by decide) (by decide)) rfl rfl (Nat.le_of_ble_eq_true rfl) ⟨by decide, by decide⟩ ⟨rfl, rfl⟩ ⟨by decide, by decide⟩ ?_
  intro r9 S9 L9 R9 p9
  obtain ⟨rfl, rfl, rfl, rfl⟩ := p9
  first | with_reducible refine z_if_neB C 12 19 dX9_setPolicy_12 (by decide) (fun h12 => by omega) (fun h12 => ?_) | with_reducible refine z_if_neN C 12 19 dX9_setPolicy_12 (by decide) (by omega) (fun h12 => by omega) (fun h12 => ?_) | refine z_if_ne C 12 19 dX9_setPolicy_12 (by decide) (fun h12 => by omega) (fun h12 => ?_)
  · refine z_iconst (v := nI 1) C 15 dX9_setPolicy_15 (by decide) ?_
    refine z_goto C 16 20 dX9_setPolicy_16 (by decide) ?_
    refine z_iconst (v := nI 1) C 20 dX9_setPolicy_20 (by decide) ?_
    refine z_cVi0 C 21 dX9_setPolicy_21 cv_X9_185 (c_X9_throwsIf_1 hR (by first | assumption | rfl) (by decide) (by decide)) rfl ⟨by decide, rfl⟩ (by first | assumption | exact Nat.zero_lt_one | omega) rfl rfl (Nat.le_of_ble_eq_true rfl) ⟨by decide, by decide⟩ ⟨rfl, rfl⟩ ⟨by decide, by decide⟩ ?_
    intro r21 S21 L21 R21 p21
    obtain ⟨rfl, rfl, rfl, rfl⟩ := p21
    first | with_reducible refine z_if_eqB C 24 29 dX9_setPolicy_24 (by decide) (fun h24 => by omega) (fun h24 => ?_) | with_reducible refine z_if_eqN C 24 29 dX9_setPolicy_24 (by decide) (by omega) (fun h24 => by omega) (fun h24 => ?_) | refine z_if_eq C 24 29 dX9_setPolicy_24 (by decide) (fun h24 => by omega) (fun h24 => ?_)
    · refine z_iconst (v := nI 0) C 27 dX9_setPolicy_27 (by decide) ?_
      exact ret 28 _ _ _ _ _ dX9_setPolicy_28 (by first | rfl | exact bI_n | decide) (⟨(by first | exact rQ_t _ _ | (simp only [up3_up3]; exact rQ_t _ _)), rfl, rfl⟩)
def rm_X9_close : Room := { frames := 3, cells := 0, slots := 0, locals := 65 }
set_option maxHeartbeats 4000000 in
set_option maxRecDepth 100000 in
theorem c_X9_close {l : Launch} {G : mG} {ad : mA} {S : mS} {L : mL} {R : mR} {n p u : Nat} (hR : mlk R) (hu : S 40 0 27 = nI u) (hu10 : u ≤ 10) (hn : S 40 0 1 = nI n) (hn10 : n ≤ 10) (hI : rI (S 44 0) n) (hp : p < n) (hc : ¬ fo (S 44 0) p 0 = 0) : Ki l yX9_close cX9_close 3 .int rm_X9_close G ad mdm [.ref (ad 40 0), .int (nI p)] S L R (fun r_ S2 L2 R2 => rC S S2 (fShut (S 44 0) p) u ∧ r_ = fUses (S 44 0) (S 41 0) p ∧ L = L2 ∧ R = R2) := by
  refine Ki.of RX9 (by decide) rfl (Nat.le_of_ble_eq_true rfl) ?_
  intro X hXl hXG C ret
  subst hXl; subst hXG
  change Z X 3 ad mdm S L R 0 0 0 [(0, _), (1, _)] []
  refine z_aload_n C 0 0 0 dX9_close_0 rfl rfl ?_
  refine z_iload_n C 1 1 1 dX9_close_1 rfl rfl ?_
  refine z_cVi0 C 2 dX9_close_2 cv_X9_291 (c_X9_noProgram hR hn hn10 (by assumption)) rfl ⟨by decide, rfl⟩ (by first | assumption | exact Nat.zero_lt_one | omega) rfl rfl (Nat.le_of_ble_eq_true rfl) ⟨by decide, by decide⟩ ⟨rfl, rfl⟩ ⟨by decide, by decide⟩ ?_
  intro r2 S2 L2 R2 p2
  obtain ⟨rfl, rfl, rfl, rfl⟩ := p2
  first | with_reducible refine z_if_neB C 5 30 dX9_close_5 (by decide) (fun h5 => by omega) (fun h5 => ?_) | with_reducible refine z_if_neN C 5 30 dX9_close_5 (by decide) (by omega) (fun h5 => by omega) (fun h5 => ?_) | refine z_if_ne C 5 30 dX9_close_5 (by decide) (fun h5 => by omega) (fun h5 => ?_)
  · refine z_aload_n C 8 0 0 dX9_close_8 rfl rfl ?_
    refine z_aload_n C 9 0 0 dX9_close_9 rfl rfl ?_
    refine z_iload_n C 10 1 1 dX9_close_10 rfl rfl ?_
    refine z_iconst (v := nI 0) C 11 dX9_close_11 (by decide) ?_
    refine z_cVi0 C 12 dX9_close_12 cv_X9_203 (c_X9_of hR (by first | assumption | omega) (by omega)) rfl ⟨by decide, rfl⟩ (by first | assumption | exact Nat.zero_lt_one | omega) rfl rfl (Nat.le_of_ble_eq_true rfl) ⟨by decide, by decide⟩ ⟨rfl, rfl⟩ ⟨by decide, by decide⟩ ?_
    intro r12 S12 L12 R12 p12
    obtain ⟨rfl, rfl, rfl, rfl⟩ := p12
    first | with_reducible refine z_if_neB C 15 22 dX9_close_15 (by decide) (fun h15 => ?_) (fun h15 => absurd h15 hc) | with_reducible refine z_if_neN C 15 22 dX9_close_15 (by decide) (by omega) (fun h15 => ?_) (fun h15 => absurd h15 hc) | refine z_if_ne C 15 22 dX9_close_15 (by decide) (fun h15 => ?_) (fun h15 => absurd h15 hc)
    · refine z_iconst (v := nI 0) C 22 dX9_close_22 (by decide) ?_
      refine z_iconst (v := nI 2) C 23 dX9_close_23 (by decide) ?_
      refine z_cVi0 C 24 dX9_close_24 cv_X9_185 (c_X9_throwsIf_0 hR (by first | assumption | rfl)) rfl ⟨by decide, rfl⟩ (by first | assumption | exact Nat.zero_lt_one | omega) rfl rfl (Nat.le_of_ble_eq_true rfl) ⟨by decide, by decide⟩ ⟨rfl, rfl⟩ ⟨by decide, by decide⟩ ?_
      intro r24 S24 L24 R24 p24
      obtain ⟨rfl, rfl, rfl, rfl⟩ := p24
      first | with_reducible refine z_if_eqB C 27 32 dX9_close_27 (by decide) (fun h27 => ?_) (fun h27 => by omega) | with_reducible refine z_if_eqN C 27 32 dX9_close_27 (by decide) (by omega) (fun h27 => ?_) (fun h27 => by omega) | refine z_if_eq C 27 32 dX9_close_27 (by decide) (fun h27 => ?_) (fun h27 => by omega)
      · refine z_aload_n C 32 0 0 dX9_close_32 rfl rfl ?_
        refine z_getr C 33 dX9_close_33 gf_X9_20 rfl (by first | assumption | exact Nat.zero_lt_one | omega) (by first | exact hR _ _ _ _ rfl | assumption) ?_
        refine z_aload_n C 36 0 0 dX9_close_36 rfl rfl ?_
        refine z_getr C 37 dX9_close_37 gf_X9_43 rfl (by first | assumption | exact Nat.zero_lt_one | omega) (by first | exact hR _ _ _ _ rfl | assumption) ?_
        refine z_cSv0 C 40 dX9_close_40 cs_X9_269 (c_X9_puts (by rfl) (by rfl) (by first | assumption | exact Nat.zero_lt_one | omega) (by first | assumption | exact Nat.zero_lt_one | omega) (by decide)) rfl rfl (Nat.le_of_ble_eq_true rfl) ⟨by decide, by decide⟩ ⟨rfl, rfl⟩ ⟨by decide, by decide⟩ ?_
        intro S40 L40 R40 p40
        obtain ⟨rfl, rfl, rfl⟩ := p40
        refine z_aload_n C 43 0 0 dX9_close_43 rfl rfl ?_
        refine z_cVv0 C 44 dX9_close_44 cv_X9_306 (c_X9_keeps (u := u) hR hu hu10) rfl ⟨by decide, rfl⟩ (by first | assumption | exact Nat.zero_lt_one | omega) rfl rfl (Nat.le_of_ble_eq_true rfl) ⟨by decide, by decide⟩ ⟨rfl, rfl⟩ ⟨by decide, by decide⟩ ?_
        intro S44 L44 R44 p44
        obtain ⟨⟨B, rfl, hB⟩, rfl, rfl⟩ := p44
        refine z_aload_n C 47 0 0 dX9_close_47 rfl rfl ?_
        refine z_iload_n C 48 1 1 dX9_close_48 rfl rfl ?_
        refine z_cVi0 C 49 dX9_close_49 cv_X9_210 (c_X9_uses hR (by omega)) rfl ⟨by decide, rfl⟩ (by first | assumption | exact Nat.zero_lt_one | omega) rfl rfl (Nat.le_of_ble_eq_true rfl) ⟨by decide, by decide⟩ ⟨rfl, rfl⟩ ⟨by decide, by decide⟩ ?_
        intro r49 S49 L49 R49 p49
        obtain ⟨rfl, rfl, rfl, rfl⟩ := p49
        refine z_istore_n C 52 2 [(2, _), (0, _), (1, _)] dX9_close_52 rfl (by decide) rfl ?_
        refine z_aload_n C 53 0 1 dX9_close_53 rfl rfl ?_
        refine z_getr C 54 dX9_close_54 gf_X9_20 rfl (by first | assumption | exact Nat.zero_lt_one | omega) (by first | exact hR _ _ _ _ rfl | assumption) ?_
        refine z_iconst (v := nI 2) C 57 dX9_close_57 (by decide) ?_
        refine z_iald C 58 dX9_close_58 (by first | rfl | assumption) (by first | assumption | exact Nat.zero_lt_one | omega) (by first | rfl | assumption) (by first | decide | omega) (by first | assumption | omega) ?_
        refine z_iload_n C 59 1 2 dX9_close_59 rfl rfl ?_
        first | with_reducible refine z_icmp_neN C 60 75 dX9_close_60 (by decide) (by omega) (by omega) (fun h60 => ?_) (fun h60 => ?_) | refine z_icmp_ne C 60 75 dX9_close_60 (by decide) (fun h60 => ?_) (fun h60 => ?_)
        · have hs : fShut (S 44 0) p = fEmpty (S 44 0) p := by unfold fShut; rw [if_neg (show ¬ S 44 0 2 = nI p from h60)]
          refine z_aload_n C 75 0 1 dX9_close_75 rfl rfl ?_
          refine z_iload_n C 76 1 2 dX9_close_76 rfl rfl ?_
          refine z_cVv0 C 77 dX9_close_77 cv_X9_244 (c_X9_empties hR (by omega)) rfl ⟨by decide, rfl⟩ (by first | assumption | exact Nat.zero_lt_one | omega) rfl rfl (Nat.le_of_ble_eq_true rfl) ⟨by decide, by decide⟩ ⟨rfl, rfl⟩ ⟨by decide, by decide⟩ ?_
          intro S77 L77 R77 p77
          obtain ⟨rfl, rfl, rfl⟩ := p77
          refine z_iload_n C 80 2 0 dX9_close_80 rfl rfl ?_
          exact ret 81 _ _ _ _ _ dX9_close_81 (by first | rfl | exact bI_n | decide) (⟨(by rw [hs]; exact (by have hB : kP (S 51 0) (S 44 0) u B := hB; (try simp only [up3_k _ (show (44 : Nat) ≠ 40 by decide), up3_k _ (show (41 : Nat) ≠ 40 by decide), up3_k _ (show (43 : Nat) ≠ 40 by decide), up3_k _ (show (49 : Nat) ≠ 40 by decide), up3_k _ (show (50 : Nat) ≠ 40 by decide), up3_k _ (show (51 : Nat) ≠ 40 by decide), up3_k _ (show (52 : Nat) ≠ 40 by decide), up3_k _ (show (53 : Nat) ≠ 40 by decide), sA_s, sA_n _ _ (show (40 : Nat) ≠ 44 by decide), sA_n _ _ (show (40 : Nat) ≠ 49 by decide), sA_n _ _ (show (40 : Nat) ≠ 50 by decide), sA_n _ _ (show (40 : Nat) ≠ 51 by decide), sA_n _ _ (show (40 : Nat) ≠ 52 by decide), sA_n _ _ (show (41 : Nat) ≠ 44 by decide), sA_n _ _ (show (41 : Nat) ≠ 49 by decide), sA_n _ _ (show (41 : Nat) ≠ 50 by decide), sA_n _ _ (show (41 : Nat) ≠ 51 by decide), sA_n _ _ (show (41 : Nat) ≠ 52 by decide), sA_n _ _ (show (43 : Nat) ≠ 44 by decide), sA_n _ _ (show (43 : Nat) ≠ 49 by decide), sA_n _ _ (show (43 : Nat) ≠ 50 by decide), sA_n _ _ (show (43 : Nat) ≠ 51 by decide), sA_n _ _ (show (43 : Nat) ≠ 52 by decide), sA_n _ _ (show (44 : Nat) ≠ 49 by decide), sA_n _ _ (show (44 : Nat) ≠ 50 by decide), sA_n _ _ (show (44 : Nat) ≠ 51 by decide), sA_n _ _ (show (44 : Nat) ≠ 52 by decide), sA_n _ _ (show (49 : Nat) ≠ 44 by decide), sA_n _ _ (show (49 : Nat) ≠ 50 by decide), sA_n _ _ (show (49 : Nat) ≠ 51 by decide), sA_n _ _ (show (49 : Nat) ≠ 52 by decide), sA_n _ _ (show (50 : Nat) ≠ 44 by decide), sA_n _ _ (show (50 : Nat) ≠ 49 by decide), sA_n _ _ (show (50 : Nat) ≠ 51 by decide), sA_n _ _ (show (50 : Nat) ≠ 52 by decide), sA_n _ _ (show (51 : Nat) ≠ 44 by decide), sA_n _ _ (show (51 : Nat) ≠ 49 by decide), sA_n _ _ (show (51 : Nat) ≠ 50 by decide), sA_n _ _ (show (51 : Nat) ≠ 52 by decide), sA_n _ _ (show (52 : Nat) ≠ 44 by decide), sA_n _ _ (show (52 : Nat) ≠ 49 by decide), sA_n _ _ (show (52 : Nat) ≠ 50 by decide), sA_n _ _ (show (52 : Nat) ≠ 51 by decide), sA_n _ _ (show (53 : Nat) ≠ 44 by decide), sA_n _ _ (show (53 : Nat) ≠ 49 by decide), sA_n _ _ (show (53 : Nat) ≠ 50 by decide), sA_n _ _ (show (53 : Nat) ≠ 51 by decide), sA_n _ _ (show (53 : Nat) ≠ 52 by decide), up3_sA _ (show (40 : Nat) ≠ 44 by decide), up3_sA _ (show (40 : Nat) ≠ 49 by decide), up3_sA _ (show (40 : Nat) ≠ 50 by decide), up3_sA _ (show (40 : Nat) ≠ 51 by decide), up3_sA _ (show (40 : Nat) ≠ 52 by decide), sA_44_49, sA_44_50, sA_49_50, sA_44_51, sA_49_51, sA_50_51, sA_44_52, sA_sA, up3_up3, sA_up44, up3_26_27, up3_sA _ (show (40 : Nat) ≠ 52 by decide)]); first | exact rC.top ((rC0_b hB).s (Or.inr (Or.inr rfl))) | exact rC.top (((rC0_c hB).s (Or.inr (Or.inr rfl))).s (Or.inr (Or.inl rfl))) | exact rC.top (((rC0_b hB).s (Or.inr (Or.inr rfl))).s (Or.inr (Or.inl rfl))) | exact ⟨(rC0_b hB).s (Or.inr (Or.inr rfl)), rfl⟩)), rfl, rfl, rfl⟩)
        · have hs : fShut (S 44 0) p = fEmpty (upd (fRest (S 44 0) p) 2 (-1)) p := by unfold fShut; rw [if_pos (show S 44 0 2 = nI p from h60)]
          refine z_aload_n C 63 0 1 dX9_close_63 rfl rfl ?_
          refine z_iload_n C 64 1 2 dX9_close_64 rfl rfl ?_
          refine z_cVv0 C 65 dX9_close_65 cv_X9_260 (c_X9_rests hR (by omega)) rfl ⟨by decide, rfl⟩ (by first | assumption | exact Nat.zero_lt_one | omega) rfl rfl (Nat.le_of_ble_eq_true rfl) ⟨by decide, by decide⟩ ⟨rfl, rfl⟩ ⟨by decide, by decide⟩ ?_
          intro S65 L65 R65 p65
          obtain ⟨rfl, rfl, rfl⟩ := p65
          refine z_aload_n C 68 0 1 dX9_close_68 rfl rfl ?_
          refine z_getr C 69 dX9_close_69 gf_X9_20 rfl (by first | assumption | exact Nat.zero_lt_one | omega) (by first | exact hR _ _ _ _ rfl | assumption) ?_
          refine z_iconst (v := nI 2) C 72 dX9_close_72 (by decide) ?_
          refine z_iconst (v := (-1)) C 73 dX9_close_73 (by decide) ?_
          refine z_iast C 74 dX9_close_74 (by first | rfl | assumption) (by first | assumption | exact Nat.zero_lt_one | omega)  (by first | rfl | assumption) (by first | decide | omega) (by first | assumption | omega) ?_
          refine z_aload_n C 75 0 1 dX9_close_75 rfl rfl ?_
          refine z_iload_n C 76 1 2 dX9_close_76 rfl rfl ?_
          refine z_cVv0 C 77 dX9_close_77 cv_X9_244 (c_X9_empties hR (by omega)) rfl ⟨by decide, rfl⟩ (by first | assumption | exact Nat.zero_lt_one | omega) rfl rfl (Nat.le_of_ble_eq_true rfl) ⟨by decide, by decide⟩ ⟨rfl, rfl⟩ ⟨by decide, by decide⟩ ?_
          intro S77 L77 R77 p77
          obtain ⟨rfl, rfl, rfl⟩ := p77
          refine z_iload_n C 80 2 0 dX9_close_80 rfl rfl ?_
          exact ret 81 _ _ _ _ _ dX9_close_81 (by first | rfl | exact bI_n | decide) (⟨(by rw [hs]; exact (by have hB : kP (S 51 0) (S 44 0) u B := hB; (try simp only [up3_k _ (show (44 : Nat) ≠ 40 by decide), up3_k _ (show (41 : Nat) ≠ 40 by decide), up3_k _ (show (43 : Nat) ≠ 40 by decide), up3_k _ (show (49 : Nat) ≠ 40 by decide), up3_k _ (show (50 : Nat) ≠ 40 by decide), up3_k _ (show (51 : Nat) ≠ 40 by decide), up3_k _ (show (52 : Nat) ≠ 40 by decide), up3_k _ (show (53 : Nat) ≠ 40 by decide), sA_s, sA_n _ _ (show (40 : Nat) ≠ 44 by decide), sA_n _ _ (show (40 : Nat) ≠ 49 by decide), sA_n _ _ (show (40 : Nat) ≠ 50 by decide), sA_n _ _ (show (40 : Nat) ≠ 51 by decide), sA_n _ _ (show (40 : Nat) ≠ 52 by decide), sA_n _ _ (show (41 : Nat) ≠ 44 by decide), sA_n _ _ (show (41 : Nat) ≠ 49 by decide), sA_n _ _ (show (41 : Nat) ≠ 50 by decide), sA_n _ _ (show (41 : Nat) ≠ 51 by decide), sA_n _ _ (show (41 : Nat) ≠ 52 by decide), sA_n _ _ (show (43 : Nat) ≠ 44 by decide), sA_n _ _ (show (43 : Nat) ≠ 49 by decide), sA_n _ _ (show (43 : Nat) ≠ 50 by decide), sA_n _ _ (show (43 : Nat) ≠ 51 by decide), sA_n _ _ (show (43 : Nat) ≠ 52 by decide), sA_n _ _ (show (44 : Nat) ≠ 49 by decide), sA_n _ _ (show (44 : Nat) ≠ 50 by decide), sA_n _ _ (show (44 : Nat) ≠ 51 by decide), sA_n _ _ (show (44 : Nat) ≠ 52 by decide), sA_n _ _ (show (49 : Nat) ≠ 44 by decide), sA_n _ _ (show (49 : Nat) ≠ 50 by decide), sA_n _ _ (show (49 : Nat) ≠ 51 by decide), sA_n _ _ (show (49 : Nat) ≠ 52 by decide), sA_n _ _ (show (50 : Nat) ≠ 44 by decide), sA_n _ _ (show (50 : Nat) ≠ 49 by decide), sA_n _ _ (show (50 : Nat) ≠ 51 by decide), sA_n _ _ (show (50 : Nat) ≠ 52 by decide), sA_n _ _ (show (51 : Nat) ≠ 44 by decide), sA_n _ _ (show (51 : Nat) ≠ 49 by decide), sA_n _ _ (show (51 : Nat) ≠ 50 by decide), sA_n _ _ (show (51 : Nat) ≠ 52 by decide), sA_n _ _ (show (52 : Nat) ≠ 44 by decide), sA_n _ _ (show (52 : Nat) ≠ 49 by decide), sA_n _ _ (show (52 : Nat) ≠ 50 by decide), sA_n _ _ (show (52 : Nat) ≠ 51 by decide), sA_n _ _ (show (53 : Nat) ≠ 44 by decide), sA_n _ _ (show (53 : Nat) ≠ 49 by decide), sA_n _ _ (show (53 : Nat) ≠ 50 by decide), sA_n _ _ (show (53 : Nat) ≠ 51 by decide), sA_n _ _ (show (53 : Nat) ≠ 52 by decide), up3_sA _ (show (40 : Nat) ≠ 44 by decide), up3_sA _ (show (40 : Nat) ≠ 49 by decide), up3_sA _ (show (40 : Nat) ≠ 50 by decide), up3_sA _ (show (40 : Nat) ≠ 51 by decide), up3_sA _ (show (40 : Nat) ≠ 52 by decide), sA_44_49, sA_44_50, sA_49_50, sA_44_51, sA_49_51, sA_50_51, sA_44_52, sA_sA, up3_up3, sA_up44, up3_26_27, up3_sA _ (show (40 : Nat) ≠ 52 by decide)]); first | exact rC.top ((rC0_b hB).s (Or.inr (Or.inr rfl))) | exact rC.top (((rC0_c hB).s (Or.inr (Or.inr rfl))).s (Or.inr (Or.inl rfl))) | exact rC.top (((rC0_b hB).s (Or.inr (Or.inr rfl))).s (Or.inr (Or.inl rfl))) | exact ⟨(rC0_b hB).s (Or.inr (Or.inr rfl)), rfl⟩)), rfl, rfl, rfl⟩)

set_option maxHeartbeats 4000000 in
set_option maxRecDepth 100000 in
theorem c_X9_close_1 {l : Launch} {G : mG} {ad : mA} {S : mS} {L : mL} {R : mR} {n : Nat} {x : Int32} (hR : mlk R) (hn : S 40 0 1 = nI n) (hn10 : n ≤ 10) (hx : ¬ isP n x) : Ki l yX9_close cX9_close 3 .int rm_X9_close G ad mdm [.ref (ad 40 0), .int x] S L R (fun r_ S2 L2 R2 => rQ S S2 1 ∧ L = L2 ∧ R = R2) := by
  refine Ki.of RX9 (by decide) rfl (Nat.le_of_ble_eq_true rfl) ?_
  intro X hXl hXG C ret
  subst hXl; subst hXG
  change Z X 3 ad mdm S L R 0 0 0 [(0, _), (1, _)] []
  refine z_aload_n C 0 0 0 dX9_close_0 rfl rfl ?_
  refine z_iload_n C 1 1 1 dX9_close_1 rfl rfl ?_
  refine z_cVi0 C 2 dX9_close_2 cv_X9_291 (c_X9_noProgram_1 hR hn hn10 hx) rfl ⟨by decide, rfl⟩ (by first | assumption | exact Nat.zero_lt_one | omega) rfl rfl (Nat.le_of_ble_eq_true rfl) ⟨by decide, by decide⟩ ⟨rfl, rfl⟩ ⟨by decide, by decide⟩ ?_
  intro r2 S2 L2 R2 p2
  obtain ⟨rfl, rfl, rfl, rfl⟩ := p2
  first | with_reducible refine z_if_neB C 5 30 dX9_close_5 (by decide) (fun h5 => ?_) (fun h5 => by omega) | with_reducible refine z_if_neN C 5 30 dX9_close_5 (by decide) (by omega) (fun h5 => ?_) (fun h5 => by omega) | refine z_if_ne C 5 30 dX9_close_5 (by decide) (fun h5 => ?_) (fun h5 => by omega)
  · refine z_iconst (v := nI 0) C 30 dX9_close_30 (by decide) ?_
    exact ret 31 _ _ _ _ _ dX9_close_31 (by first | rfl | exact bI_n | decide) (⟨(by first | exact rQ_t _ _ | (simp only [up3_up3]; exact rQ_t _ _)), rfl, rfl⟩)

set_option maxHeartbeats 4000000 in
set_option maxRecDepth 100000 in
theorem c_X9_close_2 {l : Launch} {G : mG} {ad : mA} {S : mS} {L : mL} {R : mR} {n p : Nat} (hR : mlk R) (hn : S 40 0 1 = nI n) (hn10 : n ≤ 10) (hp : p < n) (hc : fo (S 44 0) p 0 = 0) : Ki l yX9_close cX9_close 3 .int rm_X9_close G ad mdm [.ref (ad 40 0), .int (nI p)] S L R (fun r_ S2 L2 R2 => rQ S S2 2 ∧ L = L2 ∧ R = R2) := by
  refine Ki.of RX9 (by decide) rfl (Nat.le_of_ble_eq_true rfl) ?_
  intro X hXl hXG C ret
  subst hXl; subst hXG
  change Z X 3 ad mdm S L R 0 0 0 [(0, _), (1, _)] []
  refine z_aload_n C 0 0 0 dX9_close_0 rfl rfl ?_
  refine z_iload_n C 1 1 1 dX9_close_1 rfl rfl ?_
  refine z_cVi0 C 2 dX9_close_2 cv_X9_291 (c_X9_noProgram hR hn hn10 (by assumption)) rfl ⟨by decide, rfl⟩ (by first | assumption | exact Nat.zero_lt_one | omega) rfl rfl (Nat.le_of_ble_eq_true rfl) ⟨by decide, by decide⟩ ⟨rfl, rfl⟩ ⟨by decide, by decide⟩ ?_
  intro r2 S2 L2 R2 p2
  obtain ⟨rfl, rfl, rfl, rfl⟩ := p2
  first | with_reducible refine z_if_neB C 5 30 dX9_close_5 (by decide) (fun h5 => by omega) (fun h5 => ?_) | with_reducible refine z_if_neN C 5 30 dX9_close_5 (by decide) (by omega) (fun h5 => by omega) (fun h5 => ?_) | refine z_if_ne C 5 30 dX9_close_5 (by decide) (fun h5 => by omega) (fun h5 => ?_)
  · refine z_aload_n C 8 0 0 dX9_close_8 rfl rfl ?_
    refine z_aload_n C 9 0 0 dX9_close_9 rfl rfl ?_
    refine z_iload_n C 10 1 1 dX9_close_10 rfl rfl ?_
    refine z_iconst (v := nI 0) C 11 dX9_close_11 (by decide) ?_
    refine z_cVi0 C 12 dX9_close_12 cv_X9_203 (c_X9_of hR (by first | assumption | omega) (by omega)) rfl ⟨by decide, rfl⟩ (by first | assumption | exact Nat.zero_lt_one | omega) rfl rfl (Nat.le_of_ble_eq_true rfl) ⟨by decide, by decide⟩ ⟨rfl, rfl⟩ ⟨by decide, by decide⟩ ?_
    intro r12 S12 L12 R12 p12
    obtain ⟨rfl, rfl, rfl, rfl⟩ := p12
    first | with_reducible refine z_if_neB C 15 22 dX9_close_15 (by decide) (fun h15 => absurd hc h15) (fun h15 => ?_) | with_reducible refine z_if_neN C 15 22 dX9_close_15 (by decide) (by omega) (fun h15 => absurd hc h15) (fun h15 => ?_) | refine z_if_ne C 15 22 dX9_close_15 (by decide) (fun h15 => absurd hc h15) (fun h15 => ?_)
    · refine z_iconst (v := nI 1) C 18 dX9_close_18 (by decide) ?_
      refine z_goto C 19 23 dX9_close_19 (by decide) ?_
      refine z_iconst (v := nI 2) C 23 dX9_close_23 (by decide) ?_
      refine z_cVi0 C 24 dX9_close_24 cv_X9_185 (c_X9_throwsIf_1 hR (by first | assumption | rfl) (by decide) (by decide)) rfl ⟨by decide, rfl⟩ (by first | assumption | exact Nat.zero_lt_one | omega) rfl rfl (Nat.le_of_ble_eq_true rfl) ⟨by decide, by decide⟩ ⟨rfl, rfl⟩ ⟨by decide, by decide⟩ ?_
      intro r24 S24 L24 R24 p24
      obtain ⟨rfl, rfl, rfl, rfl⟩ := p24
      first | with_reducible refine z_if_eqB C 27 32 dX9_close_27 (by decide) (fun h27 => by omega) (fun h27 => ?_) | with_reducible refine z_if_eqN C 27 32 dX9_close_27 (by decide) (by omega) (fun h27 => by omega) (fun h27 => ?_) | refine z_if_eq C 27 32 dX9_close_27 (by decide) (fun h27 => by omega) (fun h27 => ?_)
      · refine z_iconst (v := nI 0) C 30 dX9_close_30 (by decide) ?_
        exact ret 31 _ _ _ _ _ dX9_close_31 (by first | rfl | exact bI_n | decide) (⟨(by first | exact rQ_t _ _ | (simp only [up3_up3]; exact rQ_t _ _)), rfl, rfl⟩)
def rm_X9_pin : Room := { frames := 3, cells := 0, slots := 0, locals := 65 }
set_option maxHeartbeats 4000000 in
set_option maxRecDepth 100000 in
theorem c_X9_pin {l : Launch} {G : mG} {ad : mA} {S : mS} {L : mL} {R : mR} {n p b u : Nat} (hR : mlk R) (hu : S 40 0 27 = nI u) (hu10 : u ≤ 10) (hn : S 40 0 1 = nI n) (hn10 : n ≤ 10) (hp : p < n) (hb : b ≤ 1) : Ki l yX9_pin cX9_pin 4 .boolean rm_X9_pin G ad mdm [.ref (ad 40 0), .int (nI p), .int (nI b)] S L R (fun r_ S2 L2 R2 => rC S S2 (fset (S 44 0) p 6 (nI b)) u ∧ r_ = bI (fo (S 44 0) p 6 = nI 1) ∧ L = L2 ∧ R = R2) := by
  refine Ki.of RX9 (by decide) rfl (Nat.le_of_ble_eq_true rfl) ?_
  intro X hXl hXG C ret
  subst hXl; subst hXG
  change Z X 4 ad mdm S L R 0 0 0 [(0, _), (1, _), (2, _)] []
  refine z_aload_n C 0 0 0 dX9_pin_0 rfl rfl ?_
  refine z_iload_n C 1 1 1 dX9_pin_1 rfl rfl ?_
  refine z_cVi0 C 2 dX9_pin_2 cv_X9_291 (c_X9_noProgram hR hn hn10 (by assumption)) rfl ⟨by decide, rfl⟩ (by first | assumption | exact Nat.zero_lt_one | omega) rfl rfl (Nat.le_of_ble_eq_true rfl) ⟨by decide, by decide⟩ ⟨rfl, rfl⟩ ⟨by decide, by decide⟩ ?_
  intro r2 S2 L2 R2 p2
  obtain ⟨rfl, rfl, rfl, rfl⟩ := p2
  first | with_reducible refine z_if_eqB C 5 10 dX9_pin_5 (by decide) (fun h5 => ?_) (fun h5 => by omega) | with_reducible refine z_if_eqN C 5 10 dX9_pin_5 (by decide) (by omega) (fun h5 => ?_) (fun h5 => by omega) | refine z_if_eq C 5 10 dX9_pin_5 (by decide) (fun h5 => ?_) (fun h5 => by omega)
  · refine z_aload_n C 10 0 0 dX9_pin_10 rfl rfl ?_
    refine z_getr C 11 dX9_pin_11 gf_X9_20 rfl (by first | assumption | exact Nat.zero_lt_one | omega) (by first | exact hR _ _ _ _ rfl | assumption) ?_
    refine z_aload_n C 14 0 0 dX9_pin_14 rfl rfl ?_
    refine z_getr C 15 dX9_pin_15 gf_X9_43 rfl (by first | assumption | exact Nat.zero_lt_one | omega) (by first | exact hR _ _ _ _ rfl | assumption) ?_
    refine z_cSv0 C 18 dX9_pin_18 cs_X9_269 (c_X9_puts (by rfl) (by rfl) (by first | assumption | exact Nat.zero_lt_one | omega) (by first | assumption | exact Nat.zero_lt_one | omega) (by decide)) rfl rfl (Nat.le_of_ble_eq_true rfl) ⟨by decide, by decide⟩ ⟨rfl, rfl⟩ ⟨by decide, by decide⟩ ?_
    intro S18 L18 R18 p18
    obtain ⟨rfl, rfl, rfl⟩ := p18
    refine z_aload_n C 21 0 0 dX9_pin_21 rfl rfl ?_
    refine z_cVv0 C 22 dX9_pin_22 cv_X9_306 (c_X9_keeps (u := u) hR hu hu10) rfl ⟨by decide, rfl⟩ (by first | assumption | exact Nat.zero_lt_one | omega) rfl rfl (Nat.le_of_ble_eq_true rfl) ⟨by decide, by decide⟩ ⟨rfl, rfl⟩ ⟨by decide, by decide⟩ ?_
    intro S22 L22 R22 p22
    obtain ⟨⟨B, rfl, hB⟩, rfl, rfl⟩ := p22
    refine z_aload_n C 25 0 0 dX9_pin_25 rfl rfl ?_
    refine z_iload_n C 26 1 1 dX9_pin_26 rfl rfl ?_
    refine z_bipush (v := nI 6) C 27 dX9_pin_27 (by decide +kernel) ?_
    refine z_cVi0 C 29 dX9_pin_29 cv_X9_203 (c_X9_of hR (by first | assumption | omega) (by omega)) rfl ⟨by decide, rfl⟩ (by first | assumption | exact Nat.zero_lt_one | omega) rfl rfl (Nat.le_of_ble_eq_true rfl) ⟨by decide, by decide⟩ ⟨rfl, rfl⟩ ⟨by decide, by decide⟩ ?_
    intro r29 S29 L29 R29 p29
    obtain ⟨rfl, rfl, rfl, rfl⟩ := p29
    refine z_iconst (v := nI 1) C 32 dX9_pin_32 (by decide) ?_
    first | with_reducible refine z_icmp_neN C 33 40 dX9_pin_33 (by decide) (by omega) (by omega) (fun h33 => ?_) (fun h33 => ?_) | refine z_icmp_ne C 33 40 dX9_pin_33 (by decide) (fun h33 => ?_) (fun h33 => ?_)
    · refine z_iconst (v := nI 0) C 40 dX9_pin_40 (by decide) ?_
      refine z_istore_n C 41 3 [(3, _), (0, _), (1, _), (2, _)] dX9_pin_41 rfl (by decide) rfl ?_
      refine z_aload_n C 42 0 1 dX9_pin_42 rfl rfl ?_
      refine z_iload_n C 43 1 2 dX9_pin_43 rfl rfl ?_
      refine z_bipush (v := nI 6) C 44 dX9_pin_44 (by decide +kernel) ?_
      refine z_iload_n C 46 2 3 dX9_pin_46 rfl rfl ?_
      first | with_reducible refine z_if_eqB C 47 54 dX9_pin_47 (by decide) (fun h47 => ?_) (fun h47 => ?_) | with_reducible refine z_if_eqN C 47 54 dX9_pin_47 (by decide) (by omega) (fun h47 => ?_) (fun h47 => ?_) | refine z_if_eq C 47 54 dX9_pin_47 (by decide) (fun h47 => ?_) (fun h47 => ?_)
      · obtain rfl : b = 0 := h47
        refine z_iconst (v := nI 0) C 54 dX9_pin_54 (by decide) ?_
        refine z_cVv0 C 55 dX9_pin_55 cv_X9_240 (c_X9_sets hR (by omega) (by omega)) rfl ⟨by decide, rfl⟩ (by first | assumption | exact Nat.zero_lt_one | omega) rfl rfl (Nat.le_of_ble_eq_true rfl) ⟨by decide, by decide⟩ ⟨rfl, rfl⟩ ⟨by decide, by decide⟩ ?_
        intro S55 L55 R55 p55
        obtain ⟨rfl, rfl, rfl⟩ := p55
        refine z_iload_n C 58 3 0 dX9_pin_58 rfl rfl ?_
        exact ret 59 _ _ _ _ _ dX9_pin_59 (by first | rfl | decide) (⟨(by have hB : kP (S 51 0) (S 44 0) u B := hB; (try simp only [up3_k _ (show (44 : Nat) ≠ 40 by decide), up3_k _ (show (41 : Nat) ≠ 40 by decide), up3_k _ (show (43 : Nat) ≠ 40 by decide), up3_k _ (show (49 : Nat) ≠ 40 by decide), up3_k _ (show (50 : Nat) ≠ 40 by decide), up3_k _ (show (51 : Nat) ≠ 40 by decide), up3_k _ (show (52 : Nat) ≠ 40 by decide), up3_k _ (show (53 : Nat) ≠ 40 by decide), sA_s, sA_n _ _ (show (40 : Nat) ≠ 44 by decide), sA_n _ _ (show (40 : Nat) ≠ 49 by decide), sA_n _ _ (show (40 : Nat) ≠ 50 by decide), sA_n _ _ (show (40 : Nat) ≠ 51 by decide), sA_n _ _ (show (40 : Nat) ≠ 52 by decide), sA_n _ _ (show (41 : Nat) ≠ 44 by decide), sA_n _ _ (show (41 : Nat) ≠ 49 by decide), sA_n _ _ (show (41 : Nat) ≠ 50 by decide), sA_n _ _ (show (41 : Nat) ≠ 51 by decide), sA_n _ _ (show (41 : Nat) ≠ 52 by decide), sA_n _ _ (show (43 : Nat) ≠ 44 by decide), sA_n _ _ (show (43 : Nat) ≠ 49 by decide), sA_n _ _ (show (43 : Nat) ≠ 50 by decide), sA_n _ _ (show (43 : Nat) ≠ 51 by decide), sA_n _ _ (show (43 : Nat) ≠ 52 by decide), sA_n _ _ (show (44 : Nat) ≠ 49 by decide), sA_n _ _ (show (44 : Nat) ≠ 50 by decide), sA_n _ _ (show (44 : Nat) ≠ 51 by decide), sA_n _ _ (show (44 : Nat) ≠ 52 by decide), sA_n _ _ (show (49 : Nat) ≠ 44 by decide), sA_n _ _ (show (49 : Nat) ≠ 50 by decide), sA_n _ _ (show (49 : Nat) ≠ 51 by decide), sA_n _ _ (show (49 : Nat) ≠ 52 by decide), sA_n _ _ (show (50 : Nat) ≠ 44 by decide), sA_n _ _ (show (50 : Nat) ≠ 49 by decide), sA_n _ _ (show (50 : Nat) ≠ 51 by decide), sA_n _ _ (show (50 : Nat) ≠ 52 by decide), sA_n _ _ (show (51 : Nat) ≠ 44 by decide), sA_n _ _ (show (51 : Nat) ≠ 49 by decide), sA_n _ _ (show (51 : Nat) ≠ 50 by decide), sA_n _ _ (show (51 : Nat) ≠ 52 by decide), sA_n _ _ (show (52 : Nat) ≠ 44 by decide), sA_n _ _ (show (52 : Nat) ≠ 49 by decide), sA_n _ _ (show (52 : Nat) ≠ 50 by decide), sA_n _ _ (show (52 : Nat) ≠ 51 by decide), sA_n _ _ (show (53 : Nat) ≠ 44 by decide), sA_n _ _ (show (53 : Nat) ≠ 49 by decide), sA_n _ _ (show (53 : Nat) ≠ 50 by decide), sA_n _ _ (show (53 : Nat) ≠ 51 by decide), sA_n _ _ (show (53 : Nat) ≠ 52 by decide), up3_sA _ (show (40 : Nat) ≠ 44 by decide), up3_sA _ (show (40 : Nat) ≠ 49 by decide), up3_sA _ (show (40 : Nat) ≠ 50 by decide), up3_sA _ (show (40 : Nat) ≠ 51 by decide), up3_sA _ (show (40 : Nat) ≠ 52 by decide), sA_44_49, sA_44_50, sA_49_50, sA_44_51, sA_49_51, sA_50_51, sA_44_52, sA_sA, up3_up3, sA_up44, up3_26_27, up3_sA _ (show (40 : Nat) ≠ 52 by decide)]); first | exact rC.top ((rC0_b hB).s (Or.inr (Or.inr rfl))) | exact rC.top (((rC0_c hB).s (Or.inr (Or.inr rfl))).s (Or.inr (Or.inl rfl))) | exact rC.top (((rC0_b hB).s (Or.inr (Or.inr rfl))).s (Or.inr (Or.inl rfl))) | exact ⟨(rC0_b hB).s (Or.inr (Or.inr rfl)), rfl⟩), (by first | exact bI_1 h33 | exact bI_0 h33), rfl, rfl⟩)
      · obtain rfl : b = 1 := by omega
        refine z_iconst (v := nI 1) C 50 dX9_pin_50 (by decide) ?_
        refine z_goto C 51 55 dX9_pin_51 (by decide) ?_
        refine z_cVv0 C 55 dX9_pin_55 cv_X9_240 (c_X9_sets hR (by omega) (by omega)) rfl ⟨by decide, rfl⟩ (by first | assumption | exact Nat.zero_lt_one | omega) rfl rfl (Nat.le_of_ble_eq_true rfl) ⟨by decide, by decide⟩ ⟨rfl, rfl⟩ ⟨by decide, by decide⟩ ?_
        intro S55 L55 R55 p55
        obtain ⟨rfl, rfl, rfl⟩ := p55
        refine z_iload_n C 58 3 0 dX9_pin_58 rfl rfl ?_
        exact ret 59 _ _ _ _ _ dX9_pin_59 (by first | rfl | decide) (⟨(by have hB : kP (S 51 0) (S 44 0) u B := hB; (try simp only [up3_k _ (show (44 : Nat) ≠ 40 by decide), up3_k _ (show (41 : Nat) ≠ 40 by decide), up3_k _ (show (43 : Nat) ≠ 40 by decide), up3_k _ (show (49 : Nat) ≠ 40 by decide), up3_k _ (show (50 : Nat) ≠ 40 by decide), up3_k _ (show (51 : Nat) ≠ 40 by decide), up3_k _ (show (52 : Nat) ≠ 40 by decide), up3_k _ (show (53 : Nat) ≠ 40 by decide), sA_s, sA_n _ _ (show (40 : Nat) ≠ 44 by decide), sA_n _ _ (show (40 : Nat) ≠ 49 by decide), sA_n _ _ (show (40 : Nat) ≠ 50 by decide), sA_n _ _ (show (40 : Nat) ≠ 51 by decide), sA_n _ _ (show (40 : Nat) ≠ 52 by decide), sA_n _ _ (show (41 : Nat) ≠ 44 by decide), sA_n _ _ (show (41 : Nat) ≠ 49 by decide), sA_n _ _ (show (41 : Nat) ≠ 50 by decide), sA_n _ _ (show (41 : Nat) ≠ 51 by decide), sA_n _ _ (show (41 : Nat) ≠ 52 by decide), sA_n _ _ (show (43 : Nat) ≠ 44 by decide), sA_n _ _ (show (43 : Nat) ≠ 49 by decide), sA_n _ _ (show (43 : Nat) ≠ 50 by decide), sA_n _ _ (show (43 : Nat) ≠ 51 by decide), sA_n _ _ (show (43 : Nat) ≠ 52 by decide), sA_n _ _ (show (44 : Nat) ≠ 49 by decide), sA_n _ _ (show (44 : Nat) ≠ 50 by decide), sA_n _ _ (show (44 : Nat) ≠ 51 by decide), sA_n _ _ (show (44 : Nat) ≠ 52 by decide), sA_n _ _ (show (49 : Nat) ≠ 44 by decide), sA_n _ _ (show (49 : Nat) ≠ 50 by decide), sA_n _ _ (show (49 : Nat) ≠ 51 by decide), sA_n _ _ (show (49 : Nat) ≠ 52 by decide), sA_n _ _ (show (50 : Nat) ≠ 44 by decide), sA_n _ _ (show (50 : Nat) ≠ 49 by decide), sA_n _ _ (show (50 : Nat) ≠ 51 by decide), sA_n _ _ (show (50 : Nat) ≠ 52 by decide), sA_n _ _ (show (51 : Nat) ≠ 44 by decide), sA_n _ _ (show (51 : Nat) ≠ 49 by decide), sA_n _ _ (show (51 : Nat) ≠ 50 by decide), sA_n _ _ (show (51 : Nat) ≠ 52 by decide), sA_n _ _ (show (52 : Nat) ≠ 44 by decide), sA_n _ _ (show (52 : Nat) ≠ 49 by decide), sA_n _ _ (show (52 : Nat) ≠ 50 by decide), sA_n _ _ (show (52 : Nat) ≠ 51 by decide), sA_n _ _ (show (53 : Nat) ≠ 44 by decide), sA_n _ _ (show (53 : Nat) ≠ 49 by decide), sA_n _ _ (show (53 : Nat) ≠ 50 by decide), sA_n _ _ (show (53 : Nat) ≠ 51 by decide), sA_n _ _ (show (53 : Nat) ≠ 52 by decide), up3_sA _ (show (40 : Nat) ≠ 44 by decide), up3_sA _ (show (40 : Nat) ≠ 49 by decide), up3_sA _ (show (40 : Nat) ≠ 50 by decide), up3_sA _ (show (40 : Nat) ≠ 51 by decide), up3_sA _ (show (40 : Nat) ≠ 52 by decide), sA_44_49, sA_44_50, sA_49_50, sA_44_51, sA_49_51, sA_50_51, sA_44_52, sA_sA, up3_up3, sA_up44, up3_26_27, up3_sA _ (show (40 : Nat) ≠ 52 by decide)]); first | exact rC.top ((rC0_b hB).s (Or.inr (Or.inr rfl))) | exact rC.top (((rC0_c hB).s (Or.inr (Or.inr rfl))).s (Or.inr (Or.inl rfl))) | exact rC.top (((rC0_b hB).s (Or.inr (Or.inr rfl))).s (Or.inr (Or.inl rfl))) | exact ⟨(rC0_b hB).s (Or.inr (Or.inr rfl)), rfl⟩), (by first | exact bI_1 h33 | exact bI_0 h33), rfl, rfl⟩)
    · refine z_iconst (v := nI 1) C 36 dX9_pin_36 (by decide) ?_
      refine z_goto C 37 41 dX9_pin_37 (by decide) ?_
      refine z_istore_n C 41 3 [(3, _), (0, _), (1, _), (2, _)] dX9_pin_41 rfl (by decide) rfl ?_
      refine z_aload_n C 42 0 1 dX9_pin_42 rfl rfl ?_
      refine z_iload_n C 43 1 2 dX9_pin_43 rfl rfl ?_
      refine z_bipush (v := nI 6) C 44 dX9_pin_44 (by decide +kernel) ?_
      refine z_iload_n C 46 2 3 dX9_pin_46 rfl rfl ?_
      first | with_reducible refine z_if_eqB C 47 54 dX9_pin_47 (by decide) (fun h47 => ?_) (fun h47 => ?_) | with_reducible refine z_if_eqN C 47 54 dX9_pin_47 (by decide) (by omega) (fun h47 => ?_) (fun h47 => ?_) | refine z_if_eq C 47 54 dX9_pin_47 (by decide) (fun h47 => ?_) (fun h47 => ?_)
      · obtain rfl : b = 0 := h47
        refine z_iconst (v := nI 0) C 54 dX9_pin_54 (by decide) ?_
        refine z_cVv0 C 55 dX9_pin_55 cv_X9_240 (c_X9_sets hR (by omega) (by omega)) rfl ⟨by decide, rfl⟩ (by first | assumption | exact Nat.zero_lt_one | omega) rfl rfl (Nat.le_of_ble_eq_true rfl) ⟨by decide, by decide⟩ ⟨rfl, rfl⟩ ⟨by decide, by decide⟩ ?_
        intro S55 L55 R55 p55
        obtain ⟨rfl, rfl, rfl⟩ := p55
        refine z_iload_n C 58 3 0 dX9_pin_58 rfl rfl ?_
        exact ret 59 _ _ _ _ _ dX9_pin_59 (by first | rfl | decide) (⟨(by have hB : kP (S 51 0) (S 44 0) u B := hB; (try simp only [up3_k _ (show (44 : Nat) ≠ 40 by decide), up3_k _ (show (41 : Nat) ≠ 40 by decide), up3_k _ (show (43 : Nat) ≠ 40 by decide), up3_k _ (show (49 : Nat) ≠ 40 by decide), up3_k _ (show (50 : Nat) ≠ 40 by decide), up3_k _ (show (51 : Nat) ≠ 40 by decide), up3_k _ (show (52 : Nat) ≠ 40 by decide), up3_k _ (show (53 : Nat) ≠ 40 by decide), sA_s, sA_n _ _ (show (40 : Nat) ≠ 44 by decide), sA_n _ _ (show (40 : Nat) ≠ 49 by decide), sA_n _ _ (show (40 : Nat) ≠ 50 by decide), sA_n _ _ (show (40 : Nat) ≠ 51 by decide), sA_n _ _ (show (40 : Nat) ≠ 52 by decide), sA_n _ _ (show (41 : Nat) ≠ 44 by decide), sA_n _ _ (show (41 : Nat) ≠ 49 by decide), sA_n _ _ (show (41 : Nat) ≠ 50 by decide), sA_n _ _ (show (41 : Nat) ≠ 51 by decide), sA_n _ _ (show (41 : Nat) ≠ 52 by decide), sA_n _ _ (show (43 : Nat) ≠ 44 by decide), sA_n _ _ (show (43 : Nat) ≠ 49 by decide), sA_n _ _ (show (43 : Nat) ≠ 50 by decide), sA_n _ _ (show (43 : Nat) ≠ 51 by decide), sA_n _ _ (show (43 : Nat) ≠ 52 by decide), sA_n _ _ (show (44 : Nat) ≠ 49 by decide), sA_n _ _ (show (44 : Nat) ≠ 50 by decide), sA_n _ _ (show (44 : Nat) ≠ 51 by decide), sA_n _ _ (show (44 : Nat) ≠ 52 by decide), sA_n _ _ (show (49 : Nat) ≠ 44 by decide), sA_n _ _ (show (49 : Nat) ≠ 50 by decide), sA_n _ _ (show (49 : Nat) ≠ 51 by decide), sA_n _ _ (show (49 : Nat) ≠ 52 by decide), sA_n _ _ (show (50 : Nat) ≠ 44 by decide), sA_n _ _ (show (50 : Nat) ≠ 49 by decide), sA_n _ _ (show (50 : Nat) ≠ 51 by decide), sA_n _ _ (show (50 : Nat) ≠ 52 by decide), sA_n _ _ (show (51 : Nat) ≠ 44 by decide), sA_n _ _ (show (51 : Nat) ≠ 49 by decide), sA_n _ _ (show (51 : Nat) ≠ 50 by decide), sA_n _ _ (show (51 : Nat) ≠ 52 by decide), sA_n _ _ (show (52 : Nat) ≠ 44 by decide), sA_n _ _ (show (52 : Nat) ≠ 49 by decide), sA_n _ _ (show (52 : Nat) ≠ 50 by decide), sA_n _ _ (show (52 : Nat) ≠ 51 by decide), sA_n _ _ (show (53 : Nat) ≠ 44 by decide), sA_n _ _ (show (53 : Nat) ≠ 49 by decide), sA_n _ _ (show (53 : Nat) ≠ 50 by decide), sA_n _ _ (show (53 : Nat) ≠ 51 by decide), sA_n _ _ (show (53 : Nat) ≠ 52 by decide), up3_sA _ (show (40 : Nat) ≠ 44 by decide), up3_sA _ (show (40 : Nat) ≠ 49 by decide), up3_sA _ (show (40 : Nat) ≠ 50 by decide), up3_sA _ (show (40 : Nat) ≠ 51 by decide), up3_sA _ (show (40 : Nat) ≠ 52 by decide), sA_44_49, sA_44_50, sA_49_50, sA_44_51, sA_49_51, sA_50_51, sA_44_52, sA_sA, up3_up3, sA_up44, up3_26_27, up3_sA _ (show (40 : Nat) ≠ 52 by decide)]); first | exact rC.top ((rC0_b hB).s (Or.inr (Or.inr rfl))) | exact rC.top (((rC0_c hB).s (Or.inr (Or.inr rfl))).s (Or.inr (Or.inl rfl))) | exact rC.top (((rC0_b hB).s (Or.inr (Or.inr rfl))).s (Or.inr (Or.inl rfl))) | exact ⟨(rC0_b hB).s (Or.inr (Or.inr rfl)), rfl⟩), (by first | exact bI_1 h33 | exact bI_0 h33), rfl, rfl⟩)
      · obtain rfl : b = 1 := by omega
        refine z_iconst (v := nI 1) C 50 dX9_pin_50 (by decide) ?_
        refine z_goto C 51 55 dX9_pin_51 (by decide) ?_
        refine z_cVv0 C 55 dX9_pin_55 cv_X9_240 (c_X9_sets hR (by omega) (by omega)) rfl ⟨by decide, rfl⟩ (by first | assumption | exact Nat.zero_lt_one | omega) rfl rfl (Nat.le_of_ble_eq_true rfl) ⟨by decide, by decide⟩ ⟨rfl, rfl⟩ ⟨by decide, by decide⟩ ?_
        intro S55 L55 R55 p55
        obtain ⟨rfl, rfl, rfl⟩ := p55
        refine z_iload_n C 58 3 0 dX9_pin_58 rfl rfl ?_
        exact ret 59 _ _ _ _ _ dX9_pin_59 (by first | rfl | decide) (⟨(by have hB : kP (S 51 0) (S 44 0) u B := hB; (try simp only [up3_k _ (show (44 : Nat) ≠ 40 by decide), up3_k _ (show (41 : Nat) ≠ 40 by decide), up3_k _ (show (43 : Nat) ≠ 40 by decide), up3_k _ (show (49 : Nat) ≠ 40 by decide), up3_k _ (show (50 : Nat) ≠ 40 by decide), up3_k _ (show (51 : Nat) ≠ 40 by decide), up3_k _ (show (52 : Nat) ≠ 40 by decide), up3_k _ (show (53 : Nat) ≠ 40 by decide), sA_s, sA_n _ _ (show (40 : Nat) ≠ 44 by decide), sA_n _ _ (show (40 : Nat) ≠ 49 by decide), sA_n _ _ (show (40 : Nat) ≠ 50 by decide), sA_n _ _ (show (40 : Nat) ≠ 51 by decide), sA_n _ _ (show (40 : Nat) ≠ 52 by decide), sA_n _ _ (show (41 : Nat) ≠ 44 by decide), sA_n _ _ (show (41 : Nat) ≠ 49 by decide), sA_n _ _ (show (41 : Nat) ≠ 50 by decide), sA_n _ _ (show (41 : Nat) ≠ 51 by decide), sA_n _ _ (show (41 : Nat) ≠ 52 by decide), sA_n _ _ (show (43 : Nat) ≠ 44 by decide), sA_n _ _ (show (43 : Nat) ≠ 49 by decide), sA_n _ _ (show (43 : Nat) ≠ 50 by decide), sA_n _ _ (show (43 : Nat) ≠ 51 by decide), sA_n _ _ (show (43 : Nat) ≠ 52 by decide), sA_n _ _ (show (44 : Nat) ≠ 49 by decide), sA_n _ _ (show (44 : Nat) ≠ 50 by decide), sA_n _ _ (show (44 : Nat) ≠ 51 by decide), sA_n _ _ (show (44 : Nat) ≠ 52 by decide), sA_n _ _ (show (49 : Nat) ≠ 44 by decide), sA_n _ _ (show (49 : Nat) ≠ 50 by decide), sA_n _ _ (show (49 : Nat) ≠ 51 by decide), sA_n _ _ (show (49 : Nat) ≠ 52 by decide), sA_n _ _ (show (50 : Nat) ≠ 44 by decide), sA_n _ _ (show (50 : Nat) ≠ 49 by decide), sA_n _ _ (show (50 : Nat) ≠ 51 by decide), sA_n _ _ (show (50 : Nat) ≠ 52 by decide), sA_n _ _ (show (51 : Nat) ≠ 44 by decide), sA_n _ _ (show (51 : Nat) ≠ 49 by decide), sA_n _ _ (show (51 : Nat) ≠ 50 by decide), sA_n _ _ (show (51 : Nat) ≠ 52 by decide), sA_n _ _ (show (52 : Nat) ≠ 44 by decide), sA_n _ _ (show (52 : Nat) ≠ 49 by decide), sA_n _ _ (show (52 : Nat) ≠ 50 by decide), sA_n _ _ (show (52 : Nat) ≠ 51 by decide), sA_n _ _ (show (53 : Nat) ≠ 44 by decide), sA_n _ _ (show (53 : Nat) ≠ 49 by decide), sA_n _ _ (show (53 : Nat) ≠ 50 by decide), sA_n _ _ (show (53 : Nat) ≠ 51 by decide), sA_n _ _ (show (53 : Nat) ≠ 52 by decide), up3_sA _ (show (40 : Nat) ≠ 44 by decide), up3_sA _ (show (40 : Nat) ≠ 49 by decide), up3_sA _ (show (40 : Nat) ≠ 50 by decide), up3_sA _ (show (40 : Nat) ≠ 51 by decide), up3_sA _ (show (40 : Nat) ≠ 52 by decide), sA_44_49, sA_44_50, sA_49_50, sA_44_51, sA_49_51, sA_50_51, sA_44_52, sA_sA, up3_up3, sA_up44, up3_26_27, up3_sA _ (show (40 : Nat) ≠ 52 by decide)]); first | exact rC.top ((rC0_b hB).s (Or.inr (Or.inr rfl))) | exact rC.top (((rC0_c hB).s (Or.inr (Or.inr rfl))).s (Or.inr (Or.inl rfl))) | exact rC.top (((rC0_b hB).s (Or.inr (Or.inr rfl))).s (Or.inr (Or.inl rfl))) | exact ⟨(rC0_b hB).s (Or.inr (Or.inr rfl)), rfl⟩), (by first | exact bI_1 h33 | exact bI_0 h33), rfl, rfl⟩)

set_option maxHeartbeats 4000000 in
set_option maxRecDepth 100000 in
theorem c_X9_pin_1 {l : Launch} {G : mG} {ad : mA} {S : mS} {L : mL} {R : mR} {n b : Nat} {x : Int32} (hR : mlk R) (hn : S 40 0 1 = nI n) (hn10 : n ≤ 10) (hx : ¬ isP n x) : Ki l yX9_pin cX9_pin 4 .boolean rm_X9_pin G ad mdm [.ref (ad 40 0), .int x, .int (nI b)] S L R (fun r_ S2 L2 R2 => rQ S S2 1 ∧ L = L2 ∧ R = R2) := by
  refine Ki.of RX9 (by decide) rfl (Nat.le_of_ble_eq_true rfl) ?_
  intro X hXl hXG C ret
  subst hXl; subst hXG
  change Z X 4 ad mdm S L R 0 0 0 [(0, _), (1, _), (2, _)] []
  refine z_aload_n C 0 0 0 dX9_pin_0 rfl rfl ?_
  refine z_iload_n C 1 1 1 dX9_pin_1 rfl rfl ?_
  refine z_cVi0 C 2 dX9_pin_2 cv_X9_291 (c_X9_noProgram_1 hR hn hn10 hx) rfl ⟨by decide, rfl⟩ (by first | assumption | exact Nat.zero_lt_one | omega) rfl rfl (Nat.le_of_ble_eq_true rfl) ⟨by decide, by decide⟩ ⟨rfl, rfl⟩ ⟨by decide, by decide⟩ ?_
  intro r2 S2 L2 R2 p2
  obtain ⟨rfl, rfl, rfl, rfl⟩ := p2
  first | with_reducible refine z_if_eqB C 5 10 dX9_pin_5 (by decide) (fun h5 => by omega) (fun h5 => ?_) | with_reducible refine z_if_eqN C 5 10 dX9_pin_5 (by decide) (by omega) (fun h5 => by omega) (fun h5 => ?_) | refine z_if_eq C 5 10 dX9_pin_5 (by decide) (fun h5 => by omega) (fun h5 => ?_)
  · refine z_iconst (v := nI 0) C 8 dX9_pin_8 (by decide) ?_
    exact ret 9 _ _ _ _ _ dX9_pin_9 (by first | rfl | exact bI_n | decide) (⟨(by first | exact rQ_t _ _ | (simp only [up3_up3]; exact rQ_t _ _)), rfl, rfl⟩)
def rm_X9_trim : Room := { frames := 6, cells := 0, slots := 0, locals := 136 }
set_option maxHeartbeats 4000000 in
set_option maxRecDepth 100000 in
theorem c_X9_trim {l : Launch} {G : mG} {ad : mA} {S : mS} {L : mL} {R : mR} {n k p u : Nat} (hR : mlk R) (hu : S 40 0 27 = nI u) (hu10 : u ≤ 10) (hn : S 40 0 1 = nI n) (hn10 : n ≤ 10) (hI : rI (S 44 0) n) (hk : 1 ≤ k) (hk6 : k ≤ 6) (hv : fVic (S 44 0) (S 41 0) n k = some p) (ho : ¬ (fStep (S 44 0) p k) 0 < fAll (fStep (S 44 0) p k) (S 41 0) n) : Ki l yX9_trim cX9_trim 3 .int rm_X9_trim G ad mdm [.ref (ad 40 0), .int (nI k)] S L R (fun r_ S2 L2 R2 => rC S S2 (fStep (S 44 0) p k) u ∧ r_ = nI p ∧ L = L2 ∧ R = R2) := by
  refine Ki.of RX9 (by decide) rfl (Nat.le_of_ble_eq_true rfl) ?_
  intro X hXl hXG C ret
  subst hXl; subst hXG
  change Z X 3 ad mdm S L R 0 0 0 [(0, _), (1, _)] []
  have hp := fVic_lt hv
  refine z_aload_n C 0 0 0 dX9_trim_0 rfl rfl ?_
  refine z_iload_n C 1 1 1 dX9_trim_1 rfl rfl ?_
  refine z_bipush (v := nI 6) C 2 dX9_trim_2 (by decide +kernel) ?_
  refine z_cVi0 C 4 dX9_trim_4 cv_X9_294 (c_X9_noKind hR (by omega) (by omega) (by decide)) rfl ⟨by decide, rfl⟩ (by first | assumption | exact Nat.zero_lt_one | omega) rfl rfl (Nat.le_of_ble_eq_true rfl) ⟨by decide, by decide⟩ ⟨rfl, rfl⟩ ⟨by decide, by decide⟩ ?_
  intro r4 S4 L4 R4 p4
  obtain ⟨rfl, rfl, rfl, rfl⟩ := p4
  first | with_reducible refine z_if_eqB C 7 12 dX9_trim_7 (by decide) (fun h7 => ?_) (fun h7 => by omega) | with_reducible refine z_if_eqN C 7 12 dX9_trim_7 (by decide) (by omega) (fun h7 => ?_) (fun h7 => by omega) | refine z_if_eq C 7 12 dX9_trim_7 (by decide) (fun h7 => ?_) (fun h7 => by omega)
  · refine z_aload_n C 12 0 0 dX9_trim_12 rfl rfl ?_
    refine z_iload_n C 13 1 1 dX9_trim_13 rfl rfl ?_
    refine z_cVi0 C 14 dX9_trim_14 cv_X9_254 (c_X9_victimOf (n := n) hR hn hn10 hI hk hk6) rfl ⟨by decide, rfl⟩ (by first | assumption | exact Nat.zero_lt_one | omega) rfl rfl (Nat.le_of_ble_eq_true rfl) ⟨by decide, by decide⟩ ⟨rfl, rfl⟩ ⟨by decide, by decide⟩ ?_
    intro r14 S14 L14 R14 p14
    obtain ⟨rfl, rfl, rfl, rfl⟩ := p14
    refine z_st (st := [.int (nI p)]) (by rw [show nI p = oI (some p) from rfl, ← hv]; rfl) ?_
    refine z_istore_n C 17 2 [(2, _), (0, _), (1, _)] dX9_trim_17 rfl (by decide) rfl ?_
    refine z_aload_n C 18 0 1 dX9_trim_18 rfl rfl ?_
    refine z_iload_n C 19 2 0 dX9_trim_19 rfl rfl ?_
    refine z_iconst (v := (-1)) C 20 dX9_trim_20 (by decide) ?_
    first | with_reducible refine z_icmp_neN C 21 28 dX9_trim_21 (by decide) (by omega) (by omega) (fun h21 => ?_) (fun h21 => absurd h21 (nI_m1 (by omega))) | refine z_icmp_ne C 21 28 dX9_trim_21 (by decide) (fun h21 => ?_) (fun h21 => absurd h21 (nI_m1 (by omega)))
    · refine z_iconst (v := nI 0) C 28 dX9_trim_28 (by decide) ?_
      refine z_iconst (v := nI 2) C 29 dX9_trim_29 (by decide) ?_
      refine z_cVi0 C 30 dX9_trim_30 cv_X9_185 (c_X9_throwsIf_0 hR (by first | assumption | rfl)) rfl ⟨by decide, rfl⟩ (by first | assumption | exact Nat.zero_lt_one | omega) rfl rfl (Nat.le_of_ble_eq_true rfl) ⟨by decide, by decide⟩ ⟨rfl, rfl⟩ ⟨by decide, by decide⟩ ?_
      intro r30 S30 L30 R30 p30
      obtain ⟨rfl, rfl, rfl, rfl⟩ := p30
      first | with_reducible refine z_if_eqB C 33 38 dX9_trim_33 (by decide) (fun h33 => ?_) (fun h33 => by omega) | with_reducible refine z_if_eqN C 33 38 dX9_trim_33 (by decide) (by omega) (fun h33 => ?_) (fun h33 => by omega) | refine z_if_eq C 33 38 dX9_trim_33 (by decide) (fun h33 => ?_) (fun h33 => by omega)
      · refine z_aload_n C 38 0 1 dX9_trim_38 rfl rfl ?_
        refine z_getr C 39 dX9_trim_39 gf_X9_20 rfl (by first | assumption | exact Nat.zero_lt_one | omega) (by first | exact hR _ _ _ _ rfl | assumption) ?_
        refine z_aload_n C 42 0 1 dX9_trim_42 rfl rfl ?_
        refine z_getr C 43 dX9_trim_43 gf_X9_43 rfl (by first | assumption | exact Nat.zero_lt_one | omega) (by first | exact hR _ _ _ _ rfl | assumption) ?_
        refine z_cSv0 C 46 dX9_trim_46 cs_X9_269 (c_X9_puts (by rfl) (by rfl) (by first | assumption | exact Nat.zero_lt_one | omega) (by first | assumption | exact Nat.zero_lt_one | omega) (by decide)) rfl rfl (Nat.le_of_ble_eq_true rfl) ⟨by decide, by decide⟩ ⟨rfl, rfl⟩ ⟨by decide, by decide⟩ ?_
        intro S46 L46 R46 p46
        obtain ⟨rfl, rfl, rfl⟩ := p46
        refine z_aload_n C 49 0 1 dX9_trim_49 rfl rfl ?_
        refine z_iload_n C 50 2 0 dX9_trim_50 rfl rfl ?_
        refine z_iload_n C 51 1 2 dX9_trim_51 rfl rfl ?_
        refine z_cVv0 C 52 dX9_trim_52 cv_X9_257 (c_X9_steps hR (by omega) hk hk6) rfl ⟨by decide, rfl⟩ (by first | assumption | exact Nat.zero_lt_one | omega) rfl rfl (Nat.le_of_ble_eq_true rfl) ⟨by decide, by decide⟩ ⟨rfl, rfl⟩ ⟨by decide, by decide⟩ ?_
        intro S52 L52 R52 p52
        obtain ⟨rfl, rfl, rfl⟩ := p52
        refine z_aload_n C 55 0 1 dX9_trim_55 rfl rfl ?_
        refine z_aload_n C 56 0 1 dX9_trim_56 rfl rfl ?_
        refine z_cVi0 C 57 dX9_trim_57 cv_X9_251 (c_X9_usesAll hR hn hn10) rfl ⟨by decide, rfl⟩ (by first | assumption | exact Nat.zero_lt_one | omega) rfl rfl (Nat.le_of_ble_eq_true rfl) ⟨by decide, by decide⟩ ⟨rfl, rfl⟩ ⟨by decide, by decide⟩ ?_
        intro r57 S57 L57 R57 p57
        obtain ⟨rfl, rfl, rfl, rfl⟩ := p57
        refine z_aload_n C 60 0 1 dX9_trim_60 rfl rfl ?_
        refine z_getr C 61 dX9_trim_61 gf_X9_20 rfl (by first | assumption | exact Nat.zero_lt_one | omega) (by first | exact hR _ _ _ _ rfl | assumption) ?_
        refine z_iconst (v := nI 0) C 64 dX9_trim_64 (by decide) ?_
        refine z_iald C 65 dX9_trim_65 (by first | rfl | assumption) (by first | assumption | exact Nat.zero_lt_one | omega) (by first | rfl | assumption) (by first | decide | omega) (by first | assumption | omega) ?_
        first | with_reducible refine z_icmp_leN C 66 73 dX9_trim_66 (by decide) (by omega) (by omega) (fun h66 => ?_) (fun h66 => absurd (Int32.not_le.mp h66) ho) | refine z_icmp_le C 66 73 dX9_trim_66 (by decide) (fun h66 => ?_) (fun h66 => absurd (Int32.not_le.mp h66) ho)
        · refine z_iconst (v := nI 0) C 73 dX9_trim_73 (by decide) ?_
          refine z_iconst (v := nI 2) C 74 dX9_trim_74 (by decide) ?_
          refine z_cVi0 C 75 dX9_trim_75 cv_X9_185 (c_X9_throwsIf_0 hR (by first | assumption | rfl)) rfl ⟨by decide, rfl⟩ (by first | assumption | exact Nat.zero_lt_one | omega) rfl rfl (Nat.le_of_ble_eq_true rfl) ⟨by decide, by decide⟩ ⟨rfl, rfl⟩ ⟨by decide, by decide⟩ ?_
          intro r75 S75 L75 R75 p75
          obtain ⟨rfl, rfl, rfl, rfl⟩ := p75
          first | with_reducible refine z_if_eqB C 78 94 dX9_trim_78 (by decide) (fun h78 => ?_) (fun h78 => by omega) | with_reducible refine z_if_eqN C 78 94 dX9_trim_78 (by decide) (by omega) (fun h78 => ?_) (fun h78 => by omega) | refine z_if_eq C 78 94 dX9_trim_78 (by decide) (fun h78 => ?_) (fun h78 => by omega)
          · refine z_aload_n C 94 0 1 dX9_trim_94 rfl rfl ?_
            refine z_cVv0 C 95 dX9_trim_95 cv_X9_306 (c_X9_keeps (u := u) hR hu hu10) rfl ⟨by decide, rfl⟩ (by first | assumption | exact Nat.zero_lt_one | omega) rfl rfl (Nat.le_of_ble_eq_true rfl) ⟨by decide, by decide⟩ ⟨rfl, rfl⟩ ⟨by decide, by decide⟩ ?_
            intro S95 L95 R95 p95
            obtain ⟨⟨B, rfl, hB⟩, rfl, rfl⟩ := p95
            refine z_iload_n C 98 2 0 dX9_trim_98 rfl rfl ?_
            exact ret 99 _ _ _ _ _ dX9_trim_99 (by first | rfl | exact bI_n | decide) (⟨(by have hB : kP (S 51 0) (S 44 0) u B := hB; (try simp only [up3_k _ (show (44 : Nat) ≠ 40 by decide), up3_k _ (show (41 : Nat) ≠ 40 by decide), up3_k _ (show (43 : Nat) ≠ 40 by decide), up3_k _ (show (49 : Nat) ≠ 40 by decide), up3_k _ (show (50 : Nat) ≠ 40 by decide), up3_k _ (show (51 : Nat) ≠ 40 by decide), up3_k _ (show (52 : Nat) ≠ 40 by decide), up3_k _ (show (53 : Nat) ≠ 40 by decide), sA_s, sA_n _ _ (show (40 : Nat) ≠ 44 by decide), sA_n _ _ (show (40 : Nat) ≠ 49 by decide), sA_n _ _ (show (40 : Nat) ≠ 50 by decide), sA_n _ _ (show (40 : Nat) ≠ 51 by decide), sA_n _ _ (show (40 : Nat) ≠ 52 by decide), sA_n _ _ (show (41 : Nat) ≠ 44 by decide), sA_n _ _ (show (41 : Nat) ≠ 49 by decide), sA_n _ _ (show (41 : Nat) ≠ 50 by decide), sA_n _ _ (show (41 : Nat) ≠ 51 by decide), sA_n _ _ (show (41 : Nat) ≠ 52 by decide), sA_n _ _ (show (43 : Nat) ≠ 44 by decide), sA_n _ _ (show (43 : Nat) ≠ 49 by decide), sA_n _ _ (show (43 : Nat) ≠ 50 by decide), sA_n _ _ (show (43 : Nat) ≠ 51 by decide), sA_n _ _ (show (43 : Nat) ≠ 52 by decide), sA_n _ _ (show (44 : Nat) ≠ 49 by decide), sA_n _ _ (show (44 : Nat) ≠ 50 by decide), sA_n _ _ (show (44 : Nat) ≠ 51 by decide), sA_n _ _ (show (44 : Nat) ≠ 52 by decide), sA_n _ _ (show (49 : Nat) ≠ 44 by decide), sA_n _ _ (show (49 : Nat) ≠ 50 by decide), sA_n _ _ (show (49 : Nat) ≠ 51 by decide), sA_n _ _ (show (49 : Nat) ≠ 52 by decide), sA_n _ _ (show (50 : Nat) ≠ 44 by decide), sA_n _ _ (show (50 : Nat) ≠ 49 by decide), sA_n _ _ (show (50 : Nat) ≠ 51 by decide), sA_n _ _ (show (50 : Nat) ≠ 52 by decide), sA_n _ _ (show (51 : Nat) ≠ 44 by decide), sA_n _ _ (show (51 : Nat) ≠ 49 by decide), sA_n _ _ (show (51 : Nat) ≠ 50 by decide), sA_n _ _ (show (51 : Nat) ≠ 52 by decide), sA_n _ _ (show (52 : Nat) ≠ 44 by decide), sA_n _ _ (show (52 : Nat) ≠ 49 by decide), sA_n _ _ (show (52 : Nat) ≠ 50 by decide), sA_n _ _ (show (52 : Nat) ≠ 51 by decide), sA_n _ _ (show (53 : Nat) ≠ 44 by decide), sA_n _ _ (show (53 : Nat) ≠ 49 by decide), sA_n _ _ (show (53 : Nat) ≠ 50 by decide), sA_n _ _ (show (53 : Nat) ≠ 51 by decide), sA_n _ _ (show (53 : Nat) ≠ 52 by decide), up3_sA _ (show (40 : Nat) ≠ 44 by decide), up3_sA _ (show (40 : Nat) ≠ 49 by decide), up3_sA _ (show (40 : Nat) ≠ 50 by decide), up3_sA _ (show (40 : Nat) ≠ 51 by decide), up3_sA _ (show (40 : Nat) ≠ 52 by decide), sA_44_49, sA_44_50, sA_49_50, sA_44_51, sA_49_51, sA_50_51, sA_44_52, sA_sA, up3_up3, sA_up44, up3_26_27, up3_sA _ (show (40 : Nat) ≠ 52 by decide)]); first | exact rC.top ((rC0_b hB).s (Or.inr (Or.inr rfl))) | exact rC.top (((rC0_c hB).s (Or.inr (Or.inr rfl))).s (Or.inr (Or.inl rfl))) | exact rC.top (((rC0_b hB).s (Or.inr (Or.inr rfl))).s (Or.inr (Or.inl rfl))) | exact ⟨(rC0_b hB).s (Or.inr (Or.inr rfl)), rfl⟩), rfl, rfl, rfl⟩)

set_option maxHeartbeats 4000000 in
set_option maxRecDepth 100000 in
theorem c_X9_trim_1 {l : Launch} {G : mG} {ad : mA} {S : mS} {L : mL} {R : mR} {x : Int32} (hR : mlk R) (hx : ¬ isR 1 6 x) : Ki l yX9_trim cX9_trim 3 .int rm_X9_trim G ad mdm [.ref (ad 40 0), .int x] S L R (fun r_ S2 L2 R2 => rQ S S2 1 ∧ L = L2 ∧ R = R2) := by
  refine Ki.of RX9 (by decide) rfl (Nat.le_of_ble_eq_true rfl) ?_
  intro X hXl hXG C ret
  subst hXl; subst hXG
  change Z X 3 ad mdm S L R 0 0 0 [(0, _), (1, _)] []
  refine z_aload_n C 0 0 0 dX9_trim_0 rfl rfl ?_
  refine z_iload_n C 1 1 1 dX9_trim_1 rfl rfl ?_
  refine z_bipush (v := nI 6) C 2 dX9_trim_2 (by decide +kernel) ?_
  refine z_cVi0 C 4 dX9_trim_4 cv_X9_294 (c_X9_noKind_1 hR hx (by decide)) rfl ⟨by decide, rfl⟩ (by first | assumption | exact Nat.zero_lt_one | omega) rfl rfl (Nat.le_of_ble_eq_true rfl) ⟨by decide, by decide⟩ ⟨rfl, rfl⟩ ⟨by decide, by decide⟩ ?_
  intro r4 S4 L4 R4 p4
  obtain ⟨rfl, rfl, rfl, rfl⟩ := p4
  first | with_reducible refine z_if_eqB C 7 12 dX9_trim_7 (by decide) (fun h7 => by omega) (fun h7 => ?_) | with_reducible refine z_if_eqN C 7 12 dX9_trim_7 (by decide) (by omega) (fun h7 => by omega) (fun h7 => ?_) | refine z_if_eq C 7 12 dX9_trim_7 (by decide) (fun h7 => by omega) (fun h7 => ?_)
  · refine z_iconst (v := nI 0) C 10 dX9_trim_10 (by decide) ?_
    exact ret 11 _ _ _ _ _ dX9_trim_11 (by first | rfl | exact bI_n | decide) (⟨(by first | exact rQ_t _ _ | (simp only [up3_up3]; exact rQ_t _ _)), rfl, rfl⟩)

set_option maxHeartbeats 4000000 in
set_option maxRecDepth 100000 in
theorem c_X9_trim_2 {l : Launch} {G : mG} {ad : mA} {S : mS} {L : mL} {R : mR} {n k : Nat} (hR : mlk R) (hn : S 40 0 1 = nI n) (hn10 : n ≤ 10) (hI : rI (S 44 0) n) (hk : 1 ≤ k) (hk6 : k ≤ 6) (hv : fVic (S 44 0) (S 41 0) n k = none) : Ki l yX9_trim cX9_trim 3 .int rm_X9_trim G ad mdm [.ref (ad 40 0), .int (nI k)] S L R (fun r_ S2 L2 R2 => rQ S S2 2 ∧ L = L2 ∧ R = R2) := by
  refine Ki.of RX9 (by decide) rfl (Nat.le_of_ble_eq_true rfl) ?_
  intro X hXl hXG C ret
  subst hXl; subst hXG
  change Z X 3 ad mdm S L R 0 0 0 [(0, _), (1, _)] []
  refine z_aload_n C 0 0 0 dX9_trim_0 rfl rfl ?_
  refine z_iload_n C 1 1 1 dX9_trim_1 rfl rfl ?_
  refine z_bipush (v := nI 6) C 2 dX9_trim_2 (by decide +kernel) ?_
  refine z_cVi0 C 4 dX9_trim_4 cv_X9_294 (c_X9_noKind hR (by omega) (by omega) (by decide)) rfl ⟨by decide, rfl⟩ (by first | assumption | exact Nat.zero_lt_one | omega) rfl rfl (Nat.le_of_ble_eq_true rfl) ⟨by decide, by decide⟩ ⟨rfl, rfl⟩ ⟨by decide, by decide⟩ ?_
  intro r4 S4 L4 R4 p4
  obtain ⟨rfl, rfl, rfl, rfl⟩ := p4
  first | with_reducible refine z_if_eqB C 7 12 dX9_trim_7 (by decide) (fun h7 => ?_) (fun h7 => by omega) | with_reducible refine z_if_eqN C 7 12 dX9_trim_7 (by decide) (by omega) (fun h7 => ?_) (fun h7 => by omega) | refine z_if_eq C 7 12 dX9_trim_7 (by decide) (fun h7 => ?_) (fun h7 => by omega)
  · refine z_aload_n C 12 0 0 dX9_trim_12 rfl rfl ?_
    refine z_iload_n C 13 1 1 dX9_trim_13 rfl rfl ?_
    refine z_cVi0 C 14 dX9_trim_14 cv_X9_254 (c_X9_victimOf (n := n) hR hn hn10 hI hk hk6) rfl ⟨by decide, rfl⟩ (by first | assumption | exact Nat.zero_lt_one | omega) rfl rfl (Nat.le_of_ble_eq_true rfl) ⟨by decide, by decide⟩ ⟨rfl, rfl⟩ ⟨by decide, by decide⟩ ?_
    intro r14 S14 L14 R14 p14
    obtain ⟨rfl, rfl, rfl, rfl⟩ := p14
    refine z_st (st := [.int (-1)]) (by rw [show (-1 : Int32) = oI none from rfl, ← hv]; rfl) ?_
    refine z_istore_n C 17 2 [(2, _), (0, _), (1, _)] dX9_trim_17 rfl (by decide) rfl ?_
    refine z_aload_n C 18 0 1 dX9_trim_18 rfl rfl ?_
    refine z_iload_n C 19 2 0 dX9_trim_19 rfl rfl ?_
    refine z_iconst (v := (-1)) C 20 dX9_trim_20 (by decide) ?_
    first | with_reducible refine z_icmp_neN C 21 28 dX9_trim_21 (by decide) (by omega) (by omega) (fun h21 => absurd rfl h21) (fun h21 => ?_) | refine z_icmp_ne C 21 28 dX9_trim_21 (by decide) (fun h21 => absurd rfl h21) (fun h21 => ?_)
    · refine z_iconst (v := nI 1) C 24 dX9_trim_24 (by decide) ?_
      refine z_goto C 25 29 dX9_trim_25 (by decide) ?_
      refine z_iconst (v := nI 2) C 29 dX9_trim_29 (by decide) ?_
      refine z_cVi0 C 30 dX9_trim_30 cv_X9_185 (c_X9_throwsIf_1 hR (by first | assumption | rfl) (by decide) (by decide)) rfl ⟨by decide, rfl⟩ (by first | assumption | exact Nat.zero_lt_one | omega) rfl rfl (Nat.le_of_ble_eq_true rfl) ⟨by decide, by decide⟩ ⟨rfl, rfl⟩ ⟨by decide, by decide⟩ ?_
      intro r30 S30 L30 R30 p30
      obtain ⟨rfl, rfl, rfl, rfl⟩ := p30
      first | with_reducible refine z_if_eqB C 33 38 dX9_trim_33 (by decide) (fun h33 => by omega) (fun h33 => ?_) | with_reducible refine z_if_eqN C 33 38 dX9_trim_33 (by decide) (by omega) (fun h33 => by omega) (fun h33 => ?_) | refine z_if_eq C 33 38 dX9_trim_33 (by decide) (fun h33 => by omega) (fun h33 => ?_)
      · refine z_iconst (v := nI 0) C 36 dX9_trim_36 (by decide) ?_
        exact ret 37 _ _ _ _ _ dX9_trim_37 (by first | rfl | exact bI_n | decide) (⟨(by first | exact rQ_t _ _ | (simp only [up3_up3]; exact rQ_t _ _)), rfl, rfl⟩)

set_option maxHeartbeats 4000000 in
set_option maxRecDepth 100000 in
theorem c_X9_trim_3 {l : Launch} {G : mG} {ad : mA} {S : mS} {L : mL} {R : mR} {n k p : Nat} (hR : mlk R) (hn : S 40 0 1 = nI n) (hn10 : n ≤ 10) (hI : rI (S 44 0) n) (hk : 1 ≤ k) (hk6 : k ≤ 6) (hv : fVic (S 44 0) (S 41 0) n k = some p) (ho : (fStep (S 44 0) p k) 0 < fAll (fStep (S 44 0) p k) (S 41 0) n) : Ki l yX9_trim cX9_trim 3 .int rm_X9_trim G ad mdm [.ref (ad 40 0), .int (nI k)] S L R (fun r_ S2 L2 R2 => rQ S S2 2 ∧ L = L2 ∧ R = R2) := by
  refine Ki.of RX9 (by decide) rfl (Nat.le_of_ble_eq_true rfl) ?_
  intro X hXl hXG C ret
  subst hXl; subst hXG
  change Z X 3 ad mdm S L R 0 0 0 [(0, _), (1, _)] []
  have hp := fVic_lt hv
  have h20 : (fStep (S 44 0) p k) 0 = S 44 0 0 := fStep_lo (by omega)
  refine z_aload_n C 0 0 0 dX9_trim_0 rfl rfl ?_
  refine z_iload_n C 1 1 1 dX9_trim_1 rfl rfl ?_
  refine z_bipush (v := nI 6) C 2 dX9_trim_2 (by decide +kernel) ?_
  refine z_cVi0 C 4 dX9_trim_4 cv_X9_294 (c_X9_noKind hR (by omega) (by omega) (by decide)) rfl ⟨by decide, rfl⟩ (by first | assumption | exact Nat.zero_lt_one | omega) rfl rfl (Nat.le_of_ble_eq_true rfl) ⟨by decide, by decide⟩ ⟨rfl, rfl⟩ ⟨by decide, by decide⟩ ?_
  intro r4 S4 L4 R4 p4
  obtain ⟨rfl, rfl, rfl, rfl⟩ := p4
  first | with_reducible refine z_if_eqB C 7 12 dX9_trim_7 (by decide) (fun h7 => ?_) (fun h7 => by omega) | with_reducible refine z_if_eqN C 7 12 dX9_trim_7 (by decide) (by omega) (fun h7 => ?_) (fun h7 => by omega) | refine z_if_eq C 7 12 dX9_trim_7 (by decide) (fun h7 => ?_) (fun h7 => by omega)
  · refine z_aload_n C 12 0 0 dX9_trim_12 rfl rfl ?_
    refine z_iload_n C 13 1 1 dX9_trim_13 rfl rfl ?_
    refine z_cVi0 C 14 dX9_trim_14 cv_X9_254 (c_X9_victimOf (n := n) hR hn hn10 hI hk hk6) rfl ⟨by decide, rfl⟩ (by first | assumption | exact Nat.zero_lt_one | omega) rfl rfl (Nat.le_of_ble_eq_true rfl) ⟨by decide, by decide⟩ ⟨rfl, rfl⟩ ⟨by decide, by decide⟩ ?_
    intro r14 S14 L14 R14 p14
    obtain ⟨rfl, rfl, rfl, rfl⟩ := p14
    refine z_st (st := [.int (nI p)]) (by rw [show nI p = oI (some p) from rfl, ← hv]; rfl) ?_
    refine z_istore_n C 17 2 [(2, _), (0, _), (1, _)] dX9_trim_17 rfl (by decide) rfl ?_
    refine z_aload_n C 18 0 1 dX9_trim_18 rfl rfl ?_
    refine z_iload_n C 19 2 0 dX9_trim_19 rfl rfl ?_
    refine z_iconst (v := (-1)) C 20 dX9_trim_20 (by decide) ?_
    first | with_reducible refine z_icmp_neN C 21 28 dX9_trim_21 (by decide) (by omega) (by omega) (fun h21 => ?_) (fun h21 => absurd h21 (nI_m1 (by omega))) | refine z_icmp_ne C 21 28 dX9_trim_21 (by decide) (fun h21 => ?_) (fun h21 => absurd h21 (nI_m1 (by omega)))
    · refine z_iconst (v := nI 0) C 28 dX9_trim_28 (by decide) ?_
      refine z_iconst (v := nI 2) C 29 dX9_trim_29 (by decide) ?_
      refine z_cVi0 C 30 dX9_trim_30 cv_X9_185 (c_X9_throwsIf_0 hR (by first | assumption | rfl)) rfl ⟨by decide, rfl⟩ (by first | assumption | exact Nat.zero_lt_one | omega) rfl rfl (Nat.le_of_ble_eq_true rfl) ⟨by decide, by decide⟩ ⟨rfl, rfl⟩ ⟨by decide, by decide⟩ ?_
      intro r30 S30 L30 R30 p30
      obtain ⟨rfl, rfl, rfl, rfl⟩ := p30
      first | with_reducible refine z_if_eqB C 33 38 dX9_trim_33 (by decide) (fun h33 => ?_) (fun h33 => by omega) | with_reducible refine z_if_eqN C 33 38 dX9_trim_33 (by decide) (by omega) (fun h33 => ?_) (fun h33 => by omega) | refine z_if_eq C 33 38 dX9_trim_33 (by decide) (fun h33 => ?_) (fun h33 => by omega)
      · refine z_aload_n C 38 0 1 dX9_trim_38 rfl rfl ?_
        refine z_getr C 39 dX9_trim_39 gf_X9_20 rfl (by first | assumption | exact Nat.zero_lt_one | omega) (by first | exact hR _ _ _ _ rfl | assumption) ?_
        refine z_aload_n C 42 0 1 dX9_trim_42 rfl rfl ?_
        refine z_getr C 43 dX9_trim_43 gf_X9_43 rfl (by first | assumption | exact Nat.zero_lt_one | omega) (by first | exact hR _ _ _ _ rfl | assumption) ?_
        refine z_cSv0 C 46 dX9_trim_46 cs_X9_269 (c_X9_puts (by rfl) (by rfl) (by first | assumption | exact Nat.zero_lt_one | omega) (by first | assumption | exact Nat.zero_lt_one | omega) (by decide)) rfl rfl (Nat.le_of_ble_eq_true rfl) ⟨by decide, by decide⟩ ⟨rfl, rfl⟩ ⟨by decide, by decide⟩ ?_
        intro S46 L46 R46 p46
        obtain ⟨rfl, rfl, rfl⟩ := p46
        refine z_aload_n C 49 0 1 dX9_trim_49 rfl rfl ?_
        refine z_iload_n C 50 2 0 dX9_trim_50 rfl rfl ?_
        refine z_iload_n C 51 1 2 dX9_trim_51 rfl rfl ?_
        refine z_cVv0 C 52 dX9_trim_52 cv_X9_257 (c_X9_steps hR (by omega) hk hk6) rfl ⟨by decide, rfl⟩ (by first | assumption | exact Nat.zero_lt_one | omega) rfl rfl (Nat.le_of_ble_eq_true rfl) ⟨by decide, by decide⟩ ⟨rfl, rfl⟩ ⟨by decide, by decide⟩ ?_
        intro S52 L52 R52 p52
        obtain ⟨rfl, rfl, rfl⟩ := p52
        refine z_aload_n C 55 0 1 dX9_trim_55 rfl rfl ?_
        refine z_aload_n C 56 0 1 dX9_trim_56 rfl rfl ?_
        refine z_cVi0 C 57 dX9_trim_57 cv_X9_251 (c_X9_usesAll hR hn hn10) rfl ⟨by decide, rfl⟩ (by first | assumption | exact Nat.zero_lt_one | omega) rfl rfl (Nat.le_of_ble_eq_true rfl) ⟨by decide, by decide⟩ ⟨rfl, rfl⟩ ⟨by decide, by decide⟩ ?_
        intro r57 S57 L57 R57 p57
        obtain ⟨rfl, rfl, rfl, rfl⟩ := p57
        refine z_aload_n C 60 0 1 dX9_trim_60 rfl rfl ?_
        refine z_getr C 61 dX9_trim_61 gf_X9_20 rfl (by first | assumption | exact Nat.zero_lt_one | omega) (by first | exact hR _ _ _ _ rfl | assumption) ?_
        refine z_iconst (v := nI 0) C 64 dX9_trim_64 (by decide) ?_
        refine z_iald C 65 dX9_trim_65 (by first | rfl | assumption) (by first | assumption | exact Nat.zero_lt_one | omega) (by first | rfl | assumption) (by first | decide | omega) (by first | assumption | omega) ?_
        first | with_reducible refine z_icmp_leN C 66 73 dX9_trim_66 (by decide) (by omega) (by omega) (fun h66 => absurd ho (Int32.not_lt.mpr h66)) (fun h66 => ?_) | refine z_icmp_le C 66 73 dX9_trim_66 (by decide) (fun h66 => absurd ho (Int32.not_lt.mpr h66)) (fun h66 => ?_)
        · refine z_iconst (v := nI 1) C 69 dX9_trim_69 (by decide) ?_
          refine z_goto C 70 74 dX9_trim_70 (by decide) ?_
          refine z_iconst (v := nI 2) C 74 dX9_trim_74 (by decide) ?_
          refine z_cVi0 C 75 dX9_trim_75 cv_X9_185 (c_X9_throwsIf_1 hR (by first | assumption | rfl) (by decide) (by decide)) rfl ⟨by decide, rfl⟩ (by first | assumption | exact Nat.zero_lt_one | omega) rfl rfl (Nat.le_of_ble_eq_true rfl) ⟨by decide, by decide⟩ ⟨rfl, rfl⟩ ⟨by decide, by decide⟩ ?_
          intro r75 S75 L75 R75 p75
          obtain ⟨rfl, rfl, rfl, rfl⟩ := p75
          first | with_reducible refine z_if_eqB C 78 94 dX9_trim_78 (by decide) (fun h78 => by omega) (fun h78 => ?_) | with_reducible refine z_if_eqN C 78 94 dX9_trim_78 (by decide) (by omega) (fun h78 => by omega) (fun h78 => ?_) | refine z_if_eq C 78 94 dX9_trim_78 (by decide) (fun h78 => by omega) (fun h78 => ?_)
          · refine z_aload_n C 81 0 1 dX9_trim_81 rfl rfl ?_
            refine z_getr C 82 dX9_trim_82 gf_X9_43 rfl (by first | assumption | exact Nat.zero_lt_one | omega) (by first | exact hR _ _ _ _ rfl | assumption) ?_
            refine z_aload_n C 85 0 1 dX9_trim_85 rfl rfl ?_
            refine z_getr C 86 dX9_trim_86 gf_X9_20 rfl (by first | assumption | exact Nat.zero_lt_one | omega) (by first | exact hR _ _ _ _ rfl | assumption) ?_
            refine z_cSv0 C 89 dX9_trim_89 cs_X9_269 (c_X9_puts (by rfl) (by rfl) (by first | assumption | exact Nat.zero_lt_one | omega) (by first | assumption | exact Nat.zero_lt_one | omega) (by decide)) rfl rfl (Nat.le_of_ble_eq_true rfl) ⟨by decide, by decide⟩ ⟨rfl, rfl⟩ ⟨by decide, by decide⟩ ?_
            intro S89 L89 R89 p89
            obtain ⟨rfl, rfl, rfl⟩ := p89
            refine z_iconst (v := nI 0) C 92 dX9_trim_92 (by decide) ?_
            exact ret 93 _ _ _ _ _ dX9_trim_93 (by first | rfl | exact bI_n | decide) (⟨(by simp only [up3_k _ (show (44 : Nat) ≠ 40 by decide), up3_k _ (show (41 : Nat) ≠ 40 by decide), up3_k _ (show (43 : Nat) ≠ 40 by decide), up3_k _ (show (49 : Nat) ≠ 40 by decide), up3_k _ (show (50 : Nat) ≠ 40 by decide), up3_k _ (show (51 : Nat) ≠ 40 by decide), up3_k _ (show (52 : Nat) ≠ 40 by decide), up3_k _ (show (53 : Nat) ≠ 40 by decide), sA_s, sA_n _ _ (show (40 : Nat) ≠ 44 by decide), sA_n _ _ (show (40 : Nat) ≠ 49 by decide), sA_n _ _ (show (40 : Nat) ≠ 50 by decide), sA_n _ _ (show (40 : Nat) ≠ 51 by decide), sA_n _ _ (show (40 : Nat) ≠ 52 by decide), sA_n _ _ (show (41 : Nat) ≠ 44 by decide), sA_n _ _ (show (41 : Nat) ≠ 49 by decide), sA_n _ _ (show (41 : Nat) ≠ 50 by decide), sA_n _ _ (show (41 : Nat) ≠ 51 by decide), sA_n _ _ (show (41 : Nat) ≠ 52 by decide), sA_n _ _ (show (43 : Nat) ≠ 44 by decide), sA_n _ _ (show (43 : Nat) ≠ 49 by decide), sA_n _ _ (show (43 : Nat) ≠ 50 by decide), sA_n _ _ (show (43 : Nat) ≠ 51 by decide), sA_n _ _ (show (43 : Nat) ≠ 52 by decide), sA_n _ _ (show (44 : Nat) ≠ 49 by decide), sA_n _ _ (show (44 : Nat) ≠ 50 by decide), sA_n _ _ (show (44 : Nat) ≠ 51 by decide), sA_n _ _ (show (44 : Nat) ≠ 52 by decide), sA_n _ _ (show (49 : Nat) ≠ 44 by decide), sA_n _ _ (show (49 : Nat) ≠ 50 by decide), sA_n _ _ (show (49 : Nat) ≠ 51 by decide), sA_n _ _ (show (49 : Nat) ≠ 52 by decide), sA_n _ _ (show (50 : Nat) ≠ 44 by decide), sA_n _ _ (show (50 : Nat) ≠ 49 by decide), sA_n _ _ (show (50 : Nat) ≠ 51 by decide), sA_n _ _ (show (50 : Nat) ≠ 52 by decide), sA_n _ _ (show (51 : Nat) ≠ 44 by decide), sA_n _ _ (show (51 : Nat) ≠ 49 by decide), sA_n _ _ (show (51 : Nat) ≠ 50 by decide), sA_n _ _ (show (51 : Nat) ≠ 52 by decide), sA_n _ _ (show (52 : Nat) ≠ 44 by decide), sA_n _ _ (show (52 : Nat) ≠ 49 by decide), sA_n _ _ (show (52 : Nat) ≠ 50 by decide), sA_n _ _ (show (52 : Nat) ≠ 51 by decide), sA_n _ _ (show (53 : Nat) ≠ 44 by decide), sA_n _ _ (show (53 : Nat) ≠ 49 by decide), sA_n _ _ (show (53 : Nat) ≠ 50 by decide), sA_n _ _ (show (53 : Nat) ≠ 51 by decide), sA_n _ _ (show (53 : Nat) ≠ 52 by decide), up3_sA _ (show (40 : Nat) ≠ 44 by decide), up3_sA _ (show (40 : Nat) ≠ 49 by decide), up3_sA _ (show (40 : Nat) ≠ 50 by decide), up3_sA _ (show (40 : Nat) ≠ 51 by decide), up3_sA _ (show (40 : Nat) ≠ 52 by decide), sA_44_49, sA_44_50, sA_49_50, sA_44_51, sA_49_51, sA_50_51, sA_44_52, sA_sA, up3_up3, sA_up44, up3_26_27, up3_sA _ (show (40 : Nat) ≠ 52 by decide), up3_sA _ (show (40 : Nat) ≠ 50 by decide)]; repeat (first | exact rQ_t _ _ | apply rQ.up26 | apply rQ.s49 | apply rQ.s50 | refine rQ.s44 ?_ rfl)), rfl, rfl⟩)
def rm_X9_setLimit : Room := { frames := 7, cells := 0, slots := 0, locals := 158 }
set_option maxHeartbeats 4000000 in
set_option maxRecDepth 100000 in
theorem c_X9_setLimit {l : Launch} {G : mG} {ad : mA} {S : mS} {L : mL} {R : mR} {n w u m : Nat} {M : NN} (hR : mlk R) (hu : S 40 0 27 = nI u) (hu10 : u ≤ 10) (hn : S 40 0 1 = nI n) (hn10 : n ≤ 10) (hI : rI (S 44 0) n) (hw : 50 ≤ w) (hw2 : w ≤ 2000) (hm : fMem (upd (S 44 0) 0 (nI w)) (S 41 0) n = some (m, M)) : Ki l yX9_setLimit cX9_setLimit 3 .int rm_X9_setLimit G ad mdm [.ref (ad 40 0), .int (nI w)] S L R (fun r_ S2 L2 R2 => rC S S2 (M) u ∧ r_ = nI m ∧ L = L2 ∧ R = R2) := by
  refine Ki.of RX9 (by decide) rfl (Nat.le_of_ble_eq_true rfl) ?_
  intro X hXl hXG C ret
  subst hXl; subst hXG
  change Z X 3 ad mdm S L R 0 0 0 [(0, _), (1, _)] []
  have hI2 : rI (upd (S 44 0) 0 (nI w)) n := hI.updx (Or.inl rfl)
  have hok := fMem_ok hn10 hI2 hm
  refine z_aload_n C 0 0 0 dX9_setLimit_0 rfl rfl ?_
  refine z_iconst (v := nI 0) C 1 dX9_setLimit_1 (by decide) ?_
  refine z_puti C 2 dX9_setLimit_2 gf_X9_65 ⟨rfl, rfl⟩ rfl (by first | assumption | exact Nat.zero_lt_one | omega) ?_
  refine z_aload_n C 5 0 0 dX9_setLimit_5 rfl rfl ?_
  refine z_iload_n C 6 1 1 dX9_setLimit_6 rfl rfl ?_
  refine z_bipush (v := nI 50) C 7 dX9_setLimit_7 (by decide +kernel) ?_
  refine z_sipush (v := nI 2000) C 9 dX9_setLimit_9 (by decide +kernel) ?_
  refine z_cSi0 C 12 dX9_setLimit_12 cs_X9_89 (c_X9_within_1 (by omega) (by omega) (by first | decide | omega)) rfl rfl (Nat.le_of_ble_eq_true rfl) ⟨by decide, by decide⟩ ⟨rfl, rfl⟩ ⟨by decide, by decide⟩ ?_
  intro r12 S12 L12 R12 p12
  obtain ⟨rfl, rfl, rfl, rfl⟩ := p12
  first | with_reducible refine z_if_neB C 15 22 dX9_setLimit_15 (by decide) (fun h15 => ?_) (fun h15 => by omega) | with_reducible refine z_if_neN C 15 22 dX9_setLimit_15 (by decide) (by omega) (fun h15 => ?_) (fun h15 => by omega) | refine z_if_ne C 15 22 dX9_setLimit_15 (by decide) (fun h15 => ?_) (fun h15 => by omega)
  · refine z_iconst (v := nI 0) C 22 dX9_setLimit_22 (by decide) ?_
    refine z_iconst (v := nI 1) C 23 dX9_setLimit_23 (by decide) ?_
    refine z_cVi0 C 24 dX9_setLimit_24 cv_X9_185 (c_X9_throwsIf_0 hR (by first | assumption | rfl)) rfl ⟨by decide, rfl⟩ (by first | assumption | exact Nat.zero_lt_one | omega) rfl rfl (Nat.le_of_ble_eq_true rfl) ⟨by decide, by decide⟩ ⟨rfl, rfl⟩ ⟨by decide, by decide⟩ ?_
    intro r24 S24 L24 R24 p24
    obtain ⟨rfl, rfl, rfl, rfl⟩ := p24
    first | with_reducible refine z_if_eqB C 27 32 dX9_setLimit_27 (by decide) (fun h27 => ?_) (fun h27 => by omega) | with_reducible refine z_if_eqN C 27 32 dX9_setLimit_27 (by decide) (by omega) (fun h27 => ?_) (fun h27 => by omega) | refine z_if_eq C 27 32 dX9_setLimit_27 (by decide) (fun h27 => ?_) (fun h27 => by omega)
    · refine z_aload_n C 32 0 0 dX9_setLimit_32 rfl rfl ?_
      refine z_getr C 33 dX9_setLimit_33 gf_X9_20 rfl (by first | assumption | exact Nat.zero_lt_one | omega) (by first | exact hR _ _ _ _ rfl | assumption) ?_
      refine z_aload_n C 36 0 0 dX9_setLimit_36 rfl rfl ?_
      refine z_getr C 37 dX9_setLimit_37 gf_X9_43 rfl (by first | assumption | exact Nat.zero_lt_one | omega) (by first | exact hR _ _ _ _ rfl | assumption) ?_
      refine z_cSv0 C 40 dX9_setLimit_40 cs_X9_269 (c_X9_puts (by rfl) (by rfl) (by first | assumption | exact Nat.zero_lt_one | omega) (by first | assumption | exact Nat.zero_lt_one | omega) (by decide)) rfl rfl (Nat.le_of_ble_eq_true rfl) ⟨by decide, by decide⟩ ⟨rfl, rfl⟩ ⟨by decide, by decide⟩ ?_
      intro S40 L40 R40 p40
      obtain ⟨rfl, rfl, rfl⟩ := p40
      refine z_aload_n C 43 0 0 dX9_setLimit_43 rfl rfl ?_
      refine z_getr C 44 dX9_setLimit_44 gf_X9_20 rfl (by first | assumption | exact Nat.zero_lt_one | omega) (by first | exact hR _ _ _ _ rfl | assumption) ?_
      refine z_iconst (v := nI 0) C 47 dX9_setLimit_47 (by decide) ?_
      refine z_iload_n C 48 1 1 dX9_setLimit_48 rfl rfl ?_
      refine z_iast C 49 dX9_setLimit_49 (by first | rfl | assumption) (by first | assumption | exact Nat.zero_lt_one | omega)  (by first | rfl | assumption) (by first | decide | omega) (by first | assumption | omega) ?_
      rw [sA_up]
      refine z_aload_n C 50 0 0 dX9_setLimit_50 rfl rfl ?_
      refine z_cVi0 C 51 dX9_setLimit_51 cv_X9_276 (c_X9_memory (n := n) hR hn hn10 hI2) rfl ⟨by decide, rfl⟩ (by first | assumption | exact Nat.zero_lt_one | omega) rfl rfl (Nat.le_of_ble_eq_true rfl) ⟨by decide, by decide⟩ ⟨rfl, rfl⟩ ⟨by decide, by decide⟩ ?_
      intro r51 S51 L51 R51 p51
      obtain ⟨pm, rfl, rfl⟩ := p51
      have pm : (match fMem (upd (S 44 0) 0 (nI w)) (S 41 0) n with | some q => r51 = nI q.1 ∧ sA _ 44 q.2 = S51 | none => r51 = -1 ∧ ∃ A, sA _ 44 A = S51) := pm
      rw [hm] at pm
      obtain ⟨rfl, rfl⟩ := pm
      refine z_istore_n C 54 2 [(2, _), (0, _), (1, _)] dX9_setLimit_54 rfl (by decide) rfl ?_
      refine z_aload_n C 55 0 1 dX9_setLimit_55 rfl rfl ?_
      refine z_iload_n C 56 2 0 dX9_setLimit_56 rfl rfl ?_
      refine z_iconst (v := (-1)) C 57 dX9_setLimit_57 (by decide) ?_
      first | with_reducible refine z_icmp_neN C 58 65 dX9_setLimit_58 (by decide) (by omega) (by omega) (fun h58 => ?_) (fun h58 => absurd h58 (nI_m1 (by have := hok.1; simp only at this; omega))) | refine z_icmp_ne C 58 65 dX9_setLimit_58 (by decide) (fun h58 => ?_) (fun h58 => absurd h58 (nI_m1 (by have := hok.1; simp only at this; omega)))
      · refine z_iconst (v := nI 0) C 65 dX9_setLimit_65 (by decide) ?_
        refine z_iconst (v := nI 2) C 66 dX9_setLimit_66 (by decide) ?_
        refine z_cVi0 C 67 dX9_setLimit_67 cv_X9_185 (c_X9_throwsIf_0 hR (by first | assumption | rfl)) rfl ⟨by decide, rfl⟩ (by first | assumption | exact Nat.zero_lt_one | omega) rfl rfl (Nat.le_of_ble_eq_true rfl) ⟨by decide, by decide⟩ ⟨rfl, rfl⟩ ⟨by decide, by decide⟩ ?_
        intro r67 S67 L67 R67 p67
        obtain ⟨rfl, rfl, rfl, rfl⟩ := p67
        first | with_reducible refine z_if_eqB C 70 86 dX9_setLimit_70 (by decide) (fun h70 => ?_) (fun h70 => by omega) | with_reducible refine z_if_eqN C 70 86 dX9_setLimit_70 (by decide) (by omega) (fun h70 => ?_) (fun h70 => by omega) | refine z_if_eq C 70 86 dX9_setLimit_70 (by decide) (fun h70 => ?_) (fun h70 => by omega)
        · refine z_aload_n C 86 0 1 dX9_setLimit_86 rfl rfl ?_
          refine z_cVv0 C 87 dX9_setLimit_87 cv_X9_306 (c_X9_keeps (u := u) hR hu hu10) rfl ⟨by decide, rfl⟩ (by first | assumption | exact Nat.zero_lt_one | omega) rfl rfl (Nat.le_of_ble_eq_true rfl) ⟨by decide, by decide⟩ ⟨rfl, rfl⟩ ⟨by decide, by decide⟩ ?_
          intro S87 L87 R87 p87
          obtain ⟨⟨B, rfl, hB⟩, rfl, rfl⟩ := p87
          refine z_iload_n C 90 2 0 dX9_setLimit_90 rfl rfl ?_
          exact ret 91 _ _ _ _ _ dX9_setLimit_91 (by first | rfl | exact bI_n | decide) (⟨(by have hB : kP (S 51 0) (S 44 0) u B := hB; (try simp only [up3_k _ (show (44 : Nat) ≠ 40 by decide), up3_k _ (show (41 : Nat) ≠ 40 by decide), up3_k _ (show (43 : Nat) ≠ 40 by decide), up3_k _ (show (49 : Nat) ≠ 40 by decide), up3_k _ (show (50 : Nat) ≠ 40 by decide), up3_k _ (show (51 : Nat) ≠ 40 by decide), up3_k _ (show (52 : Nat) ≠ 40 by decide), up3_k _ (show (53 : Nat) ≠ 40 by decide), sA_s, sA_n _ _ (show (40 : Nat) ≠ 44 by decide), sA_n _ _ (show (40 : Nat) ≠ 49 by decide), sA_n _ _ (show (40 : Nat) ≠ 50 by decide), sA_n _ _ (show (40 : Nat) ≠ 51 by decide), sA_n _ _ (show (40 : Nat) ≠ 52 by decide), sA_n _ _ (show (41 : Nat) ≠ 44 by decide), sA_n _ _ (show (41 : Nat) ≠ 49 by decide), sA_n _ _ (show (41 : Nat) ≠ 50 by decide), sA_n _ _ (show (41 : Nat) ≠ 51 by decide), sA_n _ _ (show (41 : Nat) ≠ 52 by decide), sA_n _ _ (show (43 : Nat) ≠ 44 by decide), sA_n _ _ (show (43 : Nat) ≠ 49 by decide), sA_n _ _ (show (43 : Nat) ≠ 50 by decide), sA_n _ _ (show (43 : Nat) ≠ 51 by decide), sA_n _ _ (show (43 : Nat) ≠ 52 by decide), sA_n _ _ (show (44 : Nat) ≠ 49 by decide), sA_n _ _ (show (44 : Nat) ≠ 50 by decide), sA_n _ _ (show (44 : Nat) ≠ 51 by decide), sA_n _ _ (show (44 : Nat) ≠ 52 by decide), sA_n _ _ (show (49 : Nat) ≠ 44 by decide), sA_n _ _ (show (49 : Nat) ≠ 50 by decide), sA_n _ _ (show (49 : Nat) ≠ 51 by decide), sA_n _ _ (show (49 : Nat) ≠ 52 by decide), sA_n _ _ (show (50 : Nat) ≠ 44 by decide), sA_n _ _ (show (50 : Nat) ≠ 49 by decide), sA_n _ _ (show (50 : Nat) ≠ 51 by decide), sA_n _ _ (show (50 : Nat) ≠ 52 by decide), sA_n _ _ (show (51 : Nat) ≠ 44 by decide), sA_n _ _ (show (51 : Nat) ≠ 49 by decide), sA_n _ _ (show (51 : Nat) ≠ 50 by decide), sA_n _ _ (show (51 : Nat) ≠ 52 by decide), sA_n _ _ (show (52 : Nat) ≠ 44 by decide), sA_n _ _ (show (52 : Nat) ≠ 49 by decide), sA_n _ _ (show (52 : Nat) ≠ 50 by decide), sA_n _ _ (show (52 : Nat) ≠ 51 by decide), sA_n _ _ (show (53 : Nat) ≠ 44 by decide), sA_n _ _ (show (53 : Nat) ≠ 49 by decide), sA_n _ _ (show (53 : Nat) ≠ 50 by decide), sA_n _ _ (show (53 : Nat) ≠ 51 by decide), sA_n _ _ (show (53 : Nat) ≠ 52 by decide), up3_sA _ (show (40 : Nat) ≠ 44 by decide), up3_sA _ (show (40 : Nat) ≠ 49 by decide), up3_sA _ (show (40 : Nat) ≠ 50 by decide), up3_sA _ (show (40 : Nat) ≠ 51 by decide), up3_sA _ (show (40 : Nat) ≠ 52 by decide), sA_44_49, sA_44_50, sA_49_50, sA_44_51, sA_49_51, sA_50_51, sA_44_52, sA_sA, up3_up3, sA_up44, up3_26_27, up3_sA _ (show (40 : Nat) ≠ 52 by decide)]); first | exact rC.top ((rC0_b hB).s (Or.inr (Or.inr rfl))) | exact rC.top (((rC0_c hB).s (Or.inr (Or.inr rfl))).s (Or.inr (Or.inl rfl))) | exact rC.top (((rC0_b hB).s (Or.inr (Or.inr rfl))).s (Or.inr (Or.inl rfl))) | exact ⟨(rC0_b hB).s (Or.inr (Or.inr rfl)), rfl⟩), rfl, rfl, rfl⟩)

set_option maxHeartbeats 4000000 in
set_option maxRecDepth 100000 in
theorem c_X9_setLimit_1 {l : Launch} {G : mG} {ad : mA} {S : mS} {L : mL} {R : mR} {x : Int32} (hR : mlk R) (hx : ¬ isR 50 2000 x) : Ki l yX9_setLimit cX9_setLimit 3 .int rm_X9_setLimit G ad mdm [.ref (ad 40 0), .int x] S L R (fun r_ S2 L2 R2 => rQ S S2 1 ∧ L = L2 ∧ R = R2) := by
  refine Ki.of RX9 (by decide) rfl (Nat.le_of_ble_eq_true rfl) ?_
  intro X hXl hXG C ret
  subst hXl; subst hXG
  change Z X 3 ad mdm S L R 0 0 0 [(0, _), (1, _)] []
  refine z_aload_n C 0 0 0 dX9_setLimit_0 rfl rfl ?_
  refine z_iconst (v := nI 0) C 1 dX9_setLimit_1 (by decide) ?_
  refine z_puti C 2 dX9_setLimit_2 gf_X9_65 ⟨rfl, rfl⟩ rfl (by first | assumption | exact Nat.zero_lt_one | omega) ?_
  refine z_aload_n C 5 0 0 dX9_setLimit_5 rfl rfl ?_
  refine z_iload_n C 6 1 1 dX9_setLimit_6 rfl rfl ?_
  refine z_bipush (v := nI 50) C 7 dX9_setLimit_7 (by decide +kernel) ?_
  refine z_sipush (v := nI 2000) C 9 dX9_setLimit_9 (by decide +kernel) ?_
  refine z_cSi0 C 12 dX9_setLimit_12 cs_X9_89 (c_X9_within_0 hx (by decide) (by decide)) rfl rfl (Nat.le_of_ble_eq_true rfl) ⟨by decide, by decide⟩ ⟨rfl, rfl⟩ ⟨by decide, by decide⟩ ?_
  intro r12 S12 L12 R12 p12
  obtain ⟨rfl, rfl, rfl, rfl⟩ := p12
  first | with_reducible refine z_if_neB C 15 22 dX9_setLimit_15 (by decide) (fun h15 => by omega) (fun h15 => ?_) | with_reducible refine z_if_neN C 15 22 dX9_setLimit_15 (by decide) (by omega) (fun h15 => by omega) (fun h15 => ?_) | refine z_if_ne C 15 22 dX9_setLimit_15 (by decide) (fun h15 => by omega) (fun h15 => ?_)
  · refine z_iconst (v := nI 1) C 18 dX9_setLimit_18 (by decide) ?_
    refine z_goto C 19 23 dX9_setLimit_19 (by decide) ?_
    refine z_iconst (v := nI 1) C 23 dX9_setLimit_23 (by decide) ?_
    refine z_cVi0 C 24 dX9_setLimit_24 cv_X9_185 (c_X9_throwsIf_1 hR (by first | assumption | rfl) (by decide) (by decide)) rfl ⟨by decide, rfl⟩ (by first | assumption | exact Nat.zero_lt_one | omega) rfl rfl (Nat.le_of_ble_eq_true rfl) ⟨by decide, by decide⟩ ⟨rfl, rfl⟩ ⟨by decide, by decide⟩ ?_
    intro r24 S24 L24 R24 p24
    obtain ⟨rfl, rfl, rfl, rfl⟩ := p24
    first | with_reducible refine z_if_eqB C 27 32 dX9_setLimit_27 (by decide) (fun h27 => by omega) (fun h27 => ?_) | with_reducible refine z_if_eqN C 27 32 dX9_setLimit_27 (by decide) (by omega) (fun h27 => by omega) (fun h27 => ?_) | refine z_if_eq C 27 32 dX9_setLimit_27 (by decide) (fun h27 => by omega) (fun h27 => ?_)
    · refine z_iconst (v := nI 0) C 30 dX9_setLimit_30 (by decide) ?_
      exact ret 31 _ _ _ _ _ dX9_setLimit_31 (by first | rfl | exact bI_n | decide) (⟨(by first | exact rQ_t _ _ | (simp only [up3_up3]; exact rQ_t _ _)), rfl, rfl⟩)

set_option maxHeartbeats 4000000 in
set_option maxRecDepth 100000 in
theorem c_X9_setLimit_2 {l : Launch} {G : mG} {ad : mA} {S : mS} {L : mL} {R : mR} {n w : Nat} (hR : mlk R) (hn : S 40 0 1 = nI n) (hn10 : n ≤ 10) (hI : rI (S 44 0) n) (hw : 50 ≤ w) (hw2 : w ≤ 2000) (hm : fMem (upd (S 44 0) 0 (nI w)) (S 41 0) n = none) : Ki l yX9_setLimit cX9_setLimit 3 .int rm_X9_setLimit G ad mdm [.ref (ad 40 0), .int (nI w)] S L R (fun r_ S2 L2 R2 => rQ S S2 2 ∧ L = L2 ∧ R = R2) := by
  refine Ki.of RX9 (by decide) rfl (Nat.le_of_ble_eq_true rfl) ?_
  intro X hXl hXG C ret
  subst hXl; subst hXG
  change Z X 3 ad mdm S L R 0 0 0 [(0, _), (1, _)] []
  have hI2 : rI (upd (S 44 0) 0 (nI w)) n := hI.updx (Or.inl rfl)
  refine z_aload_n C 0 0 0 dX9_setLimit_0 rfl rfl ?_
  refine z_iconst (v := nI 0) C 1 dX9_setLimit_1 (by decide) ?_
  refine z_puti C 2 dX9_setLimit_2 gf_X9_65 ⟨rfl, rfl⟩ rfl (by first | assumption | exact Nat.zero_lt_one | omega) ?_
  refine z_aload_n C 5 0 0 dX9_setLimit_5 rfl rfl ?_
  refine z_iload_n C 6 1 1 dX9_setLimit_6 rfl rfl ?_
  refine z_bipush (v := nI 50) C 7 dX9_setLimit_7 (by decide +kernel) ?_
  refine z_sipush (v := nI 2000) C 9 dX9_setLimit_9 (by decide +kernel) ?_
  refine z_cSi0 C 12 dX9_setLimit_12 cs_X9_89 (c_X9_within_1 (by omega) (by omega) (by first | decide | omega)) rfl rfl (Nat.le_of_ble_eq_true rfl) ⟨by decide, by decide⟩ ⟨rfl, rfl⟩ ⟨by decide, by decide⟩ ?_
  intro r12 S12 L12 R12 p12
  obtain ⟨rfl, rfl, rfl, rfl⟩ := p12
  first | with_reducible refine z_if_neB C 15 22 dX9_setLimit_15 (by decide) (fun h15 => ?_) (fun h15 => by omega) | with_reducible refine z_if_neN C 15 22 dX9_setLimit_15 (by decide) (by omega) (fun h15 => ?_) (fun h15 => by omega) | refine z_if_ne C 15 22 dX9_setLimit_15 (by decide) (fun h15 => ?_) (fun h15 => by omega)
  · refine z_iconst (v := nI 0) C 22 dX9_setLimit_22 (by decide) ?_
    refine z_iconst (v := nI 1) C 23 dX9_setLimit_23 (by decide) ?_
    refine z_cVi0 C 24 dX9_setLimit_24 cv_X9_185 (c_X9_throwsIf_0 hR (by first | assumption | rfl)) rfl ⟨by decide, rfl⟩ (by first | assumption | exact Nat.zero_lt_one | omega) rfl rfl (Nat.le_of_ble_eq_true rfl) ⟨by decide, by decide⟩ ⟨rfl, rfl⟩ ⟨by decide, by decide⟩ ?_
    intro r24 S24 L24 R24 p24
    obtain ⟨rfl, rfl, rfl, rfl⟩ := p24
    first | with_reducible refine z_if_eqB C 27 32 dX9_setLimit_27 (by decide) (fun h27 => ?_) (fun h27 => by omega) | with_reducible refine z_if_eqN C 27 32 dX9_setLimit_27 (by decide) (by omega) (fun h27 => ?_) (fun h27 => by omega) | refine z_if_eq C 27 32 dX9_setLimit_27 (by decide) (fun h27 => ?_) (fun h27 => by omega)
    · refine z_aload_n C 32 0 0 dX9_setLimit_32 rfl rfl ?_
      refine z_getr C 33 dX9_setLimit_33 gf_X9_20 rfl (by first | assumption | exact Nat.zero_lt_one | omega) (by first | exact hR _ _ _ _ rfl | assumption) ?_
      refine z_aload_n C 36 0 0 dX9_setLimit_36 rfl rfl ?_
      refine z_getr C 37 dX9_setLimit_37 gf_X9_43 rfl (by first | assumption | exact Nat.zero_lt_one | omega) (by first | exact hR _ _ _ _ rfl | assumption) ?_
      refine z_cSv0 C 40 dX9_setLimit_40 cs_X9_269 (c_X9_puts (by rfl) (by rfl) (by first | assumption | exact Nat.zero_lt_one | omega) (by first | assumption | exact Nat.zero_lt_one | omega) (by decide)) rfl rfl (Nat.le_of_ble_eq_true rfl) ⟨by decide, by decide⟩ ⟨rfl, rfl⟩ ⟨by decide, by decide⟩ ?_
      intro S40 L40 R40 p40
      obtain ⟨rfl, rfl, rfl⟩ := p40
      refine z_aload_n C 43 0 0 dX9_setLimit_43 rfl rfl ?_
      refine z_getr C 44 dX9_setLimit_44 gf_X9_20 rfl (by first | assumption | exact Nat.zero_lt_one | omega) (by first | exact hR _ _ _ _ rfl | assumption) ?_
      refine z_iconst (v := nI 0) C 47 dX9_setLimit_47 (by decide) ?_
      refine z_iload_n C 48 1 1 dX9_setLimit_48 rfl rfl ?_
      refine z_iast C 49 dX9_setLimit_49 (by first | rfl | assumption) (by first | assumption | exact Nat.zero_lt_one | omega)  (by first | rfl | assumption) (by first | decide | omega) (by first | assumption | omega) ?_
      rw [sA_up]
      refine z_aload_n C 50 0 0 dX9_setLimit_50 rfl rfl ?_
      refine z_cVi0 C 51 dX9_setLimit_51 cv_X9_276 (c_X9_memory (n := n) hR hn hn10 hI2) rfl ⟨by decide, rfl⟩ (by first | assumption | exact Nat.zero_lt_one | omega) rfl rfl (Nat.le_of_ble_eq_true rfl) ⟨by decide, by decide⟩ ⟨rfl, rfl⟩ ⟨by decide, by decide⟩ ?_
      intro r51 S51 L51 R51 p51
      obtain ⟨pm, rfl, rfl⟩ := p51
      have pm : (match fMem (upd (S 44 0) 0 (nI w)) (S 41 0) n with | some q => r51 = nI q.1 ∧ sA _ 44 q.2 = S51 | none => r51 = -1 ∧ ∃ A, sA _ 44 A = S51) := pm
      rw [hm] at pm
      obtain ⟨rfl, A, rfl⟩ := pm
      refine z_istore_n C 54 2 [(2, _), (0, _), (1, _)] dX9_setLimit_54 rfl (by decide) rfl ?_
      refine z_aload_n C 55 0 1 dX9_setLimit_55 rfl rfl ?_
      refine z_iload_n C 56 2 0 dX9_setLimit_56 rfl rfl ?_
      refine z_iconst (v := (-1)) C 57 dX9_setLimit_57 (by decide) ?_
      first | with_reducible refine z_icmp_neN C 58 65 dX9_setLimit_58 (by decide) (by omega) (by omega) (fun h58 => absurd rfl h58) (fun h58 => ?_) | refine z_icmp_ne C 58 65 dX9_setLimit_58 (by decide) (fun h58 => absurd rfl h58) (fun h58 => ?_)
      · refine z_iconst (v := nI 1) C 61 dX9_setLimit_61 (by decide) ?_
        refine z_goto C 62 66 dX9_setLimit_62 (by decide) ?_
        refine z_iconst (v := nI 2) C 66 dX9_setLimit_66 (by decide) ?_
        refine z_cVi0 C 67 dX9_setLimit_67 cv_X9_185 (c_X9_throwsIf_1 hR (by first | assumption | rfl) (by decide) (by decide)) rfl ⟨by decide, rfl⟩ (by first | assumption | exact Nat.zero_lt_one | omega) rfl rfl (Nat.le_of_ble_eq_true rfl) ⟨by decide, by decide⟩ ⟨rfl, rfl⟩ ⟨by decide, by decide⟩ ?_
        intro r67 S67 L67 R67 p67
        obtain ⟨rfl, rfl, rfl, rfl⟩ := p67
        first | with_reducible refine z_if_eqB C 70 86 dX9_setLimit_70 (by decide) (fun h70 => by omega) (fun h70 => ?_) | with_reducible refine z_if_eqN C 70 86 dX9_setLimit_70 (by decide) (by omega) (fun h70 => by omega) (fun h70 => ?_) | refine z_if_eq C 70 86 dX9_setLimit_70 (by decide) (fun h70 => by omega) (fun h70 => ?_)
        · refine z_aload_n C 73 0 1 dX9_setLimit_73 rfl rfl ?_
          refine z_getr C 74 dX9_setLimit_74 gf_X9_43 rfl (by first | assumption | exact Nat.zero_lt_one | omega) (by first | exact hR _ _ _ _ rfl | assumption) ?_
          refine z_aload_n C 77 0 1 dX9_setLimit_77 rfl rfl ?_
          refine z_getr C 78 dX9_setLimit_78 gf_X9_20 rfl (by first | assumption | exact Nat.zero_lt_one | omega) (by first | exact hR _ _ _ _ rfl | assumption) ?_
          refine z_cSv0 C 81 dX9_setLimit_81 cs_X9_269 (c_X9_puts (by rfl) (by rfl) (by first | assumption | exact Nat.zero_lt_one | omega) (by first | assumption | exact Nat.zero_lt_one | omega) (by decide)) rfl rfl (Nat.le_of_ble_eq_true rfl) ⟨by decide, by decide⟩ ⟨rfl, rfl⟩ ⟨by decide, by decide⟩ ?_
          intro S81 L81 R81 p81
          obtain ⟨rfl, rfl, rfl⟩ := p81
          refine z_iconst (v := nI 0) C 84 dX9_setLimit_84 (by decide) ?_
          exact ret 85 _ _ _ _ _ dX9_setLimit_85 (by first | rfl | exact bI_n | decide) (⟨(by simp only [up3_k _ (show (44 : Nat) ≠ 40 by decide), up3_k _ (show (41 : Nat) ≠ 40 by decide), up3_k _ (show (43 : Nat) ≠ 40 by decide), up3_k _ (show (49 : Nat) ≠ 40 by decide), up3_k _ (show (50 : Nat) ≠ 40 by decide), up3_k _ (show (51 : Nat) ≠ 40 by decide), up3_k _ (show (52 : Nat) ≠ 40 by decide), up3_k _ (show (53 : Nat) ≠ 40 by decide), sA_s, sA_n _ _ (show (40 : Nat) ≠ 44 by decide), sA_n _ _ (show (40 : Nat) ≠ 49 by decide), sA_n _ _ (show (40 : Nat) ≠ 50 by decide), sA_n _ _ (show (40 : Nat) ≠ 51 by decide), sA_n _ _ (show (40 : Nat) ≠ 52 by decide), sA_n _ _ (show (41 : Nat) ≠ 44 by decide), sA_n _ _ (show (41 : Nat) ≠ 49 by decide), sA_n _ _ (show (41 : Nat) ≠ 50 by decide), sA_n _ _ (show (41 : Nat) ≠ 51 by decide), sA_n _ _ (show (41 : Nat) ≠ 52 by decide), sA_n _ _ (show (43 : Nat) ≠ 44 by decide), sA_n _ _ (show (43 : Nat) ≠ 49 by decide), sA_n _ _ (show (43 : Nat) ≠ 50 by decide), sA_n _ _ (show (43 : Nat) ≠ 51 by decide), sA_n _ _ (show (43 : Nat) ≠ 52 by decide), sA_n _ _ (show (44 : Nat) ≠ 49 by decide), sA_n _ _ (show (44 : Nat) ≠ 50 by decide), sA_n _ _ (show (44 : Nat) ≠ 51 by decide), sA_n _ _ (show (44 : Nat) ≠ 52 by decide), sA_n _ _ (show (49 : Nat) ≠ 44 by decide), sA_n _ _ (show (49 : Nat) ≠ 50 by decide), sA_n _ _ (show (49 : Nat) ≠ 51 by decide), sA_n _ _ (show (49 : Nat) ≠ 52 by decide), sA_n _ _ (show (50 : Nat) ≠ 44 by decide), sA_n _ _ (show (50 : Nat) ≠ 49 by decide), sA_n _ _ (show (50 : Nat) ≠ 51 by decide), sA_n _ _ (show (50 : Nat) ≠ 52 by decide), sA_n _ _ (show (51 : Nat) ≠ 44 by decide), sA_n _ _ (show (51 : Nat) ≠ 49 by decide), sA_n _ _ (show (51 : Nat) ≠ 50 by decide), sA_n _ _ (show (51 : Nat) ≠ 52 by decide), sA_n _ _ (show (52 : Nat) ≠ 44 by decide), sA_n _ _ (show (52 : Nat) ≠ 49 by decide), sA_n _ _ (show (52 : Nat) ≠ 50 by decide), sA_n _ _ (show (52 : Nat) ≠ 51 by decide), sA_n _ _ (show (53 : Nat) ≠ 44 by decide), sA_n _ _ (show (53 : Nat) ≠ 49 by decide), sA_n _ _ (show (53 : Nat) ≠ 50 by decide), sA_n _ _ (show (53 : Nat) ≠ 51 by decide), sA_n _ _ (show (53 : Nat) ≠ 52 by decide), up3_sA _ (show (40 : Nat) ≠ 44 by decide), up3_sA _ (show (40 : Nat) ≠ 49 by decide), up3_sA _ (show (40 : Nat) ≠ 50 by decide), up3_sA _ (show (40 : Nat) ≠ 51 by decide), up3_sA _ (show (40 : Nat) ≠ 52 by decide), sA_44_49, sA_44_50, sA_49_50, sA_44_51, sA_49_51, sA_50_51, sA_44_52, sA_sA, up3_up3, sA_up44, up3_26_27, up3_sA _ (show (40 : Nat) ≠ 52 by decide)]; repeat (first | exact rQ_t _ _ | apply rQ.up26 | apply rQ.s49 | apply rQ.s50 | refine rQ.s44 ?_ rfl)), rfl, rfl⟩)
def rm_X9_undo : Room := { frames := 1, cells := 0, slots := 0, locals := 24 }
set_option maxHeartbeats 4000000 in
set_option maxRecDepth 100000 in
theorem c_X9_undo {l : Launch} {G : mG} {ad : mA} {S : mS} {L : mL} {R : mR}  (hR : mlk R) (hu : S 40 0 27 = 0) : Ki l yX9_undo cX9_undo 1 .int rm_X9_undo G ad mdm [.ref (ad 40 0)] S L R (fun r_ S2 L2 R2 => rQ S S2 0 ∧ r_ = -1 ∧ L = L2 ∧ R = R2) := by
  refine Ki.of RX9 (by decide) rfl (Nat.le_of_ble_eq_true rfl) ?_
  intro X hXl hXG C ret
  subst hXl; subst hXG
  change Z X 1 ad mdm S L R 0 0 0 [(0, _)] []
  refine z_aload_n C 0 0 0 dX9_undo_0 rfl rfl ?_
  refine z_iconst (v := nI 0) C 1 dX9_undo_1 (by decide) ?_
  refine z_puti C 2 dX9_undo_2 gf_X9_65 ⟨rfl, rfl⟩ rfl (by first | assumption | exact Nat.zero_lt_one | omega) ?_
  refine z_aload_n C 5 0 0 dX9_undo_5 rfl rfl ?_
  refine z_geti C 6 dX9_undo_6 gf_X9_200 rfl (by first | assumption | exact Nat.zero_lt_one | omega) ?_
  first | with_reducible refine z_if_neB C 9 14 dX9_undo_9 (by decide) (fun h9 => absurd hu h9) (fun h9 => ?_) | with_reducible refine z_if_neN C 9 14 dX9_undo_9 (by decide) (by omega) (fun h9 => absurd hu h9) (fun h9 => ?_) | refine z_if_ne C 9 14 dX9_undo_9 (by decide) (fun h9 => absurd hu h9) (fun h9 => ?_)
  · refine z_iconst (v := (-1)) C 12 dX9_undo_12 (by decide) ?_
    exact ret 13 _ _ _ _ _ dX9_undo_13 (by first | rfl | exact bI_n | decide) (⟨(rQ_t _ _), rfl, rfl, rfl⟩)

set_option maxHeartbeats 4000000 in
set_option maxRecDepth 100000 in
theorem c_X9_undo_1 {l : Launch} {G : mG} {ad : mA} {S : mS} {L : mL} {R : mR} {u : Nat} (hR : mlk R) (hu : S 40 0 27 = nI (u + 1)) (hu9 : u + 1 ≤ 10) : Ki l yX9_undo cX9_undo 1 .int rm_X9_undo G ad mdm [.ref (ad 40 0)] S L R (fun r_ S2 L2 R2 => rB S S2 (fun j => S 51 0 (438 * u + j)) u ∧ r_ = nI u ∧ L = L2 ∧ R = R2) := by
  refine Ki.of RX9 (by decide) rfl (Nat.le_of_ble_eq_true rfl) ?_
  intro X hXl hXG C ret
  subst hXl; subst hXG
  change Z X 1 ad mdm S L R 0 0 0 [(0, _)] []
  refine z_aload_n C 0 0 0 dX9_undo_0 rfl rfl ?_
  refine z_iconst (v := nI 0) C 1 dX9_undo_1 (by decide) ?_
  refine z_puti C 2 dX9_undo_2 gf_X9_65 ⟨rfl, rfl⟩ rfl (by first | assumption | exact Nat.zero_lt_one | omega) ?_
  refine z_aload_n C 5 0 0 dX9_undo_5 rfl rfl ?_
  refine z_getiv C 6 dX9_undo_6 gf_X9_200 rfl (by first | assumption | exact Nat.zero_lt_one | omega) hu ?_
  first | with_reducible refine z_if_neB C 9 14 dX9_undo_9 (by decide) (fun h9 => ?_) (fun h9 => by omega) | with_reducible refine z_if_neN C 9 14 dX9_undo_9 (by decide) (by omega) (fun h9 => ?_) (fun h9 => by omega) | refine z_if_ne C 9 14 dX9_undo_9 (by decide) (fun h9 => ?_) (fun h9 => by omega)
  · refine z_aload_n C 14 0 0 dX9_undo_14 rfl rfl ?_
    refine z_dup C 15 dX9_undo_15 rfl ?_
    refine z_getiv C 16 dX9_undo_16 gf_X9_200 rfl (by first | assumption | exact Nat.zero_lt_one | omega) hu ?_
    refine z_iconst (v := nI 1) C 19 dX9_undo_19 (by decide) ?_
    first | with_reducible refine z_isubN C 20 dX9_undo_20 (by omega) ?_ | refine z_isub C 20 dX9_undo_20 ?_
    refine z_puti C 21 dX9_undo_21 gf_X9_200 ⟨rfl, rfl⟩ rfl (by first | assumption | exact Nat.zero_lt_one | omega) ?_
    refine z_aload_n C 24 0 0 dX9_undo_24 rfl rfl ?_
    refine z_getr C 25 dX9_undo_25 gf_X9_46 rfl (by first | assumption | exact Nat.zero_lt_one | omega) (by first | exact hR _ _ _ _ rfl | assumption) ?_
    refine z_sipush (v := nI 438) C 28 dX9_undo_28 (by decide +kernel) ?_
    refine z_aload_n C 31 0 0 dX9_undo_31 rfl rfl ?_
    refine z_getiv C 32 dX9_undo_32 gf_X9_200 rfl (by first | assumption | exact Nat.zero_lt_one | omega) (show _ = nI u from up3_s _ _ _ _ _) ?_
    first | with_reducible refine z_imulN C 35 dX9_undo_35 ?_ | refine z_imul C 35 dX9_undo_35 ?_
    refine z_aload_n C 36 0 0 dX9_undo_36 rfl rfl ?_
    refine z_getr C 37 dX9_undo_37 gf_X9_20 rfl (by first | assumption | exact Nat.zero_lt_one | omega) (by first | exact hR _ _ _ _ rfl | assumption) ?_
    refine z_iconst (v := nI 0) C 40 dX9_undo_40 (by decide) ?_
    refine z_cSv0 C 41 dX9_undo_41 cs_X9_318 (c_X9_copies (by rfl) (by rfl) (by first | assumption | exact Nat.zero_lt_one | omega) (by first | assumption | exact Nat.zero_lt_one | omega) (by decide) (by decide) (by omega) (by omega) (by first | exact Or.inl (by decide) | (right; omega))) rfl rfl (Nat.le_of_ble_eq_true rfl) ⟨by decide, by decide⟩ ⟨rfl, rfl⟩ ⟨by decide, by decide⟩ ?_
    intro S41 L41 R41 p41
    obtain ⟨rfl, rfl, rfl⟩ := p41
    refine z_aload_n C 44 0 0 dX9_undo_44 rfl rfl ?_
    refine z_getiv C 45 dX9_undo_45 gf_X9_200 rfl (by first | assumption | exact Nat.zero_lt_one | omega) (show _ = nI u from rfl) ?_
    exact ret 48 _ _ _ _ _ dX9_undo_48 (by first | rfl | exact bI_n | decide) (⟨rB_of (a := 438 * u) (fun _ _ => rfl) rfl rfl (up3_s _ _ _ _ _) (fun k i j hn => by simp only [up3]; rw [if_neg (by omega), if_neg (by omega)]), rfl, rfl, rfl⟩)
def rm_X9_saveSnapshot : Room := { frames := 3, cells := 0, slots := 0, locals := 65 }
set_option maxHeartbeats 4000000 in
set_option maxRecDepth 100000 in
theorem c_X9_saveSnapshot {l : Launch} {G : mG} {ad : mA} {S : mS} {L : mL} {R : mR} {s b : Nat} (hR : mlk R) (hs : s < 2) (hb : S 53 0 s = nI b) (hb1 : b ≤ 1) : Ki l yX9_saveSnapshot cX9_saveSnapshot 3 .boolean rm_X9_saveSnapshot G ad mdm [.ref (ad 40 0), .int (nI s)] S L R (fun r_ S2 L2 R2 => r_ = nI b ∧ (∃ W, up3 (sA (up3 S 40 0 0 (nI 0)) 52 W) 53 0 s (nI 1) = S2 ∧ (∀ j, j < 438 → W (438 * s + j) = S 44 0 j) ∧ ∀ j, ¬ (438 * s ≤ j ∧ j < 438 * s + 438) → W j = S 52 0 j) ∧ L = L2 ∧ R = R2) := by
  refine Ki.of RX9 (by decide) rfl (Nat.le_of_ble_eq_true rfl) ?_
  intro X hXl hXG C ret
  subst hXl; subst hXG
  change Z X 3 ad mdm S L R 0 0 0 [(0, _), (1, _)] []
  refine z_aload_n C 0 0 0 dX9_saveSnapshot_0 rfl rfl ?_
  refine z_iload_n C 1 1 1 dX9_saveSnapshot_1 rfl rfl ?_
  refine z_cVi0 C 2 dX9_saveSnapshot_2 cv_X9_322 (c_X9_noSlot hR (by assumption)) rfl ⟨by decide, rfl⟩ (by first | assumption | exact Nat.zero_lt_one | omega) rfl rfl (Nat.le_of_ble_eq_true rfl) ⟨by decide, by decide⟩ ⟨rfl, rfl⟩ ⟨by decide, by decide⟩ ?_
  intro r2 S2 L2 R2 p2
  obtain ⟨rfl, rfl, rfl, rfl⟩ := p2
  first | with_reducible refine z_if_eqB C 5 10 dX9_saveSnapshot_5 (by decide) (fun h5 => ?_) (fun h5 => by omega) | with_reducible refine z_if_eqN C 5 10 dX9_saveSnapshot_5 (by decide) (by omega) (fun h5 => ?_) (fun h5 => by omega) | refine z_if_eq C 5 10 dX9_saveSnapshot_5 (by decide) (fun h5 => ?_) (fun h5 => by omega)
  · refine z_aload_n C 10 0 0 dX9_saveSnapshot_10 rfl rfl ?_
    refine z_getr C 11 dX9_saveSnapshot_11 gf_X9_52 rfl (by first | assumption | exact Nat.zero_lt_one | omega) (by first | exact hR _ _ _ _ rfl | assumption) ?_
    refine z_iload_n C 14 1 1 dX9_saveSnapshot_14 rfl rfl ?_
    refine z_zald C 15 dX9_saveSnapshot_15 rfl (by first | assumption | exact Nat.zero_lt_one | omega) (by first | rfl | assumption) (by first | decide | omega) (by first | assumption | omega) ?_
    refine z_st (st := [.int (nI b)]) (by rw [← hb]; rfl) ?_
    refine z_istore_n C 16 2 [(2, _), (0, _), (1, _)] dX9_saveSnapshot_16 rfl (by decide) rfl ?_
    refine z_aload_n C 17 0 1 dX9_saveSnapshot_17 rfl rfl ?_
    refine z_getr C 18 dX9_saveSnapshot_18 gf_X9_20 rfl (by first | assumption | exact Nat.zero_lt_one | omega) (by first | exact hR _ _ _ _ rfl | assumption) ?_
    refine z_iconst (v := nI 0) C 21 dX9_saveSnapshot_21 (by decide) ?_
    refine z_aload_n C 22 0 1 dX9_saveSnapshot_22 rfl rfl ?_
    refine z_getr C 23 dX9_saveSnapshot_23 gf_X9_49 rfl (by first | assumption | exact Nat.zero_lt_one | omega) (by first | exact hR _ _ _ _ rfl | assumption) ?_
    refine z_sipush (v := nI 438) C 26 dX9_saveSnapshot_26 (by decide +kernel) ?_
    refine z_iload_n C 29 1 2 dX9_saveSnapshot_29 rfl rfl ?_
    first | with_reducible refine z_imulN C 30 dX9_saveSnapshot_30 ?_ | refine z_imul C 30 dX9_saveSnapshot_30 ?_
    refine z_cSv0 C 31 dX9_saveSnapshot_31 cs_X9_318 (c_X9_copies (by rfl) (by rfl) (by first | assumption | exact Nat.zero_lt_one | omega) (by first | assumption | exact Nat.zero_lt_one | omega) (by decide) (by decide) (by omega) (by omega) (by first | exact Or.inl (by decide) | (right; omega))) rfl rfl (Nat.le_of_ble_eq_true rfl) ⟨by decide, by decide⟩ ⟨rfl, rfl⟩ ⟨by decide, by decide⟩ ?_
    intro S31 L31 R31 p31
    obtain ⟨rfl, rfl, rfl⟩ := p31
    refine z_aload_n C 34 0 1 dX9_saveSnapshot_34 rfl rfl ?_
    refine z_getr C 35 dX9_saveSnapshot_35 gf_X9_52 rfl (by first | assumption | exact Nat.zero_lt_one | omega) (by first | exact hR _ _ _ _ rfl | assumption) ?_
    refine z_iload_n C 38 1 2 dX9_saveSnapshot_38 rfl rfl ?_
    refine z_iconst (v := nI 1) C 39 dX9_saveSnapshot_39 (by decide) ?_
    refine z_zast C 40 dX9_saveSnapshot_40 (by first | rfl | assumption) (by first | assumption | exact Nat.zero_lt_one | omega)  (by first | rfl | assumption) (by first | decide | omega) (by first | assumption | omega) (by first | exact bI_01 | exact Or.inl rfl | exact Or.inr rfl | assumption) ?_
    refine z_iload_n C 41 2 0 dX9_saveSnapshot_41 rfl rfl ?_
    exact ret 42 _ _ _ _ _ dX9_saveSnapshot_42 (by rcases (show b = 0 ∨ b = 1 by omega) with rfl | rfl <;> rfl) (⟨rfl, ⟨_, rfl, (fun j hj => by unfold cpF; rw [if_pos (by omega)]; exact congrArg (S 44 0) (by omega)), (fun j hj => by unfold cpF; rw [if_neg hj]; rfl)⟩, rfl, rfl⟩)

set_option maxHeartbeats 4000000 in
set_option maxRecDepth 100000 in
theorem c_X9_saveSnapshot_1 {l : Launch} {G : mG} {ad : mA} {S : mS} {L : mL} {R : mR} {x : Int32} (hR : mlk R) (hx : ¬ isP 2 x) : Ki l yX9_saveSnapshot cX9_saveSnapshot 3 .boolean rm_X9_saveSnapshot G ad mdm [.ref (ad 40 0), .int x] S L R (fun r_ S2 L2 R2 => rQ S S2 1 ∧ L = L2 ∧ R = R2) := by
  refine Ki.of RX9 (by decide) rfl (Nat.le_of_ble_eq_true rfl) ?_
  intro X hXl hXG C ret
  subst hXl; subst hXG
  change Z X 3 ad mdm S L R 0 0 0 [(0, _), (1, _)] []
  refine z_aload_n C 0 0 0 dX9_saveSnapshot_0 rfl rfl ?_
  refine z_iload_n C 1 1 1 dX9_saveSnapshot_1 rfl rfl ?_
  refine z_cVi0 C 2 dX9_saveSnapshot_2 cv_X9_322 (c_X9_noSlot_1 hR hx) rfl ⟨by decide, rfl⟩ (by first | assumption | exact Nat.zero_lt_one | omega) rfl rfl (Nat.le_of_ble_eq_true rfl) ⟨by decide, by decide⟩ ⟨rfl, rfl⟩ ⟨by decide, by decide⟩ ?_
  intro r2 S2 L2 R2 p2
  obtain ⟨rfl, rfl, rfl, rfl⟩ := p2
  first | with_reducible refine z_if_eqB C 5 10 dX9_saveSnapshot_5 (by decide) (fun h5 => by omega) (fun h5 => ?_) | with_reducible refine z_if_eqN C 5 10 dX9_saveSnapshot_5 (by decide) (by omega) (fun h5 => by omega) (fun h5 => ?_) | refine z_if_eq C 5 10 dX9_saveSnapshot_5 (by decide) (fun h5 => by omega) (fun h5 => ?_)
  · refine z_iconst (v := nI 0) C 8 dX9_saveSnapshot_8 (by decide) ?_
    exact ret 9 _ _ _ _ _ dX9_saveSnapshot_9 rfl (⟨(by first | exact rQ_t _ _ | (simp only [up3_up3]; exact rQ_t _ _)), rfl, rfl⟩)
def rm_X9_restoreSnapshot : Room := { frames := 3, cells := 0, slots := 0, locals := 65 }
set_option maxHeartbeats 4000000 in
set_option maxRecDepth 100000 in
theorem c_X9_restoreSnapshot {l : Launch} {G : mG} {ad : mA} {S : mS} {L : mL} {R : mR} {s : Nat} (hR : mlk R) (hs : s < 2) (hb : S 53 0 s = nI 1) : Ki l yX9_restoreSnapshot cX9_restoreSnapshot 2 .int rm_X9_restoreSnapshot G ad mdm [.ref (ad 40 0), .int (nI s)] S L R (fun r_ S2 L2 R2 => rB S S2 (fun j => S 52 0 (438 * s + j)) 0 ∧ r_ = S 52 0 (438 * s + 1) ∧ L = L2 ∧ R = R2) := by
  refine Ki.of RX9 (by decide) rfl (Nat.le_of_ble_eq_true rfl) ?_
  intro X hXl hXG C ret
  subst hXl; subst hXG
  change Z X 2 ad mdm S L R 0 0 0 [(0, _), (1, _)] []
  refine z_aload_n C 0 0 0 dX9_restoreSnapshot_0 rfl rfl ?_
  refine z_iload_n C 1 1 1 dX9_restoreSnapshot_1 rfl rfl ?_
  refine z_cVi0 C 2 dX9_restoreSnapshot_2 cv_X9_322 (c_X9_noSlot hR (by assumption)) rfl ⟨by decide, rfl⟩ (by first | assumption | exact Nat.zero_lt_one | omega) rfl rfl (Nat.le_of_ble_eq_true rfl) ⟨by decide, by decide⟩ ⟨rfl, rfl⟩ ⟨by decide, by decide⟩ ?_
  intro r2 S2 L2 R2 p2
  obtain ⟨rfl, rfl, rfl, rfl⟩ := p2
  first | with_reducible refine z_if_neB C 5 30 dX9_restoreSnapshot_5 (by decide) (fun h5 => by omega) (fun h5 => ?_) | with_reducible refine z_if_neN C 5 30 dX9_restoreSnapshot_5 (by decide) (by omega) (fun h5 => by omega) (fun h5 => ?_) | refine z_if_ne C 5 30 dX9_restoreSnapshot_5 (by decide) (fun h5 => by omega) (fun h5 => ?_)
  · refine z_aload_n C 8 0 0 dX9_restoreSnapshot_8 rfl rfl ?_
    refine z_aload_n C 9 0 0 dX9_restoreSnapshot_9 rfl rfl ?_
    refine z_getr C 10 dX9_restoreSnapshot_10 gf_X9_52 rfl (by first | assumption | exact Nat.zero_lt_one | omega) (by first | exact hR _ _ _ _ rfl | assumption) ?_
    refine z_iload_n C 13 1 1 dX9_restoreSnapshot_13 rfl rfl ?_
    refine z_zald C 14 dX9_restoreSnapshot_14 rfl (by first | assumption | exact Nat.zero_lt_one | omega) (by first | rfl | assumption) (by first | decide | omega) (by first | assumption | omega) ?_
    first | with_reducible refine z_if_neB C 15 22 dX9_restoreSnapshot_15 (by decide) (fun h15 => ?_) (fun h15 => absurd (hb.symm.trans h15) (by decide)) | with_reducible refine z_if_neN C 15 22 dX9_restoreSnapshot_15 (by decide) (by omega) (fun h15 => ?_) (fun h15 => absurd (hb.symm.trans h15) (by decide)) | refine z_if_ne C 15 22 dX9_restoreSnapshot_15 (by decide) (fun h15 => ?_) (fun h15 => absurd (hb.symm.trans h15) (by decide))
    · refine z_iconst (v := nI 0) C 22 dX9_restoreSnapshot_22 (by decide) ?_
      refine z_iconst (v := nI 2) C 23 dX9_restoreSnapshot_23 (by decide) ?_
      refine z_cVi0 C 24 dX9_restoreSnapshot_24 cv_X9_185 (c_X9_throwsIf_0 hR (by first | assumption | rfl)) rfl ⟨by decide, rfl⟩ (by first | assumption | exact Nat.zero_lt_one | omega) rfl rfl (Nat.le_of_ble_eq_true rfl) ⟨by decide, by decide⟩ ⟨rfl, rfl⟩ ⟨by decide, by decide⟩ ?_
      intro r24 S24 L24 R24 p24
      obtain ⟨rfl, rfl, rfl, rfl⟩ := p24
      first | with_reducible refine z_if_eqB C 27 32 dX9_restoreSnapshot_27 (by decide) (fun h27 => ?_) (fun h27 => by omega) | with_reducible refine z_if_eqN C 27 32 dX9_restoreSnapshot_27 (by decide) (by omega) (fun h27 => ?_) (fun h27 => by omega) | refine z_if_eq C 27 32 dX9_restoreSnapshot_27 (by decide) (fun h27 => ?_) (fun h27 => by omega)
      · refine z_aload_n C 32 0 0 dX9_restoreSnapshot_32 rfl rfl ?_
        refine z_getr C 33 dX9_restoreSnapshot_33 gf_X9_49 rfl (by first | assumption | exact Nat.zero_lt_one | omega) (by first | exact hR _ _ _ _ rfl | assumption) ?_
        refine z_sipush (v := nI 438) C 36 dX9_restoreSnapshot_36 (by decide +kernel) ?_
        refine z_iload_n C 39 1 1 dX9_restoreSnapshot_39 rfl rfl ?_
        first | with_reducible refine z_imulN C 40 dX9_restoreSnapshot_40 ?_ | refine z_imul C 40 dX9_restoreSnapshot_40 ?_
        refine z_aload_n C 41 0 0 dX9_restoreSnapshot_41 rfl rfl ?_
        refine z_getr C 42 dX9_restoreSnapshot_42 gf_X9_20 rfl (by first | assumption | exact Nat.zero_lt_one | omega) (by first | exact hR _ _ _ _ rfl | assumption) ?_
        refine z_iconst (v := nI 0) C 45 dX9_restoreSnapshot_45 (by decide) ?_
        refine z_cSv0 C 46 dX9_restoreSnapshot_46 cs_X9_318 (c_X9_copies (by rfl) (by rfl) (by first | assumption | exact Nat.zero_lt_one | omega) (by first | assumption | exact Nat.zero_lt_one | omega) (by decide) (by decide) (by omega) (by omega) (by first | exact Or.inl (by decide) | (right; omega))) rfl rfl (Nat.le_of_ble_eq_true rfl) ⟨by decide, by decide⟩ ⟨rfl, rfl⟩ ⟨by decide, by decide⟩ ?_
        intro S46 L46 R46 p46
        obtain ⟨rfl, rfl, rfl⟩ := p46
        refine z_aload_n C 49 0 0 dX9_restoreSnapshot_49 rfl rfl ?_
        refine z_iconst (v := nI 0) C 50 dX9_restoreSnapshot_50 (by decide) ?_
        refine z_puti C 51 dX9_restoreSnapshot_51 gf_X9_200 ⟨rfl, rfl⟩ rfl (by first | assumption | exact Nat.zero_lt_one | omega) ?_
        refine z_aload_n C 54 0 0 dX9_restoreSnapshot_54 rfl rfl ?_
        refine z_getr C 55 dX9_restoreSnapshot_55 gf_X9_20 rfl (by first | assumption | exact Nat.zero_lt_one | omega) (by first | exact hR _ _ _ _ rfl | assumption) ?_
        refine z_iconst (v := nI 1) C 58 dX9_restoreSnapshot_58 (by decide) ?_
        refine z_iald C 59 dX9_restoreSnapshot_59 (by first | rfl | assumption) (by first | assumption | exact Nat.zero_lt_one | omega) (by first | rfl | assumption) (by first | decide | omega) (by first | assumption | omega) ?_
        exact ret 60 _ _ _ _ _ dX9_restoreSnapshot_60 (by first | rfl | exact bI_n | decide) (⟨(by rw [up3_sA _ (show (40 : Nat) ≠ 44 by decide)]; exact rB_res), (by unfold cpF; first | rfl | (show (if _ then _ else _) = _; rw [if_pos (by omega)]; exact congrArg (S 52 0) (by omega))), rfl, rfl⟩)

set_option maxHeartbeats 4000000 in
set_option maxRecDepth 100000 in
theorem c_X9_restoreSnapshot_1 {l : Launch} {G : mG} {ad : mA} {S : mS} {L : mL} {R : mR} {x : Int32} (hR : mlk R) (hx : ¬ isP 2 x) : Ki l yX9_restoreSnapshot cX9_restoreSnapshot 2 .int rm_X9_restoreSnapshot G ad mdm [.ref (ad 40 0), .int x] S L R (fun r_ S2 L2 R2 => rQ S S2 1 ∧ L = L2 ∧ R = R2) := by
  refine Ki.of RX9 (by decide) rfl (Nat.le_of_ble_eq_true rfl) ?_
  intro X hXl hXG C ret
  subst hXl; subst hXG
  change Z X 2 ad mdm S L R 0 0 0 [(0, _), (1, _)] []
  refine z_aload_n C 0 0 0 dX9_restoreSnapshot_0 rfl rfl ?_
  refine z_iload_n C 1 1 1 dX9_restoreSnapshot_1 rfl rfl ?_
  refine z_cVi0 C 2 dX9_restoreSnapshot_2 cv_X9_322 (c_X9_noSlot_1 hR hx) rfl ⟨by decide, rfl⟩ (by first | assumption | exact Nat.zero_lt_one | omega) rfl rfl (Nat.le_of_ble_eq_true rfl) ⟨by decide, by decide⟩ ⟨rfl, rfl⟩ ⟨by decide, by decide⟩ ?_
  intro r2 S2 L2 R2 p2
  obtain ⟨rfl, rfl, rfl, rfl⟩ := p2
  first | with_reducible refine z_if_neB C 5 30 dX9_restoreSnapshot_5 (by decide) (fun h5 => ?_) (fun h5 => by omega) | with_reducible refine z_if_neN C 5 30 dX9_restoreSnapshot_5 (by decide) (by omega) (fun h5 => ?_) (fun h5 => by omega) | refine z_if_ne C 5 30 dX9_restoreSnapshot_5 (by decide) (fun h5 => ?_) (fun h5 => by omega)
  · refine z_iconst (v := nI 0) C 30 dX9_restoreSnapshot_30 (by decide) ?_
    exact ret 31 _ _ _ _ _ dX9_restoreSnapshot_31 (by first | rfl | exact bI_n | decide) (⟨(by first | exact rQ_t _ _ | (simp only [up3_up3]; exact rQ_t _ _)), rfl, rfl⟩)

set_option maxHeartbeats 4000000 in
set_option maxRecDepth 100000 in
theorem c_X9_restoreSnapshot_2 {l : Launch} {G : mG} {ad : mA} {S : mS} {L : mL} {R : mR} {s : Nat} (hR : mlk R) (hs : s < 2) (hb : S 53 0 s = 0) : Ki l yX9_restoreSnapshot cX9_restoreSnapshot 2 .int rm_X9_restoreSnapshot G ad mdm [.ref (ad 40 0), .int (nI s)] S L R (fun r_ S2 L2 R2 => rQ S S2 2 ∧ L = L2 ∧ R = R2) := by
  refine Ki.of RX9 (by decide) rfl (Nat.le_of_ble_eq_true rfl) ?_
  intro X hXl hXG C ret
  subst hXl; subst hXG
  change Z X 2 ad mdm S L R 0 0 0 [(0, _), (1, _)] []
  refine z_aload_n C 0 0 0 dX9_restoreSnapshot_0 rfl rfl ?_
  refine z_iload_n C 1 1 1 dX9_restoreSnapshot_1 rfl rfl ?_
  refine z_cVi0 C 2 dX9_restoreSnapshot_2 cv_X9_322 (c_X9_noSlot hR (by assumption)) rfl ⟨by decide, rfl⟩ (by first | assumption | exact Nat.zero_lt_one | omega) rfl rfl (Nat.le_of_ble_eq_true rfl) ⟨by decide, by decide⟩ ⟨rfl, rfl⟩ ⟨by decide, by decide⟩ ?_
  intro r2 S2 L2 R2 p2
  obtain ⟨rfl, rfl, rfl, rfl⟩ := p2
  first | with_reducible refine z_if_neB C 5 30 dX9_restoreSnapshot_5 (by decide) (fun h5 => by omega) (fun h5 => ?_) | with_reducible refine z_if_neN C 5 30 dX9_restoreSnapshot_5 (by decide) (by omega) (fun h5 => by omega) (fun h5 => ?_) | refine z_if_ne C 5 30 dX9_restoreSnapshot_5 (by decide) (fun h5 => by omega) (fun h5 => ?_)
  · refine z_aload_n C 8 0 0 dX9_restoreSnapshot_8 rfl rfl ?_
    refine z_aload_n C 9 0 0 dX9_restoreSnapshot_9 rfl rfl ?_
    refine z_getr C 10 dX9_restoreSnapshot_10 gf_X9_52 rfl (by first | assumption | exact Nat.zero_lt_one | omega) (by first | exact hR _ _ _ _ rfl | assumption) ?_
    refine z_iload_n C 13 1 1 dX9_restoreSnapshot_13 rfl rfl ?_
    refine z_zald C 14 dX9_restoreSnapshot_14 rfl (by first | assumption | exact Nat.zero_lt_one | omega) (by first | rfl | assumption) (by first | decide | omega) (by first | assumption | omega) ?_
    first | with_reducible refine z_if_neB C 15 22 dX9_restoreSnapshot_15 (by decide) (fun h15 => absurd hb h15) (fun h15 => ?_) | with_reducible refine z_if_neN C 15 22 dX9_restoreSnapshot_15 (by decide) (by omega) (fun h15 => absurd hb h15) (fun h15 => ?_) | refine z_if_ne C 15 22 dX9_restoreSnapshot_15 (by decide) (fun h15 => absurd hb h15) (fun h15 => ?_)
    · refine z_iconst (v := nI 1) C 18 dX9_restoreSnapshot_18 (by decide) ?_
      refine z_goto C 19 23 dX9_restoreSnapshot_19 (by decide) ?_
      refine z_iconst (v := nI 2) C 23 dX9_restoreSnapshot_23 (by decide) ?_
      refine z_cVi0 C 24 dX9_restoreSnapshot_24 cv_X9_185 (c_X9_throwsIf_1 hR (by first | assumption | rfl) (by decide) (by decide)) rfl ⟨by decide, rfl⟩ (by first | assumption | exact Nat.zero_lt_one | omega) rfl rfl (Nat.le_of_ble_eq_true rfl) ⟨by decide, by decide⟩ ⟨rfl, rfl⟩ ⟨by decide, by decide⟩ ?_
      intro r24 S24 L24 R24 p24
      obtain ⟨rfl, rfl, rfl, rfl⟩ := p24
      first | with_reducible refine z_if_eqB C 27 32 dX9_restoreSnapshot_27 (by decide) (fun h27 => by omega) (fun h27 => ?_) | with_reducible refine z_if_eqN C 27 32 dX9_restoreSnapshot_27 (by decide) (by omega) (fun h27 => by omega) (fun h27 => ?_) | refine z_if_eq C 27 32 dX9_restoreSnapshot_27 (by decide) (fun h27 => by omega) (fun h27 => ?_)
      · refine z_iconst (v := nI 0) C 30 dX9_restoreSnapshot_30 (by decide) ?_
        exact ret 31 _ _ _ _ _ dX9_restoreSnapshot_31 (by first | rfl | exact bI_n | decide) (⟨(by first | exact rQ_t _ _ | (simp only [up3_up3]; exact rQ_t _ _)), rfl, rfl⟩)
