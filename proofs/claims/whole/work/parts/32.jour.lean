/-- the journal's memory behind an entry -/
def jAdd (S : mS) (v x e k p : Nat) (t : Int32) : mS := up3 (up3 (up3 (up3 (up3 (up3 S 23 v (x * 3) (nI k)) 23 v (x * 3 + 1) (nI p)) 23 v (x * 3 + 2) t) 22 v 1 (nI ((x + 1) % 24))) 22 v 0 (if nI 24 < nI (e + 1) then nI 24 else nI (e + 1))) 24 v k (S 24 v k + nI 1)
theorem jAdd_off {S : mS} {v x e k p kk i : Nat} {t : Int32} (h : ¬ (22 ≤ kk ∧ kk ≤ 24 ∧ i = v)) : jAdd S v x e k p t kk i = S kk i := by
  funext j
  unfold jAdd
  simp only [up3_at]
  repeat rw [if_neg (by omega)]
theorem AJ.add {S : mS} {v x e k p : Nat} {N : NN} (hx : x < 24) (he : e ≤ 24) (h1 : S 22 v 1 = nI x) (h0 : S 22 v 0 = nI e) (h5 : N 5 = nI e) (hp : ∀ e' t, e' < e → t < 3 → S 23 v ((x + 23 - e') % 24 * 3 + t) = N (306 + 3 * e' + t)) (hc : ∀ w, w < 10 → S 24 v w = N (378 + w)) (hk : k < 10) : AJ (jAdd S v x e k p (N 1)) v (fWr N k p) := by
  have hmin : (if nI 24 < nI (e + 1) then nI 24 else nI (e + 1)) = nI (if e < 24 then e + 1 else e) := by
    by_cases h : e < 24
    · rw [if_pos h, if_neg (nI_nlt (by omega) (by omega))]
    · obtain rfl : e = 24 := by omega
      rfl
  refine ⟨(x + 1) % 24, if e < 24 then e + 1 else e, Nat.mod_lt _ (by omega), by split <;> omega, ?_, ?_, wr_5 he h5, ?_, ?_⟩
  · unfold jAdd
    rw [up3_k _ (by omega), up3_j _ (by omega), up3_s]
  · unfold jAdd
    rw [up3_k _ (by omega), up3_s, hmin]
  · intro e' t he' ht
    have hlt : e' < 24 := by split at he' <;> omega
    unfold jAdd
    rw [up3_k _ (by omega), up3_k _ (by omega), up3_k _ (by omega)]
    by_cases e0 : e' = 0
    · subst e0
      have hx' : ((x + 1) % 24 + 23 - 0) % 24 = x := by omega
      rw [hx']
      rcases (show t = 0 ∨ t = 1 ∨ t = 2 by omega) with rfl | rfl | rfl
      · rw [up3_j _ (by omega), up3_j _ (by omega)]
        exact (up3_s _ _ _ _ _).trans (by simp [fWr])
      · rw [up3_j _ (by omega), up3_s]
        simp [fWr]
      · rw [up3_s]
        simp [fWr]
    · have hx' : ((x + 1) % 24 + 23 - e') % 24 = (x + 23 - (e' - 1)) % 24 := by omega
      have hne : (x + 23 - (e' - 1)) % 24 ≠ x := by omega
      have hm := Nat.mod_lt (x + 23 - (e' - 1)) (show 0 < 24 by omega)
      rw [hx']
      generalize hy : (x + 23 - (e' - 1)) % 24 = y at hne hm
      rw [up3_j _ (by omega), up3_j _ (by omega), up3_j _ (by omega), ← hy, hp (e' - 1) t (by split at he' <;> omega) ht]
      unfold fWr
      rw [if_pos (by omega)]
      congr 1
      omega
  · intro w hw
    unfold jAdd
    by_cases e1 : w = k
    · subst e1
      rw [up3_s, hc w hw]
      unfold fWr
      rw [if_neg (by omega), if_neg (by omega), if_neg (by omega), if_neg (by omega), if_neg (by omega), if_pos rfl]
    · rw [up3_j _ e1, up3_k _ (by omega), up3_k _ (by omega), up3_k _ (by omega), up3_k _ (by omega), up3_k _ (by omega), hc w hw]
      unfold fWr
      rw [if_neg (by omega), if_neg (by omega), if_neg (by omega), if_neg (by omega), if_neg (by omega), if_neg (by omega)]
def jCopy (S : mS) (q v : Nat) : mS := fun k i j => if i = v ∧ (k = 23 ∨ k = 24 ∨ (k = 22 ∧ j < 2)) then S k q j else S k i j
theorem jCopy_end {S : mS} {q v : Nat} (h : q ≠ v) : ∀ k i j, mrg k j → mcp (mcp (up3 (up3 S 22 v 0 (S 22 q 0)) 22 v 1 ((up3 S 22 v 0 (S 22 q 0)) 22 q 1)) 23 q 0 23 v 0 72) 24 q 0 24 v 0 10 k i j = jCopy S q v k i j := by
  intro k i j hj
  simp only [mcp, jCopy, up3, Nat.zero_add, Nat.zero_le, true_and, Nat.sub_zero, h, false_and, and_false, if_false]
  by_cases h23 : k = 23
  · subst h23
    have hj : j < 72 := hj
    by_cases hi : i = v
    · subst hi; simp [hj]
    · simp [hi]
  by_cases h24 : k = 24
  · subst h24
    have hj : j < 10 := hj
    by_cases hi : i = v
    · subst hi; simp [hj]
    · simp [hi]
  by_cases h22 : k = 22
  · subst h22
    by_cases hi : i = v
    · subst hi
      rcases (show j = 0 ∨ j = 1 ∨ 2 ≤ j by omega) with rfl | rfl | h2
      · simp
      · simp
      · rw [if_neg (by omega), if_neg (by omega), if_neg (by omega), if_neg (by omega), if_neg (by omega)]
    · simp [hi]
  rw [if_neg (by omega), if_neg (by omega), if_neg (by omega), if_neg (by omega), if_neg (by omega)]
theorem isP_of {k : Int32} {m : Nat} (h : ¬ k < 0) (h2 : k < nI m) (hm : m < 2 ^ 31) : isP m k := by
  have e1 := Int32.le_iff_toInt_le.mp (Int32.not_lt.mp h)
  have e2 := Int32.lt_iff_toInt_lt.mp h2
  have e3 : (0 : Int32).toInt = 0 := by decide
  rw [nI_toInt hm] at e2
  rw [e3] at e1
  exact ⟨k.toInt.toNat, by omega, Int32.toInt_inj.mp (by rw [nI_toInt (by omega)]; omega)⟩
theorem jx {x q e : Nat} (h : q < e) (he : e ≤ 24) : nI x - nI 1 - nI q + nI 24 = nI (x + 23 - q) := by
  have : ∀ a b c d : Int32, a - b - c + d = a + d - b - c := fun a b c d => by
    rw [Int32.sub_eq_add_neg, Int32.sub_eq_add_neg, Int32.sub_eq_add_neg, Int32.sub_eq_add_neg]
    ac_rfl
  rw [this, nI_add, pk_sub (by omega), pk_sub (by omega)]
  rw [show x + 24 - 1 - q = x + 23 - q by omega]

def rm_X3_copyFrom : Room := { frames := 1, cells := 0, slots := 0, locals := 60 }
set_option maxHeartbeats 4000000 in
set_option maxRecDepth 100000 in
theorem c_X3_copyFrom {l : Launch} {G : mG} {ad : mA} {S : mS} {L : mL} {R : mR} {q v : Nat} (hR : mlk R) (hv : v < 15) (hq : q < 15) (hne : q ≠ v) : Kv l yX3_copyFrom cX3_copyFrom 2 rm_X3_copyFrom G ad mdm [.ref (ad 22 v), .ref (ad 22 q)] S L R (fun S2 L2 R2 => jCopy S q v = S2 ∧ L = L2 ∧ R = R2) := by
  refine Kv.of RX3 (by decide) rfl (Nat.le_of_ble_eq_true rfl) ?_
  intro X hXl hXG C ret
  subst hXl; subst hXG
  change Z X 2 ad mdm S L R 0 0 0 [(0, _), (1, _)] []
  refine z_aload_n C 0 0 0 dX3_copyFrom_0 rfl rfl ?_
  refine z_aload_n C 1 1 1 dX3_copyFrom_1 rfl rfl ?_
  refine z_geti C 2 dX3_copyFrom_2 gf_X3_9 rfl (by first | assumption | exact Nat.zero_lt_one | exact (show (15 : Nat) < 16 by decide) | omega) ?_
  refine z_puti C 5 dX3_copyFrom_5 gf_X3_9 ⟨rfl, rfl⟩ rfl (by first | assumption | exact Nat.zero_lt_one | exact (show (15 : Nat) < 16 by decide) | omega) ?_
  refine z_aload_n C 8 0 0 dX3_copyFrom_8 rfl rfl ?_
  refine z_aload_n C 9 1 1 dX3_copyFrom_9 rfl rfl ?_
  refine z_geti C 10 dX3_copyFrom_10 gf_X3_15 rfl (by first | assumption | exact Nat.zero_lt_one | exact (show (15 : Nat) < 16 by decide) | omega) ?_
  refine z_puti C 13 dX3_copyFrom_13 gf_X3_15 ⟨rfl, rfl⟩ rfl (by first | assumption | exact Nat.zero_lt_one | exact (show (15 : Nat) < 16 by decide) | omega) ?_
  refine z_aload_n C 16 1 1 dX3_copyFrom_16 rfl rfl ?_
  refine z_getr C 17 dX3_copyFrom_17 gf_X3_18 rfl (by first | assumption | exact Nat.zero_lt_one | exact (show (15 : Nat) < 16 by decide) | omega) (by first | exact hR _ _ _ _ rfl | exact hR2 _ _ _ _ rfl | assumption) ?_
  refine z_iconst (v := nI 0) C 20 dX3_copyFrom_20 (by decide) ?_
  refine z_aload_n C 21 0 0 dX3_copyFrom_21 rfl rfl ?_
  refine z_getr C 22 dX3_copyFrom_22 gf_X3_18 rfl (by first | assumption | exact Nat.zero_lt_one | exact (show (15 : Nat) < 16 by decide) | omega) (by first | exact hR _ _ _ _ rfl | exact hR2 _ _ _ _ rfl | assumption) ?_
  refine z_iconst (v := nI 0) C 25 dX3_copyFrom_25 (by decide) ?_
  refine z_aload_n C 26 0 0 dX3_copyFrom_26 rfl rfl ?_
  refine z_getr C 27 dX3_copyFrom_27 gf_X3_18 rfl (by first | assumption | exact Nat.zero_lt_one | exact (show (15 : Nat) < 16 by decide) | omega) (by first | exact hR _ _ _ _ rfl | exact hR2 _ _ _ _ rfl | assumption) ?_
  refine z_alen C 30 dX3_copyFrom_30 rfl (by decide) (by decide) (by first | assumption | exact Nat.zero_lt_one | exact (show (15 : Nat) < 16 by decide) | omega) ?_
  refine z_copy C 31 dX3_copyFrom_31 lj_X3_31 rfl rfl (by first | assumption | exact Nat.zero_lt_one | exact (show (15 : Nat) < 16 by decide) | omega) (by first | assumption | exact Nat.zero_lt_one | exact (show (15 : Nat) < 16 by decide) | omega) (by first | rfl | assumption) (by first | rfl | assumption) (by first | rfl | assumption) (by decide) (by decide) (by omega) (by omega) (Nat.le_of_ble_eq_true rfl) ⟨by decide, by decide⟩ ?_
  refine z_aload_n C 34 1 1 dX3_copyFrom_34 rfl rfl ?_
  refine z_getr C 35 dX3_copyFrom_35 gf_X3_22 rfl (by first | assumption | exact Nat.zero_lt_one | exact (show (15 : Nat) < 16 by decide) | omega) (by first | exact hR _ _ _ _ rfl | exact hR2 _ _ _ _ rfl | assumption) ?_
  refine z_iconst (v := nI 0) C 38 dX3_copyFrom_38 (by decide) ?_
  refine z_aload_n C 39 0 0 dX3_copyFrom_39 rfl rfl ?_
  refine z_getr C 40 dX3_copyFrom_40 gf_X3_22 rfl (by first | assumption | exact Nat.zero_lt_one | exact (show (15 : Nat) < 16 by decide) | omega) (by first | exact hR _ _ _ _ rfl | exact hR2 _ _ _ _ rfl | assumption) ?_
  refine z_iconst (v := nI 0) C 43 dX3_copyFrom_43 (by decide) ?_
  refine z_aload_n C 44 0 0 dX3_copyFrom_44 rfl rfl ?_
  refine z_getr C 45 dX3_copyFrom_45 gf_X3_22 rfl (by first | assumption | exact Nat.zero_lt_one | exact (show (15 : Nat) < 16 by decide) | omega) (by first | exact hR _ _ _ _ rfl | exact hR2 _ _ _ _ rfl | assumption) ?_
  refine z_alen C 48 dX3_copyFrom_48 rfl (by decide) (by decide) (by first | assumption | exact Nat.zero_lt_one | exact (show (15 : Nat) < 16 by decide) | omega) ?_
  refine z_copy C 49 dX3_copyFrom_49 lj_X3_31 rfl rfl (by first | assumption | exact Nat.zero_lt_one | exact (show (15 : Nat) < 16 by decide) | omega) (by first | assumption | exact Nat.zero_lt_one | exact (show (15 : Nat) < 16 by decide) | omega) (by first | rfl | assumption) (by first | rfl | assumption) (by first | rfl | assumption) (by decide) (by decide) (by omega) (by omega) (Nat.le_of_ble_eq_true rfl) ⟨by decide, by decide⟩ ?_
  refine z_ext (jCopy S q v) (jCopy_end hne) ?_
  exact ret 52 _ _ _ _ dX3_copyFrom_52 (⟨rfl, rfl, rfl⟩)
def rm_X3_add : Room := { frames := 1, cells := 0, slots := 0, locals := 21 }
set_option maxHeartbeats 4000000 in
set_option maxRecDepth 100000 in
theorem c_X3_add {l : Launch} {G : mG} {ad : mA} {S : mS} {L : mL} {R : mR} {N : NN} {v k p : Nat} (hR : mlk R) (hv : v < 15) (hJ : AJ S v N) (hk : k < 10) : Kv l yX3_add cX3_add 5 rm_X3_add G ad mdm [.ref (ad 22 v), .int (nI k), .int (nI p), .int (N 1)] S L R (fun S2 L2 R2 => AJ S2 v (fWr N k p) ∧ (∀ kk i, ¬ (22 ≤ kk ∧ kk ≤ 24 ∧ i = v) → S2 kk i = S kk i) ∧ L = L2 ∧ R = R2) := by
  refine Kv.of RX3 (by decide) rfl (Nat.le_of_ble_eq_true rfl) ?_
  intro X hXl hXG C ret
  subst hXl; subst hXG
  change Z X 5 ad mdm S L R 0 0 0 [(0, _), (1, _), (2, _), (3, _)] []
  obtain ⟨x, e, hx, he, hx1, he0, h5, hpp, hc⟩ := hJ
  refine z_aload_n C 0 0 0 dX3_add_0 rfl rfl ?_
  refine z_getiv C 1 dX3_add_1 gf_X3_15 rfl (by first | assumption | exact Nat.zero_lt_one | exact (show (15 : Nat) < 16 by decide) | omega) hx1 ?_
  refine z_iconst (v := nI 3) C 4 dX3_add_4 (by decide) ?_
  first | with_reducible refine z_imulN C 5 dX3_add_5 ?_ | refine z_imul C 5 dX3_add_5 ?_
  refine z_istore C 6 4 [(4, _), (0, _), (1, _), (2, _), (3, _)] dX3_add_6 (by decide) rfl ?_
  refine z_aload_n C 8 0 1 dX3_add_8 rfl rfl ?_
  refine z_getr C 9 dX3_add_9 gf_X3_18 rfl (by first | assumption | exact Nat.zero_lt_one | exact (show (15 : Nat) < 16 by decide) | omega) (by first | exact hR _ _ _ _ rfl | exact hR2 _ _ _ _ rfl | assumption) ?_
  refine z_iload C 12 4 0 dX3_add_12 rfl ?_
  refine z_iload_n C 14 1 2 dX3_add_14 rfl rfl ?_
  refine z_iast C 15 dX3_add_15 (by first | rfl | assumption) (by first | assumption | exact Nat.zero_lt_one | exact (show (15 : Nat) < 16 by decide) | omega)  (by first | rfl | assumption) (by first | decide | omega) (by first | assumption | omega) ?_
  refine z_aload_n C 16 0 1 dX3_add_16 rfl rfl ?_
  refine z_getr C 17 dX3_add_17 gf_X3_18 rfl (by first | assumption | exact Nat.zero_lt_one | exact (show (15 : Nat) < 16 by decide) | omega) (by first | exact hR _ _ _ _ rfl | exact hR2 _ _ _ _ rfl | assumption) ?_
  refine z_iload C 20 4 0 dX3_add_20 rfl ?_
  refine z_iconst (v := nI 1) C 22 dX3_add_22 (by decide) ?_
  first | with_reducible refine z_iaddN C 23 dX3_add_23 ?_ | refine z_iadd C 23 dX3_add_23 ?_
  refine z_iload_n C 24 2 3 dX3_add_24 rfl rfl ?_
  refine z_iast C 25 dX3_add_25 (by first | rfl | assumption) (by first | assumption | exact Nat.zero_lt_one | exact (show (15 : Nat) < 16 by decide) | omega)  (by first | rfl | assumption) (by first | decide | omega) (by first | assumption | omega) ?_
  refine z_aload_n C 26 0 1 dX3_add_26 rfl rfl ?_
  refine z_getr C 27 dX3_add_27 gf_X3_18 rfl (by first | assumption | exact Nat.zero_lt_one | exact (show (15 : Nat) < 16 by decide) | omega) (by first | exact hR _ _ _ _ rfl | exact hR2 _ _ _ _ rfl | assumption) ?_
  refine z_iload C 30 4 0 dX3_add_30 rfl ?_
  refine z_iconst (v := nI 2) C 32 dX3_add_32 (by decide) ?_
  first | with_reducible refine z_iaddN C 33 dX3_add_33 ?_ | refine z_iadd C 33 dX3_add_33 ?_
  refine z_iload_n C 34 3 4 dX3_add_34 rfl rfl ?_
  refine z_iast C 35 dX3_add_35 (by first | rfl | assumption) (by first | assumption | exact Nat.zero_lt_one | exact (show (15 : Nat) < 16 by decide) | omega)  (by first | rfl | assumption) (by first | decide | omega) (by first | assumption | omega) ?_
  refine z_aload_n C 36 0 1 dX3_add_36 rfl rfl ?_
  refine z_aload_n C 37 0 1 dX3_add_37 rfl rfl ?_
  refine z_getiv C 38 dX3_add_38 gf_X3_15 rfl (by first | assumption | exact Nat.zero_lt_one | exact (show (15 : Nat) < 16 by decide) | omega) (show _ = nI x from (by rw [up3_k _ (by decide), up3_k _ (by decide), up3_k _ (by decide)]; exact hx1)) ?_
  refine z_iconst (v := nI 1) C 41 dX3_add_41 (by decide) ?_
  first | with_reducible refine z_iaddN C 42 dX3_add_42 ?_ | refine z_iadd C 42 dX3_add_42 ?_
  refine z_bipush (v := nI 24) C 43 dX3_add_43 (by decide +kernel) ?_
  first | with_reducible refine z_iremN C 45 dX3_add_45 (by omega) (by omega) (by omega) ?_ | refine z_irem C 45 dX3_add_45 (by first | decide | assumption | exact nI_ne0 (by omega) (by omega)) ?_
  refine z_puti C 46 dX3_add_46 gf_X3_15 ⟨rfl, rfl⟩ rfl (by first | assumption | exact Nat.zero_lt_one | exact (show (15 : Nat) < 16 by decide) | omega) ?_
  refine z_aload_n C 49 0 1 dX3_add_49 rfl rfl ?_
  refine z_aload_n C 50 0 1 dX3_add_50 rfl rfl ?_
  refine z_getiv C 51 dX3_add_51 gf_X3_9 rfl (by first | assumption | exact Nat.zero_lt_one | exact (show (15 : Nat) < 16 by decide) | omega) (show _ = nI e from (by rw [up3_j _ (by decide), up3_k _ (by decide), up3_k _ (by decide), up3_k _ (by decide)]; exact he0)) ?_
  refine z_iconst (v := nI 1) C 54 dX3_add_54 (by decide) ?_
  first | with_reducible refine z_iaddN C 55 dX3_add_55 ?_ | refine z_iadd C 55 dX3_add_55 ?_
  refine z_bipush (v := nI 24) C 56 dX3_add_56 (by decide +kernel) ?_
  refine z_min C 58 dX3_add_58 lj_X3_37 (Nat.le_of_ble_eq_true rfl) ⟨by decide, by decide⟩ ⟨by decide, by decide⟩ ?_
  refine z_puti C 61 dX3_add_61 gf_X3_9 ⟨rfl, rfl⟩ rfl (by first | assumption | exact Nat.zero_lt_one | exact (show (15 : Nat) < 16 by decide) | omega) ?_
  refine z_aload_n C 64 0 1 dX3_add_64 rfl rfl ?_
  refine z_getr C 65 dX3_add_65 gf_X3_22 rfl (by first | assumption | exact Nat.zero_lt_one | exact (show (15 : Nat) < 16 by decide) | omega) (by first | exact hR _ _ _ _ rfl | exact hR2 _ _ _ _ rfl | assumption) ?_
  refine z_iload_n C 68 1 2 dX3_add_68 rfl rfl ?_
  refine z_dup2 C 69 dX3_add_69 rfl rfl ?_
  refine z_iald C 70 dX3_add_70 (by first | rfl | assumption) (by first | assumption | exact Nat.zero_lt_one | exact (show (15 : Nat) < 16 by decide) | omega) (by first | rfl | assumption) (by first | decide | omega) (by first | assumption | omega) ?_
  refine z_iconst (v := nI 1) C 71 dX3_add_71 (by decide) ?_
  first | with_reducible refine z_iaddN C 72 dX3_add_72 ?_ | refine z_iadd C 72 dX3_add_72 ?_
  refine z_iast C 73 dX3_add_73 (by first | rfl | assumption) (by first | assumption | exact Nat.zero_lt_one | exact (show (15 : Nat) < 16 by decide) | omega)  (by first | rfl | assumption) (by first | decide | omega) (by first | assumption | omega) ?_
  exact ret 74 _ _ _ _ dX3_add_74 (⟨AJ.add hx he hx1 he0 h5 hpp hc hk, fun kk i h => jAdd_off h, rfl, rfl⟩)
def rm_X3_partOf : Room := { frames := 0, cells := 0, slots := 0, locals := 0 }
set_option maxHeartbeats 4000000 in
set_option maxRecDepth 100000 in
theorem c_X3_partOf {l : Launch} {G : mG} {ad : mA} {S : mS} {L : mL} {R : mR} {N : NN} {v t m : Nat} {k : Int32} (hR : mlk R) (hv : v < 15) (hJ : AJ S v N) (ht : t < 3) (hm : N 5 = nI m) (hm24 : m ≤ 24) : Ki l yX3_partOf cX3_partOf 4 .int rm_X3_partOf G ad mdm [.ref (ad 22 v), .int k, .int (nI t)] S L R (fun r_ S2 L2 R2 => (∀ j, j < m → k = nI j → r_ = N (306 + 3 * j + t)) ∧ (¬ isP m k → r_ = -1) ∧ S = S2 ∧ L = L2 ∧ R = R2) := by
  refine Ki.of RX3 (by decide) rfl (Nat.le_of_ble_eq_true rfl) ?_
  intro X hXl hXG C ret
  subst hXl; subst hXG
  change Z X 4 ad mdm S L R 0 0 0 [(0, _), (1, _), (2, _)] []
  obtain ⟨x, e, hx, he, hx1, he0, h5, hpp, hc⟩ := hJ
  obtain rfl : e = m := (nI_eq (by omega) (by omega)).mp (h5.symm.trans hm)
  refine z_iload_n C 0 1 1 dX3_partOf_0 rfl rfl ?_
  refine z_if_lt C 1 12 dX3_partOf_1 (by decide) (fun h1 => ?_) (fun h1 => ?_)
  · refine z_iconst (v := (-1)) C 12 dX3_partOf_12 (by decide) ?_
    exact ret 13 _ _ _ _ _ dX3_partOf_13 (by first | rfl | exact bI_n | decide) (⟨fun j hj e => by subst e; first | exact absurd h1 (nI_pos (by omega)) | exact absurd (nI_lt hj (by omega)) h9, fun _ => rfl, rfl, rfl, rfl⟩)
  · refine z_iload_n C 4 1 1 dX3_partOf_4 rfl rfl ?_
    refine z_aload_n C 5 0 0 dX3_partOf_5 rfl rfl ?_
    refine z_getiv C 6 dX3_partOf_6 gf_X3_9 rfl (by first | assumption | exact Nat.zero_lt_one | exact (show (15 : Nat) < 16 by decide) | omega) he0 ?_
    first | with_reducible refine z_icmp_ltN C 9 14 dX3_partOf_9 (by decide) (by omega) (by omega) (fun h9 => ?_) (fun h9 => ?_) | refine z_icmp_lt C 9 14 dX3_partOf_9 (by decide) (fun h9 => ?_) (fun h9 => ?_)
    · obtain ⟨q, hqe, rfl⟩ := isP_of h1 h9 (by omega)
      refine z_aload_n C 14 0 0 dX3_partOf_14 rfl rfl ?_
      refine z_getiv C 15 dX3_partOf_15 gf_X3_15 rfl (by first | assumption | exact Nat.zero_lt_one | exact (show (15 : Nat) < 16 by decide) | omega) hx1 ?_
      refine z_iconst (v := nI 1) C 18 dX3_partOf_18 (by decide) ?_
      first | with_reducible refine z_isubN C 19 dX3_partOf_19 (by omega) ?_ | refine z_isub C 19 dX3_partOf_19 ?_
      refine z_iload_n C 20 1 1 dX3_partOf_20 rfl rfl ?_
      first | with_reducible refine z_isubN C 21 dX3_partOf_21 (by omega) ?_ | refine z_isub C 21 dX3_partOf_21 ?_
      refine z_bipush (v := nI 24) C 22 dX3_partOf_22 (by decide +kernel) ?_
      first | with_reducible refine z_iaddN C 24 dX3_partOf_24 ?_ | refine z_iadd C 24 dX3_partOf_24 ?_
      refine z_bipush (v := nI 24) C 25 dX3_partOf_25 (by decide +kernel) ?_
      first | with_reducible refine z_iremN C 27 dX3_partOf_27 (by omega) (by omega) (by omega) ?_ | refine z_irem C 27 dX3_partOf_27 (by first | decide | assumption | exact nI_ne0 (by omega) (by omega)) ?_
      refine z_st (st := [.int (nI ((x + 23 - q) % 24))]) (by rw [← pk_rem (by omega) (by omega) (by omega), ← jx hqe he]) ?_
      refine z_istore_n C 28 3 [(3, _), (0, _), (1, _), (2, _)] dX3_partOf_28 rfl (by decide) rfl ?_
      refine z_aload_n C 29 0 1 dX3_partOf_29 rfl rfl ?_
      refine z_getr C 30 dX3_partOf_30 gf_X3_18 rfl (by first | assumption | exact Nat.zero_lt_one | exact (show (15 : Nat) < 16 by decide) | omega) (by first | exact hR _ _ _ _ rfl | exact hR2 _ _ _ _ rfl | assumption) ?_
      refine z_iload_n C 33 3 0 dX3_partOf_33 rfl rfl ?_
      refine z_iconst (v := nI 3) C 34 dX3_partOf_34 (by decide) ?_
      first | with_reducible refine z_imulN C 35 dX3_partOf_35 ?_ | refine z_imul C 35 dX3_partOf_35 ?_
      refine z_iload_n C 36 2 3 dX3_partOf_36 rfl rfl ?_
      first | with_reducible refine z_iaddN C 37 dX3_partOf_37 ?_ | refine z_iadd C 37 dX3_partOf_37 ?_
      refine z_iald C 38 dX3_partOf_38 (by first | rfl | assumption) (by first | assumption | exact Nat.zero_lt_one | exact (show (15 : Nat) < 16 by decide) | omega) (by first | rfl | assumption) (by first | decide | omega) (by first | assumption | omega) ?_
      exact ret 39 _ _ _ _ _ dX3_partOf_39 (by first | rfl | exact bI_n | decide) (⟨fun j hj e => by rw [← (nI_eq (show q < 2 ^ 31 by omega) (by omega)).mp e]; exact hpp q t hqe ht, fun z => absurd ⟨q, hqe, rfl⟩ z, rfl, rfl, rfl⟩)
    · refine z_iconst (v := (-1)) C 12 dX3_partOf_12 (by decide) ?_
      exact ret 13 _ _ _ _ _ dX3_partOf_13 (by first | rfl | exact bI_n | decide) (⟨fun j hj e => by subst e; first | exact absurd h1 (nI_pos (by omega)) | exact absurd (nI_lt hj (by omega)) h9, fun _ => rfl, rfl, rfl, rfl⟩)
def rm_X3_steps : Room := { frames := 0, cells := 0, slots := 0, locals := 0 }
set_option maxHeartbeats 4000000 in
set_option maxRecDepth 100000 in
theorem c_X3_steps {l : Launch} {G : mG} {ad : mA} {S : mS} {L : mL} {R : mR} {v : Nat} (hR : mlk R) (hv : v < 15) : Ki l yX3_steps cX3_steps 3 .int rm_X3_steps G ad mdm [.ref (ad 22 v)] S L R (fun r_ S2 L2 R2 => r_ = smI (fun k => S 24 v (k + 1)) 6 ∧ S = S2 ∧ L = L2 ∧ R = R2) := by
  refine Ki.of RX3 (by decide) rfl (Nat.le_of_ble_eq_true rfl) ?_
  intro X hXl hXG C ret
  subst hXl; subst hXG
  change Z X 3 ad mdm S L R 0 0 0 [(0, _)] []
  refine z_iconst (v := nI 0) C 0 dX3_steps_0 (by decide) ?_
  refine z_istore_n C 1 1 [(1, _), (0, _)] dX3_steps_1 rfl (by decide) rfl ?_
  refine z_iconst (v := nI 1) C 2 dX3_steps_2 (by decide) ?_
  refine z_istore_n C 3 2 [(2, _), (1, _), (0, _)] dX3_steps_3 rfl (by decide) rfl ?_
  have loop_4 : ∀ (n_4 : Nat) (i : Nat) (a : Int32), i ≤ 6 → a = smI (fun k => S 24 v (k + 1)) i → 6 - i < n_4 → Z X 3 ad mdm S L R 0 0 4 [(0, .ref (ad 22 v)), (1, .int a), (2, .int (nI (i + 1)))] [] := by
    intro n_4
    induction n_4 with
    | zero => intro i a hi ha hm4; exact absurd hm4 (Nat.not_lt_zero _)
    | succ n_4 ih4 =>
      intro i a hi ha hm4
      refine z_iload_n C 4 2 2 dX3_steps_4 rfl rfl ?_
      refine z_bipush (v := nI 6) C 5 dX3_steps_5 (by decide +kernel) ?_
      first | with_reducible refine z_icmp_gtN C 7 25 dX3_steps_7 (by decide) (by omega) (by omega) (fun h7 => ?_) (fun h7 => ?_) | refine z_icmp_gt C 7 25 dX3_steps_7 (by decide) (fun h7 => ?_) (fun h7 => ?_)
      · refine z_iload_n C 25 1 1 dX3_steps_25 rfl rfl ?_
        exact ret 26 _ _ _ _ _ dX3_steps_26 (by first | rfl | exact bI_n | decide) (⟨(by rw [ha, show i = 6 by omega]), rfl, rfl, rfl⟩)
      · refine z_iload_n C 10 1 1 dX3_steps_10 rfl rfl ?_
        refine z_aload_n C 11 0 0 dX3_steps_11 rfl rfl ?_
        refine z_getr C 12 dX3_steps_12 gf_X3_22 rfl (by first | assumption | exact Nat.zero_lt_one | exact (show (15 : Nat) < 16 by decide) | omega) (by first | exact hR _ _ _ _ rfl | exact hR2 _ _ _ _ rfl | assumption) ?_
        refine z_iload_n C 15 2 2 dX3_steps_15 rfl rfl ?_
        refine z_iald C 16 dX3_steps_16 (by first | rfl | assumption) (by first | assumption | exact Nat.zero_lt_one | exact (show (15 : Nat) < 16 by decide) | omega) (by first | rfl | assumption) (by first | decide | omega) (by first | assumption | omega) ?_
        first | with_reducible refine z_iaddN C 17 dX3_steps_17 ?_ | refine z_iadd C 17 dX3_steps_17 ?_
        refine z_istore_n C 18 1 [(1, _), (0, _), (2, _)] dX3_steps_18 rfl (by decide) rfl ?_
        refine z_iinc C 19 2 2 [(2, _), (1, _), (0, _)] dX3_steps_19 rfl (by first | exact nI_1 _ | rfl) (by decide) rfl ?_
        refine z_goto C 22 4 dX3_steps_22 (by decide) ?_
        refine z_sub [(0, _), (1, _), (2, _)] [2, 1, 0] rfl ?_
        exact ih4 (i + 1) _ (by omega) (by rw [ha]; rfl) (by omega)
  refine z_sub [(0, _), (1, _), (2, _)] [2, 1, 0] rfl ?_
  exact loop_4 7 0 _ (Nat.zero_le _) rfl (by omega)
