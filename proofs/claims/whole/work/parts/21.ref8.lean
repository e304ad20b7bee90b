def isR (a b : Nat) (x : Int32) : Prop := ∃ k, a ≤ k ∧ k ≤ b ∧ x = nI k
def isP (n : Nat) (x : Int32) : Prop := ∃ p, p < n ∧ x = nI p
theorem isR_iff {a b : Nat} {x : Int32} (ha : a < 2 ^ 31) (hb : b < 2 ^ 31) : (nI a ≤ x ∧ x ≤ nI b) ↔ isR a b x := by
  constructor
  · intro ⟨h1, h2⟩
    have e1 := Int32.le_iff_toInt_le.mp h1
    have e2 := Int32.le_iff_toInt_le.mp h2
    rw [nI_toInt ha] at e1
    rw [nI_toInt hb] at e2
    exact ⟨x.toInt.toNat, by omega, by omega, Int32.toInt_inj.mp (by rw [nI_toInt (by omega)]; omega)⟩
  · intro ⟨k, h1, h2, e⟩
    rw [e]
    exact ⟨nI_le h1 (by omega), nI_le h2 hb⟩
theorem isP_iff {n : Nat} {x : Int32} (hn : n < 2 ^ 31) : (nI 0 ≤ x ∧ x ≤ nI n - nI 1) ↔ isP n x := by
  by_cases h0 : n = 0
  · subst h0
    constructor
    · intro ⟨h1, h2⟩
      have e1 := Int32.le_iff_toInt_le.mp h1
      have e2 := Int32.le_iff_toInt_le.mp h2
      have e3 : (nI 0 - nI 1).toInt = -1 := by decide
      have e4 : (nI 0).toInt = 0 := by decide
      omega
    · intro ⟨p, hp, _⟩
      exact absurd hp (Nat.not_lt_zero _)
  · rw [pk_sub (by omega), isR_iff (by omega) (by omega)]
    constructor
    · intro ⟨k, _, h2, e⟩
      exact ⟨k, by omega, e⟩
    · intro ⟨k, h2, e⟩
      exact ⟨k, Nat.zero_le _, by omega, e⟩
/-- the field thrown set to k, if c -/
noncomputable def thr (S : mS) (c : Prop) (k : Nat) : mS := haveI := Classical.propDecidable; if c then up3 S 40 0 0 (nI k) else S
theorem thr_t {S : mS} {c : Prop} {k : Nat} (h : c) : thr S c k = up3 S 40 0 0 (nI k) := if_pos h
theorem thr_f {S : mS} {c : Prop} {k : Nat} (h : ¬ c) : thr S c k = S := if_neg h
theorem bI_pos {c : Prop} (h : ¬ bI c ≤ 0) : c := Classical.byContradiction fun q => h (by rw [bI_f q]; decide)
theorem bI_T : bI True = nI 1 := bI_t trivial
theorem bI_F : bI False = nI 0 := bI_f (fun z => z)
def fTake (N : NN) (p : Nat) (x : Int32) : NN := fset N p 3 (nI 31 * fo N p 3 + x)
/-- the first of w notices leaves; i of the others have moved up -/
def fLv (N : NN) (p w i : Nat) : NN := fun j => if 388 + 5 * p ≤ j ∧ j < 388 + 5 * p + i then N (j + 1) else fset N p 15 (nI (w - 1)) j
def fLeave (N : NN) (p w : Nat) : NN := fLv N p w (w - 1)
theorem fLv_0 (N : NN) (p w : Nat) : fLv N p w 0 = fset N p 15 (nI (w - 1)) := by
  funext j
  unfold fLv
  rw [if_neg (by omega)]
theorem fLv_fo {N : NN} {p w i q x : Nat} (hq : q < 10) (hx : x < 20) : fo (fLv N p w i) q x = fo (fset N p 15 (nI (w - 1))) q x := by
  unfold fo fLv
  rw [if_neg (by omega)]
theorem fLv_up {N : NN} {p w i : Nat} (hp : p < 10) : upd (fLv N p w i) (388 + 5 * p + i) (fLv N p w i (388 + 5 * p + i + 1)) = fLv N p w (i + 1) := by
  funext j
  have e : fLv N p w i (388 + 5 * p + i + 1) = N (388 + 5 * p + i + 1) := by
    unfold fLv
    rw [if_neg (by omega), fset_hi _ hp (by omega) (by omega)]
  rw [e]
  unfold upd
  by_cases h : j = 388 + 5 * p + i
  · rw [if_pos h]
    unfold fLv
    rw [if_pos (by omega), h]
  · rw [if_neg h]
    unfold fLv
    by_cases h2 : 388 + 5 * p ≤ j ∧ j < 388 + 5 * p + i
    · rw [if_pos h2, if_pos (by omega)]
    · rw [if_neg h2, if_neg (by omega)]
/-- a row of 438 numbers copied from at of one array to into of another, or of the same -/
def cpF (S : mS) (k0 at_ k1 into i : Nat) : NN := fun j => if into ≤ j ∧ j < into + i then S k0 0 (at_ + (j - into)) else S k1 0 j
theorem cp_up {S : mS} {k0 at_ k1 into i : Nat} (hd : k0 ≠ k1 ∨ into + 438 ≤ at_) (hi : i < 438) : up3 (sA S k1 (cpF S k0 at_ k1 into i)) k1 0 (into + i) (sA S k1 (cpF S k0 at_ k1 into i) k0 0 (at_ + i)) = sA S k1 (cpF S k0 at_ k1 into (i + 1)) := by
  have e : sA S k1 (cpF S k0 at_ k1 into i) k0 0 (at_ + i) = S k0 0 (at_ + i) := by
    by_cases h : k0 = k1
    · subst h
      rw [sA_s]
      unfold cpF
      rw [if_neg (by omega)]
    · rw [sA_n _ _ h]
  rw [e, sA_up, sA_sA, sA_s]
  congr 1
  funext j
  unfold upd
  by_cases h : j = into + i
  · rw [if_pos h]
    unfold cpF
    rw [if_pos (by omega), h]
    congr 1
    omega
  · rw [if_neg h]
    unfold cpF
    by_cases h2 : into ≤ j ∧ j < into + i
    · rw [if_pos h2, if_pos (by omega)]
    · rw [if_neg h2, if_neg (by omega)]

def rm_X9_within : Room := { frames := 0, cells := 0, slots := 0, locals := 0 }
set_option maxHeartbeats 4000000 in
set_option maxRecDepth 100000 in
theorem c_X9_within {l : Launch} {G : mG} {ad : mA} {S : mS} {L : mL} {R : mR} {x a b : Int32}  : Ki l yX9_within cX9_within 3 .boolean rm_X9_within G ad mdm [.int x, .int a, .int b] S L R (fun r_ S2 L2 R2 => r_ = bI (a ≤ x ∧ x ≤ b) ∧ S = S2 ∧ L = L2 ∧ R = R2) := by
  refine Ki.of RX9 (by decide) rfl (Nat.le_of_ble_eq_true rfl) ?_
  intro X hXl hXG C ret
  subst hXl; subst hXG
  change Z X 3 ad mdm S L R 0 0 0 [(0, _), (1, _), (2, _)] []
  refine z_iload_n C 0 0 0 dX9_within_0 rfl rfl ?_
  refine z_iload_n C 1 1 1 dX9_within_1 rfl rfl ?_
  first | with_reducible refine z_icmp_ltN C 2 14 dX9_within_2 (by decide) (by omega) (by omega) (fun h2 => ?_) (fun h2 => ?_) | refine z_icmp_lt C 2 14 dX9_within_2 (by decide) (fun h2 => ?_) (fun h2 => ?_)
  · refine z_iconst (v := nI 0) C 14 dX9_within_14 (by decide) ?_
    exact ret 15 _ _ _ _ _ dX9_within_15 (by first | rfl | exact bI_n | decide) (⟨(by first | exact bI_1 ⟨Int32.not_lt.mp h2, Int32.not_lt.mp h7⟩ | exact bI_0 (fun z => absurd z.2 (Int32.not_le.mpr h7)) | exact bI_0 (fun z => absurd z.1 (Int32.not_le.mpr h2))), rfl, rfl, rfl⟩)
  · refine z_iload_n C 5 0 0 dX9_within_5 rfl rfl ?_
    refine z_iload_n C 6 2 2 dX9_within_6 rfl rfl ?_
    first | with_reducible refine z_icmp_gtN C 7 14 dX9_within_7 (by decide) (by omega) (by omega) (fun h7 => ?_) (fun h7 => ?_) | refine z_icmp_gt C 7 14 dX9_within_7 (by decide) (fun h7 => ?_) (fun h7 => ?_)
    · refine z_iconst (v := nI 0) C 14 dX9_within_14 (by decide) ?_
      exact ret 15 _ _ _ _ _ dX9_within_15 (by first | rfl | exact bI_n | decide) (⟨(by first | exact bI_1 ⟨Int32.not_lt.mp h2, Int32.not_lt.mp h7⟩ | exact bI_0 (fun z => absurd z.2 (Int32.not_le.mpr h7)) | exact bI_0 (fun z => absurd z.1 (Int32.not_le.mpr h2))), rfl, rfl, rfl⟩)
    · refine z_iconst (v := nI 1) C 10 dX9_within_10 (by decide) ?_
      refine z_goto C 11 15 dX9_within_11 (by decide) ?_
      exact ret 15 _ _ _ _ _ dX9_within_15 (by first | rfl | exact bI_n | decide) (⟨(by first | exact bI_1 ⟨Int32.not_lt.mp h2, Int32.not_lt.mp h7⟩ | exact bI_0 (fun z => absurd z.2 (Int32.not_le.mpr h7)) | exact bI_0 (fun z => absurd z.1 (Int32.not_le.mpr h2))), rfl, rfl, rfl⟩)
def rm_X9_thrown : Room := { frames := 0, cells := 0, slots := 0, locals := 0 }
set_option maxHeartbeats 4000000 in
set_option maxRecDepth 100000 in
theorem c_X9_thrown {l : Launch} {G : mG} {ad : mA} {S : mS} {L : mL} {R : mR}  (hR : mlk R) : Ki l yX9_thrown cX9_thrown 1 .int rm_X9_thrown G ad mdm [.ref (ad 40 0)] S L R (fun r_ S2 L2 R2 => r_ = S 40 0 0 ∧ S = S2 ∧ L = L2 ∧ R = R2) := by
  refine Ki.of RX9 (by decide) rfl (Nat.le_of_ble_eq_true rfl) ?_
  intro X hXl hXG C ret
  subst hXl; subst hXG
  change Z X 1 ad mdm S L R 0 0 0 [(0, _)] []
  refine z_aload_n C 0 0 0 dX9_thrown_0 rfl rfl ?_
  refine z_geti C 1 dX9_thrown_1 gf_X9_65 rfl (by first | assumption | exact Nat.zero_lt_one | omega) ?_
  exact ret 4 _ _ _ _ _ dX9_thrown_4 (by first | rfl | exact bI_n | decide) (⟨by first | rfl | assumption | (simp; done), rfl, rfl, rfl⟩)
def rm_X9_throwsIf : Room := { frames := 0, cells := 0, slots := 0, locals := 0 }
set_option maxHeartbeats 4000000 in
set_option maxRecDepth 100000 in
theorem c_X9_throwsIf {l : Launch} {G : mG} {ad : mA} {S : mS} {L : mL} {R : mR} {P : Prop} {k : Nat} (hR : mlk R) (h0 : S 40 0 0 = 0) (hk : 0 < k) (hk3 : k < 3) : Ki l yX9_throwsIf cX9_throwsIf 3 .boolean rm_X9_throwsIf G ad mdm [.ref (ad 40 0), .int (bI P), .int (nI k)] S L R (fun r_ S2 L2 R2 => r_ = bI P ∧ thr S P k = S2 ∧ L = L2 ∧ R = R2) := by
  refine Ki.of RX9 (by decide) rfl (Nat.le_of_ble_eq_true rfl) ?_
  intro X hXl hXG C ret
  subst hXl; subst hXG
  change Z X 3 ad mdm S L R 0 0 0 [(0, _), (1, _), (2, _)] []
  refine z_aload_n C 0 0 0 dX9_throwsIf_0 rfl rfl ?_
  refine z_geti C 1 dX9_throwsIf_1 gf_X9_65 rfl (by first | assumption | exact Nat.zero_lt_one | omega) ?_
  first | with_reducible refine z_if_neB C 4 16 dX9_throwsIf_4 (by decide) (fun h4 => absurd h0 h4) (fun h4 => ?_) | with_reducible refine z_if_neN C 4 16 dX9_throwsIf_4 (by decide) (by omega) (fun h4 => absurd h0 h4) (fun h4 => ?_) | refine z_if_ne C 4 16 dX9_throwsIf_4 (by decide) (fun h4 => absurd h0 h4) (fun h4 => ?_)
  · refine z_iload_n C 7 1 1 dX9_throwsIf_7 rfl rfl ?_
    first | with_reducible refine z_if_eqB C 8 16 dX9_throwsIf_8 (by decide) (fun h8 => ?_) (fun h8 => ?_) | with_reducible refine z_if_eqN C 8 16 dX9_throwsIf_8 (by decide) (by omega) (fun h8 => ?_) (fun h8 => ?_) | refine z_if_eq C 8 16 dX9_throwsIf_8 (by decide) (fun h8 => ?_) (fun h8 => ?_)
    · refine z_aload_n C 16 0 0 dX9_throwsIf_16 rfl rfl ?_
      refine z_geti C 17 dX9_throwsIf_17 gf_X9_65 rfl (by first | assumption | exact Nat.zero_lt_one | omega) ?_
      first | with_reducible refine z_if_leN C 20 27 dX9_throwsIf_20 (by decide) (by omega) (fun h20 => ?_) (fun h20 => by rw [h0] at h20; exact absurd (by decide) h20) | refine z_if_le C 20 27 dX9_throwsIf_20 (by decide) (fun h20 => ?_) (fun h20 => by rw [h0] at h20; exact absurd (by decide) h20)
      · refine z_iconst (v := nI 0) C 27 dX9_throwsIf_27 (by decide) ?_
        exact ret 28 _ _ _ _ _ dX9_throwsIf_28 (by first | rfl | exact bI_n | decide) (⟨(by first | exact bI_1 h8 | exact bI_0 h8), (by first | exact thr_t h8 | exact thr_f h8), rfl, rfl⟩)
    · refine z_aload_n C 11 0 0 dX9_throwsIf_11 rfl rfl ?_
      refine z_iload_n C 12 2 2 dX9_throwsIf_12 rfl rfl ?_
      refine z_puti C 13 dX9_throwsIf_13 gf_X9_65 ⟨rfl, rfl⟩ rfl (by first | assumption | exact Nat.zero_lt_one | omega) ?_
      refine z_aload_n C 16 0 0 dX9_throwsIf_16 rfl rfl ?_
      refine z_geti C 17 dX9_throwsIf_17 gf_X9_65 rfl (by first | assumption | exact Nat.zero_lt_one | omega) ?_
      first | with_reducible refine z_if_leN C 20 27 dX9_throwsIf_20 (by decide) (by omega) (fun h20 => by first | (rcases (show k = 1 ∨ k = 2 by omega) with rfl | rfl <;> (rw [up3_s] at h20; exact absurd h20 (by decide)))) (fun h20 => ?_) | refine z_if_le C 20 27 dX9_throwsIf_20 (by decide) (fun h20 => by first | (rcases (show k = 1 ∨ k = 2 by omega) with rfl | rfl <;> (rw [up3_s] at h20; exact absurd h20 (by decide)))) (fun h20 => ?_)
      · refine z_iconst (v := nI 1) C 23 dX9_throwsIf_23 (by decide) ?_
        refine z_goto C 24 28 dX9_throwsIf_24 (by decide) ?_
        exact ret 28 _ _ _ _ _ dX9_throwsIf_28 (by first | rfl | exact bI_n | decide) (⟨(by first | exact bI_1 h8 | exact bI_0 h8), (by first | exact thr_t h8 | exact thr_f h8), rfl, rfl⟩)
def rm_X9_no : Room := { frames := 1, cells := 0, slots := 0, locals := 22 }
set_option maxHeartbeats 4000000 in
set_option maxRecDepth 100000 in
theorem c_X9_no {l : Launch} {G : mG} {ad : mA} {S : mS} {L : mL} {R : mR} {x : Int32} {b : Nat} (hR : mlk R) (h0 : S 40 0 0 = 0) (hb : b ≤ 10) : Ki l yX9_no cX9_no 3 .boolean rm_X9_no G ad mdm [.ref (ad 40 0), .int x, .int (nI b)] S L R (fun r_ S2 L2 R2 => r_ = bI (¬ isP b x) ∧ thr S (¬ isP b x) 1 = S2 ∧ L = L2 ∧ R = R2) := by
  refine Ki.of RX9 (by decide) rfl (Nat.le_of_ble_eq_true rfl) ?_
  intro X hXl hXG C ret
  subst hXl; subst hXG
  change Z X 3 ad mdm S L R 0 0 0 [(0, _), (1, _), (2, _)] []
  refine z_aload_n C 0 0 0 dX9_no_0 rfl rfl ?_
  refine z_iload_n C 1 1 1 dX9_no_1 rfl rfl ?_
  refine z_iconst (v := nI 0) C 2 dX9_no_2 (by decide) ?_
  refine z_iload_n C 3 2 2 dX9_no_3 rfl rfl ?_
  refine z_iconst (v := nI 1) C 4 dX9_no_4 (by decide) ?_
  refine z_isub C 5 dX9_no_5 ?_
  refine z_cSi0 C 6 dX9_no_6 cs_X9_89 (c_X9_within ) rfl rfl (Nat.le_of_ble_eq_true rfl) ⟨by decide, by decide⟩ ⟨rfl, rfl⟩ ⟨by decide, by decide⟩ ?_
  intro r6 S6 L6 R6 p6
  obtain ⟨rfl, rfl, rfl, rfl⟩ := p6
  first | with_reducible refine z_if_neB C 9 16 dX9_no_9 (by decide) (fun h9 => ?_) (fun h9 => ?_) | with_reducible refine z_if_neN C 9 16 dX9_no_9 (by decide) (by omega) (fun h9 => ?_) (fun h9 => ?_) | refine z_if_ne C 9 16 dX9_no_9 (by decide) (fun h9 => ?_) (fun h9 => ?_)
  · have hz : isP b x := (isP_iff (by omega)).mp h9
    refine z_iconst (v := nI 0) C 16 dX9_no_16 (by decide) ?_
    first | rw [show (Value.int (nI 1)) = Value.int (bI (¬ isP b x)) from congrArg Value.int (bI_1 hz)] | rw [show (Value.int (nI 0)) = Value.int (bI (¬ isP b x)) from congrArg Value.int (bI_0 (not_not_intro hz))]
    refine z_iconst (v := nI 1) C 17 dX9_no_17 (by decide) ?_
    refine z_cVi0 C 18 dX9_no_18 cv_X9_185 (c_X9_throwsIf hR (by first | assumption | rfl) (by decide) (by decide)) rfl ⟨by decide, rfl⟩ (by first | assumption | exact Nat.zero_lt_one | omega) rfl rfl (Nat.le_of_ble_eq_true rfl) ⟨by decide, by decide⟩ ⟨rfl, rfl⟩ ⟨by decide, by decide⟩ ?_
    intro r18 S18 L18 R18 p18
    obtain ⟨rfl, rfl, rfl, rfl⟩ := p18
    exact ret 21 _ _ _ _ _ dX9_no_21 (by first | rfl | exact bI_n | decide) (⟨rfl, rfl, rfl, rfl⟩)
  · have hz : ¬ isP b x := fun z => h9 ((isP_iff (by omega)).mpr z)
    refine z_iconst (v := nI 1) C 12 dX9_no_12 (by decide) ?_
    refine z_goto C 13 17 dX9_no_13 (by decide) ?_
    first | rw [show (Value.int (nI 1)) = Value.int (bI (¬ isP b x)) from congrArg Value.int (bI_1 hz)] | rw [show (Value.int (nI 0)) = Value.int (bI (¬ isP b x)) from congrArg Value.int (bI_0 (not_not_intro hz))]
    refine z_iconst (v := nI 1) C 17 dX9_no_17 (by decide) ?_
    refine z_cVi0 C 18 dX9_no_18 cv_X9_185 (c_X9_throwsIf hR (by first | assumption | rfl) (by decide) (by decide)) rfl ⟨by decide, rfl⟩ (by first | assumption | exact Nat.zero_lt_one | omega) rfl rfl (Nat.le_of_ble_eq_true rfl) ⟨by decide, by decide⟩ ⟨rfl, rfl⟩ ⟨by decide, by decide⟩ ?_
    intro r18 S18 L18 R18 p18
    obtain ⟨rfl, rfl, rfl, rfl⟩ := p18
    exact ret 21 _ _ _ _ _ dX9_no_21 (by first | rfl | exact bI_n | decide) (⟨rfl, rfl, rfl, rfl⟩)

set_option maxHeartbeats 4000000 in
set_option maxRecDepth 100000 in
theorem c_X9_throwsIf_0 {l : Launch} {G : mG} {ad : mA} {S : mS} {L : mL} {R : mR} {k : Nat} (hR : mlk R) (h0 : S 40 0 0 = 0) : Ki l yX9_throwsIf cX9_throwsIf 3 .boolean rm_X9_throwsIf G ad mdm [.ref (ad 40 0), .int (nI 0), .int (nI k)] S L R (fun r_ S2 L2 R2 => r_ = nI 0 ∧ S = S2 ∧ L = L2 ∧ R = R2) := by
  refine Ki.of RX9 (by decide) rfl (Nat.le_of_ble_eq_true rfl) ?_
  intro X hXl hXG C ret
  subst hXl; subst hXG
  change Z X 3 ad mdm S L R 0 0 0 [(0, _), (1, _), (2, _)] []
  refine z_aload_n C 0 0 0 dX9_throwsIf_0 rfl rfl ?_
  refine z_geti C 1 dX9_throwsIf_1 gf_X9_65 rfl (by first | assumption | exact Nat.zero_lt_one | omega) ?_
  first | with_reducible refine z_if_neB C 4 16 dX9_throwsIf_4 (by decide) (fun h4 => absurd h0 h4) (fun h4 => ?_) | with_reducible refine z_if_neN C 4 16 dX9_throwsIf_4 (by decide) (by omega) (fun h4 => absurd h0 h4) (fun h4 => ?_) | refine z_if_ne C 4 16 dX9_throwsIf_4 (by decide) (fun h4 => absurd h0 h4) (fun h4 => ?_)
  · refine z_iload_n C 7 1 1 dX9_throwsIf_7 rfl rfl ?_
    first | with_reducible refine z_if_eqB C 8 16 dX9_throwsIf_8 (by decide) (fun h8 => ?_) (fun h8 => by omega) | with_reducible refine z_if_eqN C 8 16 dX9_throwsIf_8 (by decide) (by omega) (fun h8 => ?_) (fun h8 => by omega) | refine z_if_eq C 8 16 dX9_throwsIf_8 (by decide) (fun h8 => ?_) (fun h8 => by omega)
    · refine z_aload_n C 16 0 0 dX9_throwsIf_16 rfl rfl ?_
      refine z_geti C 17 dX9_throwsIf_17 gf_X9_65 rfl (by first | assumption | exact Nat.zero_lt_one | omega) ?_
      first | with_reducible refine z_if_leN C 20 27 dX9_throwsIf_20 (by decide) (by omega) (fun h20 => ?_) (fun h20 => by rw [h0] at h20; exact absurd (by decide) h20) | refine z_if_le C 20 27 dX9_throwsIf_20 (by decide) (fun h20 => ?_) (fun h20 => by rw [h0] at h20; exact absurd (by decide) h20)
      · refine z_iconst (v := nI 0) C 27 dX9_throwsIf_27 (by decide) ?_
        exact ret 28 _ _ _ _ _ dX9_throwsIf_28 (by first | rfl | exact bI_n | decide) (⟨by first | rfl | assumption | (simp; done), rfl, rfl, rfl⟩)

set_option maxHeartbeats 4000000 in
set_option maxRecDepth 100000 in
theorem c_X9_throwsIf_1 {l : Launch} {G : mG} {ad : mA} {S : mS} {L : mL} {R : mR} {k : Nat} (hR : mlk R) (h0 : S 40 0 0 = 0) (hk : 0 < k) (hk3 : k < 3) : Ki l yX9_throwsIf cX9_throwsIf 3 .boolean rm_X9_throwsIf G ad mdm [.ref (ad 40 0), .int (nI 1), .int (nI k)] S L R (fun r_ S2 L2 R2 => r_ = nI 1 ∧ up3 S 40 0 0 (nI k) = S2 ∧ L = L2 ∧ R = R2) := by
  refine Ki.of RX9 (by decide) rfl (Nat.le_of_ble_eq_true rfl) ?_
  intro X hXl hXG C ret
  subst hXl; subst hXG
  change Z X 3 ad mdm S L R 0 0 0 [(0, _), (1, _), (2, _)] []
  refine z_aload_n C 0 0 0 dX9_throwsIf_0 rfl rfl ?_
  refine z_geti C 1 dX9_throwsIf_1 gf_X9_65 rfl (by first | assumption | exact Nat.zero_lt_one | omega) ?_
  first | with_reducible refine z_if_neB C 4 16 dX9_throwsIf_4 (by decide) (fun h4 => absurd h0 h4) (fun h4 => ?_) | with_reducible refine z_if_neN C 4 16 dX9_throwsIf_4 (by decide) (by omega) (fun h4 => absurd h0 h4) (fun h4 => ?_) | refine z_if_ne C 4 16 dX9_throwsIf_4 (by decide) (fun h4 => absurd h0 h4) (fun h4 => ?_)
  · refine z_iload_n C 7 1 1 dX9_throwsIf_7 rfl rfl ?_
    first | with_reducible refine z_if_eqB C 8 16 dX9_throwsIf_8 (by decide) (fun h8 => by omega) (fun h8 => ?_) | with_reducible refine z_if_eqN C 8 16 dX9_throwsIf_8 (by decide) (by omega) (fun h8 => by omega) (fun h8 => ?_) | refine z_if_eq C 8 16 dX9_throwsIf_8 (by decide) (fun h8 => by omega) (fun h8 => ?_)
    · refine z_aload_n C 11 0 0 dX9_throwsIf_11 rfl rfl ?_
      refine z_iload_n C 12 2 2 dX9_throwsIf_12 rfl rfl ?_
      refine z_puti C 13 dX9_throwsIf_13 gf_X9_65 ⟨rfl, rfl⟩ rfl (by first | assumption | exact Nat.zero_lt_one | omega) ?_
      refine z_aload_n C 16 0 0 dX9_throwsIf_16 rfl rfl ?_
      refine z_geti C 17 dX9_throwsIf_17 gf_X9_65 rfl (by first | assumption | exact Nat.zero_lt_one | omega) ?_
      first | with_reducible refine z_if_leN C 20 27 dX9_throwsIf_20 (by decide) (by omega) (fun h20 => by rcases (show k = 1 ∨ k = 2 by omega) with rfl | rfl <;> (rw [up3_s] at h20; exact absurd h20 (by decide))) (fun h20 => ?_) | refine z_if_le C 20 27 dX9_throwsIf_20 (by decide) (fun h20 => by rcases (show k = 1 ∨ k = 2 by omega) with rfl | rfl <;> (rw [up3_s] at h20; exact absurd h20 (by decide))) (fun h20 => ?_)
      · refine z_iconst (v := nI 1) C 23 dX9_throwsIf_23 (by decide) ?_
        refine z_goto C 24 28 dX9_throwsIf_24 (by decide) ?_
        exact ret 28 _ _ _ _ _ dX9_throwsIf_28 (by first | rfl | exact bI_n | decide) (⟨by first | rfl | assumption | (simp; done), rfl, rfl, rfl⟩)

set_option maxHeartbeats 4000000 in
set_option maxRecDepth 100000 in
theorem c_X9_within_1 {l : Launch} {G : mG} {ad : mA} {S : mS} {L : mL} {R : mR} {a b k : Nat} (h1 : a ≤ k) (h2 : k ≤ b) (h3 : b < 2 ^ 31) : Ki l yX9_within cX9_within 3 .boolean rm_X9_within G ad mdm [.int (nI k), .int (nI a), .int (nI b)] S L R (fun r_ S2 L2 R2 => r_ = nI 1 ∧ S = S2 ∧ L = L2 ∧ R = R2) := by
  refine Ki.of RX9 (by decide) rfl (Nat.le_of_ble_eq_true rfl) ?_
  intro X hXl hXG C ret
  subst hXl; subst hXG
  change Z X 3 ad mdm S L R 0 0 0 [(0, _), (1, _), (2, _)] []
  refine z_iload_n C 0 0 0 dX9_within_0 rfl rfl ?_
  refine z_iload_n C 1 1 1 dX9_within_1 rfl rfl ?_
  first | with_reducible refine z_icmp_ltN C 2 14 dX9_within_2 (by decide) (by omega) (by omega) (fun h2 => by omega) (fun h2 => ?_) | refine z_icmp_lt C 2 14 dX9_within_2 (by decide) (fun h2 => by omega) (fun h2 => ?_)
  · refine z_iload_n C 5 0 0 dX9_within_5 rfl rfl ?_
    refine z_iload_n C 6 2 2 dX9_within_6 rfl rfl ?_
    first | with_reducible refine z_icmp_gtN C 7 14 dX9_within_7 (by decide) (by omega) (by omega) (fun h7 => by omega) (fun h7 => ?_) | refine z_icmp_gt C 7 14 dX9_within_7 (by decide) (fun h7 => by omega) (fun h7 => ?_)
    · refine z_iconst (v := nI 1) C 10 dX9_within_10 (by decide) ?_
      refine z_goto C 11 15 dX9_within_11 (by decide) ?_
      exact ret 15 _ _ _ _ _ dX9_within_15 (by first | rfl | exact bI_n | decide) (⟨by first | rfl | assumption | (simp; done), rfl, rfl, rfl⟩)

set_option maxHeartbeats 4000000 in
set_option maxRecDepth 100000 in
theorem c_X9_within_0 {l : Launch} {G : mG} {ad : mA} {S : mS} {L : mL} {R : mR} {x : Int32} {a b : Nat} (h0 : ¬ isR a b x) (ha : a < 2 ^ 31) (hb : b < 2 ^ 31) : Ki l yX9_within cX9_within 3 .boolean rm_X9_within G ad mdm [.int x, .int (nI a), .int (nI b)] S L R (fun r_ S2 L2 R2 => r_ = nI 0 ∧ S = S2 ∧ L = L2 ∧ R = R2) := by
  refine Ki.of RX9 (by decide) rfl (Nat.le_of_ble_eq_true rfl) ?_
  intro X hXl hXG C ret
  subst hXl; subst hXG
  change Z X 3 ad mdm S L R 0 0 0 [(0, _), (1, _), (2, _)] []
  refine z_iload_n C 0 0 0 dX9_within_0 rfl rfl ?_
  refine z_iload_n C 1 1 1 dX9_within_1 rfl rfl ?_
  first | with_reducible refine z_icmp_ltN C 2 14 dX9_within_2 (by decide) (by omega) (by omega) (fun h2 => ?_) (fun h2 => ?_) | refine z_icmp_lt C 2 14 dX9_within_2 (by decide) (fun h2 => ?_) (fun h2 => ?_)
  · refine z_iconst (v := nI 0) C 14 dX9_within_14 (by decide) ?_
    exact ret 15 _ _ _ _ _ dX9_within_15 (by first | rfl | exact bI_n | decide) (⟨by first | rfl | assumption | (simp; done), rfl, rfl, rfl⟩)
  · refine z_iload_n C 5 0 0 dX9_within_5 rfl rfl ?_
    refine z_iload_n C 6 2 2 dX9_within_6 rfl rfl ?_
    first | with_reducible refine z_icmp_gtN C 7 14 dX9_within_7 (by decide) (by omega) (by omega) (fun h7 => ?_) (fun h7 => absurd ((isR_iff ha hb).mp ⟨Int32.not_lt.mp h2, Int32.not_lt.mp h7⟩) h0) | refine z_icmp_gt C 7 14 dX9_within_7 (by decide) (fun h7 => ?_) (fun h7 => absurd ((isR_iff ha hb).mp ⟨Int32.not_lt.mp h2, Int32.not_lt.mp h7⟩) h0)
    · refine z_iconst (v := nI 0) C 14 dX9_within_14 (by decide) ?_
      exact ret 15 _ _ _ _ _ dX9_within_15 (by first | rfl | exact bI_n | decide) (⟨by first | rfl | assumption | (simp; done), rfl, rfl, rfl⟩)

set_option maxHeartbeats 4000000 in
set_option maxRecDepth 100000 in
theorem c_X9_no_0 {l : Launch} {G : mG} {ad : mA} {S : mS} {L : mL} {R : mR} {p b : Nat} (hR : mlk R) (h0 : S 40 0 0 = 0) (hp : p < b) (hb : b ≤ 10) : Ki l yX9_no cX9_no 3 .boolean rm_X9_no G ad mdm [.ref (ad 40 0), .int (nI p), .int (nI b)] S L R (fun r_ S2 L2 R2 => r_ = nI 0 ∧ S = S2 ∧ L = L2 ∧ R = R2) := by
  refine Ki.of RX9 (by decide) rfl (Nat.le_of_ble_eq_true rfl) ?_
  intro X hXl hXG C ret
  subst hXl; subst hXG
  change Z X 3 ad mdm S L R 0 0 0 [(0, _), (1, _), (2, _)] []
  refine z_aload_n C 0 0 0 dX9_no_0 rfl rfl ?_
  refine z_iload_n C 1 1 1 dX9_no_1 rfl rfl ?_
  refine z_iconst (v := nI 0) C 2 dX9_no_2 (by decide) ?_
  refine z_iload_n C 3 2 2 dX9_no_3 rfl rfl ?_
  refine z_iconst (v := nI 1) C 4 dX9_no_4 (by decide) ?_
  first | with_reducible refine z_isubN C 5 dX9_no_5 (by omega) ?_ | refine z_isub C 5 dX9_no_5 ?_
  refine z_cSi0 C 6 dX9_no_6 cs_X9_89 (c_X9_within_1 (by omega) (by omega) (by first | decide | omega)) rfl rfl (Nat.le_of_ble_eq_true rfl) ⟨by decide, by decide⟩ ⟨rfl, rfl⟩ ⟨by decide, by decide⟩ ?_
  intro r6 S6 L6 R6 p6
  obtain ⟨rfl, rfl, rfl, rfl⟩ := p6
  first | with_reducible refine z_if_neB C 9 16 dX9_no_9 (by decide) (fun h9 => ?_) (fun h9 => by omega) | with_reducible refine z_if_neN C 9 16 dX9_no_9 (by decide) (by omega) (fun h9 => ?_) (fun h9 => by omega) | refine z_if_ne C 9 16 dX9_no_9 (by decide) (fun h9 => ?_) (fun h9 => by omega)
  · refine z_iconst (v := nI 0) C 16 dX9_no_16 (by decide) ?_
    refine z_iconst (v := nI 1) C 17 dX9_no_17 (by decide) ?_
    refine z_cVi0 C 18 dX9_no_18 cv_X9_185 (c_X9_throwsIf_0 hR (by first | assumption | rfl)) rfl ⟨by decide, rfl⟩ (by first | assumption | exact Nat.zero_lt_one | omega) rfl rfl (Nat.le_of_ble_eq_true rfl) ⟨by decide, by decide⟩ ⟨rfl, rfl⟩ ⟨by decide, by decide⟩ ?_
    intro r18 S18 L18 R18 p18
    obtain ⟨rfl, rfl, rfl, rfl⟩ := p18
    exact ret 21 _ _ _ _ _ dX9_no_21 (by first | rfl | exact bI_n | decide) (⟨by first | rfl | assumption | (simp; done), rfl, rfl, rfl⟩)

set_option maxHeartbeats 4000000 in
set_option maxRecDepth 100000 in
theorem c_X9_no_1 {l : Launch} {G : mG} {ad : mA} {S : mS} {L : mL} {R : mR} {x : Int32} {b : Nat} (hR : mlk R) (h0 : S 40 0 0 = 0) (hx : ¬ isP b x) (hb : b ≤ 10) : Ki l yX9_no cX9_no 3 .boolean rm_X9_no G ad mdm [.ref (ad 40 0), .int x, .int (nI b)] S L R (fun r_ S2 L2 R2 => r_ = nI 1 ∧ up3 S 40 0 0 (nI 1) = S2 ∧ L = L2 ∧ R = R2) := by
  refine Ki.of RX9 (by decide) rfl (Nat.le_of_ble_eq_true rfl) ?_
  intro X hXl hXG C ret
  subst hXl; subst hXG
  change Z X 3 ad mdm S L R 0 0 0 [(0, _), (1, _), (2, _)] []
  refine z_aload_n C 0 0 0 dX9_no_0 rfl rfl ?_
  refine z_iload_n C 1 1 1 dX9_no_1 rfl rfl ?_
  refine z_iconst (v := nI 0) C 2 dX9_no_2 (by decide) ?_
  refine z_iload_n C 3 2 2 dX9_no_3 rfl rfl ?_
  refine z_iconst (v := nI 1) C 4 dX9_no_4 (by decide) ?_
  refine z_isub C 5 dX9_no_5 ?_
  refine z_cSi0 C 6 dX9_no_6 cs_X9_89 (c_X9_within ) rfl rfl (Nat.le_of_ble_eq_true rfl) ⟨by decide, by decide⟩ ⟨rfl, rfl⟩ ⟨by decide, by decide⟩ ?_
  intro r6 S6 L6 R6 p6
  obtain ⟨rfl, rfl, rfl, rfl⟩ := p6
  first | with_reducible refine z_if_neB C 9 16 dX9_no_9 (by decide) (fun h9 => absurd ((isP_iff (by omega)).mp h9) hx) (fun h9 => ?_) | with_reducible refine z_if_neN C 9 16 dX9_no_9 (by decide) (by omega) (fun h9 => absurd ((isP_iff (by omega)).mp h9) hx) (fun h9 => ?_) | refine z_if_ne C 9 16 dX9_no_9 (by decide) (fun h9 => absurd ((isP_iff (by omega)).mp h9) hx) (fun h9 => ?_)
  · refine z_iconst (v := nI 1) C 12 dX9_no_12 (by decide) ?_
    refine z_goto C 13 17 dX9_no_13 (by decide) ?_
    refine z_iconst (v := nI 1) C 17 dX9_no_17 (by decide) ?_
    refine z_cVi0 C 18 dX9_no_18 cv_X9_185 (c_X9_throwsIf_1 hR (by first | assumption | rfl) (by decide) (by decide)) rfl ⟨by decide, rfl⟩ (by first | assumption | exact Nat.zero_lt_one | omega) rfl rfl (Nat.le_of_ble_eq_true rfl) ⟨by decide, by decide⟩ ⟨rfl, rfl⟩ ⟨by decide, by decide⟩ ?_
    intro r18 S18 L18 R18 p18
    obtain ⟨rfl, rfl, rfl, rfl⟩ := p18
    exact ret 21 _ _ _ _ _ dX9_no_21 (by first | rfl | exact bI_n | decide) (⟨by first | rfl | assumption | (simp; done), rfl, rfl, rfl⟩)
def rm_X9_noProgram : Room := { frames := 2, cells := 0, slots := 0, locals := 44 }
set_option maxHeartbeats 4000000 in
set_option maxRecDepth 100000 in
theorem c_X9_noProgram {l : Launch} {G : mG} {ad : mA} {S : mS} {L : mL} {R : mR} {n p : Nat} (hR : mlk R) (hn : S 40 0 1 = nI n) (hn10 : n ≤ 10) (hp : p < n) : Ki l yX9_noProgram cX9_noProgram 2 .boolean rm_X9_noProgram G ad mdm [.ref (ad 40 0), .int (nI p)] S L R (fun r_ S2 L2 R2 => r_ = nI 0 ∧ up3 S 40 0 0 (nI 0) = S2 ∧ L = L2 ∧ R = R2) := by
  refine Ki.of RX9 (by decide) rfl (Nat.le_of_ble_eq_true rfl) ?_
  intro X hXl hXG C ret
  subst hXl; subst hXG
  change Z X 2 ad mdm S L R 0 0 0 [(0, _), (1, _)] []
  refine z_aload_n C 0 0 0 dX9_noProgram_0 rfl rfl ?_
  refine z_iconst (v := nI 0) C 1 dX9_noProgram_1 (by decide) ?_
  refine z_puti C 2 dX9_noProgram_2 gf_X9_65 ⟨rfl, rfl⟩ rfl (by first | assumption | exact Nat.zero_lt_one | omega) ?_
  refine z_aload_n C 5 0 0 dX9_noProgram_5 rfl rfl ?_
  refine z_iload_n C 6 1 1 dX9_noProgram_6 rfl rfl ?_
  refine z_aload_n C 7 0 0 dX9_noProgram_7 rfl rfl ?_
  refine z_getiv C 8 dX9_noProgram_8 gf_X9_197 rfl (by first | assumption | exact Nat.zero_lt_one | omega) hn ?_
  refine z_cVi0 C 11 dX9_noProgram_11 cv_X9_288 (c_X9_no_0 hR (by rfl) hp hn10) rfl ⟨by decide, rfl⟩ (by first | assumption | exact Nat.zero_lt_one | omega) rfl rfl (Nat.le_of_ble_eq_true rfl) ⟨by decide, by decide⟩ ⟨rfl, rfl⟩ ⟨by decide, by decide⟩ ?_
  intro r11 S11 L11 R11 p11
  obtain ⟨rfl, rfl, rfl, rfl⟩ := p11
  exact ret 14 _ _ _ _ _ dX9_noProgram_14 (by first | rfl | exact bI_n | decide) (⟨by first | rfl | assumption | (simp; done), rfl, rfl, rfl⟩)

set_option maxHeartbeats 4000000 in
set_option maxRecDepth 100000 in
theorem c_X9_noProgram_1 {l : Launch} {G : mG} {ad : mA} {S : mS} {L : mL} {R : mR} {n : Nat} {x : Int32} (hR : mlk R) (hn : S 40 0 1 = nI n) (hn10 : n ≤ 10) (hx : ¬ isP n x) : Ki l yX9_noProgram cX9_noProgram 2 .boolean rm_X9_noProgram G ad mdm [.ref (ad 40 0), .int x] S L R (fun r_ S2 L2 R2 => r_ = nI 1 ∧ up3 S 40 0 0 (nI 1) = S2 ∧ L = L2 ∧ R = R2) := by
  refine Ki.of RX9 (by decide) rfl (Nat.le_of_ble_eq_true rfl) ?_
  intro X hXl hXG C ret
  subst hXl; subst hXG
  change Z X 2 ad mdm S L R 0 0 0 [(0, _), (1, _)] []
  refine z_aload_n C 0 0 0 dX9_noProgram_0 rfl rfl ?_
  refine z_iconst (v := nI 0) C 1 dX9_noProgram_1 (by decide) ?_
  refine z_puti C 2 dX9_noProgram_2 gf_X9_65 ⟨rfl, rfl⟩ rfl (by first | assumption | exact Nat.zero_lt_one | omega) ?_
  refine z_aload_n C 5 0 0 dX9_noProgram_5 rfl rfl ?_
  refine z_iload_n C 6 1 1 dX9_noProgram_6 rfl rfl ?_
  refine z_aload_n C 7 0 0 dX9_noProgram_7 rfl rfl ?_
  refine z_getiv C 8 dX9_noProgram_8 gf_X9_197 rfl (by first | assumption | exact Nat.zero_lt_one | omega) hn ?_
  refine z_cVi0 C 11 dX9_noProgram_11 cv_X9_288 (c_X9_no_1 hR (by rfl) hx hn10) rfl ⟨by decide, rfl⟩ (by first | assumption | exact Nat.zero_lt_one | omega) rfl rfl (Nat.le_of_ble_eq_true rfl) ⟨by decide, by decide⟩ ⟨rfl, rfl⟩ ⟨by decide, by decide⟩ ?_
  intro r11 S11 L11 R11 p11
  obtain ⟨rfl, rfl, rfl, rfl⟩ := p11
  exact ret 14 _ _ _ _ _ dX9_noProgram_14 (by first | rfl | exact bI_n | decide) (⟨rfl, (up3_up3 _ _ _ _ _ _).symm, rfl, rfl⟩)
def rm_X9_noSlot : Room := { frames := 2, cells := 0, slots := 0, locals := 44 }
set_option maxHeartbeats 4000000 in
set_option maxRecDepth 100000 in
theorem c_X9_noSlot {l : Launch} {G : mG} {ad : mA} {S : mS} {L : mL} {R : mR} {p : Nat} (hR : mlk R) (hp : p < 2) : Ki l yX9_noSlot cX9_noSlot 2 .boolean rm_X9_noSlot G ad mdm [.ref (ad 40 0), .int (nI p)] S L R (fun r_ S2 L2 R2 => r_ = nI 0 ∧ up3 S 40 0 0 (nI 0) = S2 ∧ L = L2 ∧ R = R2) := by
  refine Ki.of RX9 (by decide) rfl (Nat.le_of_ble_eq_true rfl) ?_
  intro X hXl hXG C ret
  subst hXl; subst hXG
  change Z X 2 ad mdm S L R 0 0 0 [(0, _), (1, _)] []
  refine z_aload_n C 0 0 0 dX9_noSlot_0 rfl rfl ?_
  refine z_iconst (v := nI 0) C 1 dX9_noSlot_1 (by decide) ?_
  refine z_puti C 2 dX9_noSlot_2 gf_X9_65 ⟨rfl, rfl⟩ rfl (by first | assumption | exact Nat.zero_lt_one | omega) ?_
  refine z_aload_n C 5 0 0 dX9_noSlot_5 rfl rfl ?_
  refine z_iload_n C 6 1 1 dX9_noSlot_6 rfl rfl ?_
  refine z_iconst (v := nI 2) C 7 dX9_noSlot_7 (by decide) ?_
  refine z_cVi0 C 8 dX9_noSlot_8 cv_X9_288 (c_X9_no_0 hR (by rfl) hp (by decide)) rfl ⟨by decide, rfl⟩ (by first | assumption | exact Nat.zero_lt_one | omega) rfl rfl (Nat.le_of_ble_eq_true rfl) ⟨by decide, by decide⟩ ⟨rfl, rfl⟩ ⟨by decide, by decide⟩ ?_
  intro r8 S8 L8 R8 p8
  obtain ⟨rfl, rfl, rfl, rfl⟩ := p8
  exact ret 11 _ _ _ _ _ dX9_noSlot_11 (by first | rfl | exact bI_n | decide) (⟨by first | rfl | assumption | (simp; done), rfl, rfl, rfl⟩)

set_option maxHeartbeats 4000000 in
set_option maxRecDepth 100000 in
theorem c_X9_noSlot_1 {l : Launch} {G : mG} {ad : mA} {S : mS} {L : mL} {R : mR} {x : Int32} (hR : mlk R) (hx : ¬ isP 2 x) : Ki l yX9_noSlot cX9_noSlot 2 .boolean rm_X9_noSlot G ad mdm [.ref (ad 40 0), .int x] S L R (fun r_ S2 L2 R2 => r_ = nI 1 ∧ up3 S 40 0 0 (nI 1) = S2 ∧ L = L2 ∧ R = R2) := by
  refine Ki.of RX9 (by decide) rfl (Nat.le_of_ble_eq_true rfl) ?_
  intro X hXl hXG C ret
  subst hXl; subst hXG
  change Z X 2 ad mdm S L R 0 0 0 [(0, _), (1, _)] []
  refine z_aload_n C 0 0 0 dX9_noSlot_0 rfl rfl ?_
  refine z_iconst (v := nI 0) C 1 dX9_noSlot_1 (by decide) ?_
  refine z_puti C 2 dX9_noSlot_2 gf_X9_65 ⟨rfl, rfl⟩ rfl (by first | assumption | exact Nat.zero_lt_one | omega) ?_
  refine z_aload_n C 5 0 0 dX9_noSlot_5 rfl rfl ?_
  refine z_iload_n C 6 1 1 dX9_noSlot_6 rfl rfl ?_
  refine z_iconst (v := nI 2) C 7 dX9_noSlot_7 (by decide) ?_
  refine z_cVi0 C 8 dX9_noSlot_8 cv_X9_288 (c_X9_no_1 hR (by rfl) hx (by decide)) rfl ⟨by decide, rfl⟩ (by first | assumption | exact Nat.zero_lt_one | omega) rfl rfl (Nat.le_of_ble_eq_true rfl) ⟨by decide, by decide⟩ ⟨rfl, rfl⟩ ⟨by decide, by decide⟩ ?_
  intro r8 S8 L8 R8 p8
  obtain ⟨rfl, rfl, rfl, rfl⟩ := p8
  exact ret 11 _ _ _ _ _ dX9_noSlot_11 (by first | rfl | exact bI_n | decide) (⟨rfl, (up3_up3 _ _ _ _ _ _).symm, rfl, rfl⟩)
def rm_X9_noKind : Room := { frames := 1, cells := 0, slots := 0, locals := 22 }
set_option maxHeartbeats 4000000 in
set_option maxRecDepth 100000 in
theorem c_X9_noKind {l : Launch} {G : mG} {ad : mA} {S : mS} {L : mL} {R : mR} {k b : Nat} (hR : mlk R) (hk : 1 ≤ k) (hkb : k ≤ b) (hb : b < 10) : Ki l yX9_noKind cX9_noKind 3 .boolean rm_X9_noKind G ad mdm [.ref (ad 40 0), .int (nI k), .int (nI b)] S L R (fun r_ S2 L2 R2 => r_ = nI 0 ∧ up3 S 40 0 0 (nI 0) = S2 ∧ L = L2 ∧ R = R2) := by
  refine Ki.of RX9 (by decide) rfl (Nat.le_of_ble_eq_true rfl) ?_
  intro X hXl hXG C ret
  subst hXl; subst hXG
  change Z X 3 ad mdm S L R 0 0 0 [(0, _), (1, _), (2, _)] []
  refine z_aload_n C 0 0 0 dX9_noKind_0 rfl rfl ?_
  refine z_iconst (v := nI 0) C 1 dX9_noKind_1 (by decide) ?_
  refine z_puti C 2 dX9_noKind_2 gf_X9_65 ⟨rfl, rfl⟩ rfl (by first | assumption | exact Nat.zero_lt_one | omega) ?_
  refine z_aload_n C 5 0 0 dX9_noKind_5 rfl rfl ?_
  refine z_iload_n C 6 1 1 dX9_noKind_6 rfl rfl ?_
  refine z_iconst (v := nI 1) C 7 dX9_noKind_7 (by decide) ?_
  refine z_iload_n C 8 2 2 dX9_noKind_8 rfl rfl ?_
  refine z_cSi0 C 9 dX9_noKind_9 cs_X9_89 (c_X9_within_1 hk hkb (by omega)) rfl rfl (Nat.le_of_ble_eq_true rfl) ⟨by decide, by decide⟩ ⟨rfl, rfl⟩ ⟨by decide, by decide⟩ ?_
  intro r9 S9 L9 R9 p9
  obtain ⟨rfl, rfl, rfl, rfl⟩ := p9
  first | with_reducible refine z_if_neB C 12 19 dX9_noKind_12 (by decide) (fun h12 => ?_) (fun h12 => by omega) | with_reducible refine z_if_neN C 12 19 dX9_noKind_12 (by decide) (by omega) (fun h12 => ?_) (fun h12 => by omega) | refine z_if_ne C 12 19 dX9_noKind_12 (by decide) (fun h12 => ?_) (fun h12 => by omega)
  · refine z_iconst (v := nI 0) C 19 dX9_noKind_19 (by decide) ?_
    refine z_iconst (v := nI 1) C 20 dX9_noKind_20 (by decide) ?_
    refine z_cVi0 C 21 dX9_noKind_21 cv_X9_185 (c_X9_throwsIf_0 hR (by first | assumption | rfl)) rfl ⟨by decide, rfl⟩ (by first | assumption | exact Nat.zero_lt_one | omega) rfl rfl (Nat.le_of_ble_eq_true rfl) ⟨by decide, by decide⟩ ⟨rfl, rfl⟩ ⟨by decide, by decide⟩ ?_
    intro r21 S21 L21 R21 p21
    obtain ⟨rfl, rfl, rfl, rfl⟩ := p21
    exact ret 24 _ _ _ _ _ dX9_noKind_24 (by first | rfl | exact bI_n | decide) (⟨by first | rfl | assumption | (simp; done), rfl, rfl, rfl⟩)

set_option maxHeartbeats 4000000 in
set_option maxRecDepth 100000 in
theorem c_X9_noKind_1 {l : Launch} {G : mG} {ad : mA} {S : mS} {L : mL} {R : mR} {x : Int32} {b : Nat} (hR : mlk R) (hx : ¬ isR 1 b x) (hb : b < 10) : Ki l yX9_noKind cX9_noKind 3 .boolean rm_X9_noKind G ad mdm [.ref (ad 40 0), .int x, .int (nI b)] S L R (fun r_ S2 L2 R2 => r_ = nI 1 ∧ up3 S 40 0 0 (nI 1) = S2 ∧ L = L2 ∧ R = R2) := by
  refine Ki.of RX9 (by decide) rfl (Nat.le_of_ble_eq_true rfl) ?_
  intro X hXl hXG C ret
  subst hXl; subst hXG
  change Z X 3 ad mdm S L R 0 0 0 [(0, _), (1, _), (2, _)] []
  refine z_aload_n C 0 0 0 dX9_noKind_0 rfl rfl ?_
  refine z_iconst (v := nI 0) C 1 dX9_noKind_1 (by decide) ?_
  refine z_puti C 2 dX9_noKind_2 gf_X9_65 ⟨rfl, rfl⟩ rfl (by first | assumption | exact Nat.zero_lt_one | omega) ?_
  refine z_aload_n C 5 0 0 dX9_noKind_5 rfl rfl ?_
  refine z_iload_n C 6 1 1 dX9_noKind_6 rfl rfl ?_
  refine z_iconst (v := nI 1) C 7 dX9_noKind_7 (by decide) ?_
  refine z_iload_n C 8 2 2 dX9_noKind_8 rfl rfl ?_
  refine z_cSi0 C 9 dX9_noKind_9 cs_X9_89 (c_X9_within_0 hx (by decide) (by omega)) rfl rfl (Nat.le_of_ble_eq_true rfl) ⟨by decide, by decide⟩ ⟨rfl, rfl⟩ ⟨by decide, by decide⟩ ?_
  intro r9 S9 L9 R9 p9
  obtain ⟨rfl, rfl, rfl, rfl⟩ := p9
  first | with_reducible refine z_if_neB C 12 19 dX9_noKind_12 (by decide) (fun h12 => by omega) (fun h12 => ?_) | with_reducible refine z_if_neN C 12 19 dX9_noKind_12 (by decide) (by omega) (fun h12 => by omega) (fun h12 => ?_) | refine z_if_ne C 12 19 dX9_noKind_12 (by decide) (fun h12 => by omega) (fun h12 => ?_)
  · refine z_iconst (v := nI 1) C 15 dX9_noKind_15 (by decide) ?_
    refine z_goto C 16 20 dX9_noKind_16 (by decide) ?_
    refine z_iconst (v := nI 1) C 20 dX9_noKind_20 (by decide) ?_
    refine z_cVi0 C 21 dX9_noKind_21 cv_X9_185 (c_X9_throwsIf_1 hR (by first | assumption | rfl) (by decide) (by decide)) rfl ⟨by decide, rfl⟩ (by first | assumption | exact Nat.zero_lt_one | omega) rfl rfl (Nat.le_of_ble_eq_true rfl) ⟨by decide, by decide⟩ ⟨rfl, rfl⟩ ⟨by decide, by decide⟩ ?_
    intro r21 S21 L21 R21 p21
    obtain ⟨rfl, rfl, rfl, rfl⟩ := p21
    exact ret 24 _ _ _ _ _ dX9_noKind_24 (by first | rfl | exact bI_n | decide) (⟨rfl, (up3_up3 _ _ _ _ _ _).symm, rfl, rfl⟩)
def rm_X9_takesIn : Room := { frames := 1, cells := 0, slots := 0, locals := 23 }
set_option maxHeartbeats 4000000 in
set_option maxRecDepth 100000 in
theorem c_X9_takesIn {l : Launch} {G : mG} {ad : mA} {S : mS} {L : mL} {R : mR} {p : Nat} {v : Int32} (hR : mlk R) (hp : p < 10) : Ki l yX9_takesIn cX9_takesIn 3 .int rm_X9_takesIn G ad mdm [.ref (ad 40 0), .int (nI p), .int v] S L R (fun r_ S2 L2 R2 => r_ = nI 31 * fo (S 44 0) p 3 + v ∧ sA S 44 (fTake (S 44 0) p v) = S2 ∧ L = L2 ∧ R = R2) := by
  refine Ki.of RX9 (by decide) rfl (Nat.le_of_ble_eq_true rfl) ?_
  intro X hXl hXG C ret
  subst hXl; subst hXG
  change Z X 3 ad mdm S L R 0 0 0 [(0, _), (1, _), (2, _)] []
  refine z_aload_n C 0 0 0 dX9_takesIn_0 rfl rfl ?_
  refine z_iload_n C 1 1 1 dX9_takesIn_1 rfl rfl ?_
  refine z_iconst (v := nI 3) C 2 dX9_takesIn_2 (by decide) ?_
  refine z_bipush (v := nI 31) C 3 dX9_takesIn_3 (by decide +kernel) ?_
  refine z_aload_n C 5 0 0 dX9_takesIn_5 rfl rfl ?_
  refine z_iload_n C 6 1 1 dX9_takesIn_6 rfl rfl ?_
  refine z_iconst (v := nI 3) C 7 dX9_takesIn_7 (by decide) ?_
  refine z_cVi0 C 8 dX9_takesIn_8 cv_X9_203 (c_X9_of hR (by first | assumption | omega) (by omega)) rfl ⟨by decide, rfl⟩ (by first | assumption | exact Nat.zero_lt_one | omega) rfl rfl (Nat.le_of_ble_eq_true rfl) ⟨by decide, by decide⟩ ⟨rfl, rfl⟩ ⟨by decide, by decide⟩ ?_
  intro r8 S8 L8 R8 p8
  obtain ⟨rfl, rfl, rfl, rfl⟩ := p8
  first | with_reducible refine z_imulN C 11 dX9_takesIn_11 ?_ | refine z_imul C 11 dX9_takesIn_11 ?_
  refine z_iload_n C 12 2 2 dX9_takesIn_12 rfl rfl ?_
  first | with_reducible refine z_iaddN C 13 dX9_takesIn_13 ?_ | refine z_iadd C 13 dX9_takesIn_13 ?_
  refine z_cVv0 C 14 dX9_takesIn_14 cv_X9_240 (c_X9_sets hR (by first | assumption | omega) (by omega)) rfl ⟨by decide, rfl⟩ (by first | assumption | exact Nat.zero_lt_one | omega) rfl rfl (Nat.le_of_ble_eq_true rfl) ⟨by decide, by decide⟩ ⟨rfl, rfl⟩ ⟨by decide, by decide⟩ ?_
  intro S14 L14 R14 p14
  obtain ⟨rfl, rfl, rfl⟩ := p14
  refine z_aload_n C 17 0 0 dX9_takesIn_17 rfl rfl ?_
  refine z_iload_n C 18 1 1 dX9_takesIn_18 rfl rfl ?_
  refine z_iconst (v := nI 3) C 19 dX9_takesIn_19 (by decide) ?_
  refine z_cVi0 C 20 dX9_takesIn_20 cv_X9_203 (c_X9_of hR (by first | assumption | omega) (by omega)) rfl ⟨by decide, rfl⟩ (by first | assumption | exact Nat.zero_lt_one | omega) rfl rfl (Nat.le_of_ble_eq_true rfl) ⟨by decide, by decide⟩ ⟨rfl, rfl⟩ ⟨by decide, by decide⟩ ?_
  intro r20 S20 L20 R20 p20
  obtain ⟨rfl, rfl, rfl, rfl⟩ := p20
  exact ret 23 _ _ _ _ _ dX9_takesIn_23 (by first | rfl | exact bI_n | decide) (⟨(by rw [sA_s]; exact fo_set_s _ _ _ _), rfl, rfl, rfl⟩)
def rm_X9_leavesFirst : Room := { frames := 1, cells := 0, slots := 0, locals := 23 }
set_option maxHeartbeats 4000000 in
set_option maxRecDepth 100000 in
theorem c_X9_leavesFirst {l : Launch} {G : mG} {ad : mA} {S : mS} {L : mL} {R : mR} {p w : Nat} (hR : mlk R) (hp : p < 10) (hw : fo (S 44 0) p 15 = nI w) (hw1 : 1 ≤ w) (hw5 : w ≤ 5) : Kv l yX9_leavesFirst cX9_leavesFirst 3 rm_X9_leavesFirst G ad mdm [.ref (ad 40 0), .int (nI p)] S L R (fun S2 L2 R2 => sA S 44 (fLeave (S 44 0) p w) = S2 ∧ L = L2 ∧ R = R2) := by
  refine Kv.of RX9 (by decide) rfl (Nat.le_of_ble_eq_true rfl) ?_
  intro X hXl hXG C ret
  subst hXl; subst hXG
  change Z X 3 ad mdm S L R 0 0 0 [(0, _), (1, _)] []
  refine z_aload_n C 0 0 0 dX9_leavesFirst_0 rfl rfl ?_
  refine z_iload_n C 1 1 1 dX9_leavesFirst_1 rfl rfl ?_
  refine z_bipush (v := nI 15) C 2 dX9_leavesFirst_2 (by decide +kernel) ?_
  refine z_aload_n C 4 0 0 dX9_leavesFirst_4 rfl rfl ?_
  refine z_iload_n C 5 1 1 dX9_leavesFirst_5 rfl rfl ?_
  refine z_bipush (v := nI 15) C 6 dX9_leavesFirst_6 (by decide +kernel) ?_
  refine z_cVi0 C 8 dX9_leavesFirst_8 cv_X9_203 (c_X9_of hR (by first | assumption | omega) (by omega)) rfl ⟨by decide, rfl⟩ (by first | assumption | exact Nat.zero_lt_one | omega) rfl rfl (Nat.le_of_ble_eq_true rfl) ⟨by decide, by decide⟩ ⟨rfl, rfl⟩ ⟨by decide, by decide⟩ ?_
  intro r8 S8 L8 R8 p8
  obtain ⟨rfl, rfl, rfl, rfl⟩ := p8
  rw [hw]
  refine z_iconst (v := nI 1) C 11 dX9_leavesFirst_11 (by decide) ?_
  first | with_reducible refine z_isubN C 12 dX9_leavesFirst_12 (by omega) ?_ | refine z_isub C 12 dX9_leavesFirst_12 ?_
  refine z_cVv0 C 13 dX9_leavesFirst_13 cv_X9_240 (c_X9_sets hR (by first | assumption | omega) (by omega)) rfl ⟨by decide, rfl⟩ (by first | assumption | exact Nat.zero_lt_one | omega) rfl rfl (Nat.le_of_ble_eq_true rfl) ⟨by decide, by decide⟩ ⟨rfl, rfl⟩ ⟨by decide, by decide⟩ ?_
  intro S13 L13 R13 p13
  obtain ⟨rfl, rfl, rfl⟩ := p13
  rw [← fLv_0]
  refine z_iconst (v := nI 0) C 16 dX9_leavesFirst_16 (by decide) ?_
  refine z_istore_n C 17 2 [(2, _), (0, _), (1, _)] dX9_leavesFirst_17 rfl (by decide) rfl ?_
  have loop_18 : ∀ (n_18 : Nat) (i : Nat), i ≤ w - 1 → w - 1 - i < n_18 → Z X 3 ad mdm (sA S 44 (fLv (S 44 0) p w i)) L R 0 0 18 [(0, .ref (ad 40 0)), (1, .int (nI p)), (2, .int (nI i))] [] := by
    intro n_18
    induction n_18 with
    | zero => intro i hi hm18; exact absurd hm18 (Nat.not_lt_zero _)
    | succ n_18 ih18 =>
      intro i hi hm18
      refine z_iload_n C 18 2 2 dX9_leavesFirst_18 rfl rfl ?_
      refine z_aload_n C 19 0 0 dX9_leavesFirst_19 rfl rfl ?_
      refine z_iload_n C 20 1 1 dX9_leavesFirst_20 rfl rfl ?_
      refine z_bipush (v := nI 15) C 21 dX9_leavesFirst_21 (by decide +kernel) ?_
      refine z_cVi0 C 23 dX9_leavesFirst_23 cv_X9_203 (c_X9_of hR (by first | assumption | omega) (by omega)) rfl ⟨by decide, rfl⟩ (by first | assumption | exact Nat.zero_lt_one | omega) rfl rfl (Nat.le_of_ble_eq_true rfl) ⟨by decide, by decide⟩ ⟨rfl, rfl⟩ ⟨by decide, by decide⟩ ?_
      intro r23 S23 L23 R23 p23
      obtain ⟨rfl, rfl, rfl, rfl⟩ := p23
      rw [show fo (sA S 44 (fLv (S 44 0) p w i) 44 0) p 15 = nI (w - 1) from (fLv_fo hp (by omega)).trans (fo_set_s _ _ _ _)]
      first | with_reducible refine z_icmp_geN C 26 65 dX9_leavesFirst_26 (by decide) (by omega) (by omega) (fun h26 => ?_) (fun h26 => ?_) | refine z_icmp_ge C 26 65 dX9_leavesFirst_26 (by decide) (fun h26 => ?_) (fun h26 => ?_)
      · obtain rfl : i = w - 1 := by omega
        exact ret 65 _ _ _ _ dX9_leavesFirst_65 (⟨rfl, rfl, rfl⟩)
      · refine z_aload_n C 29 0 0 dX9_leavesFirst_29 rfl rfl ?_
        refine z_getr C 30 dX9_leavesFirst_30 gf_X9_20 rfl (by first | assumption | exact Nat.zero_lt_one | omega) (by first | exact hR _ _ _ _ rfl | assumption) ?_
        refine z_sipush (v := nI 388) C 33 dX9_leavesFirst_33 (by decide +kernel) ?_
        refine z_iconst (v := nI 5) C 36 dX9_leavesFirst_36 (by decide) ?_
        refine z_iload_n C 37 1 1 dX9_leavesFirst_37 rfl rfl ?_
        first | with_reducible refine z_imulN C 38 dX9_leavesFirst_38 ?_ | refine z_imul C 38 dX9_leavesFirst_38 ?_
        first | with_reducible refine z_iaddN C 39 dX9_leavesFirst_39 ?_ | refine z_iadd C 39 dX9_leavesFirst_39 ?_
        refine z_iload_n C 40 2 2 dX9_leavesFirst_40 rfl rfl ?_
        first | with_reducible refine z_iaddN C 41 dX9_leavesFirst_41 ?_ | refine z_iadd C 41 dX9_leavesFirst_41 ?_
        refine z_aload_n C 42 0 0 dX9_leavesFirst_42 rfl rfl ?_
        refine z_getr C 43 dX9_leavesFirst_43 gf_X9_20 rfl (by first | assumption | exact Nat.zero_lt_one | omega) (by first | exact hR _ _ _ _ rfl | assumption) ?_
        refine z_sipush (v := nI 388) C 46 dX9_leavesFirst_46 (by decide +kernel) ?_
        refine z_iconst (v := nI 5) C 49 dX9_leavesFirst_49 (by decide) ?_
        refine z_iload_n C 50 1 1 dX9_leavesFirst_50 rfl rfl ?_
        first | with_reducible refine z_imulN C 51 dX9_leavesFirst_51 ?_ | refine z_imul C 51 dX9_leavesFirst_51 ?_
        first | with_reducible refine z_iaddN C 52 dX9_leavesFirst_52 ?_ | refine z_iadd C 52 dX9_leavesFirst_52 ?_
        refine z_iload_n C 53 2 2 dX9_leavesFirst_53 rfl rfl ?_
        first | with_reducible refine z_iaddN C 54 dX9_leavesFirst_54 ?_ | refine z_iadd C 54 dX9_leavesFirst_54 ?_
        refine z_iconst (v := nI 1) C 55 dX9_leavesFirst_55 (by decide) ?_
        first | with_reducible refine z_iaddN C 56 dX9_leavesFirst_56 ?_ | refine z_iadd C 56 dX9_leavesFirst_56 ?_
        refine z_iald C 57 dX9_leavesFirst_57 (by first | rfl | assumption) (by first | assumption | exact Nat.zero_lt_one | omega) (by first | rfl | assumption) (by first | decide | omega) (by first | assumption | omega) ?_
        refine z_iast C 58 dX9_leavesFirst_58 (by first | rfl | assumption) (by first | assumption | exact Nat.zero_lt_one | omega)  (by first | rfl | assumption) (by first | decide | omega) (by first | assumption | omega) ?_
        rw [sA_up, sA_sA, sA_s, fLv_up hp]
        refine z_iinc C 59 2 2 [(2, _), (0, _), (1, _)] dX9_leavesFirst_59 rfl (by first | exact nI_1 _ | rfl) (by decide) rfl ?_
        refine z_goto C 62 18 dX9_leavesFirst_62 (by decide) ?_
        refine z_sub [(0, _), (1, _), (2, _)] [1, 2, 0] rfl ?_
        exact ih18 (i + 1) (by omega) (by omega)
  refine z_sub [(0, _), (1, _), (2, _)] [1, 2, 0] rfl ?_
  exact loop_18 (w + 1) 0 (by omega) (by omega)
def rm_X9_copies : Room := { frames := 0, cells := 0, slots := 0, locals := 0 }
set_option maxHeartbeats 4000000 in
set_option maxRecDepth 100000 in
theorem c_X9_copies {l : Launch} {G : mG} {ad : mA} {S : mS} {L : mL} {R : mR} {k0 k1 l0 l1 a b : Nat} (h0 : msh k0 = .inl (0, l0)) (h1 : msh k1 = .inl (0, l1)) (d0 : mdm k0 0) (d1 : mdm k1 0) (hl0 : l0 < 5000) (hl1 : l1 < 5000) (ha : a + 438 ≤ l0) (hb : b + 438 ≤ l1) (hne : k0 ≠ k1 ∨ b + 438 ≤ a) : Kv l yX9_copies cX9_copies 5 rm_X9_copies G ad mdm [.ref (ad k0 0), .int (nI a), .ref (ad k1 0), .int (nI b)] S L R (fun S2 L2 R2 => sA S k1 (cpF S k0 a k1 b 438) = S2 ∧ L = L2 ∧ R = R2) := by
  refine Kv.of RX9 (by decide) rfl (Nat.le_of_ble_eq_true rfl) ?_
  intro X hXl hXG C ret
  subst hXl; subst hXG
  change Z X 5 ad mdm S L R 0 0 0 [(0, _), (1, _), (2, _), (3, _)] []
  rw [show S = sA S k1 (cpF S k0 a k1 b 0) by rw [show cpF S k0 a k1 b 0 = S k1 0 from funext fun j => if_neg (by omega), sA_id]]
  refine z_iconst (v := nI 0) C 0 dX9_copies_0 (by decide) ?_
  refine z_istore C 1 4 [(4, _), (0, _), (1, _), (2, _), (3, _)] dX9_copies_1 (by decide) rfl ?_
  have loop_3 : ∀ (n_3 : Nat) (i : Nat), i ≤ 438 → 438 - i < n_3 → Z X 5 ad mdm (sA S k1 (cpF S k0 a k1 b i)) L R 0 0 3 [(0, .ref (ad k0 0)), (1, .int (nI a)), (2, .ref (ad k1 0)), (3, .int (nI b)), (4, .int (nI i))] [] := by
    intro n_3
    induction n_3 with
    | zero => intro i hi hm3; exact absurd hm3 (Nat.not_lt_zero _)
    | succ n_3 ih3 =>
      intro i hi hm3
      refine z_iload C 3 4 4 dX9_copies_3 rfl ?_
      refine z_sipush (v := nI 438) C 5 dX9_copies_5 (by decide +kernel) ?_
      first | with_reducible refine z_icmp_geN C 8 29 dX9_copies_8 (by decide) (by omega) (by omega) (fun h8 => ?_) (fun h8 => ?_) | refine z_icmp_ge C 8 29 dX9_copies_8 (by decide) (fun h8 => ?_) (fun h8 => ?_)
      · obtain rfl : i = 438 := by omega
        exact ret 29 _ _ _ _ dX9_copies_29 (⟨rfl, rfl, rfl⟩)
      · refine z_aload_n C 11 2 2 dX9_copies_11 rfl rfl ?_
        refine z_iload_n C 12 3 3 dX9_copies_12 rfl rfl ?_
        refine z_iload C 13 4 4 dX9_copies_13 rfl ?_
        first | with_reducible refine z_iaddN C 15 dX9_copies_15 ?_ | refine z_iadd C 15 dX9_copies_15 ?_
        refine z_aload_n C 16 0 0 dX9_copies_16 rfl rfl ?_
        refine z_iload_n C 17 1 1 dX9_copies_17 rfl rfl ?_
        refine z_iload C 18 4 4 dX9_copies_18 rfl ?_
        first | with_reducible refine z_iaddN C 20 dX9_copies_20 ?_ | refine z_iadd C 20 dX9_copies_20 ?_
        refine z_iald C 21 dX9_copies_21 (by first | rfl | assumption) (by first | assumption | exact Nat.zero_lt_one | omega) (by first | rfl | assumption) (by first | decide | omega) (by first | assumption | omega) ?_
        refine z_iast C 22 dX9_copies_22 (by first | rfl | assumption) (by first | assumption | exact Nat.zero_lt_one | omega)  (by first | rfl | assumption) (by first | decide | omega) (by first | assumption | omega) ?_
        rw [cp_up hne (by omega)]
        refine z_iinc C 23 4 4 [(4, _), (0, _), (1, _), (2, _), (3, _)] dX9_copies_23 rfl (by first | exact nI_1 _ | rfl) (by decide) rfl ?_
        refine z_goto C 26 3 dX9_copies_26 (by decide) ?_
        refine z_sub [(0, _), (1, _), (2, _), (3, _), (4, _)] [1, 2, 3, 4, 0] rfl ?_
        exact ih3 (i + 1) (by omega) (by omega)
  refine z_sub [(0, _), (1, _), (2, _), (3, _), (4, _)] [1, 2, 3, 4, 0] rfl ?_
  exact loop_3 439 0 (by omega) (by omega)
