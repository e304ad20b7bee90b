theorem cl_X5_161 : Cond.constantLong RX5 161 (lN 32) ∈ mlw := mlw_t 422 (by decide +kernel) rfl
theorem Ki.mono {l : Launch} {y : MethodName} {cy : ByteArray} {ny : Nat} {rt : FieldType} {rm : Room} {G : mG} {ad : mA} {dm : mD} {args : List Value} {S : mS} {L : mL} {R : mR} {post post2 : Int32 → mS → mL → mR → Prop} (h : Ki l y cy ny rt rm G ad dm args S L R post) (hp : ∀ r S2 L2 R2, post r S2 L2 R2 → post2 r S2 L2 R2) : Ki l y cy ny rt rm G ad dm args S L R post2 := fun sz =>
  MetFree.mono (h sz) (fun _ _ q => q) (fun _ _ _ _ _ q => q) (fun _ _ _ _ _ q => by
    obtain ⟨⟨⟨r, u, q1, q2, q3⟩, q4⟩, q5⟩ := q
    exact ⟨⟨⟨r, u, q1, hp _ _ _ _ q2, q3⟩, q4⟩, q5⟩)
theorem Kv.mono {l : Launch} {y : MethodName} {cy : ByteArray} {ny : Nat} {rm : Room} {G : mG} {ad : mA} {dm : mD} {args : List Value} {S : mS} {L : mL} {R : mR} {post post2 : mS → mL → mR → Prop} (h : Kv l y cy ny rm G ad dm args S L R post) (hp : ∀ S2 L2 R2, post S2 L2 R2 → post2 S2 L2 R2) : Kv l y cy ny rm G ad dm args S L R post2 := fun sz =>
  MetFree.mono (h sz) (fun _ _ q => q) (fun _ _ _ _ _ q => q) (fun _ _ _ _ _ q => by
    obtain ⟨⟨⟨u, q1, q2, q3⟩, q4⟩, q5⟩ := q
    exact ⟨⟨⟨u, q1, hp _ _ _ q2, q3⟩, q4⟩, q5⟩)
/-- the reader's text: f bytes -/
def cT (S : mS) (un : Nat → Nat) (f : Nat) : Prop := S 1 0 1 = nI f ∧ f ≤ 700 ∧ (∀ j, un j < 256) ∧ ∀ j, j < f → S 2 0 j = sb (un j)
theorem cT.off {S S2 : mS} {un : Nat → Nat} {f : Nat} (h : cT S un f) (e1 : S2 1 0 1 = S 1 0 1) (e2 : S2 2 0 = S 2 0) : cT S2 un f := ⟨e1.trans h.1, h.2.1, h.2.2.1, fun j hj => by rw [e2]; exact h.2.2.2 j hj⟩
theorem up3_idd (S : mS) {k i j : Nat} {v : Int32} (h : S k i j = v) : up3 S k i j v = S := by
  funext k' i' j'
  simp only [up3]
  split
  · rename_i z
    rw [z.1, z.2.1, z.2.2, h]
  · rfl
/-- byte k, from the top, of an int -/
def by4 (v : Int32) (k : Nat) : Int32 := (v >>> (nI (24 - 8 * k) &&& 31)).toInt8.toInt32
theorem by4_u {v : Int32} {k : Nat} (hk : k < 4) : ((v.toUInt32 >>> ((nI (24 - 8 * k)).toUInt32 &&& Int32.toUInt32 31)).toInt32).toInt8.toInt32 = by4 v k := by
  unfold by4
  congr 1
  apply Int8.toBitVec_inj.mp
  rw [Int32.toBitVec_toInt8, Int32.toBitVec_toInt8]
  apply BitVec.eq_of_getLsbD_eq
  intro i hi
  rw [BitVec.getLsbD_signExtend, BitVec.getLsbD_signExtend, if_pos (by omega), if_pos (by omega)]
  have h1 := b_ushr (24 - 8 * k) (by omega) v i
  have h2 := b_sshr (24 - 8 * k) (by omega) v (i := i) (by omega)
  rw [if_pos (by omega)] at h2
  unfold bt at h1 h2
  rw [h1, h2]
def pI4 (S S1 : mS) (f : Nat) (v : Int32) (k : Nat) : Prop := (∀ i, i < k → S1 2 0 (f + i) = by4 v i) ∧ (∀ j, j < f → S1 2 0 j = S 2 0 j) ∧ S1 1 0 1 = nI (f + k) ∧ (∀ kk i j, kk ≠ 2 → ¬ (kk = 1 ∧ j = 1) → S1 kk i j = S kk i j)
theorem pI4.nx {S S1 : mS} {f : Nat} {v : Int32} {k : Nat} (h : pI4 S S1 f v k) : pI4 S (up3 (up3 S1 2 0 (f + k) (by4 v k)) 1 0 1 (nI (f + k + 1))) f v (k + 1) := by
  obtain ⟨a, b, c, d⟩ := h
  refine ⟨fun i hi => ?_, fun j hj => ?_, ?_, fun kk i j h2 h1 => ?_⟩
  · rw [up3_k _ (by omega), up3_at]
    by_cases e : i = k
    · rw [if_pos ⟨rfl, rfl, by omega⟩, e]
    · rw [if_neg (by omega)]
      exact a i (by omega)
  · rw [up3_k _ (by omega), up3_j _ (by omega)]
    exact b j hj
  · rw [up3_s]
    rfl
  · simp only [up3]
    rw [if_neg (fun z => h1 ⟨z.1, z.2.2⟩), if_neg (fun z => h2 z.1)]
    exact d kk i j h2 h1
noncomputable def wB (un : Nat → Nat) (a b : Nat) : Nat :=
  haveI := Classical.propDecidable
  if 8 < b - a then 0 else if ∀ j, a ≤ j → j < b → isLt (un j) = true then e32 (wl un a (b - a)) else 0
theorem wB_8 {un : Nat → Nat} {a b : Nat} (h : 8 < b - a) : wB un a b = 0 := if_pos h
theorem wB_n {un : Nat → Nat} {a b j : Nat} (h1 : a ≤ j) (h2 : j < b) (h : ¬ isLt (un j) = true) : wB un a b = 0 := by
  unfold wB
  split
  · rfl
  · rw [if_neg (fun z => h (z j h1 h2))]
theorem wB_y {un : Nat → Nat} {a b : Nat} (h : ¬ 8 < b - a) (h2 : ∀ j, a ≤ j → j < b → isLt (un j) = true) : wB un a b = e32 (wl un a (b - a)) := by
  unfold wB
  rw [if_neg h, if_pos h2]
theorem m73 (S : mS) (a b c d : Int32) : up3 (up3 (up3 (up3 S 1 0 7 a) 1 0 3 b) 1 0 7 c) 1 0 3 d = up3 (up3 S 1 0 7 c) 1 0 3 d := by
  funext k i j
  simp only [up3]
  by_cases h3 : k = 1 ∧ i = 0 ∧ j = 3
  · rw [if_pos h3, if_pos h3]
  · rw [if_neg h3, if_neg h3, if_neg h3]
    by_cases h7 : k = 1 ∧ i = 0 ∧ j = 7
    · rw [if_pos h7, if_pos h7]
    · rw [if_neg h7, if_neg h7, if_neg h7]

def rm_X5_isLetter : Room := { frames := 0, cells := 0, slots := 0, locals := 0 }
set_option maxHeartbeats 4000000 in
set_option maxRecDepth 100000 in
theorem c_X5_isLetter {l : Launch} {G : mG} {ad : mA} {S : mS} {L : mL} {R : mR} {n : Nat} (hn : n < 256) : Ki l yX5_isLetter cX5_isLetter 1 .boolean rm_X5_isLetter G ad mdm [.int (sb n)] S L R (fun r_ S2 L2 R2 => r_ = bI (isLt n = true) ∧ S = S2 ∧ L = L2 ∧ R = R2) := by
  refine Ki.of RX5 (by decide) rfl (Nat.le_of_ble_eq_true rfl) ?_
  intro X hXl hXG C ret
  subst hXl; subst hXG
  change Z X 1 ad mdm S L R 0 0 0 [(0, _)] []
  refine z_iload_n C 0 0 0 dX5_isLetter_0 rfl rfl ?_
  refine z_bipush (v := nI 97) C 1 dX5_isLetter_1 (by decide +kernel) ?_
  first | with_reducible refine z_icmp_ltN C 3 16 dX5_isLetter_3 (by decide) (by omega) (by omega) (fun h3 => ?_) (fun h3 => ?_) | refine z_icmp_lt C 3 16 dX5_isLetter_3 (by decide) (fun h3 => ?_) (fun h3 => ?_)
  · refine z_iconst (v := nI 0) C 16 dX5_isLetter_16 (by decide) ?_
    exact ret 17 _ _ _ _ _ dX5_isLetter_17 (by first | rfl | exact bI_n | decide) (⟨(by first | exact bI_1 (isLt_i.mpr ((tb_lt n hn).mp ⟨Int32.not_lt.mp h3, h9⟩)) | exact bI_1 (isLt_i.mpr ((tb_lt n hn).mp ⟨Int32.not_lt.mp h3, Int32.not_lt.mp h9⟩)) | exact bI_0 (fun z => h3 (Int32.not_le.mpr ((tb_lt n hn).mpr (isLt_i.mp z)).1)) | exact bI_0 (fun z => (Int32.not_le.mpr h3) ((tb_lt n hn).mpr (isLt_i.mp z)).1) | exact bI_0 (fun z => (Int32.not_le.mpr h9) ((tb_lt n hn).mpr (isLt_i.mp z)).2)), rfl, rfl, rfl⟩)
  · refine z_iload_n C 6 0 0 dX5_isLetter_6 rfl rfl ?_
    refine z_bipush (v := nI 122) C 7 dX5_isLetter_7 (by decide +kernel) ?_
    first | with_reducible refine z_icmp_gtN C 9 16 dX5_isLetter_9 (by decide) (by omega) (by omega) (fun h9 => ?_) (fun h9 => ?_) | refine z_icmp_gt C 9 16 dX5_isLetter_9 (by decide) (fun h9 => ?_) (fun h9 => ?_)
    · refine z_iconst (v := nI 0) C 16 dX5_isLetter_16 (by decide) ?_
      exact ret 17 _ _ _ _ _ dX5_isLetter_17 (by first | rfl | exact bI_n | decide) (⟨(by first | exact bI_1 (isLt_i.mpr ((tb_lt n hn).mp ⟨Int32.not_lt.mp h3, h9⟩)) | exact bI_1 (isLt_i.mpr ((tb_lt n hn).mp ⟨Int32.not_lt.mp h3, Int32.not_lt.mp h9⟩)) | exact bI_0 (fun z => h3 (Int32.not_le.mpr ((tb_lt n hn).mpr (isLt_i.mp z)).1)) | exact bI_0 (fun z => (Int32.not_le.mpr h3) ((tb_lt n hn).mpr (isLt_i.mp z)).1) | exact bI_0 (fun z => (Int32.not_le.mpr h9) ((tb_lt n hn).mpr (isLt_i.mp z)).2)), rfl, rfl, rfl⟩)
    · refine z_iconst (v := nI 1) C 12 dX5_isLetter_12 (by decide) ?_
      refine z_goto C 13 17 dX5_isLetter_13 (by decide) ?_
      exact ret 17 _ _ _ _ _ dX5_isLetter_17 (by first | rfl | exact bI_n | decide) (⟨(by first | exact bI_1 (isLt_i.mpr ((tb_lt n hn).mp ⟨Int32.not_lt.mp h3, h9⟩)) | exact bI_1 (isLt_i.mpr ((tb_lt n hn).mp ⟨Int32.not_lt.mp h3, Int32.not_lt.mp h9⟩)) | exact bI_0 (fun z => h3 (Int32.not_le.mpr ((tb_lt n hn).mpr (isLt_i.mp z)).1)) | exact bI_0 (fun z => (Int32.not_le.mpr h3) ((tb_lt n hn).mpr (isLt_i.mp z)).1) | exact bI_0 (fun z => (Int32.not_le.mpr h9) ((tb_lt n hn).mpr (isLt_i.mp z)).2)), rfl, rfl, rfl⟩)
def rm_X5_isDigit : Room := { frames := 0, cells := 0, slots := 0, locals := 0 }
set_option maxHeartbeats 4000000 in
set_option maxRecDepth 100000 in
theorem c_X5_isDigit {l : Launch} {G : mG} {ad : mA} {S : mS} {L : mL} {R : mR} {n : Nat} (hn : n < 256) : Ki l yX5_isDigit cX5_isDigit 1 .boolean rm_X5_isDigit G ad mdm [.int (sb n)] S L R (fun r_ S2 L2 R2 => r_ = bI (isDg n = true) ∧ S = S2 ∧ L = L2 ∧ R = R2) := by
  refine Ki.of RX5 (by decide) rfl (Nat.le_of_ble_eq_true rfl) ?_
  intro X hXl hXG C ret
  subst hXl; subst hXG
  change Z X 1 ad mdm S L R 0 0 0 [(0, _)] []
  refine z_iload_n C 0 0 0 dX5_isDigit_0 rfl rfl ?_
  refine z_bipush (v := nI 48) C 1 dX5_isDigit_1 (by decide +kernel) ?_
  first | with_reducible refine z_icmp_ltN C 3 16 dX5_isDigit_3 (by decide) (by omega) (by omega) (fun h3 => ?_) (fun h3 => ?_) | refine z_icmp_lt C 3 16 dX5_isDigit_3 (by decide) (fun h3 => ?_) (fun h3 => ?_)
  · refine z_iconst (v := nI 0) C 16 dX5_isDigit_16 (by decide) ?_
    exact ret 17 _ _ _ _ _ dX5_isDigit_17 (by first | rfl | exact bI_n | decide) (⟨(by first | exact bI_1 (isDg_i.mpr ((tb_dg n hn).mp ⟨Int32.not_lt.mp h3, h9⟩)) | exact bI_1 (isDg_i.mpr ((tb_dg n hn).mp ⟨Int32.not_lt.mp h3, Int32.not_lt.mp h9⟩)) | exact bI_0 (fun z => h3 (Int32.not_le.mpr ((tb_dg n hn).mpr (isDg_i.mp z)).1)) | exact bI_0 (fun z => (Int32.not_le.mpr h3) ((tb_dg n hn).mpr (isDg_i.mp z)).1) | exact bI_0 (fun z => (Int32.not_le.mpr h9) ((tb_dg n hn).mpr (isDg_i.mp z)).2)), rfl, rfl, rfl⟩)
  · refine z_iload_n C 6 0 0 dX5_isDigit_6 rfl rfl ?_
    refine z_bipush (v := nI 57) C 7 dX5_isDigit_7 (by decide +kernel) ?_
    first | with_reducible refine z_icmp_gtN C 9 16 dX5_isDigit_9 (by decide) (by omega) (by omega) (fun h9 => ?_) (fun h9 => ?_) | refine z_icmp_gt C 9 16 dX5_isDigit_9 (by decide) (fun h9 => ?_) (fun h9 => ?_)
    · refine z_iconst (v := nI 0) C 16 dX5_isDigit_16 (by decide) ?_
      exact ret 17 _ _ _ _ _ dX5_isDigit_17 (by first | rfl | exact bI_n | decide) (⟨(by first | exact bI_1 (isDg_i.mpr ((tb_dg n hn).mp ⟨Int32.not_lt.mp h3, h9⟩)) | exact bI_1 (isDg_i.mpr ((tb_dg n hn).mp ⟨Int32.not_lt.mp h3, Int32.not_lt.mp h9⟩)) | exact bI_0 (fun z => h3 (Int32.not_le.mpr ((tb_dg n hn).mpr (isDg_i.mp z)).1)) | exact bI_0 (fun z => (Int32.not_le.mpr h3) ((tb_dg n hn).mpr (isDg_i.mp z)).1) | exact bI_0 (fun z => (Int32.not_le.mpr h9) ((tb_dg n hn).mpr (isDg_i.mp z)).2)), rfl, rfl, rfl⟩)
    · refine z_iconst (v := nI 1) C 12 dX5_isDigit_12 (by decide) ?_
      refine z_goto C 13 17 dX5_isDigit_13 (by decide) ?_
      exact ret 17 _ _ _ _ _ dX5_isDigit_17 (by first | rfl | exact bI_n | decide) (⟨(by first | exact bI_1 (isDg_i.mpr ((tb_dg n hn).mp ⟨Int32.not_lt.mp h3, h9⟩)) | exact bI_1 (isDg_i.mpr ((tb_dg n hn).mp ⟨Int32.not_lt.mp h3, Int32.not_lt.mp h9⟩)) | exact bI_0 (fun z => h3 (Int32.not_le.mpr ((tb_dg n hn).mpr (isDg_i.mp z)).1)) | exact bI_0 (fun z => (Int32.not_le.mpr h3) ((tb_dg n hn).mpr (isDg_i.mp z)).1) | exact bI_0 (fun z => (Int32.not_le.mpr h9) ((tb_dg n hn).mpr (isDg_i.mp z)).2)), rfl, rfl, rfl⟩)
def rm_X5_putFourBytes : Room := { frames := 0, cells := 0, slots := 0, locals := 0 }
set_option maxHeartbeats 4000000 in
set_option maxRecDepth 100000 in
theorem c_X5_putFourBytes {l : Launch} {G : mG} {ad : mA} {S : mS} {L : mL} {R : mR} {f : Nat} {v : Int32} (hR : mlk R) (hf : S 1 0 1 = nI f) (hf4 : f + 4 ≤ 700) : Kv l yX5_putFourBytes cX5_putFourBytes 3 rm_X5_putFourBytes G ad mdm [.ref (ad 1 0), .int v] S L R (fun S2 L2 R2 => pI4 S S2 f v 4 ∧ L = L2 ∧ R = R2) := by
  refine Kv.of RX5 (by decide) rfl (Nat.le_of_ble_eq_true rfl) ?_
  intro X hXl hXG C ret
  subst hXl; subst hXG
  change Z X 3 ad mdm S L R 0 0 0 [(0, _), (1, _)] []
  refine z_bipush (v := nI 24) C 0 dX5_putFourBytes_0 (by decide +kernel) ?_
  refine z_istore_n C 2 2 [(2, _), (0, _), (1, _)] dX5_putFourBytes_2 rfl (by decide) rfl ?_
  have loop_3 : ∀ (n_3 : Nat) (k : Nat) (x : Int32) (S1 : mS), k ≤ 4 → x = (if k < 4 then nI (24 - 8 * k) else -8) → pI4 S S1 f v k → 4 - k < n_3 → Z X 3 ad mdm S1 L R 0 0 3 [(0, .ref (ad 1 0)), (1, .int v), (2, .int x)] [] := by
    intro n_3
    induction n_3 with
    | zero => intro k x S1 hk hx hM hm3; exact absurd hm3 (Nat.not_lt_zero _)
    | succ n_3 ih3 =>
      intro k x S1 hk hx hM hm3
      refine z_iload_n C 3 2 2 dX5_putFourBytes_3 rfl rfl ?_
      refine z_if_lt C 4 46 dX5_putFourBytes_4 (by decide) (fun h4 => ?_) (fun h4 => ?_)
      · have hk4 : k = 4 := by
          rcases (show k < 4 ∨ k = 4 by omega) with z | z
          · rw [hx, if_pos z] at h4
            exact absurd h4 (nI_pos (by omega))
          · exact z
        subst hk4
        exact ret 46 _ _ _ _ dX5_putFourBytes_46 (⟨hM, rfl, rfl⟩)
      · have hk4 : k < 4 := by
          rcases (show k < 4 ∨ k = 4 by omega) with z | z
          · exact z
          · rw [hx, z] at h4
            exact absurd (by decide) h4
        rw [if_pos hk4] at hx
        subst hx
        refine z_aload_n C 7 0 0 dX5_putFourBytes_7 rfl rfl ?_
        refine z_getiv C 8 dX5_putFourBytes_8 gf_X5_15 rfl (by first | assumption | exact Nat.zero_lt_one | exact (show (15 : Nat) < 16 by decide) | exact Nat.lt_succ_of_lt (by assumption) | omega) hM.2.2.1 ?_
        refine z_sipush (v := nI 700) C 11 dX5_putFourBytes_11 (by decide +kernel) ?_
        first | with_reducible refine z_icmp_geN C 14 46 dX5_putFourBytes_14 (by decide) (by omega) (by omega) (fun h14 => absurd hk4 (by omega)) (fun h14 => ?_) | refine z_icmp_ge C 14 46 dX5_putFourBytes_14 (by decide) (fun h14 => absurd hk4 (by omega)) (fun h14 => ?_)
        · refine z_aload_n C 17 0 0 dX5_putFourBytes_17 rfl rfl ?_
          refine z_getr C 18 dX5_putFourBytes_18 gf_X5_9 rfl (by first | assumption | exact Nat.zero_lt_one | exact (show (15 : Nat) < 16 by decide) | exact Nat.lt_succ_of_lt (by assumption) | omega) (by first | exact hR _ _ _ _ rfl | exact hR2 _ _ _ _ rfl | assumption) ?_
          refine z_aload_n C 21 0 0 dX5_putFourBytes_21 rfl rfl ?_
          refine z_getiv C 22 dX5_putFourBytes_22 gf_X5_15 rfl (by first | assumption | exact Nat.zero_lt_one | exact (show (15 : Nat) < 16 by decide) | exact Nat.lt_succ_of_lt (by assumption) | omega) hM.2.2.1 ?_
          refine z_iload_n C 25 1 1 dX5_putFourBytes_25 rfl rfl ?_
          refine z_iload_n C 26 2 2 dX5_putFourBytes_26 rfl rfl ?_
          refine z_iushr C 27 dX5_putFourBytes_27 rfl ?_
          refine z_i2b C 28 dX5_putFourBytes_28 rfl ?_
          rw [by4_u hk4]
          refine z_bast C 29 dX5_putFourBytes_29 (by first | rfl | assumption) (by first | assumption | exact Nat.zero_lt_one | exact (show (15 : Nat) < 16 by decide) | exact Nat.lt_succ_of_lt (by assumption) | omega)  (by first | rfl | assumption) (by first | decide | omega) (by first | assumption | omega) (by first | exact pk_vb _ | assumption) ?_
          refine z_aload_n C 30 0 0 dX5_putFourBytes_30 rfl rfl ?_
          refine z_dup C 31 dX5_putFourBytes_31 rfl ?_
          refine z_getiv C 32 dX5_putFourBytes_32 gf_X5_15 rfl (by first | assumption | exact Nat.zero_lt_one | exact (show (15 : Nat) < 16 by decide) | exact Nat.lt_succ_of_lt (by assumption) | omega) (show up3 S1 2 0 (f + k) _ 1 0 1 = nI (f + k) from (by rw [up3_k _ (by omega)]; exact hM.2.2.1)) ?_
          refine z_iconst (v := nI 1) C 35 dX5_putFourBytes_35 (by decide) ?_
          first | with_reducible refine z_iaddN C 36 dX5_putFourBytes_36 ?_ | refine z_iadd C 36 dX5_putFourBytes_36 ?_
          refine z_puti C 37 dX5_putFourBytes_37 gf_X5_15 ⟨rfl, rfl⟩ rfl (by first | assumption | exact Nat.zero_lt_one | exact (show (15 : Nat) < 16 by decide) | exact Nat.lt_succ_of_lt (by assumption) | omega) ?_
          refine z_iinc C 40 2 2 [(2, _), (0, _), (1, _)] dX5_putFourBytes_40 rfl (by rfl) (by decide) rfl ?_
          refine z_goto C 43 3 dX5_putFourBytes_43 (by decide) ?_
          refine z_sub [(0, _), (1, _), (2, _)] [1, 2, 0] rfl ?_
          exact ih3 (k + 1) _ _ (by omega) (by rcases (show k = 0 ∨ k = 1 ∨ k = 2 ∨ k = 3 by omega) with rfl | rfl | rfl | rfl <;> rfl) hM.nx (by omega)
  refine z_sub [(0, _), (1, _), (2, _)] [1, 2, 0] rfl ?_
  exact loop_3 5 0 _ S (by omega) rfl ⟨fun i hi => absurd hi (Nat.not_lt_zero _), fun _ _ => rfl, hf, fun _ _ _ _ _ => rfl⟩ (by omega)
def rm_X5_wordBetween : Room := { frames := 1, cells := 0, slots := 0, locals := 20 }
set_option maxHeartbeats 4000000 in
set_option maxRecDepth 100000 in
theorem c_X5_wordBetween {l : Launch} {G : mG} {ad : mA} {S : mS} {L : mL} {R : mR} {un : Nat → Nat} {f a b : Nat} (hR : mlk R) (hT : cT S un f) (hab : a ≤ b) (hbf : b ≤ f) : Kl l yX5_wordBetween cX5_wordBetween 6 rm_X5_wordBetween G ad mdm [.ref (ad 1 0), .int (nI a), .int (nI b)] S L R (fun r_ S2 L2 R2 => r_ = lN (wB un a b) ∧ S = S2 ∧ L = L2 ∧ R = R2) := by
  refine Kl.of RX5 (by decide) rfl (Nat.le_of_ble_eq_true rfl) ?_
  intro X hXl hXG C ret
  subst hXl; subst hXG
  change Z X 6 ad mdm S L R 0 0 0 [(0, _), (1, _), (2, _)] []
  have hf7 := hT.2.1
  refine z_iload_n C 0 1 1 dX5_wordBetween_0 rfl rfl ?_
  refine z_if_lt C 1 20 dX5_wordBetween_1 (by decide) (fun h1 => absurd h1 (nI_pos (by omega))) (fun h1 => ?_)
  · refine z_iload_n C 4 2 2 dX5_wordBetween_4 rfl rfl ?_
    refine z_aload_n C 5 0 0 dX5_wordBetween_5 rfl rfl ?_
    refine z_getiv C 6 dX5_wordBetween_6 gf_X5_15 rfl (by first | assumption | exact Nat.zero_lt_one | exact (show (15 : Nat) < 16 by decide) | exact Nat.lt_succ_of_lt (by assumption) | omega) hT.1 ?_
    first | with_reducible refine z_icmp_gtN C 9 20 dX5_wordBetween_9 (by decide) (by omega) (by omega) (fun h9 => absurd hbf (by omega)) (fun h9 => ?_) | refine z_icmp_gt C 9 20 dX5_wordBetween_9 (by decide) (fun h9 => absurd hbf (by omega)) (fun h9 => ?_)
    · refine z_iload_n C 12 2 2 dX5_wordBetween_12 rfl rfl ?_
      refine z_iload_n C 13 1 1 dX5_wordBetween_13 rfl rfl ?_
      first | with_reducible refine z_isubN C 14 dX5_wordBetween_14 (by omega) ?_ | refine z_isub C 14 dX5_wordBetween_14 ?_
      refine z_bipush (v := nI 8) C 15 dX5_wordBetween_15 (by decide +kernel) ?_
      first | with_reducible refine z_icmp_leN C 17 22 dX5_wordBetween_17 (by decide) (by omega) (by omega) (fun h17 => ?_) (fun h17 => ?_) | refine z_icmp_le C 17 22 dX5_wordBetween_17 (by decide) (fun h17 => ?_) (fun h17 => ?_)
      · refine z_lconst (v := 0) C 22 dX5_wordBetween_22 (by decide) ?_
        refine z_lstore_n C 23 3 [(3, _), (0, _), (1, _), (2, _)] dX5_wordBetween_23 rfl (by decide) rfl ?_
        refine z_iload_n C 24 1 2 dX5_wordBetween_24 rfl rfl ?_
        refine z_istore C 25 5 [(5, _), (3, _), (0, _), (1, _), (2, _)] dX5_wordBetween_25 (by decide) rfl ?_
        have loop_27 : ∀ (n_27 : Nat) (i : Nat) (q : Int64), a ≤ i → i ≤ b → (∀ j, a ≤ j → j < i → isLt (un j) = true) → q = lN (e32 (wl un a (i - a))) → b - i < n_27 → Z X 6 ad mdm S L R 0 0 27 [(0, .ref (ad 1 0)), (1, .int (nI a)), (2, .int (nI b)), (3, .long q), (5, .int (nI i))] [] := by
          intro n_27
          induction n_27 with
          | zero => intro i q hi1 hi2 hl hq hm27; exact absurd hm27 (Nat.not_lt_zero _)
          | succ n_27 ih27 =>
            intro i q hi1 hi2 hl hq hm27
            refine z_iload C 27 5 4 dX5_wordBetween_27 rfl ?_
            refine z_iload_n C 29 2 2 dX5_wordBetween_29 rfl rfl ?_
            first | with_reducible refine z_icmp_geN C 30 74 dX5_wordBetween_30 (by decide) (by omega) (by omega) (fun h30 => ?_) (fun h30 => ?_) | refine z_icmp_ge C 30 74 dX5_wordBetween_30 (by decide) (fun h30 => ?_) (fun h30 => ?_)
            · refine z_lload_n C 74 3 3 dX5_wordBetween_74 rfl rfl ?_
              exact ret 75 _ _ _ _ _ dX5_wordBetween_75 (⟨(by have e : i = b := (by omega); subst e; rw [hq, wB_y (by omega) hl]), rfl, rfl, rfl⟩)
            · refine z_aload_n C 33 0 0 dX5_wordBetween_33 rfl rfl ?_
              refine z_getr C 34 dX5_wordBetween_34 gf_X5_9 rfl (by first | assumption | exact Nat.zero_lt_one | exact (show (15 : Nat) < 16 by decide) | exact Nat.lt_succ_of_lt (by assumption) | omega) (by first | exact hR _ _ _ _ rfl | exact hR2 _ _ _ _ rfl | assumption) ?_
              refine z_iload C 37 5 4 dX5_wordBetween_37 rfl ?_
              refine z_bald C 39 dX5_wordBetween_39 rfl (by first | assumption | exact Nat.zero_lt_one | exact (show (15 : Nat) < 16 by decide) | exact Nat.lt_succ_of_lt (by assumption) | omega) (by first | rfl | assumption) (by first | decide | omega) (by first | assumption | omega) ?_
              rw [hT.2.2.2 i (by omega)]
              refine z_cSi0 C 40 dX5_wordBetween_40 cs_X5_148 (c_X5_isLetter (hT.2.2.1 _)) rfl rfl (Nat.le_of_ble_eq_true rfl) ⟨by decide, by decide⟩ ⟨rfl, rfl⟩ ⟨by decide, by decide⟩ ?_
              intro r40 S40 L40 R40 p40
              obtain ⟨rfl, rfl, rfl, rfl⟩ := p40
              first | with_reducible refine z_if_neB C 43 48 dX5_wordBetween_43 (by decide) (fun h43 => ?_) (fun h43 => ?_) | with_reducible refine z_if_neN C 43 48 dX5_wordBetween_43 (by decide) (by omega) (fun h43 => ?_) (fun h43 => ?_) | refine z_if_ne C 43 48 dX5_wordBetween_43 (by decide) (fun h43 => ?_) (fun h43 => ?_)
              · refine z_ldc2 C 48 dX5_wordBetween_48 cl_X5_161 ?_
                refine z_lload_n C 51 3 3 dX5_wordBetween_51 rfl rfl ?_
                refine z_lmul C 52 dX5_wordBetween_52 ?_
                refine z_aload_n C 53 0 0 dX5_wordBetween_53 rfl rfl ?_
                refine z_getr C 54 dX5_wordBetween_54 gf_X5_9 rfl (by first | assumption | exact Nat.zero_lt_one | exact (show (15 : Nat) < 16 by decide) | exact Nat.lt_succ_of_lt (by assumption) | omega) (by first | exact hR _ _ _ _ rfl | exact hR2 _ _ _ _ rfl | assumption) ?_
                refine z_iload C 57 5 4 dX5_wordBetween_57 rfl ?_
                refine z_bald C 59 dX5_wordBetween_59 rfl (by first | assumption | exact Nat.zero_lt_one | exact (show (15 : Nat) < 16 by decide) | exact Nat.lt_succ_of_lt (by assumption) | omega) (by first | rfl | assumption) (by first | decide | omega) (by first | assumption | omega) ?_
                have hc := isLt_i.mp h43
                rw [hT.2.2.2 i (by omega), tb_pos (un i) (by omega)]
                refine z_bipush (v := nI 97) C 60 dX5_wordBetween_60 (by decide +kernel) ?_
                first | with_reducible refine z_isubN C 62 dX5_wordBetween_62 (by omega) ?_ | refine z_isub C 62 dX5_wordBetween_62 ?_
                refine z_iconst (v := nI 1) C 63 dX5_wordBetween_63 (by decide) ?_
                first | with_reducible refine z_iaddN C 64 dX5_wordBetween_64 ?_ | refine z_iadd C 64 dX5_wordBetween_64 ?_
                refine z_i2l C 65 dX5_wordBetween_65 rfl ?_
                rw [nI_l (by omega)]
                refine z_ladd C 66 dX5_wordBetween_66 ?_
                refine z_lstore_n C 67 3 [(3, _), (0, _), (1, _), (2, _), (5, _)] dX5_wordBetween_67 rfl (by decide) rfl ?_
                refine z_iinc C 68 5 4 [(5, _), (3, _), (0, _), (1, _), (2, _)] dX5_wordBetween_68 rfl (by first | exact nI_1 _ | rfl) (by decide) rfl ?_
                refine z_goto C 71 27 dX5_wordBetween_71 (by decide) ?_
                refine z_sub [(0, _), (1, _), (2, _), (3, _), (5, _)] [2, 3, 4, 1, 0] rfl ?_
                exact ih27 (i + 1) _ (by omega) (by omega) (fun j h1 h2 => by rcases (show j < i ∨ j = i by omega) with z | z; exact hl j h1 z; rw [z]; exact h43) (by rw [hq, lN_mul, lN_add, show i + 1 - a = (i - a) + 1 by omega, wl, e32, show a + (i - a) = i by omega, show un i - 97 + 1 = un i - 96 by omega]) (by omega)
              · refine z_lconst (v := 0) C 46 dX5_wordBetween_46 (by decide) ?_
                exact ret 47 _ _ _ _ _ dX5_wordBetween_47 (⟨(by rw [wB_n hi1 (by omega) h43]; rfl), rfl, rfl, rfl⟩)
        refine z_sub [(0, _), (1, _), (2, _), (3, _), (5, _)] [2, 3, 4, 1, 0] rfl ?_
        exact loop_27 (b + 1) a _ (Nat.le_refl _) hab (fun j h1 h2 => by omega) (by rw [Nat.sub_self]; rfl) (by omega)
      · refine z_lconst (v := 0) C 20 dX5_wordBetween_20 (by decide) ?_
        exact ret 21 _ _ _ _ _ dX5_wordBetween_21 (⟨(by rw [wB_8 (by omega)]; rfl), rfl, rfl, rfl⟩)
def rm_X5_stepOverLetters : Room := { frames := 1, cells := 0, slots := 0, locals := 20 }
set_option maxHeartbeats 4000000 in
set_option maxRecDepth 100000 in
theorem c_X5_stepOverLetters {l : Launch} {G : mG} {ad : mA} {S : mS} {L : mL} {R : mR} {un : Nat → Nat} {f len p : Nat} (hR : mlk R) (hT : cT S un f) (hlen : S 1 0 2 = nI len) (hlf : len ≤ f) (hp : S 1 0 3 = nI p) (hpl : p ≤ len) : Kv l yX5_stepOverLetters cX5_stepOverLetters 1 rm_X5_stepOverLetters G ad mdm [.ref (ad 1 0)] S L R (fun S2 L2 R2 => up3 S 1 0 3 (nI (sk isLt un len p)) = S2 ∧ L = L2 ∧ R = R2) := by
  refine Kv.of RX5 (by decide) rfl (Nat.le_of_ble_eq_true rfl) ?_
  intro X hXl hXG C ret
  subst hXl; subst hXG
  change Z X 1 ad mdm S L R 0 0 0 [(0, _)] []
  have hf7 := hT.2.1
  have loop_0 : ∀ (n_0 : Nat) (q : Nat), q ≤ len → sk isLt un len p = sk isLt un len q → len - q < n_0 → Z X 1 ad mdm (up3 S 1 0 3 (nI q)) L R 0 0 0 [(0, .ref (ad 1 0))] [] := by
    intro n_0
    induction n_0 with
    | zero => intro q hq hs hm0; exact absurd hm0 (Nat.not_lt_zero _)
    | succ n_0 ih0 =>
      intro q hq hs hm0
      refine z_aload_n C 0 0 0 dX5_stepOverLetters_0 rfl rfl ?_
      refine z_getiv C 1 dX5_stepOverLetters_1 gf_X5_32 rfl (by first | assumption | exact Nat.zero_lt_one | exact (show (15 : Nat) < 16 by decide) | exact Nat.lt_succ_of_lt (by assumption) | omega) (up3_s _ _ _ _ _) ?_
      refine z_aload_n C 4 0 0 dX5_stepOverLetters_4 rfl rfl ?_
      refine z_getiv C 5 dX5_stepOverLetters_5 gf_X5_29 rfl (by first | assumption | exact Nat.zero_lt_one | exact (show (15 : Nat) < 16 by decide) | exact Nat.lt_succ_of_lt (by assumption) | omega) ((up3_j S (by omega)).trans hlen) ?_
      first | with_reducible refine z_icmp_geN C 8 39 dX5_stepOverLetters_8 (by decide) (by omega) (by omega) (fun h8 => ?_) (fun h8 => ?_) | refine z_icmp_ge C 8 39 dX5_stepOverLetters_8 (by decide) (fun h8 => ?_) (fun h8 => ?_)
      · exact ret 39 _ _ _ _ dX5_stepOverLetters_39 (⟨(by rw [hs, sk_f (by first | (intro z; omega) | exact fun z => h23 z.2)]), rfl, rfl⟩)
      · refine z_aload_n C 11 0 0 dX5_stepOverLetters_11 rfl rfl ?_
        refine z_getr C 12 dX5_stepOverLetters_12 gf_X5_9 rfl (by first | assumption | exact Nat.zero_lt_one | exact (show (15 : Nat) < 16 by decide) | exact Nat.lt_succ_of_lt (by assumption) | omega) (by first | exact hR _ _ _ _ rfl | exact hR2 _ _ _ _ rfl | assumption) ?_
        refine z_aload_n C 15 0 0 dX5_stepOverLetters_15 rfl rfl ?_
        refine z_getiv C 16 dX5_stepOverLetters_16 gf_X5_32 rfl (by first | assumption | exact Nat.zero_lt_one | exact (show (15 : Nat) < 16 by decide) | exact Nat.lt_succ_of_lt (by assumption) | omega) (up3_s _ _ _ _ _) ?_
        refine z_bald C 19 dX5_stepOverLetters_19 rfl (by first | assumption | exact Nat.zero_lt_one | exact (show (15 : Nat) < 16 by decide) | exact Nat.lt_succ_of_lt (by assumption) | omega) (by first | rfl | assumption) (by first | decide | omega) (by first | assumption | omega) ?_
        rw [show (up3 S 1 0 3 (nI q)) 2 0 q = sb (un q) from (by rw [up3_k _ (by omega)]; exact hT.2.2.2 q (by omega))]
        refine z_cSi0 C 20 dX5_stepOverLetters_20 cs_X5_148 (c_X5_isLetter (hT.2.2.1 _)) rfl rfl (Nat.le_of_ble_eq_true rfl) ⟨by decide, by decide⟩ ⟨rfl, rfl⟩ ⟨by decide, by decide⟩ ?_
        intro r20 S20 L20 R20 p20
        obtain ⟨rfl, rfl, rfl, rfl⟩ := p20
        first | with_reducible refine z_if_eqB C 23 39 dX5_stepOverLetters_23 (by decide) (fun h23 => ?_) (fun h23 => ?_) | with_reducible refine z_if_eqN C 23 39 dX5_stepOverLetters_23 (by decide) (by omega) (fun h23 => ?_) (fun h23 => ?_) | refine z_if_eq C 23 39 dX5_stepOverLetters_23 (by decide) (fun h23 => ?_) (fun h23 => ?_)
        · exact ret 39 _ _ _ _ dX5_stepOverLetters_39 (⟨(by rw [hs, sk_f (by first | (intro z; omega) | exact fun z => h23 z.2)]), rfl, rfl⟩)
        · refine z_aload_n C 26 0 0 dX5_stepOverLetters_26 rfl rfl ?_
          refine z_dup C 27 dX5_stepOverLetters_27 rfl ?_
          refine z_getiv C 28 dX5_stepOverLetters_28 gf_X5_32 rfl (by first | assumption | exact Nat.zero_lt_one | exact (show (15 : Nat) < 16 by decide) | exact Nat.lt_succ_of_lt (by assumption) | omega) (up3_s _ _ _ _ _) ?_
          refine z_iconst (v := nI 1) C 31 dX5_stepOverLetters_31 (by decide) ?_
          first | with_reducible refine z_iaddN C 32 dX5_stepOverLetters_32 ?_ | refine z_iadd C 32 dX5_stepOverLetters_32 ?_
          refine z_puti C 33 dX5_stepOverLetters_33 gf_X5_32 ⟨rfl, rfl⟩ rfl (by first | assumption | exact Nat.zero_lt_one | exact (show (15 : Nat) < 16 by decide) | exact Nat.lt_succ_of_lt (by assumption) | omega) ?_
          rw [up3_up3]
          refine z_goto C 36 0 dX5_stepOverLetters_36 (by decide) ?_
          refine z_sub [(0, _)] [0] rfl ?_
          exact ih0 (q + 1) (by omega) (hs.trans (sk_t (by omega) h23)) (by omega)
  refine z_sub [(0, _)] [0] rfl ?_
  refine z_mem (up3 S 1 0 3 (nI p)) (up3_idd S hp).symm ?_
  exact loop_0 (len + 1) p hpl rfl (by omega)
def rm_X5_stepOverNumber : Room := { frames := 1, cells := 0, slots := 0, locals := 20 }
set_option maxHeartbeats 4000000 in
set_option maxRecDepth 100000 in
theorem c_X5_stepOverNumber {l : Launch} {G : mG} {ad : mA} {S : mS} {L : mL} {R : mR} {un : Nat → Nat} {f len p : Nat} (hR : mlk R) (hT : cT S un f) (hlen : S 1 0 2 = nI len) (hlf : len ≤ f) (hp : S 1 0 3 = nI p) (hpl : p ≤ len) (hat : S 1 0 5 = nI p) (hnu : S 1 0 7 = nI 0) : Kv l yX5_stepOverNumber cX5_stepOverNumber 1 rm_X5_stepOverNumber G ad mdm [.ref (ad 1 0)] S L R (fun S2 L2 R2 => up3 (up3 (up3 S 1 0 7 (nI (vD un p (sk isDg un len p - p)))) 1 0 3 (nI (sk isDg un len p))) 1 0 4 (nI (if 4 < sk isDg un len p - p then 4 else 2)) = S2 ∧ L = L2 ∧ R = R2) := by
  refine Kv.of RX5 (by decide) rfl (Nat.le_of_ble_eq_true rfl) ?_
  intro X hXl hXG C ret
  subst hXl; subst hXG
  change Z X 1 ad mdm S L R 0 0 0 [(0, _)] []
  have hf7 := hT.2.1
  have loop_0 : ∀ (n_0 : Nat) (q : Nat), p ≤ q → q ≤ len → sk isDg un len p = sk isDg un len q → len - q < n_0 → Z X 1 ad mdm (up3 (up3 S 1 0 7 (nI (vD un p (q - p)))) 1 0 3 (nI q)) L R 0 0 0 [(0, .ref (ad 1 0))] [] := by
    intro n_0
    induction n_0 with
    | zero => intro q hq1 hq hs hm0; exact absurd hm0 (Nat.not_lt_zero _)
    | succ n_0 ih0 =>
      intro q hq1 hq hs hm0
      refine z_aload_n C 0 0 0 dX5_stepOverNumber_0 rfl rfl ?_
      refine z_getiv C 1 dX5_stepOverNumber_1 gf_X5_32 rfl (by first | assumption | exact Nat.zero_lt_one | exact (show (15 : Nat) < 16 by decide) | exact Nat.lt_succ_of_lt (by assumption) | omega) (up3_s _ _ _ _ _) ?_
      refine z_aload_n C 4 0 0 dX5_stepOverNumber_4 rfl rfl ?_
      refine z_getiv C 5 dX5_stepOverNumber_5 gf_X5_29 rfl (by first | assumption | exact Nat.zero_lt_one | exact (show (15 : Nat) < 16 by decide) | exact Nat.lt_succ_of_lt (by assumption) | omega) (show (up3 (up3 S 1 0 7 (nI (vD un p (q - p)))) 1 0 3 (nI q)) 1 0 2 = nI len from (by rw [up3_j _ (by omega), up3_j _ (by omega)]; exact hlen)) ?_
      first | with_reducible refine z_icmp_geN C 8 63 dX5_stepOverNumber_8 (by decide) (by omega) (by omega) (fun h8 => ?_) (fun h8 => ?_) | refine z_icmp_ge C 8 63 dX5_stepOverNumber_8 (by decide) (fun h8 => ?_) (fun h8 => ?_)
      · have hqe : q = sk isDg un len p := by rw [hs, sk_f (by first | (intro z; omega) | exact fun z => h23 z.2)]
        refine z_aload_n C 63 0 0 dX5_stepOverNumber_63 rfl rfl ?_
        refine z_aload_n C 64 0 0 dX5_stepOverNumber_64 rfl rfl ?_
        refine z_getiv C 65 dX5_stepOverNumber_65 gf_X5_32 rfl (by first | assumption | exact Nat.zero_lt_one | exact (show (15 : Nat) < 16 by decide) | exact Nat.lt_succ_of_lt (by assumption) | omega) (up3_s _ _ _ _ _) ?_
        refine z_aload_n C 68 0 0 dX5_stepOverNumber_68 rfl rfl ?_
        refine z_getiv C 69 dX5_stepOverNumber_69 gf_X5_138 rfl (by first | assumption | exact Nat.zero_lt_one | exact (show (15 : Nat) < 16 by decide) | exact Nat.lt_succ_of_lt (by assumption) | omega) (show (up3 (up3 S 1 0 7 (nI (vD un p (q - p)))) 1 0 3 (nI q)) 1 0 5 = nI p from (by rw [up3_j _ (by omega), up3_j _ (by omega)]; exact hat)) ?_
        first | with_reducible refine z_isubN C 72 dX5_stepOverNumber_72 (by omega) ?_ | refine z_isub C 72 dX5_stepOverNumber_72 ?_
        refine z_iconst (v := nI 4) C 73 dX5_stepOverNumber_73 (by decide) ?_
        first | with_reducible refine z_icmp_leN C 74 81 dX5_stepOverNumber_74 (by decide) (by omega) (by omega) (fun h74 => ?_) (fun h74 => ?_) | refine z_icmp_le C 74 81 dX5_stepOverNumber_74 (by decide) (fun h74 => ?_) (fun h74 => ?_)
        · refine z_iconst (v := nI 2) C 81 dX5_stepOverNumber_81 (by decide) ?_
          refine z_puti C 82 dX5_stepOverNumber_82 gf_X5_75 ⟨rfl, rfl⟩ rfl (by first | assumption | exact Nat.zero_lt_one | exact (show (15 : Nat) < 16 by decide) | exact Nat.lt_succ_of_lt (by assumption) | omega) ?_
          exact ret 85 _ _ _ _ dX5_stepOverNumber_85 (⟨(by rw [← hqe]; first | rw [if_pos (by omega)] | rw [if_neg (by omega)]), rfl, rfl⟩)
        · refine z_iconst (v := nI 4) C 77 dX5_stepOverNumber_77 (by decide) ?_
          refine z_goto C 78 82 dX5_stepOverNumber_78 (by decide) ?_
          refine z_puti C 82 dX5_stepOverNumber_82 gf_X5_75 ⟨rfl, rfl⟩ rfl (by first | assumption | exact Nat.zero_lt_one | exact (show (15 : Nat) < 16 by decide) | exact Nat.lt_succ_of_lt (by assumption) | omega) ?_
          exact ret 85 _ _ _ _ dX5_stepOverNumber_85 (⟨(by rw [← hqe]; first | rw [if_pos (by omega)] | rw [if_neg (by omega)]), rfl, rfl⟩)
      · refine z_aload_n C 11 0 0 dX5_stepOverNumber_11 rfl rfl ?_
        refine z_getr C 12 dX5_stepOverNumber_12 gf_X5_9 rfl (by first | assumption | exact Nat.zero_lt_one | exact (show (15 : Nat) < 16 by decide) | exact Nat.lt_succ_of_lt (by assumption) | omega) (by first | exact hR _ _ _ _ rfl | exact hR2 _ _ _ _ rfl | assumption) ?_
        refine z_aload_n C 15 0 0 dX5_stepOverNumber_15 rfl rfl ?_
        refine z_getiv C 16 dX5_stepOverNumber_16 gf_X5_32 rfl (by first | assumption | exact Nat.zero_lt_one | exact (show (15 : Nat) < 16 by decide) | exact Nat.lt_succ_of_lt (by assumption) | omega) (up3_s _ _ _ _ _) ?_
        refine z_bald C 19 dX5_stepOverNumber_19 rfl (by first | assumption | exact Nat.zero_lt_one | exact (show (15 : Nat) < 16 by decide) | exact Nat.lt_succ_of_lt (by assumption) | omega) (by first | rfl | assumption) (by first | decide | omega) (by first | assumption | omega) ?_
        rw [show (up3 (up3 S 1 0 7 (nI (vD un p (q - p)))) 1 0 3 (nI q)) 2 0 q = sb (un q) from (by rw [up3_k _ (by omega), up3_k _ (by omega)]; exact hT.2.2.2 q (by omega))]
        refine z_cSi0 C 20 dX5_stepOverNumber_20 cs_X5_155 (c_X5_isDigit (hT.2.2.1 _)) rfl rfl (Nat.le_of_ble_eq_true rfl) ⟨by decide, by decide⟩ ⟨rfl, rfl⟩ ⟨by decide, by decide⟩ ?_
        intro r20 S20 L20 R20 p20
        obtain ⟨rfl, rfl, rfl, rfl⟩ := p20
        first | with_reducible refine z_if_eqB C 23 63 dX5_stepOverNumber_23 (by decide) (fun h23 => ?_) (fun h23 => ?_) | with_reducible refine z_if_eqN C 23 63 dX5_stepOverNumber_23 (by decide) (by omega) (fun h23 => ?_) (fun h23 => ?_) | refine z_if_eq C 23 63 dX5_stepOverNumber_23 (by decide) (fun h23 => ?_) (fun h23 => ?_)
        · have hqe : q = sk isDg un len p := by rw [hs, sk_f (by first | (intro z; omega) | exact fun z => h23 z.2)]
          refine z_aload_n C 63 0 0 dX5_stepOverNumber_63 rfl rfl ?_
          refine z_aload_n C 64 0 0 dX5_stepOverNumber_64 rfl rfl ?_
          refine z_getiv C 65 dX5_stepOverNumber_65 gf_X5_32 rfl (by first | assumption | exact Nat.zero_lt_one | exact (show (15 : Nat) < 16 by decide) | exact Nat.lt_succ_of_lt (by assumption) | omega) (up3_s _ _ _ _ _) ?_
          refine z_aload_n C 68 0 0 dX5_stepOverNumber_68 rfl rfl ?_
          refine z_getiv C 69 dX5_stepOverNumber_69 gf_X5_138 rfl (by first | assumption | exact Nat.zero_lt_one | exact (show (15 : Nat) < 16 by decide) | exact Nat.lt_succ_of_lt (by assumption) | omega) (show (up3 (up3 S 1 0 7 (nI (vD un p (q - p)))) 1 0 3 (nI q)) 1 0 5 = nI p from (by rw [up3_j _ (by omega), up3_j _ (by omega)]; exact hat)) ?_
          first | with_reducible refine z_isubN C 72 dX5_stepOverNumber_72 (by omega) ?_ | refine z_isub C 72 dX5_stepOverNumber_72 ?_
          refine z_iconst (v := nI 4) C 73 dX5_stepOverNumber_73 (by decide) ?_
          first | with_reducible refine z_icmp_leN C 74 81 dX5_stepOverNumber_74 (by decide) (by omega) (by omega) (fun h74 => ?_) (fun h74 => ?_) | refine z_icmp_le C 74 81 dX5_stepOverNumber_74 (by decide) (fun h74 => ?_) (fun h74 => ?_)
          · refine z_iconst (v := nI 2) C 81 dX5_stepOverNumber_81 (by decide) ?_
            refine z_puti C 82 dX5_stepOverNumber_82 gf_X5_75 ⟨rfl, rfl⟩ rfl (by first | assumption | exact Nat.zero_lt_one | exact (show (15 : Nat) < 16 by decide) | exact Nat.lt_succ_of_lt (by assumption) | omega) ?_
            exact ret 85 _ _ _ _ dX5_stepOverNumber_85 (⟨(by rw [← hqe]; first | rw [if_pos (by omega)] | rw [if_neg (by omega)]), rfl, rfl⟩)
          · refine z_iconst (v := nI 4) C 77 dX5_stepOverNumber_77 (by decide) ?_
            refine z_goto C 78 82 dX5_stepOverNumber_78 (by decide) ?_
            refine z_puti C 82 dX5_stepOverNumber_82 gf_X5_75 ⟨rfl, rfl⟩ rfl (by first | assumption | exact Nat.zero_lt_one | exact (show (15 : Nat) < 16 by decide) | exact Nat.lt_succ_of_lt (by assumption) | omega) ?_
            exact ret 85 _ _ _ _ dX5_stepOverNumber_85 (⟨(by rw [← hqe]; first | rw [if_pos (by omega)] | rw [if_neg (by omega)]), rfl, rfl⟩)
        · refine z_aload_n C 26 0 0 dX5_stepOverNumber_26 rfl rfl ?_
          refine z_bipush (v := nI 10) C 27 dX5_stepOverNumber_27 (by decide +kernel) ?_
          refine z_aload_n C 29 0 0 dX5_stepOverNumber_29 rfl rfl ?_
          refine z_getiv C 30 dX5_stepOverNumber_30 gf_X5_141 rfl (by first | assumption | exact Nat.zero_lt_one | exact (show (15 : Nat) < 16 by decide) | exact Nat.lt_succ_of_lt (by assumption) | omega) (show (up3 (up3 S 1 0 7 (nI (vD un p (q - p)))) 1 0 3 (nI q)) 1 0 7 = nI (vD un p (q - p)) from (by rw [up3_j _ (by omega), up3_s])) ?_
          first | with_reducible refine z_imulN C 33 dX5_stepOverNumber_33 ?_ | refine z_imul C 33 dX5_stepOverNumber_33 ?_
          refine z_aload_n C 34 0 0 dX5_stepOverNumber_34 rfl rfl ?_
          refine z_getr C 35 dX5_stepOverNumber_35 gf_X5_9 rfl (by first | assumption | exact Nat.zero_lt_one | exact (show (15 : Nat) < 16 by decide) | exact Nat.lt_succ_of_lt (by assumption) | omega) (by first | exact hR _ _ _ _ rfl | exact hR2 _ _ _ _ rfl | assumption) ?_
          refine z_aload_n C 38 0 0 dX5_stepOverNumber_38 rfl rfl ?_
          refine z_getiv C 39 dX5_stepOverNumber_39 gf_X5_32 rfl (by first | assumption | exact Nat.zero_lt_one | exact (show (15 : Nat) < 16 by decide) | exact Nat.lt_succ_of_lt (by assumption) | omega) (up3_s _ _ _ _ _) ?_
          refine z_bald C 42 dX5_stepOverNumber_42 rfl (by first | assumption | exact Nat.zero_lt_one | exact (show (15 : Nat) < 16 by decide) | exact Nat.lt_succ_of_lt (by assumption) | omega) (by first | rfl | assumption) (by first | decide | omega) (by first | assumption | omega) ?_
          have hc := isDg_i.mp h23
          rw [show (up3 (up3 S 1 0 7 (nI (vD un p (q - p)))) 1 0 3 (nI q)) 2 0 q = sb (un q) from (by rw [up3_k _ (by omega), up3_k _ (by omega)]; exact hT.2.2.2 q (by omega)), tb_pos (un q) (by omega)]
          refine z_bipush (v := nI 48) C 43 dX5_stepOverNumber_43 (by decide +kernel) ?_
          first | with_reducible refine z_isubN C 45 dX5_stepOverNumber_45 (by omega) ?_ | refine z_isub C 45 dX5_stepOverNumber_45 ?_
          first | with_reducible refine z_iaddN C 46 dX5_stepOverNumber_46 ?_ | refine z_iadd C 46 dX5_stepOverNumber_46 ?_
          refine z_puti C 47 dX5_stepOverNumber_47 gf_X5_141 ⟨rfl, rfl⟩ rfl (by first | assumption | exact Nat.zero_lt_one | exact (show (15 : Nat) < 16 by decide) | exact Nat.lt_succ_of_lt (by assumption) | omega) ?_
          refine z_aload_n C 50 0 0 dX5_stepOverNumber_50 rfl rfl ?_
          refine z_dup C 51 dX5_stepOverNumber_51 rfl ?_
          refine z_getiv C 52 dX5_stepOverNumber_52 gf_X5_32 rfl (by first | assumption | exact Nat.zero_lt_one | exact (show (15 : Nat) < 16 by decide) | exact Nat.lt_succ_of_lt (by assumption) | omega) (show up3 (up3 (up3 S 1 0 7 (nI (vD un p (q - p)))) 1 0 3 (nI q)) 1 0 7 _ 1 0 3 = nI q from (by rw [up3_j _ (by omega), up3_s])) ?_
          refine z_iconst (v := nI 1) C 55 dX5_stepOverNumber_55 (by decide) ?_
          first | with_reducible refine z_iaddN C 56 dX5_stepOverNumber_56 ?_ | refine z_iadd C 56 dX5_stepOverNumber_56 ?_
          refine z_puti C 57 dX5_stepOverNumber_57 gf_X5_32 ⟨rfl, rfl⟩ rfl (by first | assumption | exact Nat.zero_lt_one | exact (show (15 : Nat) < 16 by decide) | exact Nat.lt_succ_of_lt (by assumption) | omega) ?_
          refine z_goto C 60 0 dX5_stepOverNumber_60 (by decide) ?_
          refine z_sub [(0, _)] [0] rfl ?_
          refine z_mem (up3 (up3 S 1 0 7 (nI (vD un p (q + 1 - p)))) 1 0 3 (nI (q + 1))) (by rw [m73, show q + 1 - p = (q - p) + 1 by omega, vD, show p + (q - p) = q by omega]) ?_
          exact ih0 (q + 1) (by omega) (by omega) (hs.trans (sk_t (by omega) h23)) (by omega)
  refine z_sub [(0, _)] [0] rfl ?_
  refine z_mem (up3 (up3 S 1 0 7 (nI (vD un p (p - p)))) 1 0 3 (nI p)) (by rw [Nat.sub_self, show vD un p 0 = 0 from rfl, up3_idd S hnu, up3_idd S hp]) ?_
  exact loop_0 (len + 1) p (Nat.le_refl _) hpl rfl (by omega)
def rm_X5_wordBeforeSpaces : Room := { frames := 2, cells := 0, slots := 0, locals := 45 }
set_option maxHeartbeats 4000000 in
set_option maxRecDepth 100000 in
theorem c_X5_wordBeforeSpaces {l : Launch} {G : mG} {ad : mA} {S : mS} {L : mL} {R : mR} {un : Nat → Nat} {f : Nat} (hR : mlk R) (hT : cT S un f) : Kl l yX5_wordBeforeSpaces cX5_wordBeforeSpaces 2 rm_X5_wordBeforeSpaces G ad mdm [.ref (ad 1 0)] S L R (fun r_ S2 L2 R2 => (∃ e, e ≤ f ∧ (∀ j, e ≤ j → j < f → un j = 32) ∧ (0 < e → ¬ un (e - 1) = 32) ∧ r_ = lN (wB un 0 e)) ∧ S = S2 ∧ L = L2 ∧ R = R2) := by
  refine Kl.of RX5 (by decide) rfl (Nat.le_of_ble_eq_true rfl) ?_
  intro X hXl hXG C ret
  subst hXl; subst hXG
  change Z X 2 ad mdm S L R 0 0 0 [(0, _)] []
  have hf7 := hT.2.1
  refine z_aload_n C 0 0 0 dX5_wordBeforeSpaces_0 rfl rfl ?_
  refine z_getiv C 1 dX5_wordBeforeSpaces_1 gf_X5_15 rfl (by first | assumption | exact Nat.zero_lt_one | exact (show (15 : Nat) < 16 by decide) | exact Nat.lt_succ_of_lt (by assumption) | omega) hT.1 ?_
  refine z_istore_n C 4 1 [(1, _), (0, _)] dX5_wordBeforeSpaces_4 rfl (by decide) rfl ?_
  have loop_5 : ∀ (n_5 : Nat) (e : Nat), e ≤ f → (∀ j, e ≤ j → j < f → un j = 32) → e < n_5 → Z X 2 ad mdm S L R 0 0 5 [(0, .ref (ad 1 0)), (1, .int (nI e))] [] := by
    intro n_5
    induction n_5 with
    | zero => intro e he hj hm5; exact absurd hm5 (Nat.not_lt_zero _)
    | succ n_5 ih5 =>
      intro e he hj hm5
      refine z_iload_n C 5 1 1 dX5_wordBeforeSpaces_5 rfl rfl ?_
      first | with_reducible refine z_if_leN C 6 28 dX5_wordBeforeSpaces_6 (by decide) (by omega) (fun h6 => ?_) (fun h6 => ?_) | refine z_if_le C 6 28 dX5_wordBeforeSpaces_6 (by decide) (fun h6 => ?_) (fun h6 => ?_)
      · refine z_aload_n C 28 0 0 dX5_wordBeforeSpaces_28 rfl rfl ?_
        refine z_iconst (v := nI 0) C 29 dX5_wordBeforeSpaces_29 (by decide) ?_
        refine z_iload_n C 30 1 1 dX5_wordBeforeSpaces_30 rfl rfl ?_
        refine z_cVl0 C 31 dX5_wordBeforeSpaces_31 cv_X5_19 (c_X5_wordBetween (un := un) (f := f) (a := 0) (b := e) hR hT (by omega) (by omega)) rfl ⟨by decide, rfl⟩ (by first | assumption | exact Nat.zero_lt_one | exact (show (15 : Nat) < 16 by decide) | exact Nat.lt_succ_of_lt (by assumption) | omega) rfl rfl (Nat.le_of_ble_eq_true rfl) ⟨by decide, by decide⟩ ⟨rfl, rfl⟩ ⟨by decide, by decide⟩ ?_
        intro r31 S31 L31 R31 p31
        obtain ⟨rfl, rfl, rfl, rfl⟩ := p31
        exact ret 34 _ _ _ _ _ dX5_wordBeforeSpaces_34 (⟨⟨e, he, hj, (by first | exact fun z => absurd h6 (by omega) | exact fun z y => h19 ((tb_32 _ (hT.2.2.1 _)).mpr y)), rfl⟩, rfl, rfl, rfl⟩)
      · refine z_aload_n C 9 0 0 dX5_wordBeforeSpaces_9 rfl rfl ?_
        refine z_getr C 10 dX5_wordBeforeSpaces_10 gf_X5_9 rfl (by first | assumption | exact Nat.zero_lt_one | exact (show (15 : Nat) < 16 by decide) | exact Nat.lt_succ_of_lt (by assumption) | omega) (by first | exact hR _ _ _ _ rfl | exact hR2 _ _ _ _ rfl | assumption) ?_
        refine z_iload_n C 13 1 1 dX5_wordBeforeSpaces_13 rfl rfl ?_
        refine z_iconst (v := nI 1) C 14 dX5_wordBeforeSpaces_14 (by decide) ?_
        first | with_reducible refine z_isubN C 15 dX5_wordBeforeSpaces_15 (by omega) ?_ | refine z_isub C 15 dX5_wordBeforeSpaces_15 ?_
        refine z_bald C 16 dX5_wordBeforeSpaces_16 rfl (by first | assumption | exact Nat.zero_lt_one | exact (show (15 : Nat) < 16 by decide) | exact Nat.lt_succ_of_lt (by assumption) | omega) (by first | rfl | assumption) (by first | decide | omega) (by first | assumption | omega) ?_
        rw [hT.2.2.2 (e - 1) (by omega)]
        refine z_bipush (v := nI 32) C 17 dX5_wordBeforeSpaces_17 (by decide +kernel) ?_
        first | with_reducible refine z_icmp_neN C 19 28 dX5_wordBeforeSpaces_19 (by decide) (by omega) (by omega) (fun h19 => ?_) (fun h19 => ?_) | refine z_icmp_ne C 19 28 dX5_wordBeforeSpaces_19 (by decide) (fun h19 => ?_) (fun h19 => ?_)
        · refine z_aload_n C 28 0 0 dX5_wordBeforeSpaces_28 rfl rfl ?_
          refine z_iconst (v := nI 0) C 29 dX5_wordBeforeSpaces_29 (by decide) ?_
          refine z_iload_n C 30 1 1 dX5_wordBeforeSpaces_30 rfl rfl ?_
          refine z_cVl0 C 31 dX5_wordBeforeSpaces_31 cv_X5_19 (c_X5_wordBetween (un := un) (f := f) (a := 0) (b := e) hR hT (by omega) (by omega)) rfl ⟨by decide, rfl⟩ (by first | assumption | exact Nat.zero_lt_one | exact (show (15 : Nat) < 16 by decide) | exact Nat.lt_succ_of_lt (by assumption) | omega) rfl rfl (Nat.le_of_ble_eq_true rfl) ⟨by decide, by decide⟩ ⟨rfl, rfl⟩ ⟨by decide, by decide⟩ ?_
          intro r31 S31 L31 R31 p31
          obtain ⟨rfl, rfl, rfl, rfl⟩ := p31
          exact ret 34 _ _ _ _ _ dX5_wordBeforeSpaces_34 (⟨⟨e, he, hj, (by first | exact fun z => absurd h6 (by omega) | exact fun z y => h19 ((tb_32 _ (hT.2.2.1 _)).mpr y)), rfl⟩, rfl, rfl, rfl⟩)
        · refine z_iinc C 22 1 1 [(1, _), (0, _)] dX5_wordBeforeSpaces_22 rfl (show nI e + -1 = nI (e - 1) from (by rw [show e = (e - 1) + 1 by omega]; exact pk_m1 (e - 1))) (by decide) rfl ?_
          refine z_goto C 25 5 dX5_wordBeforeSpaces_25 (by decide) ?_
          refine z_sub [(0, _), (1, _)] [1, 0] rfl ?_
          exact ih5 (e - 1) (by omega) (fun j h1 h2 => by rcases (show j = e - 1 ∨ e ≤ j by omega) with z | z; rw [z]; exact (tb_32 _ (hT.2.2.1 _)).mp h19; exact hj j z h2) (by omega)
  refine z_sub [(0, _), (1, _)] [1, 0] rfl ?_
  exact loop_5 (f + 1) f (Nat.le_refl _) (fun j h1 h2 => by omega) (by omega)
