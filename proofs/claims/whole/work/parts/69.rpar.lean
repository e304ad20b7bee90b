/-- the reference's text: f bytes -/
def rTx (S : mS) (un : Nat → Nat) (f : Nat) : Prop := S 40 0 7 = nI f ∧ f ≤ 700 ∧ (∀ j, un j < 256) ∧ ∀ j, j < f → S 45 0 j = sb (un j)
def pR4 (S S1 : mS) (f : Nat) (v : Int32) (k : Nat) : Prop := (∀ i, i < k → S1 45 0 (f + i) = by4 v i) ∧ (∀ j, j < f → S1 45 0 j = S 45 0 j) ∧ S1 40 0 7 = nI (f + k) ∧ (∀ kk i j, kk ≠ 45 → ¬ (kk = 40 ∧ j = 7) → S1 kk i j = S kk i j)
theorem pR4.nx {S S1 : mS} {f : Nat} {v : Int32} {k : Nat} (h : pR4 S S1 f v k) : pR4 S (up3 (up3 S1 45 0 (f + k) (by4 v k)) 40 0 7 (nI (f + k + 1))) f v (k + 1) := by
  obtain ⟨a, b, c, d⟩ := h
  refine ⟨fun i hi => ?_, fun j hj => ?_, ?_, fun kk i j h2 h1 => ?_⟩
  · rw [up3_k _ (by omega), up3_at]
    by_cases e : i = k
    · rw [if_pos ⟨rfl, rfl, by omega⟩, e]
    · rw [if_neg (by omega)]
      exact a i (by omega)
  · rw [up3_k _ (by omega), up3_j _ (by omega)]
    exact b j hj
  · rw [up3_s]
    rfl
  · simp only [up3]
    rw [if_neg (fun z => h1 ⟨z.1, z.2.2⟩), if_neg (fun z => h2 z.1)]
    exact d kk i j h2 h1
theorem rTx.app {S S1 : mS} {un : Nat → Nat} {f : Nat} {v : Int32} (h : rTx S un f) (hp : pR4 S S1 f v 4) (hf : f + 4 ≤ 700) : rTx S1 (un4 un f v) (f + 4) := by
  obtain ⟨a, b, c, d⟩ := h
  refine ⟨hp.2.2.1, hf, un4_l c, fun j hj => ?_⟩
  unfold un4
  by_cases e : j < f
  · rw [if_pos (Or.inl e), hp.2.1 j e]
    exact d j e
  · rw [if_neg (by omega)]
    have t := hp.1 (j - f) (by omega)
    rw [show f + (j - f) = j by omega] at t
    rw [t, u4_s]
/-- text alone changes -/
def TF (S S2 : mS) : Prop := (∀ k i, k ≠ 40 → k ≠ 45 → S2 k i = S k i) ∧ ∀ j, j ≠ 0 → j ≠ 7 → S2 40 0 j = S 40 0 j
theorem TF.tr {S S2 S3 : mS} (h : TF S S2) (h2 : TF S2 S3) : TF S S3 := ⟨fun k i a b => (h2.1 k i a b).trans (h.1 k i a b), fun j a b => (h2.2 j a b).trans (h.2 j a b)⟩
theorem pR4.tf {S S1 : mS} {f : Nat} {v : Int32} (h : pR4 S S1 f v 4) : TF S S1 := ⟨fun k i a b => by
  funext j
  exact h.2.2.2 k i j b (fun z => a z.1), fun j _ b => h.2.2.2 40 0 j (by omega) (fun z => b z.2)⟩
theorem pR4.t0 {S S1 : mS} {f : Nat} {v : Int32} (h : pR4 S S1 f v 4) : S1 40 0 0 = S 40 0 0 := h.2.2.2 40 0 0 (by omega) (by omega)

def rm_X9_bytesOf : Room := { frames := 0, cells := 0, slots := 0, locals := 0 }
set_option maxHeartbeats 4000000 in
set_option maxRecDepth 100000 in
theorem c_X9_bytesOf {l : Launch} {G : mG} {ad : mA} {S : mS} {L : mL} {R : mR} {f : Nat} {v : Int32} (hR : mlk R) (hf : S 40 0 7 = nI f) (hf4 : f + 4 ≤ 700) : Kv l yX9_bytesOf cX9_bytesOf 3 rm_X9_bytesOf G ad mdm [.ref (ad 40 0), .int v] S L R (fun S2 L2 R2 => pR4 S S2 f v 4 ∧ L = L2 ∧ R = R2) := by
  refine Kv.of RX9 (by decide) rfl (Nat.le_of_ble_eq_true rfl) ?_
  intro X hXl hXG C ret
  subst hXl; subst hXG
  change Z X 3 ad mdm S L R 0 0 0 [(0, _), (1, _)] []
  refine z_bipush (v := nI 24) C 0 dX9_bytesOf_0 (by decide +kernel) ?_
  refine z_istore_n C 2 2 [(2, _), (0, _), (1, _)] dX9_bytesOf_2 rfl (by decide) rfl ?_
  have loop_3 : ∀ (n_3 : Nat) (k : Nat) (x : Int32) (S1 : mS), k ≤ 4 → x = (if k < 4 then nI (24 - 8 * k) else -8) → pR4 S S1 f v k → 4 - k < n_3 → Z X 3 ad mdm S1 L R 0 0 3 [(0, .ref (ad 40 0)), (1, .int v), (2, .int x)] [] := by
    intro n_3
    induction n_3 with
    | zero => intro k x S1 hk hx hM hm3; exact absurd hm3 (Nat.not_lt_zero _)
    | succ n_3 ih3 =>
      intro k x S1 hk hx hM hm3
      refine z_iload_n C 3 2 2 dX9_bytesOf_3 rfl rfl ?_
      refine z_if_lt C 4 36 dX9_bytesOf_4 (by decide) (fun h4 => ?_) (fun h4 => ?_)
      · have hk4 : k = 4 := by
          rcases (show k < 4 ∨ k = 4 by omega) with z | z
          · rw [hx, if_pos z] at h4
            exact absurd h4 (nI_pos (by omega))
          · exact z
        subst hk4
        exact ret 36 _ _ _ _ dX9_bytesOf_36 (⟨hM, rfl, rfl⟩)
      · have hk4 : k < 4 := by
          rcases (show k < 4 ∨ k = 4 by omega) with z | z
          · exact z
          · rw [hx, z] at h4
            exact absurd (by decide) h4
        rw [if_pos hk4] at hx
        subst hx
        refine z_aload_n C 7 0 0 dX9_bytesOf_7 rfl rfl ?_
        refine z_getr C 8 dX9_bytesOf_8 gf_X9_23 rfl (by first | assumption | exact Nat.zero_lt_one | exact (show (15 : Nat) < 16 by decide) | exact Nat.lt_succ_of_lt (by assumption) | omega) (by first | exact hR _ _ _ _ rfl | exact hR2 _ _ _ _ rfl | assumption) ?_
        refine z_aload_n C 11 0 0 dX9_bytesOf_11 rfl rfl ?_
        refine z_getiv C 12 dX9_bytesOf_12 gf_X9_68 rfl (by first | assumption | exact Nat.zero_lt_one | exact (show (15 : Nat) < 16 by decide) | exact Nat.lt_succ_of_lt (by assumption) | omega) hM.2.2.1 ?_
        refine z_iload_n C 15 1 1 dX9_bytesOf_15 rfl rfl ?_
        refine z_iload_n C 16 2 2 dX9_bytesOf_16 rfl rfl ?_
        refine z_ishr C 17 dX9_bytesOf_17 ?_
        refine z_i2b C 18 dX9_bytesOf_18 rfl ?_
        rw [show (v >>> (nI (24 - 8 * k) &&& 31)).toInt8.toInt32 = by4 v k from rfl]
        refine z_bast C 19 dX9_bytesOf_19 (by first | rfl | assumption) (by first | assumption | exact Nat.zero_lt_one | exact (show (15 : Nat) < 16 by decide) | exact Nat.lt_succ_of_lt (by assumption) | omega)  (by first | rfl | assumption) (by first | decide | omega) (by first | assumption | omega) (by first | exact pk_vb _ | assumption) ?_
        refine z_aload_n C 20 0 0 dX9_bytesOf_20 rfl rfl ?_
        refine z_dup C 21 dX9_bytesOf_21 rfl ?_
        refine z_getiv C 22 dX9_bytesOf_22 gf_X9_68 rfl (by first | assumption | exact Nat.zero_lt_one | exact (show (15 : Nat) < 16 by decide) | exact Nat.lt_succ_of_lt (by assumption) | omega) (show up3 S1 45 0 (f + k) _ 40 0 7 = nI (f + k) from (by rw [up3_k _ (by omega)]; exact hM.2.2.1)) ?_
        refine z_iconst (v := nI 1) C 25 dX9_bytesOf_25 (by decide) ?_
        first | with_reducible refine z_iaddN C 26 dX9_bytesOf_26 ?_ | refine z_iadd C 26 dX9_bytesOf_26 ?_
        refine z_puti C 27 dX9_bytesOf_27 gf_X9_68 ⟨rfl, rfl⟩ rfl (by first | assumption | exact Nat.zero_lt_one | exact (show (15 : Nat) < 16 by decide) | exact Nat.lt_succ_of_lt (by assumption) | omega) ?_
        refine z_iinc C 30 2 2 [(2, _), (0, _), (1, _)] dX9_bytesOf_30 rfl rfl (by decide) rfl ?_
        refine z_goto C 33 3 dX9_bytesOf_33 (by decide) ?_
        refine z_sub [(0, _), (1, _), (2, _)] [1, 2, 0] rfl ?_
        exact ih3 (k + 1) _ _ (by omega) (by rcases (show k = 0 ∨ k = 1 ∨ k = 2 ∨ k = 3 by omega) with rfl | rfl | rfl | rfl <;> rfl) hM.nx (by omega)
  refine z_sub [(0, _), (1, _), (2, _)] [1, 2, 0] rfl ?_
  exact loop_3 5 0 _ S (by omega) rfl ⟨fun i hi => absurd hi (Nat.not_lt_zero _), fun _ _ => rfl, hf, fun _ _ _ _ _ => rfl⟩ (by omega)
def rm_X9_append : Room := { frames := 1, cells := 0, slots := 0, locals := 22 }
set_option maxHeartbeats 4000000 in
set_option maxRecDepth 100000 in
theorem c_X9_append {l : Launch} {G : mG} {ad : mA} {S : mS} {L : mL} {R : mR} {un : Nat → Nat} {f : Nat} {a b c d e : Int32} (hR : mlk R) (hT : rTx S un f) (hf : f ≤ 680) : Ki l yX9_append cX9_append 6 .int rm_X9_append G ad mdm [.ref (ad 40 0), .int a, .int b, .int c, .int d, .int e] S L R (fun r_ S2 L2 R2 => r_ = nI (f + 20) ∧ rTx S2 (un20 un f a b c d e) (f + 20) ∧ S2 40 0 0 = nI 0 ∧ TF S S2 ∧ L = L2 ∧ R = R2) := by
  refine Ki.of RX9 (by decide) rfl (Nat.le_of_ble_eq_true rfl) ?_
  intro X hXl hXG C ret
  subst hXl; subst hXG
  change Z X 6 ad mdm S L R 0 0 0 [(0, _), (1, _), (2, _), (3, _), (4, _), (5, _)] []
  have hT0 : rTx (up3 S 40 0 0 (nI 0)) un f := ⟨(up3_j _ (by omega)).trans hT.1, hT.2.1, hT.2.2.1, fun j hj => by rw [up3_k _ (by omega)]; exact hT.2.2.2 j hj⟩
  have F0 : TF S (up3 S 40 0 0 (nI 0)) := ⟨fun k i a _ => by rw [up3_k _ a], fun j a _ => up3_j _ a⟩
  refine z_aload_n C 0 0 0 dX9_append_0 rfl rfl ?_
  refine z_iconst (v := nI 0) C 1 dX9_append_1 (by decide) ?_
  refine z_puti C 2 dX9_append_2 gf_X9_65 ⟨rfl, rfl⟩ rfl (by first | assumption | exact Nat.zero_lt_one | exact (show (15 : Nat) < 16 by decide) | exact Nat.lt_succ_of_lt (by assumption) | omega) ?_
  refine z_aload_n C 5 0 0 dX9_append_5 rfl rfl ?_
  refine z_getiv C 6 dX9_append_6 gf_X9_68 rfl (by first | assumption | exact Nat.zero_lt_one | exact (show (15 : Nat) < 16 by decide) | exact Nat.lt_succ_of_lt (by assumption) | omega) hT0.1 ?_
  refine z_bipush (v := nI 20) C 9 dX9_append_9 (by decide +kernel) ?_
  first | with_reducible refine z_iaddN C 11 dX9_append_11 ?_ | refine z_iadd C 11 dX9_append_11 ?_
  refine z_sipush (v := nI 700) C 12 dX9_append_12 (by decide +kernel) ?_
  first | with_reducible refine z_icmp_leN C 15 20 dX9_append_15 (by decide) (by omega) (by omega) (fun h15 => ?_) (fun h15 => absurd hf (by omega)) | refine z_icmp_le C 15 20 dX9_append_15 (by decide) (fun h15 => ?_) (fun h15 => absurd hf (by omega))
  · refine z_aload_n C 20 0 0 dX9_append_20 rfl rfl ?_
    refine z_iload_n C 21 1 1 dX9_append_21 rfl rfl ?_
    refine z_cVv0 C 22 dX9_append_22 cv_X9_71 (c_X9_bytesOf (f := f) hR hT0.1 (by omega)) rfl ⟨by decide, rfl⟩ (by first | assumption | exact Nat.zero_lt_one | exact (show (15 : Nat) < 16 by decide) | exact Nat.lt_succ_of_lt (by assumption) | omega) rfl rfl (Nat.le_of_ble_eq_true rfl) ⟨by decide, by decide⟩ ⟨rfl, rfl⟩ ⟨by decide, by decide⟩ ?_
    intro S22 L22 R22 p22
    obtain ⟨p1, rfl, rfl⟩ := p22
    have t1 := hT0.app p1 (by omega)
    refine z_aload_n C 25 0 0 dX9_append_25 rfl rfl ?_
    refine z_iload_n C 26 2 2 dX9_append_26 rfl rfl ?_
    refine z_cVv0 C 27 dX9_append_27 cv_X9_71 (c_X9_bytesOf (f := f + 4) hR t1.1 (by omega)) rfl ⟨by decide, rfl⟩ (by first | assumption | exact Nat.zero_lt_one | exact (show (15 : Nat) < 16 by decide) | exact Nat.lt_succ_of_lt (by assumption) | omega) rfl rfl (Nat.le_of_ble_eq_true rfl) ⟨by decide, by decide⟩ ⟨rfl, rfl⟩ ⟨by decide, by decide⟩ ?_
    intro S27 L27 R27 p27
    obtain ⟨p2, rfl, rfl⟩ := p27
    have t2 := t1.app p2 (by omega)
    refine z_aload_n C 30 0 0 dX9_append_30 rfl rfl ?_
    refine z_iload_n C 31 3 3 dX9_append_31 rfl rfl ?_
    refine z_cVv0 C 32 dX9_append_32 cv_X9_71 (c_X9_bytesOf (f := f + 8) hR t2.1 (by omega)) rfl ⟨by decide, rfl⟩ (by first | assumption | exact Nat.zero_lt_one | exact (show (15 : Nat) < 16 by decide) | exact Nat.lt_succ_of_lt (by assumption) | omega) rfl rfl (Nat.le_of_ble_eq_true rfl) ⟨by decide, by decide⟩ ⟨rfl, rfl⟩ ⟨by decide, by decide⟩ ?_
    intro S32 L32 R32 p32
    obtain ⟨p3, rfl, rfl⟩ := p32
    have t3 := t2.app p3 (by omega)
    refine z_aload_n C 35 0 0 dX9_append_35 rfl rfl ?_
    refine z_iload C 36 4 4 dX9_append_36 rfl ?_
    refine z_cVv0 C 38 dX9_append_38 cv_X9_71 (c_X9_bytesOf (f := f + 12) hR t3.1 (by omega)) rfl ⟨by decide, rfl⟩ (by first | assumption | exact Nat.zero_lt_one | exact (show (15 : Nat) < 16 by decide) | exact Nat.lt_succ_of_lt (by assumption) | omega) rfl rfl (Nat.le_of_ble_eq_true rfl) ⟨by decide, by decide⟩ ⟨rfl, rfl⟩ ⟨by decide, by decide⟩ ?_
    intro S38 L38 R38 p38
    obtain ⟨p4, rfl, rfl⟩ := p38
    have t4 := t3.app p4 (by omega)
    refine z_aload_n C 41 0 0 dX9_append_41 rfl rfl ?_
    refine z_iload C 42 5 5 dX9_append_42 rfl ?_
    refine z_cVv0 C 44 dX9_append_44 cv_X9_71 (c_X9_bytesOf (f := f + 16) hR t4.1 (by omega)) rfl ⟨by decide, rfl⟩ (by first | assumption | exact Nat.zero_lt_one | exact (show (15 : Nat) < 16 by decide) | exact Nat.lt_succ_of_lt (by assumption) | omega) rfl rfl (Nat.le_of_ble_eq_true rfl) ⟨by decide, by decide⟩ ⟨rfl, rfl⟩ ⟨by decide, by decide⟩ ?_
    intro S44 L44 R44 p44
    obtain ⟨p5, rfl, rfl⟩ := p44
    have t5 := t4.app p5 (by omega)
    refine z_aload_n C 47 0 0 dX9_append_47 rfl rfl ?_
    refine z_getiv C 48 dX9_append_48 gf_X9_68 rfl (by first | assumption | exact Nat.zero_lt_one | exact (show (15 : Nat) < 16 by decide) | exact Nat.lt_succ_of_lt (by assumption) | omega) t5.1 ?_
    exact ret 51 _ _ _ _ _ dX9_append_51 (by first | rfl | exact bI_n | decide) (⟨rfl, t5, p5.t0.trans (p4.t0.trans (p3.t0.trans (p2.t0.trans (p1.t0.trans (up3_s _ _ _ _ _))))), ((((F0.tr p1.tf).tr p2.tf).tr p3.tf).tr p4.tf).tr p5.tf, rfl, rfl⟩)

set_option maxHeartbeats 4000000 in
set_option maxRecDepth 100000 in
theorem c_X9_append_n {l : Launch} {G : mG} {ad : mA} {S : mS} {L : mL} {R : mR} {un : Nat → Nat} {f : Nat} {a b c d e : Int32} (hR : mlk R) (hT : rTx S un f) (hf : 680 < f) : Ki l yX9_append cX9_append 6 .int rm_X9_append G ad mdm [.ref (ad 40 0), .int a, .int b, .int c, .int d, .int e] S L R (fun r_ S2 L2 R2 => r_ = -1 ∧ up3 S 40 0 0 (nI 0) = S2 ∧ L = L2 ∧ R = R2) := by
  refine Ki.of RX9 (by decide) rfl (Nat.le_of_ble_eq_true rfl) ?_
  intro X hXl hXG C ret
  subst hXl; subst hXG
  change Z X 6 ad mdm S L R 0 0 0 [(0, _), (1, _), (2, _), (3, _), (4, _), (5, _)] []
  have hf7 := hT.2.1
  refine z_aload_n C 0 0 0 dX9_append_0 rfl rfl ?_
  refine z_iconst (v := nI 0) C 1 dX9_append_1 (by decide) ?_
  refine z_puti C 2 dX9_append_2 gf_X9_65 ⟨rfl, rfl⟩ rfl (by first | assumption | exact Nat.zero_lt_one | exact (show (15 : Nat) < 16 by decide) | exact Nat.lt_succ_of_lt (by assumption) | omega) ?_
  refine z_aload_n C 5 0 0 dX9_append_5 rfl rfl ?_
  refine z_getiv C 6 dX9_append_6 gf_X9_68 rfl (by first | assumption | exact Nat.zero_lt_one | exact (show (15 : Nat) < 16 by decide) | exact Nat.lt_succ_of_lt (by assumption) | omega) ((up3_j _ (by omega)).trans hT.1) ?_
  refine z_bipush (v := nI 20) C 9 dX9_append_9 (by decide +kernel) ?_
  first | with_reducible refine z_iaddN C 11 dX9_append_11 ?_ | refine z_iadd C 11 dX9_append_11 ?_
  refine z_sipush (v := nI 700) C 12 dX9_append_12 (by decide +kernel) ?_
  first | with_reducible refine z_icmp_leN C 15 20 dX9_append_15 (by decide) (by omega) (by omega) (fun h15 => absurd hf (by omega)) (fun h15 => ?_) | refine z_icmp_le C 15 20 dX9_append_15 (by decide) (fun h15 => absurd hf (by omega)) (fun h15 => ?_)
  · refine z_iconst (v := (-1)) C 18 dX9_append_18 (by decide) ?_
    exact ret 19 _ _ _ _ _ dX9_append_19 (by first | rfl | exact bI_n | decide) (⟨rfl, rfl, rfl, rfl⟩)
theorem yStm_lim {un : Nat → Nat} {len p : Nat} {D : PD} : (yStm un len D p).2.lim = D.lim := by
  unfold yStm
  split
  · unfold yProg
    split <;> rfl
  · split
    · unfold yWork
      split <;> rfl
    · split
      · rfl
      · split
        · unfold yPol
          dsimp only
          split
          · rfl
          · split
            · rfl
            · split <;> rfl
        · rfl
theorem yLoop_lim {un : Nat → Nat} {len : Nat} : ∀ (n : Nat) (D : PD) (q : mQ), (yLoop un len n D q).2.lim = D.lim
  | 0, _, _ => rfl
  | n + 1, D, q => by
    rw [yLoop]
    split
    · rw [yLoop_lim n, yStm_lim]
    · rfl
theorem yPh_lim {un : Nat → Nat} {len : Nat} : (yPh un len).2.lim = tW un len (yH0 un len).2.2 := yLoop_lim _ _ _
/-- while the reference reads -/
def fQ (S M : mS) (len : Nat) : Prop := (∀ k i, k ≠ 40 → k ≠ 46 → k ≠ 48 → M k i = S k i) ∧ (∀ j, j = 1 ∨ j = 26 ∨ j = 27 → M 40 0 j = S 40 0 j) ∧ M 40 0 0 = nI 0 ∧ M 40 0 7 = nI 0 ∧ M 40 0 8 = nI len
theorem fQ.rs {S M M2 : mS} {len : Nat} (h : fQ S M len) (hF : RS M M2) : fQ S M2 len := ⟨fun k i a b c => (hF.1 k i a b c).trans (h.1 k i a b c), fun j hj => (hF.2 j (by omega)).trans (h.2.1 j hj), (hF.2 0 (by omega)).trans h.2.2.1, (hF.2 7 (by omega)).trans h.2.2.2.1, (hF.2 8 (by omega)).trans h.2.2.2.2⟩
theorem fQ.u17 {S M : mS} {len : Nat} (h : fQ S M len) {v : Int32} : fQ S (up3 M 40 0 17 v) len := ⟨fun k i a b c => by rw [up3_k _ a]; exact h.1 k i a b c, fun j hj => (up3_j _ (by omega)).trans (h.2.1 j hj), (up3_j _ (by omega)).trans h.2.2.1, (up3_j _ (by omega)).trans h.2.2.2.1, (up3_j _ (by omega)).trans h.2.2.2.2⟩
theorem rD.u17 {S : mS} {L : mL} {D : PD} {v : Int32} (h : rD S L D) : rD (up3 S 40 0 17 v) L D := by
  obtain ⟨a, b, c, d, f, g, i, j⟩ := h
  exact ⟨a, (up3_j _ (by omega)).trans b, fun w hw => by rw [up3_k _ (by omega)]; exact c w hw, (up3_j _ (by omega)).trans d, f, fun w x hw hx => by rw [up3_k _ (by omega)]; exact g w x hw hx, (up3_j _ (by omega)).trans i, j⟩
theorem rU.u17 {S : mS} {un : Nat → Nat} {len : Nat} {v : Int32} (h : rU S un len) : rU (up3 S 40 0 17 v) un len := ⟨(up3_j _ (by omega)).trans h.1, h.2.1, h.2.2.1, fun j hj => by rw [up3_k _ (by omega)]; exact h.2.2.2 j hj⟩
theorem rD_beg {S : mS} {L : mL} (x : Nat) : rD (cDr S) L (yD x) := by
  refine ⟨Nat.zero_le _, by simp [cDr, up3_at]; rfl, fun j hj => ?_, by simp [cDr, up3_at]; rfl, fun j hj => absurd hj (Nat.not_lt_zero _), fun j w hj => absurd hj (Nat.not_lt_zero _), by simp [cDr, up3_at]; rfl, Nat.zero_le _, Nat.zero_le _⟩
  rcases (show j = 0 ∨ j = 1 ∨ j = 2 ∨ j = 3 by omega) with rfl | rfl | rfl | rfl <;> (simp [cDr, up3_at]; rfl)
theorem mQ_y0 {q : mQ} (h0 : q.1 = 0) (h1 : q.2.1 = -1) : q = y0 q.2.2 := by
  obtain ⟨a, b, c⟩ := q
  have h0 : a = 0 := h0
  have h1 : b = -1 := h1
  rw [h0, h1]
  rfl
/-- behind parse -/
def rPr (S S2 : mS) (L L2 : mL) (un : Nat → Nat) (len : Nat) : Prop :=
  S2 40 0 0 = nI 0 ∧ S2 40 0 7 = nI 0 ∧ S2 40 0 15 = (yPh un len).1.2.1 ∧ (∀ k i, k < 40 ∨ 53 < k → S2 k i = S k i) ∧ (∀ k i, k < 40 ∨ 53 < k → L2 k i = L k i) ∧
  (¬ (yPh un len).1.1 = 0 → (∀ k i, k ≠ 40 → k ≠ 46 → k ≠ 48 → S2 k i = S k i) ∧ (∀ j, j = 1 ∨ j = 26 ∨ j = 27 → S2 40 0 j = S 40 0 j) ∧ L2 42 0 = L 42 0) ∧
  ((yPh un len).1.1 = 0 → S2 40 0 1 = nI (yPh un len).2.k ∧ TE (S2 41 0) (yPh un len).2.T (yPh un len).2.k ∧ (∀ j, j < 4 → S2 43 0 j = (yPh un len).2.c j) ∧ S2 44 0 = fBeg (nI (yPh un len).2.lim) (nI (yPh un len).2.pol) ∧ S2 40 0 27 = nI 0 ∧ (∀ s, s < 2 → S2 53 0 s = nI 0) ∧ ∀ j, j < (yPh un len).2.k → L2 42 0 j = lN (e256 ((yPh un len).2.nm j)))
theorem rpr_bad {S M : mS} {L L1 : mL} {un : Nat → Nat} {len : Nat} {q : mQ} {D : PD} (h : yPh un len = (q, D)) (hq : ¬ q.1 = 0) (hS : rSt M L1 un len q) (hF : fQ S M len) (hG : LW L L1) : rPr S M L L1 un len := by
  rw [rPr, h]
  exact ⟨hF.2.2.1, hF.2.2.2.1, hS.2.2.1, fun k i hk => hF.1 k i (by omega) (by omega) (by omega), fun k i hk => hG k i (by omega) (by omega), fun _ => ⟨hF.1, hF.2.1, hG 42 0 (by omega) (by omega)⟩, fun z => absurd z hq⟩
theorem rpr_ok {S M S2 : mS} {L L1 L2 : mL} {un : Nat → Nat} {len : Nat} {q : mQ} {D : PD} (h : yPh un len = (q, D)) (hq : q.1 = 0) (hS : rSt M L1 un len q) (hF : fQ S M len) (hG : LW L L1) (hD : rD M L1 D) (h17 : M 40 0 17 = nI D.lim) (hB : BZ M S2 L1 L2) : rPr S S2 L L2 un len := by
  rw [rPr, h]
  obtain ⟨b1, b2, b3, b4, b5, b6, b7, b8, b9, b10⟩ := hB
  obtain ⟨d1, d2, d3, d4, d5, d6, d7⟩ := hD
  refine ⟨(b5 0 (by omega) (by omega)).trans hF.2.2.1, (b5 7 (by omega) (by omega)).trans hF.2.2.2.1, (b5 15 (by omega) (by omega)).trans hS.2.2.1, fun k i hk => (b4 k i (by omega) (by omega) (by omega) (by omega) (by omega)).trans (hF.1 k i (by omega) (by omega) (by omega)), fun k i hk => (b10 k i (by omega)).trans (hG k i (by omega) (by omega)), fun z => absurd hq z, fun _ => ⟨b6.trans d2, fun p w hp hw => ?_, fun j hj => (b2 j hj).trans (d3 j hj), ?_, b7, b8, fun j hj => ?_⟩⟩
  · have hp : p < D.k := hp
    exact (b1 _ (by omega)).trans (d6 p w hp hw)
  · rw [b3, h17, d4]
  · have hj : j < D.k := hj
    exact (b9 j (by omega)).trans (d5 j hj)

theorem dm40 : ∀ k, 40 ≤ k → k ≤ 53 → mdm k 0 := by
  intro k h1 h2
  show 0 < mcnt k
  rcases (show k = 40 ∨ k = 41 ∨ k = 42 ∨ k = 43 ∨ k = 44 ∨ k = 45 ∨ k = 46 ∨ k = 47 ∨ k = 48 ∨ k = 49 ∨ k = 50 ∨ k = 51 ∨ k = 52 ∨ k = 53 by omega) with rfl | rfl | rfl | rfl | rfl | rfl | rfl | rfl | rfl | rfl | rfl | rfl | rfl | rfl <;> decide
theorem yD_c {x : Nat} : cO (yD x).c := by
  intro i hi
  rcases (show i = 0 ∨ i = 1 ∨ i = 2 ∨ i = 3 by omega) with rfl | rfl | rfl | rfl
  · exact ⟨10, by omega, rfl⟩
  · exact ⟨2, by omega, rfl⟩
  · exact ⟨5, by omega, rfl⟩
  · exact ⟨20, by omega, rfl⟩
theorem yD_l {un : Nat → Nat} {len : Nat} (z : (yH un len).1 = 0) : 50 ≤ (yD (tW un len (yH0 un len).2.2)).lim ∧ (yD (tW un len (yH0 un len).2.2)).lim ≤ 2000 := by
  have z1 := yN_ok (yT_ok z).1
  show 50 ≤ tW un len (yH0 un len).2.2 ∧ tW un len (yH0 un len).2.2 ≤ 2000
  rw [tW_2 z1.2.1]
  exact z1.2.2.1
theorem yMs {un : Nat → Nat} {len n : Nat} {q r : mQ} (hG : yG len q.2.2 r) (h0 : q.1 = 0) (hl : q.2.2 ≤ len) (hm : (if q.1 = 0 then len + 1 - q.2.2 else 0) < n + 1) : (if (yT un len r 3).1 = 0 then len + 1 - (yT un len r 3).2.2 else 0) < n := by
  rw [if_pos h0] at hm
  split
  · rename_i z
    have h1 := yT3 hG z
    have h2 := (hG.T (un := un) 3).2.1
    omega
  · omega

def rm_X9_parse : Room := { frames := 7, cells := 0, slots := 0, locals := 203 }
set_option maxHeartbeats 4000000 in
set_option maxRecDepth 100000 in
theorem c_X9_parse {l : Launch} {G : mG} {ad : mA} {S : mS} {L : mL} {R : mR} {un : Nat → Nat} {len f : Nat} (hR : mlk R) (hT : rTx S un f) (hlf : len ≤ f) : Ki l yX9_parse cX9_parse 3 .int rm_X9_parse G ad mdm [.ref (ad 40 0), .int (nI len)] S L R (fun r_ S2 L2 R2 => r_ = nI (yPh un len).1.1 ∧ rPr S S2 L L2 un len ∧ R = R2) := by
  refine Ki.of RX9 (by decide) rfl (Nat.le_of_ble_eq_true rfl) ?_
  intro X hXl hXG C ret
  subst hXl; subst hXG
  change Z X 3 ad mdm S L R 0 0 0 [(0, _), (1, _)] []
  have hf7 := hT.2.1
  have join_122 : ∀ (b : Int32) (q : mQ) (D : PD) (M : mS) (L1 : mL), b = bI (q.1 = 0) → rSt M L1 un len q → (q.1 = 0 → rD M L1 D ∧ dOK D ∧ q.2.1 = -1 ∧ M 40 0 17 = nI D.lim) → rU M un len → fQ S M len → LW L L1 → yPh un len = yRun un len D q → Z X 3 ad mdm M L1 R 0 0 122 [(2, .int b), (0, .ref (ad 40 0)), (1, .int (nI len))] [] := by
    intro b0 q0 D0 M0 L0 hb0 mq0 me0 mU0 mF0 mG0 mR0
    have loop_122 : ∀ (n_122 : Nat) (b : Int32) (q : mQ) (D : PD) (M : mS) (L1 : mL), b = bI (q.1 = 0) → rSt M L1 un len q → (q.1 = 0 → rD M L1 D ∧ dOK D ∧ q.2.1 = -1 ∧ M 40 0 17 = nI D.lim) → rU M un len → fQ S M len → LW L L1 → yPh un len = yRun un len D q → (if q.1 = 0 then len + 1 - q.2.2 else 0) < n_122 → Z X 3 ad mdm M L1 R 0 0 122 [(2, .int b), (0, .ref (ad 40 0)), (1, .int (nI len))] [] := by
      intro n_122
      induction n_122 with
      | zero => intro b q D M L1 hb mq me1 mU mF mG mR hm122; exact absurd hm122 (Nat.not_lt_zero _)
      | succ n_122 ih122 =>
        intro b q D M L1 hb mq me1 mU mF mG mR hm122
        subst hb
        refine z_iload_n C 122 2 0 dX9_parse_122 rfl rfl ?_
        first | with_reducible refine z_if_eqB C 123 156 dX9_parse_123 (by decide) (fun h123 => ?_) (fun h123 => ?_) | with_reducible refine z_if_eqN C 123 156 dX9_parse_123 (by decide) (by omega) (fun h123 => ?_) (fun h123 => ?_) | refine z_if_eq C 123 156 dX9_parse_123 (by decide) (fun h123 => ?_) (fun h123 => ?_)
        · refine z_iload_n C 156 2 0 dX9_parse_156 rfl rfl ?_
          first | with_reducible refine z_if_neB C 157 165 dX9_parse_157 (by decide) (fun h157 => absurd h157 h123) (fun h157 => ?_) | with_reducible refine z_if_neN C 157 165 dX9_parse_157 (by decide) (by omega) (fun h157 => absurd h157 h123) (fun h157 => ?_) | refine z_if_ne C 157 165 dX9_parse_157 (by decide) (fun h157 => absurd h157 h123) (fun h157 => ?_)
          · refine z_aload_n C 160 0 1 dX9_parse_160 rfl rfl ?_
            refine z_getiv C 161 dX9_parse_161 gf_X9_114 rfl (by first | assumption | exact Nat.zero_lt_one | exact (show (15 : Nat) < 16 by decide) | exact Nat.lt_succ_of_lt (by assumption) | omega) mq.1 ?_
            exact ret 164 _ _ _ _ _ dX9_parse_164 (by first | rfl | exact bI_n | decide) ((by have e9 := yRun_e (un := un) (len := len) (D := D) (q := q) (fun z => h123 z.1); have e8 := mR.trans e9; rw [e8]; exact ⟨rfl, rpr_bad e8 h123 mq mF mG, rfl⟩))
        · have me := me1 h123
          refine z_aload_n C 126 0 1 dX9_parse_126 rfl rfl ?_
          refine z_getiv C 127 dX9_parse_127 gf_X9_99 rfl (by first | assumption | exact Nat.zero_lt_one | exact (show (15 : Nat) < 16 by decide) | exact Nat.lt_succ_of_lt (by assumption) | omega) (mq.2.2.2 h123).1.2.2.1 ?_
          have hk4 := tK_le (un := un) (len := len) (p := q.2.2)
          first | with_reducible refine z_if_eqB C 130 156 dX9_parse_130 (by decide) (fun h130 => ?_) (fun h130 => ?_) | with_reducible refine z_if_eqN C 130 156 dX9_parse_130 (by decide) (by omega) (fun h130 => ?_) (fun h130 => ?_) | refine z_if_eq C 130 156 dX9_parse_130 (by decide) (fun h130 => ?_) (fun h130 => ?_)
          · refine z_iload_n C 156 2 0 dX9_parse_156 rfl rfl ?_
            first | with_reducible refine z_if_neB C 157 165 dX9_parse_157 (by decide) (fun h157 => ?_) (fun h157 => absurd h123 h157) | with_reducible refine z_if_neN C 157 165 dX9_parse_157 (by decide) (by omega) (fun h157 => ?_) (fun h157 => absurd h123 h157) | refine z_if_ne C 157 165 dX9_parse_157 (by decide) (fun h157 => ?_) (fun h157 => absurd h123 h157)
            · refine z_aload_n C 165 0 1 dX9_parse_165 rfl rfl ?_
              refine z_cVv0 C 166 dX9_parse_166 cv_X9_62 (c_X9_begins dm40 (fun j q h => hR 40 0 j q h)) rfl ⟨by decide, rfl⟩ (by first | assumption | exact Nat.zero_lt_one | exact (show (15 : Nat) < 16 by decide) | exact Nat.lt_succ_of_lt (by assumption) | omega) rfl rfl (Nat.le_of_ble_eq_true rfl) ⟨by decide, by decide⟩ ⟨rfl, rfl⟩ ⟨by decide, by decide⟩ ?_
              intro S166 L166 R166 p166
              obtain ⟨t166, rfl⟩ := p166
              refine z_iconst (v := nI 0) C 169 dX9_parse_169 (by decide) ?_
              exact ret 170 _ _ _ _ _ dX9_parse_170 (by first | rfl | exact bI_n | decide) ((by have e9 := yRun_e (un := un) (len := len) (D := D) (q := q) (fun z => z.2 (by omega)); have e8 := mR.trans e9; have me := me1 h123; rw [e8]; exact ⟨by rw [show (q, D).1.1 = 0 from h123], rpr_ok e8 h123 mq mF mG me.1 me.2.2.2 t166, rfl⟩))
          · have hk : ¬ tK un len q.2.2 = 0 := by omega
            have hn := yRun_s (D := D) (mq.2.2.2 h123).2 h123 hk
            have hqG := yStm_G (un := un) (D := D) (mq.2.2.2 h123).2
            refine z_aload_n C 133 0 1 dX9_parse_133 rfl rfl ?_
            refine z_cVi0 C 134 dX9_parse_134 cv_X9_194 (c_X9_statement (un := un) (len := len) (p := q.2.2) (D := D) hR mU (by rw [← mQ_y0 h123 me.2.2.1]; exact mq) me.1 me.2.1) rfl ⟨by decide, rfl⟩ (by first | assumption | exact Nat.zero_lt_one | exact (show (15 : Nat) < 16 by decide) | exact Nat.lt_succ_of_lt (by assumption) | omega) rfl rfl (Nat.le_of_ble_eq_true rfl) ⟨by decide, by decide⟩ ⟨rfl, rfl⟩ ⟨by decide, by decide⟩ ?_
            intro r134 S134 L134 R134 p134
            obtain ⟨rfl, t134, v134, F134, G134, rfl⟩ := p134
            first | with_reducible refine z_if_eqB C 137 151 dX9_parse_137 (by decide) (fun h137 => ?_) (fun h137 => ?_) | with_reducible refine z_if_eqN C 137 151 dX9_parse_137 (by decide) (by omega) (fun h137 => ?_) (fun h137 => ?_) | refine z_if_eq C 137 151 dX9_parse_137 (by decide) (fun h137 => ?_) (fun h137 => ?_)
            · have hyt : yT un len (yStm un len D q.2.2).1 3 = (yStm un len D q.2.2).1 := yT_f h137
              refine z_iconst (v := nI 0) C 151 dX9_parse_151 (by decide) ?_
              refine z_istore_n C 152 2 [(2, _), (0, _), (1, _)] dX9_parse_152 rfl (by decide) rfl ?_
              refine z_goto C 153 122 dX9_parse_153 (by decide) ?_
              refine z_sub [(2, _), (0, _), (1, _)] [0, 1, 2] rfl ?_
              first
                | exact ih122 _ (yT un len (yStm un len D q.2.2).1 3) (yStm un len D q.2.2).2 _ _ (bI_0 (by rw [hyt]; exact h137)) (by rw [hyt]; exact t134) (fun z => absurd (yT_ok z).1 h137) (mU.rs F134) (mF.rs F134) (mG.tr G134) (mR.trans hn) (yMs hqG h123 (mq.2.2.2 h123).2 hm122)
                | exact ih122 _ (yT un len (yStm un len D q.2.2).1 3) (yStm un len D q.2.2).2 _ _ (by first | exact bI_0 h144 | exact bI_1 h144) t141 (fun z => ⟨(v134 (yT_ok z).1).re F141 G141, yStm_ok me.2.1 (yT_ok z).1, (hqG.T 3).2.2.1 z, (F141.2 17 (by omega) (by omega)).trans ((F134.2 17 (by omega)).trans (by rw [yStm_lim]; exact me.2.2.2))⟩) ((mU.rs F134).re F141) ((mF.rs F134).rs F141.rs) ((mG.tr G134).tr G141.ls) (mR.trans hn) (yMs hqG h123 (mq.2.2.2 h123).2 hm122)
            · refine z_aload_n C 140 0 1 dX9_parse_140 rfl rfl ?_
              refine z_cVi0 C 141 dX9_parse_141 cv_X9_191 (c_X9_closes (un := un) (len := len) (q := (yStm un len D q.2.2).1) hR (mU.rs F134) t134 h137) rfl ⟨by decide, rfl⟩ (by first | assumption | exact Nat.zero_lt_one | exact (show (15 : Nat) < 16 by decide) | exact Nat.lt_succ_of_lt (by assumption) | omega) rfl rfl (Nat.le_of_ble_eq_true rfl) ⟨by decide, by decide⟩ ⟨rfl, rfl⟩ ⟨by decide, by decide⟩ ?_
              intro r141 S141 L141 R141 p141
              obtain ⟨rfl, t141, F141, G141, rfl⟩ := p141
              first | with_reducible refine z_if_eqB C 144 151 dX9_parse_144 (by decide) (fun h144 => ?_) (fun h144 => ?_) | with_reducible refine z_if_eqN C 144 151 dX9_parse_144 (by decide) (by omega) (fun h144 => ?_) (fun h144 => ?_) | refine z_if_eq C 144 151 dX9_parse_144 (by decide) (fun h144 => ?_) (fun h144 => ?_)
              · refine z_iconst (v := nI 0) C 151 dX9_parse_151 (by decide) ?_
                refine z_istore_n C 152 2 [(2, _), (0, _), (1, _)] dX9_parse_152 rfl (by decide) rfl ?_
                refine z_goto C 153 122 dX9_parse_153 (by decide) ?_
                refine z_sub [(2, _), (0, _), (1, _)] [0, 1, 2] rfl ?_
                first
                  | exact ih122 _ (yT un len (yStm un len D q.2.2).1 3) (yStm un len D q.2.2).2 _ _ (bI_0 (by rw [hyt]; exact h137)) (by rw [hyt]; exact t134) (fun z => absurd (yT_ok z).1 h137) (mU.rs F134) (mF.rs F134) (mG.tr G134) (mR.trans hn) (yMs hqG h123 (mq.2.2.2 h123).2 hm122)
                  | exact ih122 _ (yT un len (yStm un len D q.2.2).1 3) (yStm un len D q.2.2).2 _ _ (by first | exact bI_0 h144 | exact bI_1 h144) t141 (fun z => ⟨(v134 (yT_ok z).1).re F141 G141, yStm_ok me.2.1 (yT_ok z).1, (hqG.T 3).2.2.1 z, (F141.2 17 (by omega) (by omega)).trans ((F134.2 17 (by omega)).trans (by rw [yStm_lim]; exact me.2.2.2))⟩) ((mU.rs F134).re F141) ((mF.rs F134).rs F141.rs) ((mG.tr G134).tr G141.ls) (mR.trans hn) (yMs hqG h123 (mq.2.2.2 h123).2 hm122)
              · refine z_iconst (v := nI 1) C 147 dX9_parse_147 (by decide) ?_
                refine z_goto C 148 152 dX9_parse_148 (by decide) ?_
                refine z_istore_n C 152 2 [(2, _), (0, _), (1, _)] dX9_parse_152 rfl (by decide) rfl ?_
                refine z_goto C 153 122 dX9_parse_153 (by decide) ?_
                refine z_sub [(2, _), (0, _), (1, _)] [0, 1, 2] rfl ?_
                first
                  | exact ih122 _ (yT un len (yStm un len D q.2.2).1 3) (yStm un len D q.2.2).2 _ _ (bI_0 (by rw [hyt]; exact h137)) (by rw [hyt]; exact t134) (fun z => absurd (yT_ok z).1 h137) (mU.rs F134) (mF.rs F134) (mG.tr G134) (mR.trans hn) (yMs hqG h123 (mq.2.2.2 h123).2 hm122)
                  | exact ih122 _ (yT un len (yStm un len D q.2.2).1 3) (yStm un len D q.2.2).2 _ _ (by first | exact bI_0 h144 | exact bI_1 h144) t141 (fun z => ⟨(v134 (yT_ok z).1).re F141 G141, yStm_ok me.2.1 (yT_ok z).1, (hqG.T 3).2.2.1 z, (F141.2 17 (by omega) (by omega)).trans ((F134.2 17 (by omega)).trans (by rw [yStm_lim]; exact me.2.2.2))⟩) ((mU.rs F134).re F141) ((mF.rs F134).rs F141.rs) ((mG.tr G134).tr G141.ls) (mR.trans hn) (yMs hqG h123 (mq.2.2.2 h123).2 hm122)
    refine z_sub [(2, _), (0, _), (1, _)] [0, 1, 2] rfl ?_
    exact loop_122 (len + 2) _ _ _ _ _ hb0 mq0 me0 mU0 mF0 mG0 mR0 (by split <;> omega)
  have join_97 : ∀ (b : Int32) (M : mS) (L1 : mL), b = bI ((yN un len (yH0 un len) 50 2000).1 = 0) → rSt M L1 un len (yN un len (yH0 un len) 50 2000) → ((yN un len (yH0 un len) 50 2000).1 = 0 → M 40 0 16 = nI (tW un len (yH0 un len).2.2) ∧ rD M L1 (yD 0)) → rU M un len → fQ S M len → LW L L1 → Z X 3 ad mdm M L1 R 0 0 97 [(2, .int b), (0, .ref (ad 40 0)), (1, .int (nI len))] [] := by
    intro b M L1 hb mq me mU mF mG
    subst hb
    refine z_aload_n C 97 0 1 dX9_parse_97 rfl rfl ?_
    refine z_aload_n C 98 0 1 dX9_parse_98 rfl rfl ?_
    refine z_geti C 99 dX9_parse_99 gf_X9_124 rfl (by first | assumption | exact Nat.zero_lt_one | exact (show (15 : Nat) < 16 by decide) | exact Nat.lt_succ_of_lt (by assumption) | omega) ?_
    refine z_puti C 102 dX9_parse_102 gf_X9_56 ⟨rfl, rfl⟩ rfl (by first | assumption | exact Nat.zero_lt_one | exact (show (15 : Nat) < 16 by decide) | exact Nat.lt_succ_of_lt (by assumption) | omega) ?_
    refine z_iload_n C 105 2 0 dX9_parse_105 rfl rfl ?_
    first | with_reducible refine z_if_eqB C 106 120 dX9_parse_106 (by decide) (fun h106 => ?_) (fun h106 => ?_) | with_reducible refine z_if_eqN C 106 120 dX9_parse_106 (by decide) (by omega) (fun h106 => ?_) (fun h106 => ?_) | refine z_if_eq C 106 120 dX9_parse_106 (by decide) (fun h106 => ?_) (fun h106 => ?_)
    · refine z_iconst (v := nI 0) C 120 dX9_parse_120 (by decide) ?_
      refine z_istore_n C 121 2 [(2, _), (0, _), (1, _)] dX9_parse_121 rfl (by decide) rfl ?_
      refine z_sub [(2, _), (0, _), (1, _)] [0, 1, 2] rfl ?_
      first
        | exact join_122 _ (yH un len) (yD (tW un len (yH0 un len).2.2)) _ _ (by first | exact bI_0 (fun z => h106 (yT_ok z).1)) (by rw [yH, yT_f h106]; exact mq.k (fun j hj => up3_j _ (by omega)) rfl) (fun z => absurd (yT_ok z).1 h106) mU.u17 mF.u17 mG rfl
        | exact join_122 _ (yH un len) (yD (tW un len (yH0 un len).2.2)) _ _ (by first | exact bI_0 h113 | exact bI_1 h113) t110 (fun z => ⟨((me h106).2.u17.re F110 G110), ⟨Nat.zero_le _, fun p hp => absurd hp (Nat.not_lt_zero _), yD_c, show 0 ≤ 2 by omega, yD_l z, fun j hj => absurd hj (Nat.not_lt_zero _)⟩, yH_G.2.2.1 z, (F110.2 17 (by omega) (by omega)).trans ((up3_s _ _ _ _ _).trans (me h106).1)⟩) (mU.u17.re F110) (mF.u17.rs F110.rs) (mG.tr G110.ls) rfl
    · refine z_aload_n C 109 0 1 dX9_parse_109 rfl rfl ?_
      refine z_cVi0 C 110 dX9_parse_110 cv_X9_191 (c_X9_closes (un := un) (len := len) (q := (yN un len (yH0 un len) 50 2000)) hR mU.u17 (mq.k (fun j hj => up3_j _ (by omega)) rfl) h106) rfl ⟨by decide, rfl⟩ (by first | assumption | exact Nat.zero_lt_one | exact (show (15 : Nat) < 16 by decide) | exact Nat.lt_succ_of_lt (by assumption) | omega) rfl rfl (Nat.le_of_ble_eq_true rfl) ⟨by decide, by decide⟩ ⟨rfl, rfl⟩ ⟨by decide, by decide⟩ ?_
      intro r110 S110 L110 R110 p110
      obtain ⟨rfl, t110, F110, G110, rfl⟩ := p110
      first | with_reducible refine z_if_eqB C 113 120 dX9_parse_113 (by decide) (fun h113 => ?_) (fun h113 => ?_) | with_reducible refine z_if_eqN C 113 120 dX9_parse_113 (by decide) (by omega) (fun h113 => ?_) (fun h113 => ?_) | refine z_if_eq C 113 120 dX9_parse_113 (by decide) (fun h113 => ?_) (fun h113 => ?_)
      · refine z_iconst (v := nI 0) C 120 dX9_parse_120 (by decide) ?_
        refine z_istore_n C 121 2 [(2, _), (0, _), (1, _)] dX9_parse_121 rfl (by decide) rfl ?_
        refine z_sub [(2, _), (0, _), (1, _)] [0, 1, 2] rfl ?_
        first
          | exact join_122 _ (yH un len) (yD (tW un len (yH0 un len).2.2)) _ _ (by first | exact bI_0 (fun z => h106 (yT_ok z).1)) (by rw [yH, yT_f h106]; exact mq.k (fun j hj => up3_j _ (by omega)) rfl) (fun z => absurd (yT_ok z).1 h106) mU.u17 mF.u17 mG rfl
          | exact join_122 _ (yH un len) (yD (tW un len (yH0 un len).2.2)) _ _ (by first | exact bI_0 h113 | exact bI_1 h113) t110 (fun z => ⟨((me h106).2.u17.re F110 G110), ⟨Nat.zero_le _, fun p hp => absurd hp (Nat.not_lt_zero _), yD_c, show 0 ≤ 2 by omega, yD_l z, fun j hj => absurd hj (Nat.not_lt_zero _)⟩, yH_G.2.2.1 z, (F110.2 17 (by omega) (by omega)).trans ((up3_s _ _ _ _ _).trans (me h106).1)⟩) (mU.u17.re F110) (mF.u17.rs F110.rs) (mG.tr G110.ls) rfl
      · refine z_iconst (v := nI 1) C 116 dX9_parse_116 (by decide) ?_
        refine z_goto C 117 121 dX9_parse_117 (by decide) ?_
        refine z_istore_n C 121 2 [(2, _), (0, _), (1, _)] dX9_parse_121 rfl (by decide) rfl ?_
        refine z_sub [(2, _), (0, _), (1, _)] [0, 1, 2] rfl ?_
        first
          | exact join_122 _ (yH un len) (yD (tW un len (yH0 un len).2.2)) _ _ (by first | exact bI_0 (fun z => h106 (yT_ok z).1)) (by rw [yH, yT_f h106]; exact mq.k (fun j hj => up3_j _ (by omega)) rfl) (fun z => absurd (yT_ok z).1 h106) mU.u17 mF.u17 mG rfl
          | exact join_122 _ (yH un len) (yD (tW un len (yH0 un len).2.2)) _ _ (by first | exact bI_0 h113 | exact bI_1 h113) t110 (fun z => ⟨((me h106).2.u17.re F110 G110), ⟨Nat.zero_le _, fun p hp => absurd hp (Nat.not_lt_zero _), yD_c, show 0 ≤ 2 by omega, yD_l z, fun j hj => absurd hj (Nat.not_lt_zero _)⟩, yH_G.2.2.1 z, (F110.2 17 (by omega) (by omega)).trans ((up3_s _ _ _ _ _).trans (me h106).1)⟩) (mU.u17.re F110) (mF.u17.rs F110.rs) (mG.tr G110.ls) rfl
  refine z_aload_n C 0 0 0 dX9_parse_0 rfl rfl ?_
  refine z_iconst (v := nI 0) C 1 dX9_parse_1 (by decide) ?_
  refine z_puti C 2 dX9_parse_2 gf_X9_65 ⟨rfl, rfl⟩ rfl (by first | assumption | exact Nat.zero_lt_one | exact (show (15 : Nat) < 16 by decide) | exact Nat.lt_succ_of_lt (by assumption) | omega) ?_
  refine z_aload_n C 5 0 0 dX9_parse_5 rfl rfl ?_
  refine z_iload_n C 6 1 1 dX9_parse_6 rfl rfl ?_
  refine z_iconst (v := nI 0) C 7 dX9_parse_7 (by decide) ?_
  refine z_aload_n C 8 0 0 dX9_parse_8 rfl rfl ?_
  refine z_getiv C 9 dX9_parse_9 gf_X9_68 rfl (by first | assumption | exact Nat.zero_lt_one | exact (show (15 : Nat) < 16 by decide) | exact Nat.lt_succ_of_lt (by assumption) | omega) ((up3_j _ (by omega)).trans hT.1) ?_
  refine z_cSi0 C 12 dX9_parse_12 cs_X9_89 (c_X9_within_1 (Nat.zero_le _) hlf (by omega)) rfl rfl (Nat.le_of_ble_eq_true rfl) ⟨by decide, by decide⟩ ⟨rfl, rfl⟩ ⟨by decide, by decide⟩ ?_
  intro r12 S12 L12 R12 p12
  obtain ⟨rfl, rfl, rfl, rfl⟩ := p12
  first | with_reducible refine z_if_neB C 15 22 dX9_parse_15 (by decide) (fun h15 => ?_) (fun h15 => absurd h15 (by first | decide | omega)) | with_reducible refine z_if_neN C 15 22 dX9_parse_15 (by decide) (by omega) (fun h15 => ?_) (fun h15 => absurd h15 (by first | decide | omega)) | refine z_if_ne C 15 22 dX9_parse_15 (by decide) (fun h15 => ?_) (fun h15 => absurd h15 (by first | decide | omega))
  · refine z_iconst (v := nI 0) C 22 dX9_parse_22 (by decide) ?_
    refine z_iconst (v := nI 1) C 23 dX9_parse_23 (by decide) ?_
    refine z_cVi0 C 24 dX9_parse_24 cv_X9_185 (c_X9_throwsIf_0 hR (up3_s _ _ _ _ _)) rfl ⟨by decide, rfl⟩ (by first | assumption | exact Nat.zero_lt_one | exact (show (15 : Nat) < 16 by decide) | exact Nat.lt_succ_of_lt (by assumption) | omega) rfl rfl (Nat.le_of_ble_eq_true rfl) ⟨by decide, by decide⟩ ⟨rfl, rfl⟩ ⟨by decide, by decide⟩ ?_
    intro r24 S24 L24 R24 p24
    obtain ⟨rfl, rfl, rfl, rfl⟩ := p24
    first | with_reducible refine z_if_eqB C 27 32 dX9_parse_27 (by decide) (fun h27 => ?_) (fun h27 => absurd h27 (by first | decide | omega)) | with_reducible refine z_if_eqN C 27 32 dX9_parse_27 (by decide) (by omega) (fun h27 => ?_) (fun h27 => absurd h27 (by first | decide | omega)) | refine z_if_eq C 27 32 dX9_parse_27 (by decide) (fun h27 => ?_) (fun h27 => absurd h27 (by first | decide | omega))
    · refine z_aload_n C 32 0 0 dX9_parse_32 rfl rfl ?_
      refine z_iload_n C 33 1 1 dX9_parse_33 rfl rfl ?_
      refine z_puti C 34 dX9_parse_34 gf_X9_75 ⟨rfl, rfl⟩ rfl (by first | assumption | exact Nat.zero_lt_one | exact (show (15 : Nat) < 16 by decide) | exact Nat.lt_succ_of_lt (by assumption) | omega) ?_
      refine z_aload_n C 37 0 0 dX9_parse_37 rfl rfl ?_
      refine z_iconst (v := nI 0) C 38 dX9_parse_38 (by decide) ?_
      refine z_puti C 39 dX9_parse_39 gf_X9_68 ⟨rfl, rfl⟩ rfl (by first | assumption | exact Nat.zero_lt_one | exact (show (15 : Nat) < 16 by decide) | exact Nat.lt_succ_of_lt (by assumption) | omega) ?_
      refine z_aload_n C 42 0 0 dX9_parse_42 rfl rfl ?_
      refine z_iconst (v := nI 0) C 43 dX9_parse_43 (by decide) ?_
      refine z_puti C 44 dX9_parse_44 gf_X9_82 ⟨rfl, rfl⟩ rfl (by first | assumption | exact Nat.zero_lt_one | exact (show (15 : Nat) < 16 by decide) | exact Nat.lt_succ_of_lt (by assumption) | omega) ?_
      refine z_aload_n C 47 0 0 dX9_parse_47 rfl rfl ?_
      refine z_iconst (v := nI 0) C 48 dX9_parse_48 (by decide) ?_
      refine z_puti C 49 dX9_parse_49 gf_X9_114 ⟨rfl, rfl⟩ rfl (by first | assumption | exact Nat.zero_lt_one | exact (show (15 : Nat) < 16 by decide) | exact Nat.lt_succ_of_lt (by assumption) | omega) ?_
      refine z_aload_n C 52 0 0 dX9_parse_52 rfl rfl ?_
      refine z_iconst (v := (-1)) C 53 dX9_parse_53 (by decide) ?_
      refine z_puti C 54 dX9_parse_54 gf_X9_27 ⟨rfl, rfl⟩ rfl (by first | assumption | exact Nat.zero_lt_one | exact (show (15 : Nat) < 16 by decide) | exact Nat.lt_succ_of_lt (by assumption) | omega) ?_
      refine z_aload_n C 57 0 0 dX9_parse_57 rfl rfl ?_
      refine z_cVv0 C 58 dX9_parse_58 cv_X9_59 (c_X9_clearsDraft dm40 (fun j q h => hR 40 0 j q h)) rfl ⟨by decide, rfl⟩ (by first | assumption | exact Nat.zero_lt_one | exact (show (15 : Nat) < 16 by decide) | exact Nat.lt_succ_of_lt (by assumption) | omega) rfl rfl (Nat.le_of_ble_eq_true rfl) ⟨by decide, by decide⟩ ⟨rfl, rfl⟩ ⟨by decide, by decide⟩ ?_
      intro S58 L58 R58 p58
      obtain ⟨rfl, rfl, rfl⟩ := p58
      obtain ⟨M0, hM0⟩ : ∃ M, M = cDr (up3 (up3 (up3 (up3 (up3 (up3 S 40 0 0 (nI 0)) 40 0 8 (nI len)) 40 0 7 (nI 0)) 40 0 10 (nI 0)) 40 0 14 (nI 0)) 40 0 15 (-1)) := ⟨_, rfl⟩
      rw [← hM0]
      have mU0 : rU M0 un len := by rw [hM0]; exact ⟨by simp [cDr, up3_at], by omega, hT.2.2.1, fun j hj => by simp [cDr, up3_at]; exact hT.2.2.2 j (by omega)⟩
      have m10 : M0 40 0 10 = nI 0 := by rw [hM0]; simp [cDr, up3_at]
      have mQ0 : fQ S M0 len := by rw [hM0]; exact ⟨fun k i a b c => by funext j; simp [cDr, up3_at, a, c], fun j hj => by rcases hj with rfl | rfl | rfl <;> simp [cDr, up3_at], by simp [cDr, up3_at], by simp [cDr, up3_at], by simp [cDr, up3_at]⟩
      have mD0 : rD M0 L (yD 0) := by rw [hM0]; exact rD_beg 0
      have m14 : M0 40 0 14 = nI 0 ∧ M0 40 0 15 = -1 := by rw [hM0]; exact ⟨by simp [cDr, up3_at], by simp [cDr, up3_at]⟩
      clear hM0
      refine z_aload_n C 61 0 0 dX9_parse_61 rfl rfl ?_
      refine z_cVv0 C 62 dX9_parse_62 cv_X9_121 (c_X9_advance (un := un) (len := len) (p := 0) hR mU0 m10 (Nat.zero_le _)) rfl ⟨by decide, rfl⟩ (by first | assumption | exact Nat.zero_lt_one | exact (show (15 : Nat) < 16 by decide) | exact Nat.lt_succ_of_lt (by assumption) | omega) rfl rfl (Nat.le_of_ble_eq_true rfl) ⟨by decide, by decide⟩ ⟨rfl, rfl⟩ ⟨by decide, by decide⟩ ?_
      intro S62 L62 R62 p62
      obtain ⟨t62, F62, G62, rfl⟩ := p62
      have q62 : rSt S62 L62 un len (y0 0) := ⟨(F62.2 14 (by omega)).trans m14.1, Nat.zero_le _, (F62.2 15 (by omega)).trans m14.2, fun _ => ⟨t62, Nat.zero_le _⟩⟩
      refine z_aload_n C 65 0 0 dX9_parse_65 rfl rfl ?_
      refine z_iconst (v := nI 1) C 66 dX9_parse_66 (by decide) ?_
      refine z_aload_n C 67 0 0 dX9_parse_67 rfl rfl ?_
      refine z_sldc (n := 0) (tx := "phone") C 68 dX9_parse_68 (List.mem_of_getElem? (i := 8) rfl) ?_
      refine z_cVi0 C 70 dX9_parse_70 cv_X9_154 (c_X9_isWord (un := un) (len := len) (p := 0) (i := 0) hR (by decide) (mU0.rg F62) t62 (Nat.zero_le _)) rfl ⟨by decide, rfl⟩ (by first | assumption | exact Nat.zero_lt_one | exact (show (15 : Nat) < 16 by decide) | exact Nat.lt_succ_of_lt (by assumption) | omega) rfl rfl (Nat.le_of_ble_eq_true rfl) ⟨by decide, by decide⟩ ⟨rfl, rfl⟩ ⟨by decide, by decide⟩ ?_
      intro r70 S70 L70 R70 p70
      obtain ⟨rfl, rfl, rfl, rfl⟩ := p70
      refine z_cVi0 C 73 dX9_parse_73 cv_X9_131 (c_X9_starts (un := un) (len := len) (c := 1) (q := y0 0) (P := isW un len 0 0) hR (mU0.rg F62) (q62) rfl rfl (by decide) (by decide)) rfl ⟨by decide, rfl⟩ (by first | assumption | exact Nat.zero_lt_one | exact (show (15 : Nat) < 16 by decide) | exact Nat.lt_succ_of_lt (by assumption) | omega) rfl rfl (Nat.le_of_ble_eq_true rfl) ⟨by decide, by decide⟩ ⟨rfl, rfl⟩ ⟨by decide, by decide⟩ ?_
      intro r73 S73 L73 R73 p73
      obtain ⟨rfl, a73, b73, F73, G73, rfl⟩ := p73
      first | with_reducible refine z_if_eqB C 76 95 dX9_parse_76 (by decide) (fun h76 => ?_) (fun h76 => ?_) | with_reducible refine z_if_eqN C 76 95 dX9_parse_76 (by decide) (by omega) (fun h76 => ?_) (fun h76 => ?_) | refine z_if_eq C 76 95 dX9_parse_76 (by decide) (fun h76 => ?_) (fun h76 => ?_)
      · have hy0 : yH0 un len = (1, nI (tS un len 0), 0) := if_neg (show ¬ yK un len 0 0 from h76)
        refine z_iconst (v := nI 0) C 95 dX9_parse_95 (by decide) ?_
        refine z_istore_n C 96 2 [(2, _), (0, _), (1, _)] dX9_parse_96 rfl (by decide) rfl ?_
        refine z_sub [(2, _), (0, _), (1, _)] [0, 1, 2] rfl ?_
        first
          | exact join_97 _ _ _ (bI_0 (by rw [hy0]; exact fun z => absurd (yN_ok z).1 (show ¬ (1 : Nat) = 0 by decide))) (by rw [hy0, yN_f (show ¬ (1 : Nat) = 0 by decide)]; exact b73 h76) (fun z => by rw [hy0] at z; exact absurd (yN_ok z).1 (show ¬ (1 : Nat) = 0 by decide)) ((mU0.rg F62).re F73) ((mQ0.rs F62.re.rs).rs F73.rs) ((G62.ls.tr G73.ls))
          | exact join_97 _ _ _ (by rw [hy0]; first | exact bI_0 h88 | exact bI_1 h88) (by rw [hy0]; exact t85) (fun z => by rw [hy0] at z ⊢; exact ⟨(v85 z).trans (by rw [tW_2 (yN_ok z).2.1]), (mD0.re ((F62.re.tr F73).tr F85) ((G62.tr G73).tr G85))⟩) (((mU0.rg F62).re F73).re F85) (((mQ0.rs F62.re.rs).rs F73.rs).rs F85.rs) ((G62.ls.tr G73.ls).tr G85.ls)
      · have hy0 : yH0 un len = y0 (tE un len 0) := if_pos (show yK un len 0 0 from h76)
        refine z_aload_n C 79 0 0 dX9_parse_79 rfl rfl ?_
        refine z_bipush (v := nI 50) C 80 dX9_parse_80 (by decide +kernel) ?_
        refine z_sipush (v := nI 2000) C 82 dX9_parse_82 (by decide +kernel) ?_
        refine z_cVi0 C 85 dX9_parse_85 cv_X9_127 (c_X9_takes (un := un) (len := len) (q := y0 (tE un len 0)) (a := 50) (b := 2000) hR ((mU0.rg F62).re F73) (a73 h76) rfl (by decide) (by decide)) rfl ⟨by decide, rfl⟩ (by first | assumption | exact Nat.zero_lt_one | exact (show (15 : Nat) < 16 by decide) | exact Nat.lt_succ_of_lt (by assumption) | omega) rfl rfl (Nat.le_of_ble_eq_true rfl) ⟨by decide, by decide⟩ ⟨rfl, rfl⟩ ⟨by decide, by decide⟩ ?_
        intro r85 S85 L85 R85 p85
        obtain ⟨rfl, t85, v85, F85, G85, rfl⟩ := p85
        first | with_reducible refine z_if_eqB C 88 95 dX9_parse_88 (by decide) (fun h88 => ?_) (fun h88 => ?_) | with_reducible refine z_if_eqN C 88 95 dX9_parse_88 (by decide) (by omega) (fun h88 => ?_) (fun h88 => ?_) | refine z_if_eq C 88 95 dX9_parse_88 (by decide) (fun h88 => ?_) (fun h88 => ?_)
        · refine z_iconst (v := nI 0) C 95 dX9_parse_95 (by decide) ?_
          refine z_istore_n C 96 2 [(2, _), (0, _), (1, _)] dX9_parse_96 rfl (by decide) rfl ?_
          refine z_sub [(2, _), (0, _), (1, _)] [0, 1, 2] rfl ?_
          first
            | exact join_97 _ _ _ (bI_0 (by rw [hy0]; exact fun z => absurd (yN_ok z).1 (show ¬ (1 : Nat) = 0 by decide))) (by rw [hy0, yN_f (show ¬ (1 : Nat) = 0 by decide)]; exact b73 h76) (fun z => by rw [hy0] at z; exact absurd (yN_ok z).1 (show ¬ (1 : Nat) = 0 by decide)) ((mU0.rg F62).re F73) ((mQ0.rs F62.re.rs).rs F73.rs) ((G62.ls.tr G73.ls))
            | exact join_97 _ _ _ (by rw [hy0]; first | exact bI_0 h88 | exact bI_1 h88) (by rw [hy0]; exact t85) (fun z => by rw [hy0] at z ⊢; exact ⟨(v85 z).trans (by rw [tW_2 (yN_ok z).2.1]), (mD0.re ((F62.re.tr F73).tr F85) ((G62.tr G73).tr G85))⟩) (((mU0.rg F62).re F73).re F85) (((mQ0.rs F62.re.rs).rs F73.rs).rs F85.rs) ((G62.ls.tr G73.ls).tr G85.ls)
        · refine z_iconst (v := nI 1) C 91 dX9_parse_91 (by decide) ?_
          refine z_goto C 92 96 dX9_parse_92 (by decide) ?_
          refine z_istore_n C 96 2 [(2, _), (0, _), (1, _)] dX9_parse_96 rfl (by decide) rfl ?_
          refine z_sub [(2, _), (0, _), (1, _)] [0, 1, 2] rfl ?_
          first
            | exact join_97 _ _ _ (bI_0 (by rw [hy0]; exact fun z => absurd (yN_ok z).1 (show ¬ (1 : Nat) = 0 by decide))) (by rw [hy0, yN_f (show ¬ (1 : Nat) = 0 by decide)]; exact b73 h76) (fun z => by rw [hy0] at z; exact absurd (yN_ok z).1 (show ¬ (1 : Nat) = 0 by decide)) ((mU0.rg F62).re F73) ((mQ0.rs F62.re.rs).rs F73.rs) ((G62.ls.tr G73.ls))
            | exact join_97 _ _ _ (by rw [hy0]; first | exact bI_0 h88 | exact bI_1 h88) (by rw [hy0]; exact t85) (fun z => by rw [hy0] at z ⊢; exact ⟨(v85 z).trans (by rw [tW_2 (yN_ok z).2.1]), (mD0.re ((F62.re.tr F73).tr F85) ((G62.tr G73).tr G85))⟩) (((mU0.rg F62).re F73).re F85) (((mQ0.rs F62.re.rs).rs F73.rs).rs F85.rs) ((G62.ls.tr G73.ls).tr G85.ls)
