def isSp (n : Nat) : Bool := decide (n = 32)
theorem isSp_i {n : Nat} : isSp n = true ↔ n = 32 := by unfold isSp; exact decide_eq_true_iff
/-- the text is one word and spaces -/
def fCd (un : Nat → Nat) (f : Nat) : Prop := ¬ sk isLt un f 0 = 0 ∧ sk isLt un f 0 ≤ 8 ∧ ¬ sk isSp un f (sk isLt un f 0) < f
noncomputable def fR (un : Nat → Nat) (f : Nat) (nm : Nat → List Nat) (n : Nat) : Option Nat :=
  haveI := Classical.propDecidable
  if fCd un f then nmW nm (wl un 0 (sk isLt un f 0)) n else none
theorem fR_y {un : Nat → Nat} {f : Nat} {nm : Nat → List Nat} {n : Nat} (h : fCd un f) : fR un f nm n = nmW nm (wl un 0 (sk isLt un f 0)) n := if_pos h
theorem fR_n {un : Nat → Nat} {f : Nat} {nm : Nat → List Nat} {n : Nat} (h : ¬ fCd un f) : fR un f nm n = none := if_neg h
theorem nmU_none {g : Nat → Int64} {x : Int64} : ∀ {m i : Nat}, (∀ k, i ≤ k → k < i + m → ¬ g k = x) → nmU g x m i = none
  | 0, _, _ => rfl
  | m + 1, i, h => by
    rw [nmU_f (h i (Nat.le_refl _) (by omega))]
    exact nmU_none (fun k a b => h k (by omega) (by omega))
theorem e32_pos {l : List Nat} (h : nOK l) : 0 < e32 l := by
  obtain ⟨a, b, c⟩ := h
  cases l with
  | nil => exact absurd c (by decide)
  | cons x t =>
    have := a.hd
    simp only [e32]
    omega
/-- the class's find -/
theorem find_c {g : Nat → Int64} {un : Nat → Nat} {f e n : Nat} {nm : Nat → List Nat} (he : e ≤ f) (h1 : ∀ j, e ≤ j → j < f → un j = 32) (h2 : 0 < e → ¬ un (e - 1) = 32) (hn : ∀ j, j < n → g j = lN (e32 (nm j)) ∧ nOK (nm j)) : nmU g (lN (wB un 0 e)) n 0 = fR un f nm n := by
  have hq1 : ∀ j, j < sk isLt un f 0 → isLt (un j) = true := fun j hj => sk_all (len := f) (Nat.zero_le _) hj
  have hq2 := sk_end (P := isLt) (un := un) (len := f) (p := 0)
  have hqf : sk isLt un f 0 ≤ f := sk_le (Nat.zero_le _)
  by_cases hc : fCd un f
  · rw [fR_y hc]
    obtain ⟨c1, c2, c3⟩ := hc
    have hs : ∀ j, sk isLt un f 0 ≤ j → j < f → un j = 32 := fun j a b => isSp_i.mp (sk_all (len := f) a (by omega))
    have e1 : e = sk isLt un f 0 := by
      rcases (show e < sk isLt un f 0 ∨ e = sk isLt un f 0 ∨ sk isLt un f 0 < e by omega) with z | z | z
      · have t1 := h1 (sk isLt un f 0 - 1) (by omega) (by omega)
        have t2 := isLt_i.mp (hq1 (sk isLt un f 0 - 1) (by omega))
        omega
      · exact z
      · exact absurd (hs (e - 1) (by omega) (by omega)) (h2 (by omega))
    rw [e1, wB_y (by omega) (fun j _ b => hq1 j b), Nat.sub_zero]
    exact nmU_cong (fun j _ b => by rw [(hn j (by omega)).1])
  · rw [fR_n hc]
    have hw : wB un 0 e = 0 := by
      by_cases z8 : 8 < e - 0
      · exact wB_8 z8
      · by_cases za : ∀ j, 0 ≤ j → j < e → isLt (un j) = true
        · by_cases z0 : e = 0
          · rw [z0, wB_y (by omega) (fun j _ b => absurd b (Nat.not_lt_zero _))]
            rfl
          · exfalso
            have e1 : sk isLt un f 0 = e := by
              rcases (show e < sk isLt un f 0 ∨ sk isLt un f 0 = e ∨ sk isLt un f 0 < e by omega) with z | z | z
              · have t1 := isLt_i.mp (hq1 e z)
                have t2 := h1 e (Nat.le_refl _) (by omega)
                omega
              · exact z
              · exact absurd ⟨by omega, za _ (Nat.zero_le _) z⟩ hq2
            refine hc ⟨by omega, by omega, fun z => ?_⟩
            have t := sk_end (P := isSp) (un := un) (len := f) (p := sk isLt un f 0)
            refine t ⟨z, isSp_i.mpr (h1 _ ?_ z)⟩
            rw [← e1]
            exact sk_ge
        · obtain ⟨j, hj⟩ := Classical.not_forall.mp za
          obtain ⟨a, hj⟩ := Classical.not_imp.mp hj
          obtain ⟨b, hj⟩ := Classical.not_imp.mp hj
          exact wB_n a b hj
    rw [hw]
    refine nmU_none (fun k _ b => ?_)
    obtain ⟨t1, t2⟩ := hn k (by omega)
    rw [t1]
    have t3 := e32_8 t2.1 t2.2.1
    have t4 := e32_pos t2
    exact fun z => by have := (pk_lEQ (by omega) (by omega)).mp z; omega
theorem bAt_sp {un : Nat → Nat} {len q : Nat} (hu : ∀ j, un j < 256) : bAt un len q = nI 32 ↔ (q < len ∧ isSp (un q) = true) := by
  rw [bAt_c hu (by omega), isSp_i]
/-- behind find -/
def fFr (S S2 : mS) : Prop := (∀ k i, k ≠ 40 → S2 k i = S k i) ∧ (∀ j, j = 1 ∨ j = 15 ∨ j = 26 ∨ j = 27 → S2 40 0 j = S 40 0 j) ∧ S2 40 0 0 = nI 0 ∧ S2 40 0 7 = nI 0
theorem fFr.u10 {S S2 : mS} (h : fFr S S2) {v : Int32} : fFr S (up3 S2 40 0 10 v) := ⟨fun k i a => by rw [up3_k _ a]; exact h.1 k i a, fun j hj => (up3_j _ (by omega)).trans (h.2.1 j hj), (up3_j _ (by omega)).trans h.2.2.1, (up3_j _ (by omega)).trans h.2.2.2⟩

def rm_X9_find : Room := { frames := 2, cells := 0, slots := 0, locals := 42 }
set_option maxHeartbeats 4000000 in
set_option maxRecDepth 100000 in
theorem c_X9_find {l : Launch} {G : mG} {ad : mA} {S : mS} {L : mL} {R : mR} {un : Nat → Nat} {f n : Nat} {nm : Nat → List Nat} (hR : mlk R) (hT : rTx S un f) (hn : S 40 0 1 = nI n) (hn10 : n ≤ 10) (hN : ∀ j, j < n → L 42 0 j = lN (e256 (nm j)) ∧ nOK (nm j)) : Ki l yX9_find cX9_find 2 .int rm_X9_find G ad mdm [.ref (ad 40 0)] S L R (fun r_ S2 L2 R2 => r_ = oI (fR un f nm n) ∧ fFr S S2 ∧ LG L L2 ∧ R = R2) := by
  refine Ki.of RX9 (by decide) rfl (Nat.le_of_ble_eq_true rfl) ?_
  intro X hXl hXG C ret
  subst hXl; subst hXG
  change Z X 2 ad mdm S L R 0 0 0 [(0, _)] []
  have hf7 := hT.2.1
  have hu := hT.2.2.1
  refine z_aload_n C 0 0 0 dX9_find_0 rfl rfl ?_
  refine z_iconst (v := nI 0) C 1 dX9_find_1 (by decide) ?_
  refine z_puti C 2 dX9_find_2 gf_X9_65 ⟨rfl, rfl⟩ rfl (by first | assumption | exact Nat.zero_lt_one | exact (show (15 : Nat) < 16 by decide) | exact Nat.lt_succ_of_lt (by assumption) | omega) ?_
  refine z_aload_n C 5 0 0 dX9_find_5 rfl rfl ?_
  refine z_aload_n C 6 0 0 dX9_find_6 rfl rfl ?_
  refine z_getiv C 7 dX9_find_7 gf_X9_68 rfl (by first | assumption | exact Nat.zero_lt_one | exact (show (15 : Nat) < 16 by decide) | exact Nat.lt_succ_of_lt (by assumption) | omega) ((up3_j _ (by omega)).trans hT.1) ?_
  refine z_puti C 10 dX9_find_10 gf_X9_75 ⟨rfl, rfl⟩ rfl (by first | assumption | exact Nat.zero_lt_one | exact (show (15 : Nat) < 16 by decide) | exact Nat.lt_succ_of_lt (by assumption) | omega) ?_
  refine z_aload_n C 13 0 0 dX9_find_13 rfl rfl ?_
  refine z_iconst (v := nI 0) C 14 dX9_find_14 (by decide) ?_
  refine z_puti C 15 dX9_find_15 gf_X9_68 ⟨rfl, rfl⟩ rfl (by first | assumption | exact Nat.zero_lt_one | exact (show (15 : Nat) < 16 by decide) | exact Nat.lt_succ_of_lt (by assumption) | omega) ?_
  refine z_aload_n C 18 0 0 dX9_find_18 rfl rfl ?_
  refine z_iconst (v := nI 0) C 19 dX9_find_19 (by decide) ?_
  refine z_puti C 20 dX9_find_20 gf_X9_93 ⟨rfl, rfl⟩ rfl (by first | assumption | exact Nat.zero_lt_one | exact (show (15 : Nat) < 16 by decide) | exact Nat.lt_succ_of_lt (by assumption) | omega) ?_
  refine z_aload_n C 23 0 0 dX9_find_23 rfl rfl ?_
  refine z_iconst (v := nI 0) C 24 dX9_find_24 (by decide) ?_
  refine z_puti C 25 dX9_find_25 gf_X9_82 ⟨rfl, rfl⟩ rfl (by first | assumption | exact Nat.zero_lt_one | exact (show (15 : Nat) < 16 by decide) | exact Nat.lt_succ_of_lt (by assumption) | omega) ?_
  obtain ⟨M, hM⟩ : ∃ M, M = (up3 (up3 (up3 (up3 (up3 S 40 0 0 (nI 0)) 40 0 8 (nI f)) 40 0 7 (nI 0)) 40 0 9 (nI 0)) 40 0 10 (nI 0)) := ⟨_, rfl⟩
  rw [← hM]
  have mU : rU M un f := by rw [hM]; exact ⟨by simp [up3_at], hf7, hu, fun j hj => by simp [up3_at]; exact hT.2.2.2 j hj⟩
  have m9 : M 40 0 9 = nI 0 := by rw [hM]; simp [up3_at]
  have m10 : M 40 0 10 = nI 0 := by rw [hM]; simp [up3_at]
  have m1 : M 40 0 1 = nI n := by rw [hM]; simp [up3_at, hn]
  have mF : fFr S M := by rw [hM]; exact ⟨fun k i a => by funext j; simp [up3_at, a], fun j hj => by rcases hj with rfl | rfl | rfl | rfl <;> simp [up3_at], by simp [up3_at], by simp [up3_at]⟩
  have mUr : ∀ r, rU (up3 M 40 0 10 (nI r)) un f := fun r => ⟨(up3_j _ (by omega)).trans mU.1, hf7, hu, fun j hj => by rw [up3_k _ (by omega)]; exact mU.2.2.2 j hj⟩
  clear hM
  have hqf : sk isLt un f 0 ≤ f := sk_le (Nat.zero_le _)
  refine z_aload_n C 28 0 0 dX9_find_28 rfl rfl ?_
  refine z_cVv0 C 29 dX9_find_29 cv_X9_102 (c_X9_takesLetters (un := un) (len := f) (s := 0) hR mU m9 m10 (Nat.zero_le _)) rfl ⟨by decide, rfl⟩ (by first | assumption | exact Nat.zero_lt_one | exact (show (15 : Nat) < 16 by decide) | exact Nat.lt_succ_of_lt (by assumption) | omega) rfl rfl (Nat.le_of_ble_eq_true rfl) ⟨by decide, by decide⟩ ⟨rfl, rfl⟩ ⟨by decide, by decide⟩ ?_
  intro S29 L29 R29 p29
  obtain ⟨rfl, rfl, rfl⟩ := p29
  refine z_aload_n C 32 0 0 dX9_find_32 rfl rfl ?_
  refine z_getiv C 33 dX9_find_33 gf_X9_82 rfl (by first | assumption | exact Nat.zero_lt_one | exact (show (15 : Nat) < 16 by decide) | exact Nat.lt_succ_of_lt (by assumption) | omega) (up3_s _ _ _ _ _) ?_
  refine z_istore_n C 36 1 [(1, _), (0, _)] dX9_find_36 rfl (by decide) rfl ?_
  have loop_37 : ∀ (n_37 : Nat) (r : Nat), (sk isLt un f 0) ≤ r → r ≤ f → sk isSp un f (sk isLt un f 0) = sk isSp un f r → f - r < n_37 → Z X 2 ad mdm (up3 M 40 0 10 (nI r)) (up3 L 40 0 13 (lN (e256 (wl8 un 0 (sk isLt un f 0))))) R 0 0 37 [(1, .int (nI (sk isLt un f 0))), (0, .ref (ad 40 0))] [] := by
    intro n_37
    induction n_37 with
    | zero => intro r hr1 hrf he hm37; exact absurd hm37 (Nat.not_lt_zero _)
    | succ n_37 ih37 =>
      intro r hr1 hrf he hm37
      refine z_aload_n C 37 0 1 dX9_find_37 rfl rfl ?_
      refine z_aload_n C 38 0 1 dX9_find_38 rfl rfl ?_
      refine z_getiv C 39 dX9_find_39 gf_X9_82 rfl (by first | assumption | exact Nat.zero_lt_one | exact (show (15 : Nat) < 16 by decide) | exact Nat.lt_succ_of_lt (by assumption) | omega) (up3_s _ _ _ _ _) ?_
      refine z_cVi0 C 42 dX9_find_42 cv_X9_85 (c_X9_byteAt (un := un) (len := f) (q := r) hR (mUr r) (by omega)) rfl ⟨by decide, rfl⟩ (by first | assumption | exact Nat.zero_lt_one | exact (show (15 : Nat) < 16 by decide) | exact Nat.lt_succ_of_lt (by assumption) | omega) rfl rfl (Nat.le_of_ble_eq_true rfl) ⟨by decide, by decide⟩ ⟨rfl, rfl⟩ ⟨by decide, by decide⟩ ?_
      intro r42 S42 L42 R42 p42
      obtain ⟨rfl, rfl, rfl, rfl⟩ := p42
      refine z_bipush (v := nI 32) C 45 dX9_find_45 (by decide +kernel) ?_
      first | with_reducible refine z_icmp_neN C 47 63 dX9_find_47 (by decide) (by omega) (by omega) (fun h47 => ?_) (fun h47 => ?_) | refine z_icmp_ne C 47 63 dX9_find_47 (by decide) (fun h47 => ?_) (fun h47 => ?_)
      · have hre : sk isSp un f (sk isLt un f 0) = r := he.trans (sk_f (fun z => h47 ((bAt_sp hu).mpr z)))
        subst hre
        refine z_iload_n C 63 1 0 dX9_find_63 rfl rfl ?_
        first | with_reducible refine z_if_eqB C 64 84 dX9_find_64 (by decide) (fun h64 => ?_) (fun h64 => ?_) | with_reducible refine z_if_eqN C 64 84 dX9_find_64 (by decide) (by omega) (fun h64 => ?_) (fun h64 => ?_) | refine z_if_eq C 64 84 dX9_find_64 (by decide) (fun h64 => ?_) (fun h64 => ?_)
        · refine z_iconst (v := (-1)) C 84 dX9_find_84 (by decide) ?_
          refine z_goto C 85 103 dX9_find_85 (by decide) ?_
          exact ret 103 _ _ _ _ _ dX9_find_103 (by first | rfl | exact bI_n | decide) ((by first
      | (rw [fR_n (fun z => by have := z.1; have := z.2.1; have := z.2.2; omega)]
         exact ⟨rfl, mF.u10, (LG.rf L).up, rfl⟩)
      | (have hc : fCd un f := ⟨by omega, by omega, by omega⟩
         rw [fR_y hc]
         refine ⟨?_, mF.u10, (LG.rf L).up, rfl⟩
         congr 1
         rw [up3_k _ (by omega), up3_s]
         have hw : wl8 un 0 (sk isLt un f 0) = wl un 0 (sk isLt un f 0) := by
           unfold wl8
           congr 1
           split <;> omega
         rw [hw]
         have w1 : wOK (wl un 0 (sk isLt un f 0)) := wl_ok (fun j _ b => sk_all (len := f) (Nat.zero_le _) (by omega))
         have w2 : nOK (wl un 0 (sk isLt un f 0)) := ⟨w1, by rw [wl_len]; exact hc.2.1, by rw [wl_len]; have := hc.1; omega⟩
         exact nmU_cong (fun j _ hj => by
           obtain ⟨n1, n2⟩ := hN j (by omega)
           have a1 := e256_8 n2.1 n2.2.1
           have a2 := e256_8 w2.1 w2.2.1
           have a3 := e32_8 n2.1 n2.2.1
           have a4 := e32_8 w2.1 w2.2.1
           rw [n1, pk_lEQ (by omega) (by omega)]
           show _ ↔ lN (e32 (nm j)) = lN (e32 _)
           rw [pk_lEQ (by omega) (by omega)]
           exact ⟨fun z => by rw [e256_inj n2.1 w2.1 z], fun z => by rw [e32_inj n2.1 w2.1 z]⟩))))
        · refine z_iload_n C 67 1 0 dX9_find_67 rfl rfl ?_
          refine z_bipush (v := nI 8) C 68 dX9_find_68 (by decide +kernel) ?_
          first | with_reducible refine z_icmp_gtN C 70 84 dX9_find_70 (by decide) (by omega) (by omega) (fun h70 => ?_) (fun h70 => ?_) | refine z_icmp_gt C 70 84 dX9_find_70 (by decide) (fun h70 => ?_) (fun h70 => ?_)
          · refine z_iconst (v := (-1)) C 84 dX9_find_84 (by decide) ?_
            refine z_goto C 85 103 dX9_find_85 (by decide) ?_
            exact ret 103 _ _ _ _ _ dX9_find_103 (by first | rfl | exact bI_n | decide) ((by first
      | (rw [fR_n (fun z => by have := z.1; have := z.2.1; have := z.2.2; omega)]
         exact ⟨rfl, mF.u10, (LG.rf L).up, rfl⟩)
      | (have hc : fCd un f := ⟨by omega, by omega, by omega⟩
         rw [fR_y hc]
         refine ⟨?_, mF.u10, (LG.rf L).up, rfl⟩
         congr 1
         rw [up3_k _ (by omega), up3_s]
         have hw : wl8 un 0 (sk isLt un f 0) = wl un 0 (sk isLt un f 0) := by
           unfold wl8
           congr 1
           split <;> omega
         rw [hw]
         have w1 : wOK (wl un 0 (sk isLt un f 0)) := wl_ok (fun j _ b => sk_all (len := f) (Nat.zero_le _) (by omega))
         have w2 : nOK (wl un 0 (sk isLt un f 0)) := ⟨w1, by rw [wl_len]; exact hc.2.1, by rw [wl_len]; have := hc.1; omega⟩
         exact nmU_cong (fun j _ hj => by
           obtain ⟨n1, n2⟩ := hN j (by omega)
           have a1 := e256_8 n2.1 n2.2.1
           have a2 := e256_8 w2.1 w2.2.1
           have a3 := e32_8 n2.1 n2.2.1
           have a4 := e32_8 w2.1 w2.2.1
           rw [n1, pk_lEQ (by omega) (by omega)]
           show _ ↔ lN (e32 (nm j)) = lN (e32 _)
           rw [pk_lEQ (by omega) (by omega)]
           exact ⟨fun z => by rw [e256_inj n2.1 w2.1 z], fun z => by rw [e32_inj n2.1 w2.1 z]⟩))))
          · refine z_aload_n C 73 0 1 dX9_find_73 rfl rfl ?_
            refine z_getiv C 74 dX9_find_74 gf_X9_82 rfl (by first | assumption | exact Nat.zero_lt_one | exact (show (15 : Nat) < 16 by decide) | exact Nat.lt_succ_of_lt (by assumption) | omega) (up3_s _ _ _ _ _) ?_
            refine z_aload_n C 77 0 1 dX9_find_77 rfl rfl ?_
            refine z_getiv C 78 dX9_find_78 gf_X9_75 rfl (by first | assumption | exact Nat.zero_lt_one | exact (show (15 : Nat) < 16 by decide) | exact Nat.lt_succ_of_lt (by assumption) | omega) ((mUr _).1) ?_
            first | with_reducible refine z_icmp_geN C 81 88 dX9_find_81 (by decide) (by omega) (by omega) (fun h81 => ?_) (fun h81 => ?_) | refine z_icmp_ge C 81 88 dX9_find_81 (by decide) (fun h81 => ?_) (fun h81 => ?_)
            · refine z_aload_n C 88 0 1 dX9_find_88 rfl rfl ?_
              refine z_getr C 89 dX9_find_89 gf_X9_13 rfl (by first | assumption | exact Nat.zero_lt_one | exact (show (15 : Nat) < 16 by decide) | exact Nat.lt_succ_of_lt (by assumption) | omega) (by first | exact hR _ _ _ _ rfl | exact hR2 _ _ _ _ rfl | assumption) ?_
              refine z_aload_n C 92 0 1 dX9_find_92 rfl rfl ?_
              refine z_getiv C 93 dX9_find_93 gf_X9_197 rfl (by first | assumption | exact Nat.zero_lt_one | exact (show (15 : Nat) < 16 by decide) | exact Nat.lt_succ_of_lt (by assumption) | omega) ((up3_j _ (by omega)).trans m1) ?_
              refine z_aload_n C 96 0 1 dX9_find_96 rfl rfl ?_
              refine z_getl C 97 dX9_find_97 gf_X9_78 rfl (by first | assumption | exact Nat.zero_lt_one | exact (show (15 : Nat) < 16 by decide) | exact Nat.lt_succ_of_lt (by assumption) | omega) ?_
              refine z_cSi0 C 100 dX9_find_100 cs_X9_138 (c_X9_named_42 (n := n) hR hn10) rfl rfl (Nat.le_of_ble_eq_true rfl) ⟨by decide, by decide⟩ ⟨rfl, rfl⟩ ⟨by decide, by decide⟩ ?_
              intro r100 S100 L100 R100 p100
              obtain ⟨rfl, rfl, rfl, rfl⟩ := p100
              exact ret 103 _ _ _ _ _ dX9_find_103 (by first | rfl | exact bI_n | decide) ((by first
      | (rw [fR_n (fun z => by have := z.1; have := z.2.1; have := z.2.2; omega)]
         exact ⟨rfl, mF.u10, (LG.rf L).up, rfl⟩)
      | (have hc : fCd un f := ⟨by omega, by omega, by omega⟩
         rw [fR_y hc]
         refine ⟨?_, mF.u10, (LG.rf L).up, rfl⟩
         congr 1
         rw [up3_k _ (by omega), up3_s]
         have hw : wl8 un 0 (sk isLt un f 0) = wl un 0 (sk isLt un f 0) := by
           unfold wl8
           congr 1
           split <;> omega
         rw [hw]
         have w1 : wOK (wl un 0 (sk isLt un f 0)) := wl_ok (fun j _ b => sk_all (len := f) (Nat.zero_le _) (by omega))
         have w2 : nOK (wl un 0 (sk isLt un f 0)) := ⟨w1, by rw [wl_len]; exact hc.2.1, by rw [wl_len]; have := hc.1; omega⟩
         exact nmU_cong (fun j _ hj => by
           obtain ⟨n1, n2⟩ := hN j (by omega)
           have a1 := e256_8 n2.1 n2.2.1
           have a2 := e256_8 w2.1 w2.2.1
           have a3 := e32_8 n2.1 n2.2.1
           have a4 := e32_8 w2.1 w2.2.1
           rw [n1, pk_lEQ (by omega) (by omega)]
           show _ ↔ lN (e32 (nm j)) = lN (e32 _)
           rw [pk_lEQ (by omega) (by omega)]
           exact ⟨fun z => by rw [e256_inj n2.1 w2.1 z], fun z => by rw [e32_inj n2.1 w2.1 z]⟩))))
            · refine z_iconst (v := (-1)) C 84 dX9_find_84 (by decide) ?_
              refine z_goto C 85 103 dX9_find_85 (by decide) ?_
              exact ret 103 _ _ _ _ _ dX9_find_103 (by first | rfl | exact bI_n | decide) ((by first
      | (rw [fR_n (fun z => by have := z.1; have := z.2.1; have := z.2.2; omega)]
         exact ⟨rfl, mF.u10, (LG.rf L).up, rfl⟩)
      | (have hc : fCd un f := ⟨by omega, by omega, by omega⟩
         rw [fR_y hc]
         refine ⟨?_, mF.u10, (LG.rf L).up, rfl⟩
         congr 1
         rw [up3_k _ (by omega), up3_s]
         have hw : wl8 un 0 (sk isLt un f 0) = wl un 0 (sk isLt un f 0) := by
           unfold wl8
           congr 1
           split <;> omega
         rw [hw]
         have w1 : wOK (wl un 0 (sk isLt un f 0)) := wl_ok (fun j _ b => sk_all (len := f) (Nat.zero_le _) (by omega))
         have w2 : nOK (wl un 0 (sk isLt un f 0)) := ⟨w1, by rw [wl_len]; exact hc.2.1, by rw [wl_len]; have := hc.1; omega⟩
         exact nmU_cong (fun j _ hj => by
           obtain ⟨n1, n2⟩ := hN j (by omega)
           have a1 := e256_8 n2.1 n2.2.1
           have a2 := e256_8 w2.1 w2.2.1
           have a3 := e32_8 n2.1 n2.2.1
           have a4 := e32_8 w2.1 w2.2.1
           rw [n1, pk_lEQ (by omega) (by omega)]
           show _ ↔ lN (e32 (nm j)) = lN (e32 _)
           rw [pk_lEQ (by omega) (by omega)]
           exact ⟨fun z => by rw [e256_inj n2.1 w2.1 z], fun z => by rw [e32_inj n2.1 w2.1 z]⟩))))
      · have hr2 := (bAt_sp hu).mp h47
        refine z_aload_n C 50 0 1 dX9_find_50 rfl rfl ?_
        refine z_dup C 51 dX9_find_51 rfl ?_
        refine z_getiv C 52 dX9_find_52 gf_X9_82 rfl (by first | assumption | exact Nat.zero_lt_one | exact (show (15 : Nat) < 16 by decide) | exact Nat.lt_succ_of_lt (by assumption) | omega) (up3_s _ _ _ _ _) ?_
        refine z_iconst (v := nI 1) C 55 dX9_find_55 (by decide) ?_
        first | with_reducible refine z_iaddN C 56 dX9_find_56 ?_ | refine z_iadd C 56 dX9_find_56 ?_
        refine z_puti C 57 dX9_find_57 gf_X9_82 ⟨rfl, rfl⟩ rfl (by first | assumption | exact Nat.zero_lt_one | exact (show (15 : Nat) < 16 by decide) | exact Nat.lt_succ_of_lt (by assumption) | omega) ?_
        rw [up3_up3]
        refine z_goto C 60 37 dX9_find_60 (by decide) ?_
        refine z_sub [(1, _), (0, _)] [0, 1] rfl ?_
        exact ih37 (r + 1) (by omega) (by omega) (he.trans (sk_t hr2.1 hr2.2)) (by omega)
  refine z_sub [(1, _), (0, _)] [0, 1] rfl ?_
  exact loop_37 (f + 1) _ (Nat.le_refl _) hqf rfl (by omega)

set_option maxHeartbeats 4000000 in
set_option maxRecDepth 100000 in
theorem c_X9_parse_1 {l : Launch} {G : mG} {ad : mA} {S : mS} {L : mL} {R : mR} {f : Nat} {x : Int32} (hR : mlk R) (hf : S 40 0 7 = nI f) (hf7 : f ≤ 700) (hx : ¬ isR 0 f x) : Ki l yX9_parse cX9_parse 3 .int rm_X9_parse G ad mdm [.ref (ad 40 0), .int x] S L R (fun r_ S2 L2 R2 => r_ = nI 0 ∧ up3 S 40 0 0 (nI 1) = S2 ∧ L = L2 ∧ R = R2) := by
  refine Ki.of RX9 (by decide) rfl (Nat.le_of_ble_eq_true rfl) ?_
  intro X hXl hXG C ret
  subst hXl; subst hXG
  change Z X 3 ad mdm S L R 0 0 0 [(0, _), (1, _)] []
  refine z_aload_n C 0 0 0 dX9_parse_0 rfl rfl ?_
  refine z_iconst (v := nI 0) C 1 dX9_parse_1 (by decide) ?_
  refine z_puti C 2 dX9_parse_2 gf_X9_65 ⟨rfl, rfl⟩ rfl (by first | assumption | exact Nat.zero_lt_one | exact (show (15 : Nat) < 16 by decide) | exact Nat.lt_succ_of_lt (by assumption) | omega) ?_
  refine z_aload_n C 5 0 0 dX9_parse_5 rfl rfl ?_
  refine z_iload_n C 6 1 1 dX9_parse_6 rfl rfl ?_
  refine z_iconst (v := nI 0) C 7 dX9_parse_7 (by decide) ?_
  refine z_aload_n C 8 0 0 dX9_parse_8 rfl rfl ?_
  refine z_getiv C 9 dX9_parse_9 gf_X9_68 rfl (by first | assumption | exact Nat.zero_lt_one | exact (show (15 : Nat) < 16 by decide) | exact Nat.lt_succ_of_lt (by assumption) | omega) ((up3_j _ (by omega)).trans hf) ?_
  refine z_cSi0 C 12 dX9_parse_12 cs_X9_89 (c_X9_within_0 hx (by decide) (by omega)) rfl rfl (Nat.le_of_ble_eq_true rfl) ⟨by decide, by decide⟩ ⟨rfl, rfl⟩ ⟨by decide, by decide⟩ ?_
  intro r12 S12 L12 R12 p12
  obtain ⟨rfl, rfl, rfl, rfl⟩ := p12
  first | with_reducible refine z_if_neB C 15 22 dX9_parse_15 (by decide) (fun h15 => absurd h15 (by first | decide | omega)) (fun h15 => ?_) | with_reducible refine z_if_neN C 15 22 dX9_parse_15 (by decide) (by omega) (fun h15 => absurd h15 (by first | decide | omega)) (fun h15 => ?_) | refine z_if_ne C 15 22 dX9_parse_15 (by decide) (fun h15 => absurd h15 (by first | decide | omega)) (fun h15 => ?_)
  · refine z_iconst (v := nI 1) C 18 dX9_parse_18 (by decide) ?_
    refine z_goto C 19 23 dX9_parse_19 (by decide) ?_
    refine z_iconst (v := nI 1) C 23 dX9_parse_23 (by decide) ?_
    refine z_cVi0 C 24 dX9_parse_24 cv_X9_185 (c_X9_throwsIf_1 hR (up3_s _ _ _ _ _) (by decide) (by decide)) rfl ⟨by decide, rfl⟩ (by first | assumption | exact Nat.zero_lt_one | exact (show (15 : Nat) < 16 by decide) | exact Nat.lt_succ_of_lt (by assumption) | omega) rfl rfl (Nat.le_of_ble_eq_true rfl) ⟨by decide, by decide⟩ ⟨rfl, rfl⟩ ⟨by decide, by decide⟩ ?_
    intro r24 S24 L24 R24 p24
    obtain ⟨rfl, rfl, rfl, rfl⟩ := p24
    first | with_reducible refine z_if_eqB C 27 32 dX9_parse_27 (by decide) (fun h27 => absurd h27 (by first | decide | omega)) (fun h27 => ?_) | with_reducible refine z_if_eqN C 27 32 dX9_parse_27 (by decide) (by omega) (fun h27 => absurd h27 (by first | decide | omega)) (fun h27 => ?_) | refine z_if_eq C 27 32 dX9_parse_27 (by decide) (fun h27 => absurd h27 (by first | decide | omega)) (fun h27 => ?_)
    · refine z_iconst (v := nI 0) C 30 dX9_parse_30 (by decide) ?_
      exact ret 31 _ _ _ _ _ dX9_parse_31 (by first | rfl | exact bI_n | decide) (⟨rfl, (by rw [up3_up3]), rfl, rfl⟩)
