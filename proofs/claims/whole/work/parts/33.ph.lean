theorem nI_ex {x : Int32} (h : 0 ≤ x) : ∃ q, q < 2 ^ 31 ∧ x = nI q := by
  have e1 := Int32.le_iff_toInt_le.mp h
  have e3 : (0 : Int32).toInt = 0 := by decide
  rw [e3] at e1
  have e2 := Int32.toInt_lt x
  exact ⟨x.toInt.toNat, by omega, Int32.toInt_inj.mp (by rw [nI_toInt (by omega)]; omega)⟩
theorem nI_exp {x : Int32} (h : ¬ x ≤ 0) : ∃ q, 0 < q ∧ q < 2 ^ 31 ∧ x = nI q := by
  obtain ⟨q, hq, rfl⟩ := nI_ex (Int32.le_of_lt (Int32.not_le.mp h))
  rcases Nat.eq_zero_or_pos q with rfl | h0
  · exact absurd (by decide) h
  · exact ⟨q, h0, hq, rfl⟩
/-- the costs of a description -/
def AC (S : mS) (d : Nat) (c : NN) : Prop := S 3 d 2 = c 0 ∧ S 3 d 3 = c 1 ∧ S 3 d 4 = c 2 ∧ S 3 d 5 = c 3
/-- nothing but phone v and the trims changes -/
def FV (S S2 : mS) (v : Nat) : Prop := ∀ k i, ¬ ((12 ≤ k ∧ k ≤ 30 ∧ i = v) ∨ (7 ≤ k ∧ k ≤ 11) ∨ (12 ≤ k ∧ k ≤ 16 ∧ i = 15)) → S2 k i = S k i
theorem FV.rf (S : mS) (v : Nat) : FV S S v := fun _ _ _ => rfl
theorem FV.tr {S S2 S3 : mS} {v : Nat} (h : FV S S2 v) (h2 : FV S2 S3 v) : FV S S3 v := fun k i hn => (h2 k i hn).trans (h k i hn)
theorem FV.ft {S S2 : mS} {v : Nat} (h : FT S S2) : FV S S2 v := fun k i hn => h k i (fun z => hn (z.elim (fun y => Or.inr (Or.inl y)) (fun y => Or.inr (Or.inr y))))
theorem FV.up {S S2 : mS} {v : Nat} (h : FV S S2 v) {k j : Nat} {x : Int32} (hk : 12 ≤ k ∧ k ≤ 30) : FV S (up3 S2 k v j x) v := fun k' i' hn => by
  have e : up3 S2 k v j x k' i' = S2 k' i' := by
    funext j'
    rw [up3_at, if_neg (fun z => hn (Or.inl ⟨by omega, by omega, z.2.1⟩))]
  rw [e]
  exact h k' i' hn
/-- nothing but phone v changes -/
def FP (S S2 : mS) (v : Nat) : Prop := ∀ k i, ¬ (12 ≤ k ∧ k ≤ 30 ∧ i = v) → S2 k i = S k i
theorem FP.rf (S : mS) (v : Nat) : FP S S v := fun _ _ _ => rfl
theorem FP.tr {S S2 S3 : mS} {v : Nat} (h : FP S S2 v) (h2 : FP S2 S3 v) : FP S S3 v := fun k i hn => (h2 k i hn).trans (h k i hn)
theorem FP.fv {S S2 : mS} {v : Nat} (h : FP S S2 v) : FV S S2 v := fun k i hn => h k i (fun z => hn (Or.inl z))
theorem FP.up {S S2 : mS} {v : Nat} (h : FP S S2 v) {k j : Nat} {x : Int32} (hk : 12 ≤ k ∧ k ≤ 30) : FP S (up3 S2 k v j x) v := fun k' i' hn => by
  have e : up3 S2 k v j x k' i' = S2 k' i' := by
    funext j'
    rw [up3_at, if_neg (fun z => hn ⟨by omega, by omega, z.2.1⟩)]
  rw [e]
  exact h k' i' hn
theorem fset_out {N : NN} {p w j : Nat} {x : Int32} (hp : p < 10) (hw : w < 20) (h : j < 6 ∨ 206 ≤ j) : fset N p w x j = N j := upd_n N (by omega)
theorem fStep0_out {N : NN} {p k j : Nat} (hp : p < 10) (h : j < 6 ∨ 206 ≤ j) : fStep0 N p k j = N j := by
  unfold fStep0 fEmpty
  repeat' split
  all_goals repeat rw [fset_out hp (by omega) h]
theorem wr_388 {N : NN} {k p j : Nat} (hk : k ≤ 9) (h : 388 ≤ j ∨ (206 ≤ j ∧ j < 306)) : fWr N k p j = N j := by
  unfold fWr
  rw [if_neg (by omega), if_neg (by omega), if_neg (by omega), if_neg (by omega), if_neg (by omega), if_neg (by omega)]
theorem AJ.off {S S2 : mS} {v : Nat} {N : NN} (h : AJ S v N) (e : ∀ k, 22 ≤ k → k ≤ 24 → S2 k v = S k v) : AJ S2 v N := by
  unfold AJ
  rw [e 22 (by omega) (by omega), e 23 (by omega) (by omega), e 24 (by omega) (by omega)]
  exact h
theorem AJ.row {S : mS} {v : Nat} {N M : NN} (h : AJ S v N) (e : ∀ j, j = 5 ∨ (306 ≤ j ∧ j < 388) → M j = N j) : AJ S v M := by
  obtain ⟨x, k, hx, hk, h1, h0, h5, hp, hc⟩ := h
  exact ⟨x, k, hx, hk, h1, h0, (e 5 (Or.inl rfl)).trans h5, fun e' t he ht => (hp e' t he ht).trans (e _ (Or.inr (by omega))).symm, fun w hw => (hc w hw).trans (e _ (Or.inr (by omega))).symm⟩
theorem AH.off {S S2 : mS} {v n : Nat} {N : NN} (h : AH S v N n) (e : ∀ k, 17 ≤ k → k ≤ 21 → S2 k v = S k v) : AH S2 v N n := by
  unfold AH
  rw [e 17 (by omega) (by omega), e 19 (by omega) (by omega), e 20 (by omega) (by omega), e 21 (by omega) (by omega)]
  exact h
theorem AH.row {S : mS} {v n : Nat} {N M : NN} (h : AH S v N n) (e3 : M 3 = N 3) (e : ∀ p w, p < 10 → 10 ≤ w → w < 15 → fo M p w = fo N p w) (ef : ∀ a b, a < 10 → b < 10 → fFol M a b = fFol N a b) : AH S v M n :=
  ⟨h.1, h.2.1.trans e3.symm, fun p hp => (h.2.2.1 p hp).trans (e p 10 hp (by omega) (by omega)).symm, fun p t g hp hg ht hg4 => (h.2.2.2.1 p t g hp ((e p 10 hp (by omega) (by omega)).symm.trans hg) ht hg4).trans (e p (11 + t) hp (by omega) (by omega)).symm, fun a b ha hb => (h.2.2.2.2 a b ha hb).trans (ef a b ha hb).symm⟩
theorem AP.off {S S2 : mS} {v : Nat} {N : NN} (h : AP S v N) (e : ∀ k, 25 ≤ k → k ≤ 30 → S2 k v = S k v) : AP S2 v N := by
  unfold AP
  rw [e 25 (by omega) (by omega), e 26 (by omega) (by omega), e 27 (by omega) (by omega), e 28 (by omega) (by omega), e 29 (by omega) (by omega), e 30 (by omega) (by omega)]
  exact h
theorem AU.off {S S2 : mS} {v : Nat} {N : NN} (h : AU S v N) (e : S2 18 v = S 18 v) : AU S2 v N := by
  unfold AU
  rw [e]
  exact h
theorem AP.row {S : mS} {v : Nat} {N M : NN} (h : AP S v N) (e1 : M 1 = N 1) (e4 : M 4 = N 4) (e2 : M 2 = N 2) (e : ∀ p w, p < 10 → (w = 3 ∨ w = 4 ∨ w = 5 ∨ w = 15) → fo M p w = fo N p w) (ef : ∀ j, 388 ≤ j → M j = N j) : AP S v M := by
  refine ⟨h.1.trans e1.symm, h.2.1.trans e4.symm, h.2.2.1.trans e2.symm, fun p hp => ?_⟩
  rw [e p 3 hp (by omega), e p 4 hp (by omega), e p 5 hp (by omega), e p 15 hp (by omega)]
  refine ⟨(h.2.2.2 p hp).1, (h.2.2.2 p hp).2.1, (h.2.2.2 p hp).2.2.1, (h.2.2.2 p hp).2.2.2.1, fun t w hw ht hw5 => ?_⟩
  rw [ef _ (by omega)]
  exact (h.2.2.2 p hp).2.2.2.2 t w hw ht hw5
theorem AU.row {S : mS} {v : Nat} {N M : NN} (h : AU S v N) (e : ∀ p w, p < 10 → (w = 0 ∨ w = 8 ∨ w = 9) → fo M p w = fo N p w) : AU S v M := by
  intro p hp
  rw [e p 0 hp (by omega), e p 8 hp (by omega), e p 9 hp (by omega)]
  exact h p hp
/-- the class's memory behind a step, before the entry -/
def pStep (S : mS) (v p k : Nat) : mS := if k = 5 then up3 (up3 (rStep S v p k) 26 v p (nI 0)) 29 v p (nI 0) else rStep S v p k
theorem pStep_k {S : mS} {v p k kk i : Nat} (h : ¬ (((13 ≤ kk ∧ kk ≤ 15) ∨ kk = 26 ∨ kk = 29) ∧ i = v)) : pStep S v p k kk i = S kk i := by
  unfold pStep
  split
  · have e2 : up3 (up3 (rStep S v p k) 26 v p (nI 0)) 29 v p (nI 0) kk i = rStep S v p k kk i := by
      funext j
      rw [up3_at, if_neg (by omega), up3_at, if_neg (by omega)]
    rw [e2, rStep_off (by omega)]
  · rw [rStep_off (by omega)]
theorem AJ.st {S : mS} {v p k n : Nat} {N : NN} (h : AB S v N n) (hp : p < 10) : AJ (pStep S v p k) v (fStep0 N p k) :=
  (h.2.2.2.1.off (fun kk a b => pStep_k (by omega))).row (fun j hj => fStep0_out hp (by omega))
theorem fStep_x {N : NN} {p k q : Nat} (hp : p < 10) (hq : q < 10) (hk : 1 ≤ k) (hk6 : k ≤ 6) : fo (fStep N p k) q 3 = (if k = 5 ∧ q = p then nI 0 else fo N q 3) ∧ fo (fStep N p k) q 15 = (if k = 5 ∧ q = p then nI 0 else fo N q 15) := by
  rw [fStep_fo hq (by omega), fStep_fo hq (by omega)]
  by_cases e : q = p
  · subst e
    rcases (show k = 1 ∨ k = 2 ∨ k = 3 ∨ k = 4 ∨ k = 5 ∨ k = 6 by omega) with rfl | rfl | rfl | rfl | rfl | rfl <;> simp [fStep0, fEmpty, fo_set]
  · rw [fo_step0_ne e (by omega), fo_step0_ne e (by omega), if_neg (fun z => e z.2), if_neg (fun z => e z.2)]
    exact ⟨rfl, rfl⟩
theorem AB.step {S S3 : mS} {v p k n : Nat} {N : NN} (h : AB S v N n) (hI : rI N n) (hc : cI N) (hp : p < 10) (hk : 1 ≤ k) (hk6 : k ≤ 6) (hf : fCan N p k) (hJ : AJ S3 v (fStep N p k)) (hF : ∀ kk i, ¬ (22 ≤ kk ∧ kk ≤ 24 ∧ i = v) → S3 kk i = pStep S v p k kk i) : AB S3 v (fStep N p k) n ∧ FP S S3 v := by
  have hlo : ∀ j, j < 5 → (fStep N p k) j = N j := fun j hj => fStep_lo (by omega)
  refine ⟨⟨?_, ?_, ?_, hJ, ?_⟩, fun kk i hn => by rw [hF kk i (by omega), pStep_k (by omega)]⟩
  · have h1 : AR (rStep S v p k) v (fStep N p k) := (h.1.step hc hp hk hk6 hf).wr
    refine h1.off (fun kk a b => ?_)
    rw [hF kk v (by omega)]
    unfold pStep
    split
    · rw [up3_k _ (by omega), up3_k _ (by omega)]
    · rfl
  · refine (h.2.1.off (fun kk a b => ?_)).row (hlo 3 (by omega)) (fun q w hq a b => fStep_w hq (by omega) (by omega) (by omega) (by omega) (by omega) (by omega)) (fun a b ha hb => fStep_fol hp ha hb)
    rw [hF kk v (by omega), pStep_k (by omega)]
  · intro q hq
    rw [hF 18 v (by omega), pStep_k (by omega), fStep_w hq (by omega) (by omega) (by omega) (by omega) (by omega) (by omega), fStep_w hq (by omega) (by omega) (by omega) (by omega) (by omega) (by omega)]
    rcases h.2.2.1 q hq with z | ⟨z1, z2⟩
    · exact Or.inl z
    · refine Or.inr ⟨z1, ?_⟩
      by_cases e : q = p
      · subst e
        rcases z2 with z2 | z2
        · left
          rcases (show k ≤ 5 ∨ k = 6 by omega) with h5 | rfl
          · obtain ⟨s, s2, s5, es⟩ := fCan_2 hk h5 hf
            rw [z2] at es
            have := (nI_eq (by omega) (by omega)).mp es
            omega
          · rw [fStep_fo hq (by omega)]
            simp [fStep0, fo_set, z2]
        · exfalso
          have z0 := z2.1
          unfold fCan at hf
          rcases (show k = 1 ∨ k = 2 ∨ k = 3 ∨ k = 4 ∨ k = 5 ∨ k = 6 by omega) with rfl | rfl | rfl | rfl | rfl | rfl <;> simp [z0, nI_eq] at hf
      · rw [fStep_ne hq (by omega) e]
        exact z2
  · have hP := h.2.2.2.2
    have e25 : S3 25 v = S 25 v := by rw [hF 25 v (by omega), pStep_k (by omega)]
    have e27 : S3 27 v = S 27 v := by rw [hF 27 v (by omega), pStep_k (by omega)]
    have e28 : S3 28 v = S 28 v := by rw [hF 28 v (by omega), pStep_k (by omega)]
    have e30 : S3 30 v = S 30 v := by rw [hF 30 v (by omega), pStep_k (by omega)]
    have e26 : ∀ q, S3 26 v q = if k = 5 ∧ q = p then nI 0 else S 26 v q := fun q => by
      rw [hF 26 v (by omega)]
      unfold pStep
      by_cases e5 : k = 5
      · rw [if_pos e5, up3_k _ (by omega), up3_at, rStep_off (by omega)]
        by_cases e : q = p
        · rw [if_pos ⟨rfl, rfl, e⟩, if_pos ⟨e5, e⟩]
        · rw [if_neg (fun z => e z.2.2), if_neg (fun z => e z.2)]
      · rw [if_neg e5, rStep_off (by omega), if_neg (fun z => e5 z.1)]
    have e29 : ∀ q, S3 29 v q = if k = 5 ∧ q = p then nI 0 else S 29 v q := fun q => by
      rw [hF 29 v (by omega)]
      unfold pStep
      by_cases e5 : k = 5
      · rw [if_pos e5, up3_at, up3_k _ (by omega), rStep_off (by omega)]
        by_cases e : q = p
        · rw [if_pos ⟨rfl, rfl, e⟩, if_pos ⟨e5, e⟩]
        · rw [if_neg (fun z => e z.2.2), if_neg (fun z => e z.2)]
      · rw [if_neg e5, rStep_off (by omega), if_neg (fun z => e5 z.1)]
    unfold AP
    rw [e25, e27, e28, e30, hlo 1 (by omega), hlo 4 (by omega), hlo 2 (by omega)]
    refine ⟨hP.1, hP.2.1, hP.2.2.1, fun q hq => ?_⟩
    obtain ⟨g3, g4, g5, g15, g30⟩ := hP.2.2.2 q hq
    rw [e26, e29, (fStep_x hp hq hk hk6).1, (fStep_x hp hq hk hk6).2, fStep_w hq (by omega) (by omega) (by omega) (by omega) (by omega) (by omega), fStep_w hq (by omega) (by omega) (by omega) (by omega) (by omega) (by omega), g3, g15]
    refine ⟨rfl, g4, g5, rfl, fun t w hw ht hw5 => ?_⟩
    have : (fStep N p k) (388 + 5 * q + t) = N (388 + 5 * q + t) := (wr_388 (by omega) (by omega)).trans (fStep0_out hp (by omega))
    rw [this]
    by_cases e : k = 5 ∧ q = p
    · rw [if_pos e] at hw
      have := (nI_eq (by omega) (by omega)).mp hw
      omega
    · rw [if_neg e] at hw
      exact g30 t w hw ht hw5

def rm_X4_forgetWhatItShowed : Room := { frames := 0, cells := 0, slots := 0, locals := 0 }
set_option maxHeartbeats 4000000 in
set_option maxRecDepth 100000 in
theorem c_X4_forgetWhatItShowed {l : Launch} {G : mG} {ad : mA} {S : mS} {L : mL} {R : mR} {v p : Nat} (hR : mlk R) (hv : v < 15) (hp : p < 10) : Kv l yX4_forgetWhatItShowed cX4_forgetWhatItShowed 2 rm_X4_forgetWhatItShowed G ad mdm [.ref (ad 25 v), .int (nI p)] S L R (fun S2 L2 R2 => up3 (up3 S 26 v p (nI 0)) 29 v p (nI 0) = S2 ∧ L = L2 ∧ R = R2) := by
  refine Kv.of RX4 (by decide) rfl (Nat.le_of_ble_eq_true rfl) ?_
  intro X hXl hXG C ret
  subst hXl; subst hXG
  change Z X 2 ad mdm S L R 0 0 0 [(0, _), (1, _)] []
  refine z_aload_n C 0 0 0 dX4_forgetWhatItShowed_0 rfl rfl ?_
  refine z_getr C 1 dX4_forgetWhatItShowed_1 gf_X4_25 rfl (by first | assumption | exact Nat.zero_lt_one | exact (show (15 : Nat) < 16 by decide) | exact Nat.lt_succ_of_lt (by assumption) | omega) (by first | exact hR _ _ _ _ rfl | exact hR2 _ _ _ _ rfl | assumption) ?_
  refine z_iload_n C 4 1 1 dX4_forgetWhatItShowed_4 rfl rfl ?_
  refine z_iconst (v := nI 0) C 5 dX4_forgetWhatItShowed_5 (by decide) ?_
  refine z_iast C 6 dX4_forgetWhatItShowed_6 (by first | rfl | assumption) (by first | assumption | exact Nat.zero_lt_one | exact (show (15 : Nat) < 16 by decide) | exact Nat.lt_succ_of_lt (by assumption) | omega)  (by first | rfl | assumption) (by first | decide | omega) (by first | assumption | omega) ?_
  refine z_aload_n C 7 0 0 dX4_forgetWhatItShowed_7 rfl rfl ?_
  refine z_getr C 8 dX4_forgetWhatItShowed_8 gf_X4_35 rfl (by first | assumption | exact Nat.zero_lt_one | exact (show (15 : Nat) < 16 by decide) | exact Nat.lt_succ_of_lt (by assumption) | omega) (by first | exact hR _ _ _ _ rfl | exact hR2 _ _ _ _ rfl | assumption) ?_
  refine z_iload_n C 11 1 1 dX4_forgetWhatItShowed_11 rfl rfl ?_
  refine z_iconst (v := nI 0) C 12 dX4_forgetWhatItShowed_12 (by decide) ?_
  refine z_iast C 13 dX4_forgetWhatItShowed_13 (by first | rfl | assumption) (by first | assumption | exact Nat.zero_lt_one | exact (show (15 : Nat) < 16 by decide) | exact Nat.lt_succ_of_lt (by assumption) | omega)  (by first | rfl | assumption) (by first | decide | omega) (by first | assumption | omega) ?_
  exact ret 14 _ _ _ _ dX4_forgetWhatItShowed_14 (⟨rfl, rfl, rfl⟩)
def rm_X4_doStep : Room := { frames := 2, cells := 0, slots := 0, locals := 45 }
set_option maxHeartbeats 4000000 in
set_option maxRecDepth 100000 in
theorem c_X4_doStep {l : Launch} {G : mG} {ad : mA} {S : mS} {L : mL} {R : mR} {N : NN} {n v p k : Nat} (hR : mlk R) (hv : v < 15) (hI : rI N n) (hB : AB S v N n) (hcI : cI N) (hp : p < 10) (hk : 1 ≤ k) (hk6 : k ≤ 6) (hf : fCan N p k) : Kv l yX4_doStep cX4_doStep 3 rm_X4_doStep G ad mdm [.ref (ad 25 v), .int (nI k), .int (nI p)] S L R (fun S2 L2 R2 => AB S2 v (fStep N p k) n ∧ FP S S2 v ∧ S2 18 v = S 18 v ∧ L = L2 ∧ R = R2) := by
  refine Kv.of RX4 (by decide) rfl (Nat.le_of_ble_eq_true rfl) ?_
  intro X hXl hXG C ret
  subst hXl; subst hXG
  change Z X 3 ad mdm S L R 0 0 0 [(0, _), (1, _), (2, _)] []
  refine z_aload_n C 0 0 0 dX4_doStep_0 rfl rfl ?_
  refine z_getr C 1 dX4_doStep_1 gf_X4_50 rfl (by first | assumption | exact Nat.zero_lt_one | exact (show (15 : Nat) < 16 by decide) | exact Nat.lt_succ_of_lt (by assumption) | omega) (by first | exact hR _ _ _ _ rfl | exact hR2 _ _ _ _ rfl | assumption) ?_
  refine z_iload_n C 4 1 1 dX4_doStep_4 rfl rfl ?_
  refine z_iload_n C 5 2 2 dX4_doStep_5 rfl rfl ?_
  refine z_cVv0 C 6 dX4_doStep_6 cv_X4_155 (c_X6_doStep (r := v) hR (by omega) hp hk hk6) rfl ⟨by decide, rfl⟩ (by first | assumption | exact Nat.zero_lt_one | exact (show (15 : Nat) < 16 by decide) | exact Nat.lt_succ_of_lt (by assumption) | omega) rfl rfl (Nat.le_of_ble_eq_true rfl) ⟨by decide, by decide⟩ ⟨rfl, rfl⟩ ⟨by decide, by decide⟩ ?_
  intro S6 L6 R6 p6
  obtain ⟨rfl, rfl, rfl⟩ := p6
  refine z_iload_n C 9 1 1 dX4_doStep_9 rfl rfl ?_
  refine z_iconst (v := nI 5) C 10 dX4_doStep_10 (by decide) ?_
  first | with_reducible refine z_icmp_neN C 11 19 dX4_doStep_11 (by decide) (by omega) (by omega) (fun h11 => ?_) (fun h11 => ?_) | refine z_icmp_ne C 11 19 dX4_doStep_11 (by decide) (fun h11 => ?_) (fun h11 => ?_)
  · refine z_mem (pStep S v p k) (by unfold pStep; first | rw [if_neg h11] | (subst h11; rfl) | rw [if_pos h11]) ?_
    refine z_aload_n C 19 0 0 dX4_doStep_19 rfl rfl ?_
    refine z_getr C 20 dX4_doStep_20 gf_X4_21 rfl (by first | assumption | exact Nat.zero_lt_one | exact (show (15 : Nat) < 16 by decide) | exact Nat.lt_succ_of_lt (by assumption) | omega) (by first | exact hR _ _ _ _ rfl | exact hR2 _ _ _ _ rfl | assumption) ?_
    refine z_iload_n C 23 1 1 dX4_doStep_23 rfl rfl ?_
    refine z_iload_n C 24 2 2 dX4_doStep_24 rfl rfl ?_
    refine z_aload_n C 25 0 0 dX4_doStep_25 rfl rfl ?_
    refine z_getiv C 26 dX4_doStep_26 gf_X4_65 rfl (by first | assumption | exact Nat.zero_lt_one | exact (show (15 : Nat) < 16 by decide) | exact Nat.lt_succ_of_lt (by assumption) | omega) (show _ = (fStep0 N p k) 1 from (by rw [fStep0_out hp (Or.inl (by decide)), pStep_k (by omega)]; exact hB.2.2.2.2.1)) ?_
    refine z_cVv0 C 29 dX4_doStep_29 cv_X4_160 (c_X3_add (N := fStep0 N p k) hR hv (AJ.st hB hp) (by omega)) rfl ⟨by decide, rfl⟩ (by first | assumption | exact Nat.zero_lt_one | exact (show (15 : Nat) < 16 by decide) | exact Nat.lt_succ_of_lt (by assumption) | omega) rfl rfl (Nat.le_of_ble_eq_true rfl) ⟨by decide, by decide⟩ ⟨rfl, rfl⟩ ⟨by decide, by decide⟩ ?_
    intro S29 L29 R29 p29
    obtain ⟨hJ2, hF2, rfl, rfl⟩ := p29
    exact ret 32 _ _ _ _ dX4_doStep_32 (⟨(hB.step hI hcI hp hk hk6 hf hJ2 hF2).1, (hB.step hI hcI hp hk hk6 hf hJ2 hF2).2, (hF2 18 v (by omega)).trans (pStep_k (by omega)), rfl, rfl⟩)
  · refine z_aload_n C 14 0 0 dX4_doStep_14 rfl rfl ?_
    refine z_iload_n C 15 2 2 dX4_doStep_15 rfl rfl ?_
    refine z_cVv0 C 16 dX4_doStep_16 cv_X4_156 (c_X4_forgetWhatItShowed hR hv hp) rfl ⟨by decide, rfl⟩ (by first | assumption | exact Nat.zero_lt_one | exact (show (15 : Nat) < 16 by decide) | exact Nat.lt_succ_of_lt (by assumption) | omega) rfl rfl (Nat.le_of_ble_eq_true rfl) ⟨by decide, by decide⟩ ⟨rfl, rfl⟩ ⟨by decide, by decide⟩ ?_
    intro S16 L16 R16 p16
    obtain ⟨rfl, rfl, rfl⟩ := p16
    refine z_mem (pStep S v p k) (by unfold pStep; first | rw [if_neg h11] | (subst h11; rfl) | rw [if_pos h11]) ?_
    refine z_aload_n C 19 0 0 dX4_doStep_19 rfl rfl ?_
    refine z_getr C 20 dX4_doStep_20 gf_X4_21 rfl (by first | assumption | exact Nat.zero_lt_one | exact (show (15 : Nat) < 16 by decide) | exact Nat.lt_succ_of_lt (by assumption) | omega) (by first | exact hR _ _ _ _ rfl | exact hR2 _ _ _ _ rfl | assumption) ?_
    refine z_iload_n C 23 1 1 dX4_doStep_23 rfl rfl ?_
    refine z_iload_n C 24 2 2 dX4_doStep_24 rfl rfl ?_
    refine z_aload_n C 25 0 0 dX4_doStep_25 rfl rfl ?_
    refine z_getiv C 26 dX4_doStep_26 gf_X4_65 rfl (by first | assumption | exact Nat.zero_lt_one | exact (show (15 : Nat) < 16 by decide) | exact Nat.lt_succ_of_lt (by assumption) | omega) (show _ = (fStep0 N p k) 1 from (by rw [fStep0_out hp (Or.inl (by decide)), pStep_k (by omega)]; exact hB.2.2.2.2.1)) ?_
    refine z_cVv0 C 29 dX4_doStep_29 cv_X4_160 (c_X3_add (N := fStep0 N p k) hR hv (AJ.st hB hp) (by omega)) rfl ⟨by decide, rfl⟩ (by first | assumption | exact Nat.zero_lt_one | exact (show (15 : Nat) < 16 by decide) | exact Nat.lt_succ_of_lt (by assumption) | omega) rfl rfl (Nat.le_of_ble_eq_true rfl) ⟨by decide, by decide⟩ ⟨rfl, rfl⟩ ⟨by decide, by decide⟩ ?_
    intro S29 L29 R29 p29
    obtain ⟨hJ2, hF2, rfl, rfl⟩ := p29
    exact ret 32 _ _ _ _ dX4_doStep_32 (⟨(hB.step hI hcI hp hk hk6 hf hJ2 hF2).1, (hB.step hI hcI hp hk hk6 hf hJ2 hF2).2, (hF2 18 v (by omega)).trans (pStep_k (by omega)), rfl, rfl⟩)
def rm_X4_isPrecious : Room := { frames := 0, cells := 0, slots := 0, locals := 0 }
set_option maxHeartbeats 4000000 in
set_option maxRecDepth 100000 in
theorem c_X4_isPrecious {l : Launch} {G : mG} {ad : mA} {S : mS} {L : mL} {R : mR} {N : NN} {n v p B : Nat} (hR : mlk R) (hv : v < 15) (hI : rI N n) (hB : AB S v N n) (hT : pI N B) (hB31 : B < 2147480000) (hp : p < 10) : Ki l yX4_isPrecious cX4_isPrecious 2 .boolean rm_X4_isPrecious G ad mdm [.ref (ad 25 v), .int (nI p)] S L R (fun r_ S2 L2 R2 => r_ = bI (fPrec N p) ∧ S = S2 ∧ L = L2 ∧ R = R2) := by
  refine Ki.of RX4 (by decide) rfl (Nat.le_of_ble_eq_true rfl) ?_
  intro X hXl hXG C ret
  subst hXl; subst hXG
  change Z X 2 ad mdm S L R 0 0 0 [(0, _), (1, _)] []
  have hP := hB.2.2.2.2
  have hPp := hP.2.2.2 p (by omega)
  obtain ⟨t, htB, ht, h5, h8⟩ := hT.1
  refine z_aload_n C 0 0 0 dX4_isPrecious_0 rfl rfl ?_
  refine z_getr C 1 dX4_isPrecious_1 gf_X4_29 rfl (by first | assumption | exact Nat.zero_lt_one | exact (show (15 : Nat) < 16 by decide) | exact Nat.lt_succ_of_lt (by assumption) | omega) (by first | exact hR _ _ _ _ rfl | exact hR2 _ _ _ _ rfl | assumption) ?_
  refine z_iload_n C 4 1 1 dX4_isPrecious_4 rfl rfl ?_
  refine z_iald C 5 dX4_isPrecious_5 (by first | rfl | assumption) (by first | assumption | exact Nat.zero_lt_one | exact (show (15 : Nat) < 16 by decide) | exact Nat.lt_succ_of_lt (by assumption) | omega) (by first | rfl | assumption) (by first | decide | omega) (by first | assumption | omega) ?_
  rw [hPp.2.1]
  first | with_reducible refine z_if_leN C 6 29 dX4_isPrecious_6 (by decide) (by omega) (fun h6 => ?_) (fun h6 => ?_) | refine z_if_le C 6 29 dX4_isPrecious_6 (by decide) (fun h6 => ?_) (fun h6 => ?_)
  · refine z_iconst (v := nI 0) C 29 dX4_isPrecious_29 (by decide) ?_
    exact ret 30 _ _ _ _ _ dX4_isPrecious_30 (by first | rfl | exact bI_n | decide) (⟨(by first | exact bI_1 ⟨Int32.not_le.mp h6, by rw [ht, hs, nI_add, nI_ltI (by omega) (by omega)]; omega⟩ | exact bI_0 (fun q => absurd q.1 (Int32.not_lt.mpr h6)) | exact bI_0 (fun q => by have q2 := q.2; rw [ht, hs, nI_add, nI_ltI (by omega) (by omega)] at q2; omega)), rfl, rfl, rfl⟩)
  · have h4 : ¬ fo N p 4 = nI 0 := fun z => h6 (by rw [z]; decide)
    obtain ⟨s, hst, hs⟩ := (h5 p hp).resolve_left h4
    refine z_aload_n C 9 0 0 dX4_isPrecious_9 rfl rfl ?_
    refine z_getiv C 10 dX4_isPrecious_10 gf_X4_65 rfl (by first | assumption | exact Nat.zero_lt_one | exact (show (15 : Nat) < 16 by decide) | exact Nat.lt_succ_of_lt (by assumption) | omega) hP.1 ?_
    refine z_aload_n C 13 0 0 dX4_isPrecious_13 rfl rfl ?_
    refine z_getr C 14 dX4_isPrecious_14 gf_X4_32 rfl (by first | assumption | exact Nat.zero_lt_one | exact (show (15 : Nat) < 16 by decide) | exact Nat.lt_succ_of_lt (by assumption) | omega) (by first | exact hR _ _ _ _ rfl | exact hR2 _ _ _ _ rfl | assumption) ?_
    refine z_iload_n C 17 1 1 dX4_isPrecious_17 rfl rfl ?_
    refine z_iald C 18 dX4_isPrecious_18 (by first | rfl | assumption) (by first | assumption | exact Nat.zero_lt_one | exact (show (15 : Nat) < 16 by decide) | exact Nat.lt_succ_of_lt (by assumption) | omega) (by first | rfl | assumption) (by first | decide | omega) (by first | assumption | omega) ?_
    rw [hPp.2.2.1.resolve_left h4, hs, ht]
    first | with_reducible refine z_isubN C 19 dX4_isPrecious_19 (by omega) ?_ | refine z_isub C 19 dX4_isPrecious_19 ?_
    refine z_bipush (v := nI 60) C 20 dX4_isPrecious_20 (by decide +kernel) ?_
    first | with_reducible refine z_icmp_geN C 22 29 dX4_isPrecious_22 (by decide) (by omega) (by omega) (fun h22 => ?_) (fun h22 => ?_) | refine z_icmp_ge C 22 29 dX4_isPrecious_22 (by decide) (fun h22 => ?_) (fun h22 => ?_)
    · refine z_iconst (v := nI 0) C 29 dX4_isPrecious_29 (by decide) ?_
      exact ret 30 _ _ _ _ _ dX4_isPrecious_30 (by first | rfl | exact bI_n | decide) (⟨(by first | exact bI_1 ⟨Int32.not_le.mp h6, by rw [ht, hs, nI_add, nI_ltI (by omega) (by omega)]; omega⟩ | exact bI_0 (fun q => absurd q.1 (Int32.not_lt.mpr h6)) | exact bI_0 (fun q => by have q2 := q.2; rw [ht, hs, nI_add, nI_ltI (by omega) (by omega)] at q2; omega)), rfl, rfl, rfl⟩)
    · refine z_iconst (v := nI 1) C 25 dX4_isPrecious_25 (by decide) ?_
      refine z_goto C 26 30 dX4_isPrecious_26 (by decide) ?_
      exact ret 30 _ _ _ _ _ dX4_isPrecious_30 (by first | rfl | exact bI_n | decide) (⟨(by first | exact bI_1 ⟨Int32.not_le.mp h6, by rw [ht, hs, nI_add, nI_ltI (by omega) (by omega)]; omega⟩ | exact bI_0 (fun q => absurd q.1 (Int32.not_lt.mpr h6)) | exact bI_0 (fun q => by have q2 := q.2; rw [ht, hs, nI_add, nI_ltI (by omega) (by omega)] at q2; omega)), rfl, rfl, rfl⟩)
