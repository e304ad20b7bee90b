/-! the constructors: words, frames, links -/
theorem kl_L_8 : Cond.classLink RL 8 (mCR 8) ∈ mlw := mlw_t 24 (by decide +kernel) rfl
theorem kl_X8_13 : Cond.classLink RX8 13 (mCR 5) ∈ mlw := mlw_t 32 (by decide +kernel) rfl
theorem kl_X8_20 : Cond.classLink RX8 20 (mCR 0) ∈ mlw := mlw_t 78 (by decide +kernel) rfl
theorem kl_X8_30 : Cond.classLink RX8 30 (mCR 7) ∈ mlw := mlw_t 142 (by decide +kernel) rfl
theorem kl_X7_9 : Cond.classLink RX7 9 (mCR 6) ∈ mlw := mlw_t 148 (by decide +kernel) rfl
theorem kl_X7_11 : Cond.classLink RX7 11 (mCR 0) ∈ mlw := mlw_t 150 (by decide +kernel) rfl
theorem kl_X8_37 : Cond.classLink RX8 37 (mCR 4) ∈ mlw := mlw_t 220 (by decide +kernel) rfl
theorem kl_X4_9 : Cond.classLink RX4 9 (mCR 1) ∈ mlw := mlw_t 226 (by decide +kernel) rfl
theorem kl_X4_18 : Cond.classLink RX4 18 (mCR 3) ∈ mlw := mlw_t 254 (by decide +kernel) rfl
theorem kl_X4_45 : Cond.classLink RX4 45 (mCR 6) ∈ mlw := mlw_t 274 (by decide +kernel) rfl
theorem kl_X8_52 : Cond.classLink RX8 52 (mCR 2) ∈ mlw := mlw_t 341 (by decide +kernel) rfl
theorem kl_X2_9 : Cond.classLink RX2 9 (mCR 4) ∈ mlw := mlw_t 347 (by decide +kernel) rfl
theorem kl_L_115 : Cond.classLink RL 115 (mCR 9) ∈ mlw := mlw_t 1149 (by decide +kernel) rfl
theorem kl_X0_15 : Cond.classLink RX0 15 ("[" ++ (FieldType.array .int).toString) ∈ mlw := mlw_t 84 (by decide +kernel) rfl
theorem ki_X8 : Cond.instantiable (mCR 8) (mCN 8) ∈ mlw := mlw_t 25 (by decide +kernel) rfl
theorem ki_X5 : Cond.instantiable (mCR 5) (mCN 5) ∈ mlw := mlw_t 33 (by decide +kernel) rfl
theorem ki_X0 : Cond.instantiable (mCR 0) (mCN 0) ∈ mlw := mlw_t 79 (by decide +kernel) rfl
theorem ki_X7 : Cond.instantiable (mCR 7) (mCN 7) ∈ mlw := mlw_t 143 (by decide +kernel) rfl
theorem ki_X6 : Cond.instantiable (mCR 6) (mCN 6) ∈ mlw := mlw_t 149 (by decide +kernel) rfl
theorem ki_X4 : Cond.instantiable (mCR 4) (mCN 4) ∈ mlw := mlw_t 221 (by decide +kernel) rfl
theorem ki_X1 : Cond.instantiable (mCR 1) (mCN 1) ∈ mlw := mlw_t 227 (by decide +kernel) rfl
theorem ki_X3 : Cond.instantiable (mCR 3) (mCN 3) ∈ mlw := mlw_t 255 (by decide +kernel) rfl
theorem ki_X2 : Cond.instantiable (mCR 2) (mCN 2) ∈ mlw := mlw_t 342 (by decide +kernel) rfl
theorem ki_X9 : Cond.instantiable (mCR 9) (mCN 9) ∈ mlw := mlw_t 1150 (by decide +kernel) rfl
theorem aw_byte : Cond.arrayClass (mty 1) ∈ mlw := mlw_t 77 (by decide +kernel) rfl
theorem aw_long : Cond.arrayClass (mty 3) ∈ mlw := mlw_t 140 (by decide +kernel) rfl
theorem aw_int : Cond.arrayClass (mty 0) ∈ mlw := mlw_t 141 (by decide +kernel) rfl
theorem aw_bool : Cond.arrayClass (mty 2) ∈ mlw := mlw_t 190 (by decide +kernel) rfl
theorem wo_in : Cond.instanceMethod objectInit ∈ mlw := mlw_t 30 (by decide +kernel) rfl
theorem wo_code : Cond.code objectInit ⟨#[0xb1]⟩ 1 none ∈ mlw := mlw_t 31 (by decide +kernel) rfl
theorem lo_X8 : Cond.methodLink RX8 1 objectInit ∈ mlw := mlw_t 29 (by decide +kernel) rfl
theorem lo_X5 : Cond.methodLink RX5 3 objectInit ∈ mlw := mlw_t 37 (by decide +kernel) rfl
theorem lo_X0 : Cond.methodLink RX0 3 objectInit ∈ mlw := mlw_t 83 (by decide +kernel) rfl
theorem lo_X7 : Cond.methodLink RX7 3 objectInit ∈ mlw := mlw_t 147 (by decide +kernel) rfl
theorem lo_X6 : Cond.methodLink RX6 3 objectInit ∈ mlw := mlw_t 155 (by decide +kernel) rfl
theorem lo_X4 : Cond.methodLink RX4 3 objectInit ∈ mlw := mlw_t 225 (by decide +kernel) rfl
theorem lo_X1 : Cond.methodLink RX1 3 objectInit ∈ mlw := mlw_t 231 (by decide +kernel) rfl
theorem lo_X3 : Cond.methodLink RX3 3 objectInit ∈ mlw := mlw_t 259 (by decide +kernel) rfl
theorem lo_X2 : Cond.methodLink RX2 3 objectInit ∈ mlw := mlw_t 346 (by decide +kernel) rfl
theorem lo_X9 : Cond.methodLink RX9 1 objectInit ∈ mlw := mlw_t 1154 (by decide +kernel) rfl
theorem wc_X5_init : Cond.code yX5_init cX5_init 1 none ∈ mlw := mlw_t 36 (by decide +kernel) rfl
theorem wm_X5_init : Cond.instanceMethod yX5_init ∈ mlw := mlw_t 35 (by decide +kernel) rfl
theorem wc_X7_init : Cond.code yX7_init cX7_init 1 none ∈ mlw := mlw_t 146 (by decide +kernel) rfl
theorem wm_X7_init : Cond.instanceMethod yX7_init ∈ mlw := mlw_t 145 (by decide +kernel) rfl
theorem wc_X1_init : Cond.code yX1_init cX1_init 1 none ∈ mlw := mlw_t 230 (by decide +kernel) rfl
theorem wm_X1_init : Cond.instanceMethod yX1_init ∈ mlw := mlw_t 229 (by decide +kernel) rfl
theorem wc_X3_init : Cond.code yX3_init cX3_init 1 none ∈ mlw := mlw_t 258 (by decide +kernel) rfl
theorem wm_X3_init : Cond.instanceMethod yX3_init ∈ mlw := mlw_t 257 (by decide +kernel) rfl
theorem ci_X8_15 : mCn RX8 15 yX5_init cX5_init 1 0 := ⟨by unfold cwN; decide, wm_X5_init, wi_X5, wc_X5_init, rfl, by decide +kernel⟩
theorem ci_X8_32 : mCn RX8 32 yX7_init cX7_init 1 0 := ⟨by unfold cwN; decide, wm_X7_init, wi_X7, wc_X7_init, rfl, by decide +kernel⟩
theorem ci_X4_11 : mCn RX4 11 yX1_init cX1_init 1 0 := ⟨by unfold cwN; decide, wm_X1_init, wi_X1, wc_X1_init, rfl, by decide +kernel⟩
theorem ci_X4_20 : mCn RX4 20 yX3_init cX3_init 1 0 := ⟨by unfold cwN; decide, wm_X3_init, wi_X3, wc_X3_init, rfl, by decide +kernel⟩
theorem ci_X8_22 : mCi RX8 22 yX0_init cX0_init 1 0 := ⟨ln_X8_22, wm_X0_init, wi_X0, wc_X0_init, rfl, by decide +kernel⟩
theorem ci_X7_13 : mCi RX7 13 yX0_init cX0_init 1 0 := ⟨ln_X7_13, wm_X0_init, wi_X0, wc_X0_init, rfl, by decide +kernel⟩
theorem ci_X7_14 : mCi RX7 14 yX6_init cX6_init 2 1 := ⟨ln_X7_14, wm_X6_init, wi_X6, wc_X6_init, rfl, by decide +kernel⟩
theorem ci_X8_39 : mCi RX8 39 yX4_init cX4_init 3 2 := ⟨ln_X8_39, wm_X4_init, wi_X4, wc_X4_init, rfl, by decide +kernel⟩
theorem ci_X4_47 : mCi RX4 47 yX6_init cX6_init 2 1 := ⟨ln_X4_47, wm_X6_init, wi_X6, wc_X6_init, rfl, by decide +kernel⟩
theorem ci_X8_54 : mCi RX8 54 yX2_init cX2_init 4 2 := ⟨ln_X8_54, wm_X2_init, wi_X2, wc_X2_init, rfl, by decide +kernel⟩
theorem ci_X2_24 : mCi RX2 24 yX4_init cX4_init 3 2 := ⟨ln_X2_24, wm_X4_init, wi_X4, wc_X4_init, rfl, by decide +kernel⟩
/-- outside of P nothing changes -/
def Fm (P : Nat → Nat → Prop) (S : mS) (L : mL) (R : mR) (S2 : mS) (L2 : mL) (R2 : mR) : Prop := ∀ k i, ¬ P k i → S2 k i = S k i ∧ L2 k i = L k i ∧ R2 k i = R k i
theorem Fm.rf {P : Nat → Nat → Prop} {S : mS} {L : mL} {R : mR} : Fm P S L R S L R := fun _ _ _ => ⟨rfl, rfl, rfl⟩
theorem Fm.at {P : Nat → Nat → Prop} {S S2 : mS} {L L2 : mL} {R R2 : mR} (h : Fm P S L R S2 L2 R2) {k i : Nat} (hn : ¬ P k i) : S2 k i = S k i ∧ L2 k i = L k i ∧ R2 k i = R k i := h k i hn
theorem Fm.sub {P P' : Nat → Nat → Prop} {S S1 S2 : mS} {L L1 L2 : mL} {R R1 R2 : mR} (h : Fm P S L R S1 L1 R1) (h2 : Fm P' S1 L1 R1 S2 L2 R2) (hs : ∀ k i, P' k i → P k i) : Fm P S L R S2 L2 R2 := fun k i hn => by
  obtain ⟨a, b, c⟩ := h k i hn
  obtain ⟨a', b', c'⟩ := h2 k i (fun z => hn (hs k i z))
  exact ⟨a'.trans a, b'.trans b, c'.trans c⟩
theorem Fm.nz {P : Nat → Nat → Prop} {S S1 : mS} {L L1 : mL} {R R1 : mR} (h : Fm P S L R S1 L1 R1) {k i : Nat} (hp : P k i) : Fm P S L R (z3 S1 0 k i) (z3 L1 0 k i) (z3 R1 none k i) := fun k' i' hn => by
  have e : ¬ (k' = k ∧ i' = i) := fun z => hn (by rw [z.1, z.2]; exact hp)
  rw [z3_n _ e, z3_n _ e, z3_n _ e]
  exact h k' i' hn
theorem up3_row {α : Type} (S : Nat → Nat → Nat → α) {k i j : Nat} {v : α} {k' i' : Nat} (h : ¬ (k' = k ∧ i' = i)) : up3 S k i j v k' i' = S k' i' := (up3_off S k i j v k' i' h).symm
theorem Fm.upR {P : Nat → Nat → Prop} {S S1 : mS} {L L1 : mL} {R R1 : mR} (h : Fm P S L R S1 L1 R1) {k i j : Nat} {v : Option (Nat × Nat)} (hp : P k i) : Fm P S L R S1 L1 (up3 R1 k i j v) := fun k' i' hn => by
  rw [up3_row _ (fun z => hn (by rw [z.1, z.2]; exact hp))]
  exact h k' i' hn
theorem Fm.upS {P : Nat → Nat → Prop} {S S1 : mS} {L L1 : mL} {R R1 : mR} (h : Fm P S L R S1 L1 R1) {k i j : Nat} {v : Int32} (hp : P k i) : Fm P S L R (up3 S1 k i j v) L1 R1 := fun k' i' hn => by
  rw [up3_row _ (fun z => hn (by rw [z.1, z.2]; exact hp))]
  exact h k' i' hn
theorem gM {P : mS → mL → mR → Prop} {Zp : mS → mL → mR → Prop} {S : mS} {L : mL} {R : mR} (h : P S L R) (k : ∀ S L R, P S L R → Zp S L R) : Zp S L R := k _ _ _ h
theorem off_rm {r : Nat} (h : r < 16) : off 14 r = off 13 r + 1 ∧ off 15 r = off 13 r + 2 ∧ off 16 r = off 13 r + 3 ∧ off 12 r < off 13 r ∧ 33 < off 13 r := by
  simp only [off, pbs]
  by_cases e : r = 15
  · rw [if_pos e, if_pos e, if_pos e, if_pos e, if_pos e]
    omega
  · rw [if_neg e, if_neg e, if_neg e, if_neg e, if_neg e]
    split <;> (try split) <;> omega
theorem off_ph {v : Nat} (h : v < 15) : off 12 v = pbs v + 14 ∧ off 13 v = pbs v + 15 := ⟨if_neg (by omega), if_neg (by omega)⟩
theorem off_d {d : Nat} : off 3 d ≤ 31 ∧ off 4 d = off 3 d + 1 ∧ off 5 d = off 3 d + 2 := by
  simp only [off]
  split <;> (try split) <;> omega
theorem pbs_lo {v : Nat} : 52 ≤ pbs v := by
  unfold pbs
  split <;> (try split) <;> omega
theorem pbs_hi {v : Nat} (h : v < 15) : pbs v ≤ 322 := by
  unfold pbs
  split <;> (try split) <;> omega
theorem hn_l {b o p M c ce : Nat} (ho : o = p + c) (hM : b + p + 1 = M) (h : c = 1 + ce) : b + o = M + ce := by omega
theorem dn_l {b o p M c ce : Nat} (ho : o = p + c) (hM : b + p + 1 = M) (h : c < 1 + ce) : b + o < M + ce := by omega
theorem h6_l {b p M ce : Nat} (hM : b + p + 1 = M) (hp : p ≤ 322) (h : ce ≤ 33) : M + ce ≤ b + 356 := by omega
theorem hm_l {b p M c ce : Nat} (hM : b + p + 1 = M) (h : c = 1 + ce) : b + p + c = M + ce := by omega
theorem dd_l {b o p M ce : Nat} (hM : b + p + 1 = M) (ho : o ≤ 31) (hp : 52 ≤ p) : b + o < M + ce := by omega
theorem d19_l {b p M : Nat} (hM : b + p + 1 = M) : b + p + 19 ≤ M + 18 := by omega
theorem pbs_h {j : Nat} (h : j < 10) : pbs (3 + j) = 111 + 19 * j := by
  unfold pbs
  rw [if_neg (by omega), if_pos (by omega)]
  omega
theorem pbs_s {j : Nat} (h : j < 2) : pbs (13 + j) = 303 + 19 * j := by
  unfold pbs
  rw [if_neg (by omega), if_neg (by omega)]
  omega
theorem mlf_0 {R : mR} {v : Nat} (h0 : R 0 v 0 = some (1, 0)) (h4 : R 0 v 4 = some (7, 0)) (h8 : R 0 v 8 = some (31, 0)) (h9 : R 0 v 9 = some (33, 0)) (h10 : R 0 v 10 = some (34, 0)) : ∀ j q, mlf 0 v j = some q → R 0 v j = some q := by
  intro j q h
  simp only [mlf] at h
  split at h <;> first | (cases h; assumption) | cases h
theorem mlf_7 {R : mR} {v : Nat} (h0 : R 7 v 0 = some (12, 15)) (h1 : R 7 v 1 = some (8, 0)) (h2 : R 7 v 2 = some (9, 0)) (h5 : R 7 v 5 = some (10, 0)) (h6 : R 7 v 6 = some (11, 0)) : ∀ j q, mlf 7 v j = some q → R 7 v j = some q := by
  intro j q h
  simp only [mlf] at h
  split at h <;> first | (cases h; assumption) | cases h
theorem mlf_12 {R : mR} {v : Nat} (h2 : R 12 v 2 = some (13, v)) (h3 : R 12 v 3 = some (14, v)) (h4 : R 12 v 4 = some (15, v)) (h5 : R 12 v 5 = some (16, v)) : ∀ j q, mlf 12 v j = some q → R 12 v j = some q := by
  intro j q h
  simp only [mlf] at h
  split at h <;> first | (cases h; assumption) | cases h
theorem mlf_17 {R : mR} {v : Nat} (h2 : R 17 v 2 = some (18, v)) (h3 : R 17 v 3 = some (19, v)) (h4 : R 17 v 4 = some (20, v)) (h5 : R 17 v 5 = some (21, v)) : ∀ j q, mlf 17 v j = some q → R 17 v j = some q := by
  intro j q h
  simp only [mlf] at h
  split at h <;> first | (cases h; assumption) | cases h
theorem mlf_22 {R : mR} {v : Nat} (h2 : R 22 v 2 = some (23, v)) (h3 : R 22 v 3 = some (24, v)) : ∀ j q, mlf 22 v j = some q → R 22 v j = some q := by
  intro j q h
  simp only [mlf] at h
  split at h <;> first | (cases h; assumption) | cases h
theorem mlf_25 {R : mR} {v : Nat} (h0 : R 25 v 0 = some (7, 0)) (h2 : R 25 v 2 = some (12, v)) (h3 : R 25 v 3 = some (17, v)) (h4 : R 25 v 4 = some (22, v)) (h8 : R 25 v 8 = some (26, v)) (h9 : R 25 v 9 = some (27, v)) (h10 : R 25 v 10 = some (28, v)) (h11 : R 25 v 11 = some (29, v)) (h12 : R 25 v 12 = some (30, v)) : ∀ j q, mlf 25 v j = some q → R 25 v j = some q := by
  intro j q h
  simp only [mlf] at h
  split at h <;> first | (cases h; assumption) | cases h
theorem mlf_40 {R : mR} {v : Nat} (h2 : R 40 v 2 = some (41, 0)) (h3 : R 40 v 3 = some (42, 0)) (h4 : R 40 v 4 = some (43, 0)) (h5 : R 40 v 5 = some (44, 0)) (h6 : R 40 v 6 = some (45, 0)) (h21 : R 40 v 21 = some (46, 0)) (h22 : R 40 v 22 = some (47, 0)) (h23 : R 40 v 23 = some (48, 0)) (h24 : R 40 v 24 = some (49, 0)) (h25 : R 40 v 25 = some (50, 0)) (h28 : R 40 v 28 = some (51, 0)) (h29 : R 40 v 29 = some (52, 0)) (h30 : R 40 v 30 = some (53, 0)) : ∀ j q, mlf 40 v j = some q → R 40 v j = some q := by
  intro j q h
  simp only [mlf] at h
  split at h <;> first | (cases h; assumption) | cases h
theorem ml_12 {R : mR} {v : Nat} (h12 : ∀ j q, mlf 12 v j = some q → R 12 v j = some q) : ∀ k j q, 12 ≤ k → k ≤ 16 → mlf k v j = some q → R k v j = some q := by
  intro k j q a b h
  rcases (show k = 12 ∨ k = 13 ∨ k = 14 ∨ k = 15 ∨ k = 16 by omega) with rfl | rfl | rfl | rfl | rfl
  · exact h12 j q h
  · exact absurd h (by simp [mlf])
  · exact absurd h (by simp [mlf])
  · exact absurd h (by simp [mlf])
  · exact absurd h (by simp [mlf])
theorem ml_17 {R : mR} {v : Nat} (h17 : ∀ j q, mlf 17 v j = some q → R 17 v j = some q) : ∀ k j q, 17 ≤ k → k ≤ 21 → mlf k v j = some q → R k v j = some q := by
  intro k j q a b h
  rcases (show k = 17 ∨ k = 18 ∨ k = 19 ∨ k = 20 ∨ k = 21 by omega) with rfl | rfl | rfl | rfl | rfl
  · exact h17 j q h
  · exact absurd h (by simp [mlf])
  · exact absurd h (by simp [mlf])
  · exact absurd h (by simp [mlf])
  · exact absurd h (by simp [mlf])
theorem ml_22 {R : mR} {v : Nat} (h22 : ∀ j q, mlf 22 v j = some q → R 22 v j = some q) : ∀ k j q, 22 ≤ k → k ≤ 24 → mlf k v j = some q → R k v j = some q := by
  intro k j q a b h
  rcases (show k = 22 ∨ k = 23 ∨ k = 24 by omega) with rfl | rfl | rfl
  · exact h22 j q h
  · exact absurd h (by simp [mlf])
  · exact absurd h (by simp [mlf])
theorem ml_12_30 {R : mR} {v : Nat} (h12 : ∀ j q, mlf 12 v j = some q → R 12 v j = some q) (h17 : ∀ j q, mlf 17 v j = some q → R 17 v j = some q) (h22 : ∀ j q, mlf 22 v j = some q → R 22 v j = some q) (h25 : ∀ j q, mlf 25 v j = some q → R 25 v j = some q) : ∀ k j q, 12 ≤ k → k ≤ 30 → mlf k v j = some q → R k v j = some q := by
  intro k j q a b h
  rcases (show k = 12 ∨ k = 13 ∨ k = 14 ∨ k = 15 ∨ k = 16 ∨ k = 17 ∨ k = 18 ∨ k = 19 ∨ k = 20 ∨ k = 21 ∨ k = 22 ∨ k = 23 ∨ k = 24 ∨ k = 25 ∨ k = 26 ∨ k = 27 ∨ k = 28 ∨ k = 29 ∨ k = 30 by omega) with rfl | rfl | rfl | rfl | rfl | rfl | rfl | rfl | rfl | rfl | rfl | rfl | rfl | rfl | rfl | rfl | rfl | rfl | rfl
  · exact h12 j q h
  · exact absurd h (by simp [mlf])
  · exact absurd h (by simp [mlf])
  · exact absurd h (by simp [mlf])
  · exact absurd h (by simp [mlf])
  · exact h17 j q h
  · exact absurd h (by simp [mlf])
  · exact absurd h (by simp [mlf])
  · exact absurd h (by simp [mlf])
  · exact absurd h (by simp [mlf])
  · exact h22 j q h
  · exact absurd h (by simp [mlf])
  · exact absurd h (by simp [mlf])
  · exact h25 j q h
  · exact absurd h (by simp [mlf])
  · exact absurd h (by simp [mlf])
  · exact absurd h (by simp [mlf])
  · exact absurd h (by simp [mlf])
  · exact absurd h (by simp [mlf])
theorem dm_12 {b N v : Nat} (hv : v < 16) (h : ∀ k, 12 ≤ k → k ≤ 16 → b + off k v < N) : ∀ k, 12 ≤ k → k ≤ 16 → dN b N k v := by
  intro k a c
  refine ⟨?_, h k a c⟩
  rcases (show k = 12 ∨ k = 13 ∨ k = 14 ∨ k = 15 ∨ k = 16 by omega) with rfl | rfl | rfl | rfl | rfl <;> first | exact hv | exact Nat.lt_succ_of_lt hv
theorem dm_ph {b N v : Nat} (hv : v < 15) (h : b + pbs v + 19 ≤ N) : ∀ k, 12 ≤ k → k ≤ 30 → dN b N k v := by
  intro k a c
  obtain ⟨o12, o13⟩ := off_ph hv
  obtain ⟨o14, o15, o16, -, -⟩ := off_rm (Nat.lt_succ_of_lt hv)
  rcases (show k = 12 ∨ k = 13 ∨ k = 14 ∨ k = 15 ∨ k = 16 ∨ k = 17 ∨ k = 18 ∨ k = 19 ∨ k = 20 ∨ k = 21 ∨ k = 22 ∨ k = 23 ∨ k = 24 ∨ k = 25 ∨ k = 26 ∨ k = 27 ∨ k = 28 ∨ k = 29 ∨ k = 30 by omega) with rfl | rfl | rfl | rfl | rfl | rfl | rfl | rfl | rfl | rfl | rfl | rfl | rfl | rfl | rfl | rfl | rfl | rfl | rfl <;> first | exact ⟨hv, by simp only [off]; omega⟩ | exact ⟨Nat.lt_succ_of_lt hv, by omega⟩
theorem off_ps {v : Nat} : off 17 v = pbs v + 1 ∧ off 18 v = pbs v + 2 ∧ off 19 v = pbs v + 3 ∧ off 20 v = pbs v + 4 ∧ off 21 v = pbs v + 5 ∧ off 22 v = pbs v + 6 ∧ off 23 v = pbs v + 7 ∧ off 24 v = pbs v + 8 ∧ off 25 v = pbs v ∧ off 26 v = pbs v + 9 ∧ off 27 v = pbs v + 10 ∧ off 28 v = pbs v + 11 ∧ off 29 v = pbs v + 12 ∧ off 30 v = pbs v + 13 := ⟨rfl, rfl, rfl, rfl, rfl, rfl, rfl, rfl, rfl, rfl, rfl, rfl, rfl, rfl⟩
theorem dBeg_row (S : mS) (d : Nat) {k i : Nat} (h : ¬ (k = 3 ∧ i = d)) : dBeg S d k i = S k i := by
  unfold dBeg
  iterate 7 rw [up3_row _ h]
theorem sM_row (S : mS) (d : Nat) {k i : Nat} (h : ¬ (k = 6 ∧ 10 * d ≤ i ∧ i < 10 * d + 10)) : sM S d k i = S k i := if_neg h
theorem rM_row (R : mR) (d : Nat) {k i : Nat} (h : ¬ (k = 5 ∧ i = d)) : rM R d k i = R k i := if_neg h
theorem rBeg_row (S : mS) (r d : Nat) {k i : Nat} (h : ¬ (12 ≤ k ∧ k ≤ 16 ∧ i = r)) : rBeg S r d k i = S k i := by
  funext j
  unfold rBeg
  rw [if_neg (by omega), if_neg (by omega)]
def rm_X5_init : Room := { frames := 1, cells := 1, slots := 700, locals := 20 }
set_option maxHeartbeats 4000000 in
set_option maxRecDepth 100000 in
theorem c_X5_init {l : Launch} {G : mG} {b M : Nat} {S0 : mS} {L0 : mL} {R0 : mR}  (hM : b + 2 = M) : Kn l yX5_init cX5_init 1 rm_X5_init G b M [.ref (aD b 1 0)] S0 L0 R0 (fun S2 L2 R2 => Fm (fun k i => (k = 1 ∨ k = 2) ∧ i = 0) S0 L0 R0 S2 L2 R2 ∧ R2 1 0 0 = some (2, 0) ∧ S2 1 0 1 = nI 0) := by
  refine Kn.of RX5 (by decide) rfl rfl (Nat.le_of_ble_eq_true rfl) ?_
  intro X hXl hXG hsz hI C ret
  subst hXl; subst hXG
  change Z X 1 (aD b) (dN b (M + 0)) S0 L0 R0 0 0 0 [(0, _)] []
  have hb : b ≤ M := by omega
  have o1 : off 1 0 = 1 := rfl
  have o2 : off 2 0 = 2 := rfl
  have F : Fm (fun k i => (k = 1 ∨ k = 2) ∧ i = 0) S0 L0 R0 S0 L0 R0 := Fm.rf
  refine z_aload_n C 0 0 0 dX5_init_0 rfl rfl ?_
  refine z_oinit C 1 dX5_init_1 lo_X5 wo_in wo_code ⟨Nat.le_of_ble_eq_true rfl, Nat.le_of_ble_eq_true rfl⟩ ?_
  refine z_aload_n C 4 0 0 dX5_init_4 rfl rfl ?_
  refine z_sipush (v := nI 700) C 5 dX5_init_5 (by decide +kernel) ?_
  refine y_newa C hsz hb 8 2 0 (n := 700) (t := 1) dX5_init_8 rfl (by decide) rfl aw_byte rfl (by decide) (by show (0 : Nat) < mcnt 2; decide) (by omega) (by refine ⟨?_, ?_⟩ <;> simp only [rm_X5_init, mCN] <;> omega) ?_
  refine gM (P := fun S' L' R' => (Fm (fun k i => (k = 1 ∨ k = 2) ∧ i = 0) S0 L0 R0 S' L' R')) (Zp := fun S' L' R' => Z _ _ _ (dN b (M + (1))) S' L' R' (1) (700) _ _ _) (S := (z3 S0 0 2 0)) (L := (z3 L0 0 2 0)) (R := (z3 R0 none 2 0)) (F.nz (k := 2) (i := 0) (by first | (simp; done) | omega)) ?_
  intro S1 L1 R1 F
  refine z_putF C hI 10 dX5_init_10 gf_X5_9 ⟨rfl, rfl, fun _ => ⟨rfl, rfl⟩⟩ rfl ⟨(by show (0 : Nat) < mcnt 1; decide), by omega⟩ ?_
  refine gM (P := fun S' L' R' => (Fm (fun k i => (k = 1 ∨ k = 2) ∧ i = 0) S0 L0 R0 S' L' R') ∧ (R' 1 0 0 = some (2, 0))) (Zp := fun S' L' R' => Z _ _ _ (dN b (M + (1))) S' L' R' (1) (700) _ _ _) (S := S1) (L := L1) (R := (up3 R1 1 0 0 (some (2, 0)))) ⟨F.upR (k := 1) (i := 0) (by first | (simp; done) | omega), (up3_s R1 1 0 0 _)⟩ ?_
  intro S2 L2 R2 ⟨F, h1_0⟩
  refine z_aload_n C 13 0 0 dX5_init_13 rfl rfl ?_
  refine z_iconst (v := nI 0) C 14 dX5_init_14 (by decide) ?_
  refine z_puti C 15 dX5_init_15 gf_X5_15 ⟨rfl, rfl⟩ rfl ⟨(by show (0 : Nat) < mcnt 1; decide), by omega⟩ ?_
  refine gM (P := fun S' L' R' => (Fm (fun k i => (k = 1 ∨ k = 2) ∧ i = 0) S0 L0 R0 S' L' R') ∧ (R' 1 0 0 = some (2, 0)) ∧ (S' 1 0 1 = nI 0)) (Zp := fun S' L' R' => Z _ _ _ (dN b (M + (1))) S' L' R' (1) (700) _ _ _) (S := (up3 S2 1 0 1 (nI 0))) (L := L2) (R := R2) ⟨F.upS (k := 1) (i := 0) (by first | (simp; done) | omega), h1_0, (up3_s S2 1 0 1 _)⟩ ?_
  intro S3 L3 R3 ⟨F, h1_0, f1⟩
  exact ret 18 _ _ _ _ dX5_init_18 (⟨F, h1_0, f1⟩)
def rm_X1_init : Room := { frames := 1, cells := 4, slots := 160, locals := 20 }
set_option maxHeartbeats 4000000 in
set_option maxRecDepth 100000 in
theorem c_X1_init {l : Launch} {G : mG} {b M : Nat} {S0 : mS} {L0 : mL} {R0 : mR} {v : Nat} (hv : v < 15) (hM : b + pbs v + 2 = M) : Kn l yX1_init cX1_init 1 rm_X1_init G b M [.ref (aD b 17 v)] S0 L0 R0 (fun S2 L2 R2 => Fm (fun k i => 17 ≤ k ∧ k ≤ 21 ∧ i = v) S0 L0 R0 S2 L2 R2 ∧ ∀ j q, mlf 17 v j = some q → R2 17 v j = some q) := by
  refine Kn.of RX1 (by decide) rfl rfl (Nat.le_of_ble_eq_true rfl) ?_
  intro X hXl hXG hsz hI C ret
  subst hXl; subst hXG
  change Z X 1 (aD b) (dN b (M + 0)) S0 L0 R0 0 0 0 [(0, _)] []
  have hb : b ≤ M := by omega
  obtain ⟨o17, o18, o19, o20, o21, o22, o23, o24, o25, o26, o27, o28, o29, o30⟩ := @off_ps v
  have F : Fm (fun k i => 17 ≤ k ∧ k ≤ 21 ∧ i = v) S0 L0 R0 S0 L0 R0 := Fm.rf
  refine z_aload_n C 0 0 0 dX1_init_0 rfl rfl ?_
  refine z_oinit C 1 dX1_init_1 lo_X1 wo_in wo_code ⟨Nat.le_of_ble_eq_true rfl, Nat.le_of_ble_eq_true rfl⟩ ?_
  refine z_aload_n C 4 0 0 dX1_init_4 rfl rfl ?_
  refine z_bipush (v := nI 10) C 5 dX1_init_5 (by decide +kernel) ?_
  refine y_newa C hsz hb 7 18 v (n := 10) (t := 0) dX1_init_7 rfl (by decide) rfl aw_int rfl (by decide) (show mdm 18 v from hv) (by omega) (by refine ⟨?_, ?_⟩ <;> simp only [rm_X1_init, mCN] <;> omega) ?_
  refine gM (P := fun S' L' R' => (Fm (fun k i => 17 ≤ k ∧ k ≤ 21 ∧ i = v) S0 L0 R0 S' L' R')) (Zp := fun S' L' R' => Z _ _ _ (dN b (M + (1))) S' L' R' (1) (10) _ _ _) (S := (z3 S0 0 18 v)) (L := (z3 L0 0 18 v)) (R := (z3 R0 none 18 v)) (F.nz (k := 18) (i := v) (by first | (simp; done) | omega)) ?_
  intro S1 L1 R1 F
  refine z_putF C hI 9 dX1_init_9 gf_X1_9 ⟨rfl, rfl, fun _ => ⟨rfl, rfl⟩⟩ rfl ⟨show mdm 17 v from hv, by omega⟩ ?_
  refine gM (P := fun S' L' R' => (Fm (fun k i => 17 ≤ k ∧ k ≤ 21 ∧ i = v) S0 L0 R0 S' L' R') ∧ (R' 17 v 2 = some (18, v))) (Zp := fun S' L' R' => Z _ _ _ (dN b (M + (1))) S' L' R' (1) (10) _ _ _) (S := S1) (L := L1) (R := (up3 R1 17 v 2 (some (18, v)))) ⟨F.upR (k := 17) (i := v) (by first | (simp; done) | omega), (up3_s R1 17 v 2 _)⟩ ?_
  intro S2 L2 R2 ⟨F, h17_2⟩
  refine z_aload_n C 12 0 0 dX1_init_12 rfl rfl ?_
  refine z_bipush (v := nI 10) C 13 dX1_init_13 (by decide +kernel) ?_
  refine y_newa C hsz hb 15 19 v (n := 10) (t := 0) dX1_init_15 rfl (by decide) rfl aw_int rfl (by decide) (show mdm 19 v from hv) (by omega) (by refine ⟨?_, ?_⟩ <;> simp only [rm_X1_init, mCN] <;> omega) ?_
  refine gM (P := fun S' L' R' => (Fm (fun k i => 17 ≤ k ∧ k ≤ 21 ∧ i = v) S0 L0 R0 S' L' R') ∧ (R' 17 v 2 = some (18, v))) (Zp := fun S' L' R' => Z _ _ _ (dN b (M + (2))) S' L' R' (2) (20) _ _ _) (S := (z3 S2 0 19 v)) (L := (z3 L2 0 19 v)) (R := (z3 R2 none 19 v)) ⟨F.nz (k := 19) (i := v) (by first | (simp; done) | omega), (by intros; rw [z3_n _ (by first | (simp; done) | omega)]; apply h17_2 <;> assumption)⟩ ?_
  intro S3 L3 R3 ⟨F, h17_2⟩
  refine z_putF C hI 17 dX1_init_17 gf_X1_15 ⟨rfl, rfl, fun _ => ⟨rfl, rfl⟩⟩ rfl ⟨show mdm 17 v from hv, by omega⟩ ?_
  refine gM (P := fun S' L' R' => (Fm (fun k i => 17 ≤ k ∧ k ≤ 21 ∧ i = v) S0 L0 R0 S' L' R') ∧ (R' 17 v 2 = some (18, v)) ∧ (R' 17 v 3 = some (19, v))) (Zp := fun S' L' R' => Z _ _ _ (dN b (M + (2))) S' L' R' (2) (20) _ _ _) (S := S3) (L := L3) (R := (up3 R3 17 v 3 (some (19, v)))) ⟨F.upR (k := 17) (i := v) (by first | (simp; done) | omega), (by intros; rw [up3_at, if_neg (by first | (simp; done) | omega)]; apply h17_2 <;> assumption), (up3_s R3 17 v 3 _)⟩ ?_
  intro S4 L4 R4 ⟨F, h17_2, h17_3⟩
  refine z_aload_n C 20 0 0 dX1_init_20 rfl rfl ?_
  refine z_bipush (v := nI 40) C 21 dX1_init_21 (by decide +kernel) ?_
  refine y_newa C hsz hb 23 20 v (n := 40) (t := 0) dX1_init_23 rfl (by decide) rfl aw_int rfl (by decide) (show mdm 20 v from hv) (by omega) (by refine ⟨?_, ?_⟩ <;> simp only [rm_X1_init, mCN] <;> omega) ?_
  refine gM (P := fun S' L' R' => (Fm (fun k i => 17 ≤ k ∧ k ≤ 21 ∧ i = v) S0 L0 R0 S' L' R') ∧ (R' 17 v 2 = some (18, v)) ∧ (R' 17 v 3 = some (19, v))) (Zp := fun S' L' R' => Z _ _ _ (dN b (M + (3))) S' L' R' (3) (60) _ _ _) (S := (z3 S4 0 20 v)) (L := (z3 L4 0 20 v)) (R := (z3 R4 none 20 v)) ⟨F.nz (k := 20) (i := v) (by first | (simp; done) | omega), (by intros; rw [z3_n _ (by first | (simp; done) | omega)]; apply h17_2 <;> assumption), (by intros; rw [z3_n _ (by first | (simp; done) | omega)]; apply h17_3 <;> assumption)⟩ ?_
  intro S5 L5 R5 ⟨F, h17_2, h17_3⟩
  refine z_putF C hI 25 dX1_init_25 gf_X1_18 ⟨rfl, rfl, fun _ => ⟨rfl, rfl⟩⟩ rfl ⟨show mdm 17 v from hv, by omega⟩ ?_
  refine gM (P := fun S' L' R' => (Fm (fun k i => 17 ≤ k ∧ k ≤ 21 ∧ i = v) S0 L0 R0 S' L' R') ∧ (R' 17 v 2 = some (18, v)) ∧ (R' 17 v 3 = some (19, v)) ∧ (R' 17 v 4 = some (20, v))) (Zp := fun S' L' R' => Z _ _ _ (dN b (M + (3))) S' L' R' (3) (60) _ _ _) (S := S5) (L := L5) (R := (up3 R5 17 v 4 (some (20, v)))) ⟨F.upR (k := 17) (i := v) (by first | (simp; done) | omega), (by intros; rw [up3_at, if_neg (by first | (simp; done) | omega)]; apply h17_2 <;> assumption), (by intros; rw [up3_at, if_neg (by first | (simp; done) | omega)]; apply h17_3 <;> assumption), (up3_s R5 17 v 4 _)⟩ ?_
  intro S6 L6 R6 ⟨F, h17_2, h17_3, h17_4⟩
  refine z_aload_n C 28 0 0 dX1_init_28 rfl rfl ?_
  refine z_bipush (v := nI 100) C 29 dX1_init_29 (by decide +kernel) ?_
  refine y_newa C hsz hb 31 21 v (n := 100) (t := 0) dX1_init_31 rfl (by decide) rfl aw_int rfl (by decide) (show mdm 21 v from hv) (by omega) (by refine ⟨?_, ?_⟩ <;> simp only [rm_X1_init, mCN] <;> omega) ?_
  refine gM (P := fun S' L' R' => (Fm (fun k i => 17 ≤ k ∧ k ≤ 21 ∧ i = v) S0 L0 R0 S' L' R') ∧ (R' 17 v 2 = some (18, v)) ∧ (R' 17 v 3 = some (19, v)) ∧ (R' 17 v 4 = some (20, v))) (Zp := fun S' L' R' => Z _ _ _ (dN b (M + (4))) S' L' R' (4) (160) _ _ _) (S := (z3 S6 0 21 v)) (L := (z3 L6 0 21 v)) (R := (z3 R6 none 21 v)) ⟨F.nz (k := 21) (i := v) (by first | (simp; done) | omega), (by intros; rw [z3_n _ (by first | (simp; done) | omega)]; apply h17_2 <;> assumption), (by intros; rw [z3_n _ (by first | (simp; done) | omega)]; apply h17_3 <;> assumption), (by intros; rw [z3_n _ (by first | (simp; done) | omega)]; apply h17_4 <;> assumption)⟩ ?_
  intro S7 L7 R7 ⟨F, h17_2, h17_3, h17_4⟩
  refine z_putF C hI 33 dX1_init_33 gf_X1_21 ⟨rfl, rfl, fun _ => ⟨rfl, rfl⟩⟩ rfl ⟨show mdm 17 v from hv, by omega⟩ ?_
  refine gM (P := fun S' L' R' => (Fm (fun k i => 17 ≤ k ∧ k ≤ 21 ∧ i = v) S0 L0 R0 S' L' R') ∧ (R' 17 v 2 = some (18, v)) ∧ (R' 17 v 3 = some (19, v)) ∧ (R' 17 v 4 = some (20, v)) ∧ (R' 17 v 5 = some (21, v))) (Zp := fun S' L' R' => Z _ _ _ (dN b (M + (4))) S' L' R' (4) (160) _ _ _) (S := S7) (L := L7) (R := (up3 R7 17 v 5 (some (21, v)))) ⟨F.upR (k := 17) (i := v) (by first | (simp; done) | omega), (by intros; rw [up3_at, if_neg (by first | (simp; done) | omega)]; apply h17_2 <;> assumption), (by intros; rw [up3_at, if_neg (by first | (simp; done) | omega)]; apply h17_3 <;> assumption), (by intros; rw [up3_at, if_neg (by first | (simp; done) | omega)]; apply h17_4 <;> assumption), (up3_s R7 17 v 5 _)⟩ ?_
  intro S8 L8 R8 ⟨F, h17_2, h17_3, h17_4, h17_5⟩
  exact ret 36 _ _ _ _ dX1_init_36 (⟨F, mlf_17 h17_2 h17_3 h17_4 h17_5⟩)
def rm_X3_init : Room := { frames := 1, cells := 2, slots := 82, locals := 20 }
set_option maxHeartbeats 4000000 in
set_option maxRecDepth 100000 in
theorem c_X3_init {l : Launch} {G : mG} {b M : Nat} {S0 : mS} {L0 : mL} {R0 : mR} {v : Nat} (hv : v < 15) (hM : b + pbs v + 7 = M) : Kn l yX3_init cX3_init 1 rm_X3_init G b M [.ref (aD b 22 v)] S0 L0 R0 (fun S2 L2 R2 => Fm (fun k i => 22 ≤ k ∧ k ≤ 24 ∧ i = v) S0 L0 R0 S2 L2 R2 ∧ ∀ j q, mlf 22 v j = some q → R2 22 v j = some q) := by
  refine Kn.of RX3 (by decide) rfl rfl (Nat.le_of_ble_eq_true rfl) ?_
  intro X hXl hXG hsz hI C ret
  subst hXl; subst hXG
  change Z X 1 (aD b) (dN b (M + 0)) S0 L0 R0 0 0 0 [(0, _)] []
  have hb : b ≤ M := by omega
  obtain ⟨o17, o18, o19, o20, o21, o22, o23, o24, o25, o26, o27, o28, o29, o30⟩ := @off_ps v
  have F : Fm (fun k i => 22 ≤ k ∧ k ≤ 24 ∧ i = v) S0 L0 R0 S0 L0 R0 := Fm.rf
  refine z_aload_n C 0 0 0 dX3_init_0 rfl rfl ?_
  refine z_oinit C 1 dX3_init_1 lo_X3 wo_in wo_code ⟨Nat.le_of_ble_eq_true rfl, Nat.le_of_ble_eq_true rfl⟩ ?_
  refine z_aload_n C 4 0 0 dX3_init_4 rfl rfl ?_
  refine z_iconst (v := nI 0) C 5 dX3_init_5 (by decide) ?_
  refine z_puti C 6 dX3_init_6 gf_X3_9 ⟨rfl, rfl⟩ rfl ⟨show mdm 22 v from hv, by omega⟩ ?_
  refine gM (P := fun S' L' R' => (Fm (fun k i => 22 ≤ k ∧ k ≤ 24 ∧ i = v) S0 L0 R0 S' L' R')) (Zp := fun S' L' R' => Z _ _ _ (dN b (M + (0))) S' L' R' (0) (0) _ _ _) (S := (up3 S0 22 v 0 (nI 0))) (L := L0) (R := R0) (F.upS (k := 22) (i := v) (by first | (simp; done) | omega)) ?_
  intro S1 L1 R1 F
  refine z_aload_n C 9 0 0 dX3_init_9 rfl rfl ?_
  refine z_iconst (v := nI 0) C 10 dX3_init_10 (by decide) ?_
  refine z_puti C 11 dX3_init_11 gf_X3_15 ⟨rfl, rfl⟩ rfl ⟨show mdm 22 v from hv, by omega⟩ ?_
  refine gM (P := fun S' L' R' => (Fm (fun k i => 22 ≤ k ∧ k ≤ 24 ∧ i = v) S0 L0 R0 S' L' R')) (Zp := fun S' L' R' => Z _ _ _ (dN b (M + (0))) S' L' R' (0) (0) _ _ _) (S := (up3 S1 22 v 1 (nI 0))) (L := L1) (R := R1) (F.upS (k := 22) (i := v) (by first | (simp; done) | omega)) ?_
  intro S2 L2 R2 F
  refine z_aload_n C 14 0 0 dX3_init_14 rfl rfl ?_
  refine z_bipush (v := nI 72) C 15 dX3_init_15 (by decide +kernel) ?_
  refine y_newa C hsz hb 17 23 v (n := 72) (t := 0) dX3_init_17 rfl (by decide) rfl aw_int rfl (by decide) (show mdm 23 v from hv) (by omega) (by refine ⟨?_, ?_⟩ <;> simp only [rm_X3_init, mCN] <;> omega) ?_
  refine gM (P := fun S' L' R' => (Fm (fun k i => 22 ≤ k ∧ k ≤ 24 ∧ i = v) S0 L0 R0 S' L' R')) (Zp := fun S' L' R' => Z _ _ _ (dN b (M + (1))) S' L' R' (1) (72) _ _ _) (S := (z3 S2 0 23 v)) (L := (z3 L2 0 23 v)) (R := (z3 R2 none 23 v)) (F.nz (k := 23) (i := v) (by first | (simp; done) | omega)) ?_
  intro S3 L3 R3 F
  refine z_putF C hI 19 dX3_init_19 gf_X3_18 ⟨rfl, rfl, fun _ => ⟨rfl, rfl⟩⟩ rfl ⟨show mdm 22 v from hv, by omega⟩ ?_
  refine gM (P := fun S' L' R' => (Fm (fun k i => 22 ≤ k ∧ k ≤ 24 ∧ i = v) S0 L0 R0 S' L' R') ∧ (R' 22 v 2 = some (23, v))) (Zp := fun S' L' R' => Z _ _ _ (dN b (M + (1))) S' L' R' (1) (72) _ _ _) (S := S3) (L := L3) (R := (up3 R3 22 v 2 (some (23, v)))) ⟨F.upR (k := 22) (i := v) (by first | (simp; done) | omega), (up3_s R3 22 v 2 _)⟩ ?_
  intro S4 L4 R4 ⟨F, h22_2⟩
  refine z_aload_n C 22 0 0 dX3_init_22 rfl rfl ?_
  refine z_bipush (v := nI 10) C 23 dX3_init_23 (by decide +kernel) ?_
  refine y_newa C hsz hb 25 24 v (n := 10) (t := 0) dX3_init_25 rfl (by decide) rfl aw_int rfl (by decide) (show mdm 24 v from hv) (by omega) (by refine ⟨?_, ?_⟩ <;> simp only [rm_X3_init, mCN] <;> omega) ?_
  refine gM (P := fun S' L' R' => (Fm (fun k i => 22 ≤ k ∧ k ≤ 24 ∧ i = v) S0 L0 R0 S' L' R') ∧ (R' 22 v 2 = some (23, v))) (Zp := fun S' L' R' => Z _ _ _ (dN b (M + (2))) S' L' R' (2) (82) _ _ _) (S := (z3 S4 0 24 v)) (L := (z3 L4 0 24 v)) (R := (z3 R4 none 24 v)) ⟨F.nz (k := 24) (i := v) (by first | (simp; done) | omega), (by intros; rw [z3_n _ (by first | (simp; done) | omega)]; apply h22_2 <;> assumption)⟩ ?_
  intro S5 L5 R5 ⟨F, h22_2⟩
  refine z_putF C hI 27 dX3_init_27 gf_X3_22 ⟨rfl, rfl, fun _ => ⟨rfl, rfl⟩⟩ rfl ⟨show mdm 22 v from hv, by omega⟩ ?_
  refine gM (P := fun S' L' R' => (Fm (fun k i => 22 ≤ k ∧ k ≤ 24 ∧ i = v) S0 L0 R0 S' L' R') ∧ (R' 22 v 2 = some (23, v)) ∧ (R' 22 v 3 = some (24, v))) (Zp := fun S' L' R' => Z _ _ _ (dN b (M + (2))) S' L' R' (2) (82) _ _ _) (S := S5) (L := L5) (R := (up3 R5 22 v 3 (some (24, v)))) ⟨F.upR (k := 22) (i := v) (by first | (simp; done) | omega), (by intros; rw [up3_at, if_neg (by first | (simp; done) | omega)]; apply h22_2 <;> assumption), (up3_s R5 22 v 3 _)⟩ ?_
  intro S6 L6 R6 ⟨F, h22_2, h22_3⟩
  exact ret 30 _ _ _ _ dX3_init_30 (⟨F, mlf_22 h22_2 h22_3⟩)
def rm_X0_init : Room := { frames := 1, cells := 12, slots := 100, locals := 20 }
set_option maxHeartbeats 4000000 in
set_option maxRecDepth 100000 in
theorem c_X0_init {l : Launch} {G : mG} {b M : Nat} {S0 : mS} {L0 : mL} {R0 : mR} {d : Nat} (hd : d < 3) (hM : b + off 3 d + 1 = M) : Kn l yX0_init cX0_init 1 rm_X0_init G b M [.ref (aD b 3 d)] S0 L0 R0 (fun S2 L2 R2 => Fm (fun k i => (3 ≤ k ∧ k ≤ 5 ∧ i = d) ∨ (k = 6 ∧ 10 * d ≤ i ∧ i < 10 * d + 10)) S0 L0 R0 S2 L2 R2 ∧ (S2 3 d 0 = nI 100 ∧ S2 3 d 1 = nI 0 ∧ S2 3 d 2 = nI 10 ∧ S2 3 d 3 = nI 2 ∧ S2 3 d 4 = nI 5 ∧ S2 3 d 5 = nI 20 ∧ S2 3 d 6 = nI 0) ∧ (∀ p w, p < 10 → S2 6 (10 * d + p) w = 0) ∧ R2 3 d 7 = some (4, d) ∧ R2 3 d 8 = some (5, d) ∧ ∀ j, j < 10 → R2 5 d j = some (6, 10 * d + j)) := by
  refine Kn.of RX0 (by decide) rfl rfl (Nat.le_of_ble_eq_true rfl) ?_
  intro X hXl hXG hsz hI C ret
  subst hXl; subst hXG
  change Z X 1 (aD b) (dN b (M + 0)) S0 L0 R0 0 0 0 [(0, _)] []
  have hb : b ≤ M := by omega
  obtain ⟨oA, o4, o5⟩ := @off_d d
  have F : Fm (fun k i => (3 ≤ k ∧ k ≤ 5 ∧ i = d) ∨ (k = 6 ∧ 10 * d ≤ i ∧ i < 10 * d + 10)) S0 L0 R0 S0 L0 R0 := Fm.rf
  refine z_aload_n C 0 0 0 dX0_init_0 rfl rfl ?_
  refine z_oinit C 1 dX0_init_1 lo_X0 wo_in wo_code ⟨Nat.le_of_ble_eq_true rfl, Nat.le_of_ble_eq_true rfl⟩ ?_
  refine z_aload_n C 4 0 0 dX0_init_4 rfl rfl ?_
  refine z_bipush (v := nI 10) C 5 dX0_init_5 (by decide +kernel) ?_
  refine y_newa C hsz hb 7 4 d (n := 10) (t := 3) dX0_init_7 rfl (by decide) rfl aw_long rfl (by decide) (show mdm 4 d from hd) (by omega) (by refine ⟨?_, ?_⟩ <;> simp only [rm_X0_init, mCN] <;> omega) ?_
  refine gM (P := fun S' L' R' => (Fm (fun k i => (3 ≤ k ∧ k ≤ 5 ∧ i = d) ∨ (k = 6 ∧ 10 * d ≤ i ∧ i < 10 * d + 10)) S0 L0 R0 S' L' R')) (Zp := fun S' L' R' => Z _ _ _ (dN b (M + (1))) S' L' R' (1) (10) _ _ _) (S := (z3 S0 0 4 d)) (L := (z3 L0 0 4 d)) (R := (z3 R0 none 4 d)) (F.nz (k := 4) (i := d) (by first | (simp; done) | omega)) ?_
  intro S1 L1 R1 F
  refine z_putF C hI 9 dX0_init_9 gf_X0_9 ⟨rfl, rfl, fun _ => ⟨rfl, rfl⟩⟩ rfl ⟨show mdm 3 d from hd, by omega⟩ ?_
  refine gM (P := fun S' L' R' => (Fm (fun k i => (3 ≤ k ∧ k ≤ 5 ∧ i = d) ∨ (k = 6 ∧ 10 * d ≤ i ∧ i < 10 * d + 10)) S0 L0 R0 S' L' R') ∧ (R' 3 d 7 = some (4, d))) (Zp := fun S' L' R' => Z _ _ _ (dN b (M + (1))) S' L' R' (1) (10) _ _ _) (S := S1) (L := L1) (R := (up3 R1 3 d 7 (some (4, d)))) ⟨F.upR (k := 3) (i := d) (by first | (simp; done) | omega), (up3_s R1 3 d 7 _)⟩ ?_
  intro S2 L2 R2 ⟨F, h3_7⟩
  refine z_aload_n C 12 0 0 dX0_init_12 rfl rfl ?_
  refine z_bipush (v := nI 10) C 13 dX0_init_13 (by decide +kernel) ?_
  refine z_bipush (v := nI 8) C 15 dX0_init_15 (by decide +kernel) ?_
  refine y_mna C hsz hb 17 d dX0_init_17 kl_X0_15 aw_int hd (by omega) (by refine ⟨?_, ?_⟩ <;> simp only [rm_X0_init, mCN] <;> omega) ?_
  refine gM (P := fun S' L' R' => (Fm (fun k i => (3 ≤ k ∧ k ≤ 5 ∧ i = d) ∨ (k = 6 ∧ 10 * d ≤ i ∧ i < 10 * d + 10)) S0 L0 R0 S' L' R') ∧ (R' 3 d 7 = some (4, d)) ∧ (∀ p w, p < 10 → S' 6 (10 * d + p) w = 0) ∧ (∀ j, j < 10 → R' 5 d j = some (6, 10 * d + j))) (Zp := fun S' L' R' => Z _ _ _ (dN b (M + (12))) S' L' R' (12) (100) _ _ _) (S := (sM S2 d)) (L := L2) (R := (rM R2 d)) ⟨F.sub (P' := fun k i => (k = 5 ∧ i = d) ∨ (k = 6 ∧ 10 * d ≤ i ∧ i < 10 * d + 10)) (fun k i hn => ⟨sM_row _ _ (by omega), rfl, rM_row _ _ (by omega)⟩) (by intros; omega), (by rw [rM_row _ _ (by omega)]; exact h3_7), (fun p w hp => by unfold sM; rw [if_pos (by omega)]), (fun j hj => by unfold rM; rw [if_pos ⟨rfl, rfl⟩, if_pos hj])⟩ ?_
  intro S3 L3 R3 ⟨F, h3_7, f6, h5⟩
  refine z_putF C hI 21 dX0_init_21 gf_X0_17 ⟨rfl, rfl, fun _ => ⟨rfl, rfl⟩⟩ rfl ⟨show mdm 3 d from hd, by omega⟩ ?_
  refine gM (P := fun S' L' R' => (Fm (fun k i => (3 ≤ k ∧ k ≤ 5 ∧ i = d) ∨ (k = 6 ∧ 10 * d ≤ i ∧ i < 10 * d + 10)) S0 L0 R0 S' L' R') ∧ (R' 3 d 7 = some (4, d)) ∧ (∀ p w, p < 10 → S' 6 (10 * d + p) w = 0) ∧ (∀ j, j < 10 → R' 5 d j = some (6, 10 * d + j)) ∧ (R' 3 d 8 = some (5, d))) (Zp := fun S' L' R' => Z _ _ _ (dN b (M + (12))) S' L' R' (12) (100) _ _ _) (S := S3) (L := L3) (R := (up3 R3 3 d 8 (some (5, d)))) ⟨F.upR (k := 3) (i := d) (by first | (simp; done) | omega), (by intros; rw [up3_at, if_neg (by first | (simp; done) | omega)]; apply h3_7 <;> assumption), f6, (by intros; rw [up3_at, if_neg (by first | (simp; done) | omega)]; apply h5 <;> assumption), (up3_s R3 3 d 8 _)⟩ ?_
  intro S4 L4 R4 ⟨F, h3_7, f6, h5, h3_8⟩
  refine z_aload_n C 24 0 0 dX0_init_24 rfl rfl ?_
  refine z_cVv0 C 25 dX0_init_25 cv_X0_20 (c_X0_begin (d := d) ⟨hd, by omega⟩) rfl ⟨by decide, rfl⟩ ⟨hd, by omega⟩ rfl rfl (Nat.le_of_ble_eq_true rfl) ⟨by decide, by decide⟩ ⟨rfl, rfl⟩ (by refine ⟨?_, ?_⟩ <;> simp only [rm_X0_init] <;> omega) ?_
  intro S5 L5 R5 p5
  obtain ⟨rfl, rfl, rfl⟩ := p5
  refine gM (P := fun S' L' R' => (Fm (fun k i => (3 ≤ k ∧ k ≤ 5 ∧ i = d) ∨ (k = 6 ∧ 10 * d ≤ i ∧ i < 10 * d + 10)) S0 L0 R0 S' L' R') ∧ (R' 3 d 7 = some (4, d)) ∧ (∀ p w, p < 10 → S' 6 (10 * d + p) w = 0) ∧ (∀ j, j < 10 → R' 5 d j = some (6, 10 * d + j)) ∧ (R' 3 d 8 = some (5, d)) ∧ (S' 3 d 0 = nI 100) ∧ (S' 3 d 1 = nI 0) ∧ (S' 3 d 2 = nI 10) ∧ (S' 3 d 3 = nI 2) ∧ (S' 3 d 4 = nI 5) ∧ (S' 3 d 5 = nI 20) ∧ (S' 3 d 6 = nI 0)) (Zp := fun S' L' R' => Z _ _ _ (dN b (M + (12))) S' L' R' (12) (100) _ _ _) (S := (dBeg S4 d)) (L := L4) (R := R4) ⟨F.sub (P' := fun k i => k = 3 ∧ i = d) (fun k i hn => ⟨dBeg_row _ _ hn, rfl, rfl⟩) (by intros; omega), h3_7, (by intros; rw [dBeg_row _ _ (by omega)]; apply f6 <;> assumption), h5, h3_8, (by simp [dBeg, up3]), (by simp [dBeg, up3]), (by simp [dBeg, up3]), (by simp [dBeg, up3]), (by simp [dBeg, up3]), (by simp [dBeg, up3]), (by simp [dBeg, up3])⟩ ?_
  intro S5 L5 R5 ⟨F, h3_7, f6, h5, h3_8, g0, g1, g2, g3, g4, g5, g6⟩
  exact ret 28 _ _ _ _ dX0_init_28 (⟨F, ⟨g0, g1, g2, g3, g4, g5, g6⟩, f6, h3_7, h3_8, h5⟩)
def rm_X6_init : Room := { frames := 2, cells := 4, slots := 40, locals := 45 }
set_option maxHeartbeats 4000000 in
set_option maxRecDepth 100000 in
theorem c_X6_init {l : Launch} {G : mG} {b M : Nat} {S0 : mS} {L0 : mL} {R0 : mR} {r d : Nat} (hv : r < 16) (hd : d < 3) (hM : b + off 13 r = M) : Kn l yX6_init cX6_init 2 rm_X6_init G b M [.ref (aD b 12 r), .ref (aD b 3 d)] S0 L0 R0 (fun S2 L2 R2 => Fm (fun k i => 12 ≤ k ∧ k ≤ 16 ∧ i = r) S0 L0 R0 S2 L2 R2 ∧ (∀ j q, mlf 12 r j = some q → R2 12 r j = some q) ∧ R2 12 r 0 = some (3, d)) := by
  refine Kn.of RX6 (by decide) rfl rfl (Nat.le_of_ble_eq_true rfl) ?_
  intro X hXl hXG hsz hI C ret
  subst hXl; subst hXG
  change Z X 2 (aD b) (dN b (M + 0)) S0 L0 R0 0 0 0 [(0, _), (1, _)] []
  have hb : b ≤ M := by omega
  obtain ⟨o14, o15, o16, o12, o13⟩ := off_rm hv
  have oA := (@off_d d).1
  have F : Fm (fun k i => 12 ≤ k ∧ k ≤ 16 ∧ i = r) S0 L0 R0 S0 L0 R0 := Fm.rf
  refine z_aload_n C 0 0 0 dX6_init_0 rfl rfl ?_
  refine z_oinit C 1 dX6_init_1 lo_X6 wo_in wo_code ⟨Nat.le_of_ble_eq_true rfl, Nat.le_of_ble_eq_true rfl⟩ ?_
  refine z_aload_n C 4 0 0 dX6_init_4 rfl rfl ?_
  refine z_bipush (v := nI 10) C 5 dX6_init_5 (by decide +kernel) ?_
  refine y_newa C hsz hb 7 13 r (n := 10) (t := 0) dX6_init_7 rfl (by decide) rfl aw_int rfl (by decide) (show mdm 13 r from hv) (by omega) (by refine ⟨?_, ?_⟩ <;> simp only [rm_X6_init, mCN] <;> omega) ?_
  refine gM (P := fun S' L' R' => (Fm (fun k i => 12 ≤ k ∧ k ≤ 16 ∧ i = r) S0 L0 R0 S' L' R')) (Zp := fun S' L' R' => Z _ _ _ (dN b (M + (1))) S' L' R' (1) (10) _ _ _) (S := (z3 S0 0 13 r)) (L := (z3 L0 0 13 r)) (R := (z3 R0 none 13 r)) (F.nz (k := 13) (i := r) (by first | (simp; done) | omega)) ?_
  intro S1 L1 R1 F
  refine z_putF C hI 9 dX6_init_9 gf_X6_9 ⟨rfl, rfl, fun _ => ⟨rfl, rfl⟩⟩ rfl ⟨show mdm 12 r from hv, by omega⟩ ?_
  refine gM (P := fun S' L' R' => (Fm (fun k i => 12 ≤ k ∧ k ≤ 16 ∧ i = r) S0 L0 R0 S' L' R') ∧ (R' 12 r 2 = some (13, r))) (Zp := fun S' L' R' => Z _ _ _ (dN b (M + (1))) S' L' R' (1) (10) _ _ _) (S := S1) (L := L1) (R := (up3 R1 12 r 2 (some (13, r)))) ⟨F.upR (k := 12) (i := r) (by first | (simp; done) | omega), (up3_s R1 12 r 2 _)⟩ ?_
  intro S2 L2 R2 ⟨F, h12_2⟩
  refine z_aload_n C 12 0 0 dX6_init_12 rfl rfl ?_
  refine z_bipush (v := nI 10) C 13 dX6_init_13 (by decide +kernel) ?_
  refine y_newa C hsz hb 15 14 r (n := 10) (t := 0) dX6_init_15 rfl (by decide) rfl aw_int rfl (by decide) (show mdm 14 r from hv) (by omega) (by refine ⟨?_, ?_⟩ <;> simp only [rm_X6_init, mCN] <;> omega) ?_
  refine gM (P := fun S' L' R' => (Fm (fun k i => 12 ≤ k ∧ k ≤ 16 ∧ i = r) S0 L0 R0 S' L' R') ∧ (R' 12 r 2 = some (13, r))) (Zp := fun S' L' R' => Z _ _ _ (dN b (M + (2))) S' L' R' (2) (20) _ _ _) (S := (z3 S2 0 14 r)) (L := (z3 L2 0 14 r)) (R := (z3 R2 none 14 r)) ⟨F.nz (k := 14) (i := r) (by first | (simp; done) | omega), (by intros; rw [z3_n _ (by first | (simp; done) | omega)]; apply h12_2 <;> assumption)⟩ ?_
  intro S3 L3 R3 ⟨F, h12_2⟩
  refine z_putF C hI 17 dX6_init_17 gf_X6_15 ⟨rfl, rfl, fun _ => ⟨rfl, rfl⟩⟩ rfl ⟨show mdm 12 r from hv, by omega⟩ ?_
  refine gM (P := fun S' L' R' => (Fm (fun k i => 12 ≤ k ∧ k ≤ 16 ∧ i = r) S0 L0 R0 S' L' R') ∧ (R' 12 r 2 = some (13, r)) ∧ (R' 12 r 3 = some (14, r))) (Zp := fun S' L' R' => Z _ _ _ (dN b (M + (2))) S' L' R' (2) (20) _ _ _) (S := S3) (L := L3) (R := (up3 R3 12 r 3 (some (14, r)))) ⟨F.upR (k := 12) (i := r) (by first | (simp; done) | omega), (by intros; rw [up3_at, if_neg (by first | (simp; done) | omega)]; apply h12_2 <;> assumption), (up3_s R3 12 r 3 _)⟩ ?_
  intro S4 L4 R4 ⟨F, h12_2, h12_3⟩
  refine z_aload_n C 20 0 0 dX6_init_20 rfl rfl ?_
  refine z_bipush (v := nI 10) C 21 dX6_init_21 (by decide +kernel) ?_
  refine y_newa C hsz hb 23 15 r (n := 10) (t := 0) dX6_init_23 rfl (by decide) rfl aw_int rfl (by decide) (show mdm 15 r from hv) (by omega) (by refine ⟨?_, ?_⟩ <;> simp only [rm_X6_init, mCN] <;> omega) ?_
  refine gM (P := fun S' L' R' => (Fm (fun k i => 12 ≤ k ∧ k ≤ 16 ∧ i = r) S0 L0 R0 S' L' R') ∧ (R' 12 r 2 = some (13, r)) ∧ (R' 12 r 3 = some (14, r))) (Zp := fun S' L' R' => Z _ _ _ (dN b (M + (3))) S' L' R' (3) (30) _ _ _) (S := (z3 S4 0 15 r)) (L := (z3 L4 0 15 r)) (R := (z3 R4 none 15 r)) ⟨F.nz (k := 15) (i := r) (by first | (simp; done) | omega), (by intros; rw [z3_n _ (by first | (simp; done) | omega)]; apply h12_2 <;> assumption), (by intros; rw [z3_n _ (by first | (simp; done) | omega)]; apply h12_3 <;> assumption)⟩ ?_
  intro S5 L5 R5 ⟨F, h12_2, h12_3⟩
  refine z_putF C hI 25 dX6_init_25 gf_X6_18 ⟨rfl, rfl, fun _ => ⟨rfl, rfl⟩⟩ rfl ⟨show mdm 12 r from hv, by omega⟩ ?_
  refine gM (P := fun S' L' R' => (Fm (fun k i => 12 ≤ k ∧ k ≤ 16 ∧ i = r) S0 L0 R0 S' L' R') ∧ (R' 12 r 2 = some (13, r)) ∧ (R' 12 r 3 = some (14, r)) ∧ (R' 12 r 4 = some (15, r))) (Zp := fun S' L' R' => Z _ _ _ (dN b (M + (3))) S' L' R' (3) (30) _ _ _) (S := S5) (L := L5) (R := (up3 R5 12 r 4 (some (15, r)))) ⟨F.upR (k := 12) (i := r) (by first | (simp; done) | omega), (by intros; rw [up3_at, if_neg (by first | (simp; done) | omega)]; apply h12_2 <;> assumption), (by intros; rw [up3_at, if_neg (by first | (simp; done) | omega)]; apply h12_3 <;> assumption), (up3_s R5 12 r 4 _)⟩ ?_
  intro S6 L6 R6 ⟨F, h12_2, h12_3, h12_4⟩
  refine z_aload_n C 28 0 0 dX6_init_28 rfl rfl ?_
  refine z_bipush (v := nI 10) C 29 dX6_init_29 (by decide +kernel) ?_
  refine y_newa C hsz hb 31 16 r (n := 10) (t := 2) dX6_init_31 rfl (by decide) rfl aw_bool rfl (by decide) (show mdm 16 r from hv) (by omega) (by refine ⟨?_, ?_⟩ <;> simp only [rm_X6_init, mCN] <;> omega) ?_
  refine gM (P := fun S' L' R' => (Fm (fun k i => 12 ≤ k ∧ k ≤ 16 ∧ i = r) S0 L0 R0 S' L' R') ∧ (R' 12 r 2 = some (13, r)) ∧ (R' 12 r 3 = some (14, r)) ∧ (R' 12 r 4 = some (15, r))) (Zp := fun S' L' R' => Z _ _ _ (dN b (M + (4))) S' L' R' (4) (40) _ _ _) (S := (z3 S6 0 16 r)) (L := (z3 L6 0 16 r)) (R := (z3 R6 none 16 r)) ⟨F.nz (k := 16) (i := r) (by first | (simp; done) | omega), (by intros; rw [z3_n _ (by first | (simp; done) | omega)]; apply h12_2 <;> assumption), (by intros; rw [z3_n _ (by first | (simp; done) | omega)]; apply h12_3 <;> assumption), (by intros; rw [z3_n _ (by first | (simp; done) | omega)]; apply h12_4 <;> assumption)⟩ ?_
  intro S7 L7 R7 ⟨F, h12_2, h12_3, h12_4⟩
  refine z_putF C hI 33 dX6_init_33 gf_X6_21 ⟨rfl, rfl, fun _ => ⟨rfl, rfl⟩⟩ rfl ⟨show mdm 12 r from hv, by omega⟩ ?_
  refine gM (P := fun S' L' R' => (Fm (fun k i => 12 ≤ k ∧ k ≤ 16 ∧ i = r) S0 L0 R0 S' L' R') ∧ (R' 12 r 2 = some (13, r)) ∧ (R' 12 r 3 = some (14, r)) ∧ (R' 12 r 4 = some (15, r)) ∧ (R' 12 r 5 = some (16, r))) (Zp := fun S' L' R' => Z _ _ _ (dN b (M + (4))) S' L' R' (4) (40) _ _ _) (S := S7) (L := L7) (R := (up3 R7 12 r 5 (some (16, r)))) ⟨F.upR (k := 12) (i := r) (by first | (simp; done) | omega), (by intros; rw [up3_at, if_neg (by first | (simp; done) | omega)]; apply h12_2 <;> assumption), (by intros; rw [up3_at, if_neg (by first | (simp; done) | omega)]; apply h12_3 <;> assumption), (by intros; rw [up3_at, if_neg (by first | (simp; done) | omega)]; apply h12_4 <;> assumption), (up3_s R7 12 r 5 _)⟩ ?_
  intro S8 L8 R8 ⟨F, h12_2, h12_3, h12_4, h12_5⟩
  refine z_aload_n C 36 0 0 dX6_init_36 rfl rfl ?_
  refine z_aload_n C 37 1 1 dX6_init_37 rfl rfl ?_
  refine z_cVv0 C 38 dX6_init_38 cv_X6_25 (c_X6_begin (r := r) (d := d) (dm_12 hv (fun k a c => by rcases (show k = 12 ∨ k = 13 ∨ k = 14 ∨ k = 15 ∨ k = 16 by omega) with rfl | rfl | rfl | rfl | rfl <;> omega)) ⟨hd, by omega⟩ (ml_12 (mlf_12 h12_2 h12_3 h12_4 h12_5))) rfl ⟨by decide, rfl⟩ ⟨hv, by omega⟩ rfl rfl (Nat.le_of_ble_eq_true rfl) ⟨by decide, by decide⟩ ⟨rfl, rfl⟩ (by refine ⟨?_, ?_⟩ <;> simp only [rm_X6_init] <;> omega) ?_
  intro S9 L9 R9 p9
  obtain ⟨rfl, rfl, rfl⟩ := p9
  refine gM (P := fun S' L' R' => (Fm (fun k i => 12 ≤ k ∧ k ≤ 16 ∧ i = r) S0 L0 R0 S' L' R') ∧ (R' 12 r 2 = some (13, r)) ∧ (R' 12 r 3 = some (14, r)) ∧ (R' 12 r 4 = some (15, r)) ∧ (R' 12 r 5 = some (16, r)) ∧ (R' 12 r 0 = some (3, d))) (Zp := fun S' L' R' => Z _ _ _ (dN b (M + (4))) S' L' R' (4) (40) _ _ _) (S := (rBeg S8 r d)) (L := L8) (R := (up3 R8 12 r 0 (some (3, d)))) ⟨F.sub (P' := fun k i => 12 ≤ k ∧ k ≤ 16 ∧ i = r) (fun k i hn => ⟨rBeg_row _ _ _ hn, rfl, up3_row _ (by omega)⟩) (by intros; omega), (by intros; rw [up3_at, if_neg (by first | (simp; done) | omega)]; apply h12_2 <;> assumption), (by intros; rw [up3_at, if_neg (by first | (simp; done) | omega)]; apply h12_3 <;> assumption), (by intros; rw [up3_at, if_neg (by first | (simp; done) | omega)]; apply h12_4 <;> assumption), (by intros; rw [up3_at, if_neg (by first | (simp; done) | omega)]; apply h12_5 <;> assumption), (up3_s R8 12 r 0 _)⟩ ?_
  intro S9 L9 R9 ⟨F, h12_2, h12_3, h12_4, h12_5, h12_0⟩
  exact ret 41 _ _ _ _ dX6_init_41 (⟨F, mlf_12 h12_2 h12_3 h12_4 h12_5, h12_0⟩)
