def rm_J7_fill_53178 : Room := { frames := 0, cells := 0, slots := 0, locals := 0 }
set_option maxHeartbeats 4000000 in
set_option maxRecDepth 100000 in
theorem c_J7_fill_53178 {l : Launch} {G : mG} {ad : mA} {S : mS} {L : mL} {R : mR} {dm : mD} {k i len : Nat} {x : Int32} (hd : dm k i) (hs : msh k = .inl (0, len)) (hl : len < 2 ^ 31) : Kv l yJ7_fill_53178 cJ7_fill_53178 4 rm_J7_fill_53178 G ad dm [.ref (ad k i), .int x] S L R (fun S2 L2 R2 => sFill S k i x = S2 ∧ L = L2 ∧ R = R2) := by
  refine Kv.of RJ7 (by decide) rfl (Nat.le_of_ble_eq_true rfl) ?_
  intro X hXl hXG C ret
  subst hXl; subst hXG
  change Z X 4 ad dm S L R 0 0 0 [(0, _), (1, _)] []
  refine z_iconst (v := nI 0) C 0 dJ7_fill_53178_0 (by decide) ?_
  refine z_istore_n C 1 2 [(2, _), (0, _), (1, _)] dJ7_fill_53178_1 rfl (by decide) rfl ?_
  refine z_aload_n C 2 0 1 dJ7_fill_53178_2 rfl rfl ?_
  refine z_alen C 3 dJ7_fill_53178_3 hs (by decide) hl hd ?_
  refine z_istore_n C 4 3 [(3, _), (2, _), (0, _), (1, _)] dJ7_fill_53178_4 rfl (by decide) rfl ?_
  have loop_5 : ∀ (n_5 : Nat) (q : Nat), q ≤ len → len - q < n_5 → Z X 4 ad dm (pF S k i x q) L R 0 0 5 [(0, .ref (ad k i)), (1, .int x), (2, .int (nI q)), (3, .int (nI len))] [] := by
    intro n_5
    induction n_5 with
    | zero => intro q hq hm5; exact absurd hm5 (Nat.not_lt_zero _)
    | succ n_5 ih5 =>
      intro q hq hm5
      refine z_iload_n C 5 2 2 dJ7_fill_53178_5 rfl rfl ?_
      refine z_iload_n C 6 3 3 dJ7_fill_53178_6 rfl rfl ?_
      first | with_reducible refine z_icmp_geN C 7 20 dJ7_fill_53178_7 (by decide) (by omega) (by omega) (fun h7 => ?_) (fun h7 => ?_) | refine z_icmp_ge C 7 20 dJ7_fill_53178_7 (by decide) (fun h7 => ?_) (fun h7 => ?_)
      · obtain rfl : q = len := by omega
        refine z_ext (sFill S k i x) (pF_end hs) ?_
        exact ret 20 _ _ _ _ dJ7_fill_53178_20 (⟨rfl, rfl, rfl⟩)
      · refine z_aload_n C 10 0 0 dJ7_fill_53178_10 rfl rfl ?_
        refine z_iload_n C 11 2 2 dJ7_fill_53178_11 rfl rfl ?_
        refine z_iload_n C 12 1 1 dJ7_fill_53178_12 rfl rfl ?_
        refine z_iast C 13 dJ7_fill_53178_13 (by first | rfl | assumption) (by first | assumption | exact Nat.zero_lt_one | exact (show (15 : Nat) < 16 by decide) | exact Nat.lt_succ_of_lt (by assumption) | omega)  (by first | rfl | assumption) (by first | decide | omega) (by first | assumption | omega) ?_
        rw [pF_up]
        refine z_iinc C 14 2 2 [(2, _), (0, _), (1, _), (3, _)] dJ7_fill_53178_14 rfl (by first | exact nI_1 _ | rfl) (by decide) rfl ?_
        refine z_goto C 17 5 dJ7_fill_53178_17 (by decide) ?_
        refine z_sub [(0, _), (1, _), (2, _), (3, _)] [1, 2, 0, 3] rfl ?_
        exact ih5 (q + 1) (by omega) (by omega)
  refine z_sub [(0, _), (1, _), (2, _), (3, _)] [2, 3, 1, 0] rfl ?_
  rw [← pF_0 S k i x]
  exact loop_5 (len + 1) 0 (Nat.zero_le _) (by omega)
theorem lg_cmp_0 {a b : Int64} (h : lg_cmp a b = 0) : a = b := by
  unfold lg_cmp at h
  split at h
  · exact absurd h (by decide)
  · split at h
    · assumption
    · exact absurd h (by decide)
theorem lg_cmp0 {a b : Int64} (h : a = b) : lg_cmp a b = 0 := by
  subst h
  unfold lg_cmp
  rw [if_neg (by simp), if_pos rfl]
def dBeg (S : mS) (d : Nat) : mS := up3 (up3 (up3 (up3 (up3 (up3 (up3 S 3 d 0 (nI 100)) 3 d 1 (nI 0)) 3 d 2 (nI 10)) 3 d 3 (nI 2)) 3 d 4 (nI 5)) 3 d 5 (nI 20)) 3 d 6 (nI 0)
def rBeg (S : mS) (r d : Nat) : mS := fun k i j => if 13 ≤ k ∧ k ≤ 16 ∧ i = r then nI 0 else if k = 12 ∧ i = r ∧ j = 1 then S 3 d 0 else S k i j
theorem rBeg_end (S : mS) (r d : Nat) : ∀ k i j, mrg k j → pF (sFill (sFill (sFill (up3 S 12 r 1 (S 3 d 0)) 13 r (nI 0)) 14 r (nI 0)) 15 r (nI 0)) 16 r (nI 0) 10 k i j = rBeg S r d k i j := by
  intro k i j hj
  rw [pF_end (t := 2) rfl k i j hj]
  simp only [sFill, rBeg, up3]
  by_cases h16 : k = 16 ∧ i = r
  · rw [if_pos h16, if_pos (by omega)]
  · rw [if_neg h16]
    by_cases h15 : k = 15 ∧ i = r
    · rw [if_pos h15, if_pos (by omega)]
    · rw [if_neg h15]
      by_cases h14 : k = 14 ∧ i = r
      · rw [if_pos h14, if_pos (by omega)]
      · rw [if_neg h14]
        by_cases h13 : k = 13 ∧ i = r
        · rw [if_pos h13, if_pos (by omega)]
        · rw [if_neg h13, if_neg (show ¬ (13 ≤ k ∧ k ≤ 16 ∧ i = r) by omega)]
def hBeg (S : mS) (v d : Nat) : mS := sFill (sFill (sFill (up3 (up3 S 17 v 0 (S 3 d 6)) 17 v 1 (-1)) 18 v (-1)) 19 v (nI 0)) 21 v (nI 0)
def jBeg (S : mS) (v : Nat) : mS := sFill (up3 (up3 S 22 v 0 (nI 0)) 22 v 1 (nI 0)) 24 v (nI 0)
def fBeg (lim pol : Int32) : NN := fun j => if j = 0 then lim else if j = 2 ∨ j = 3 then -1 else if j = 4 then pol else nI 0
def pBeg (S : mS) (v d : Nat) : mS := sFill (sFill (sFill (up3 (up3 (up3 (jBeg (hBeg (rBeg S v d) v d) v) 25 v 5 (nI 0)) 25 v 6 (S 3 d 1)) 25 v 7 (-1)) 26 v (nI 0)) 27 v (nI 0)) 29 v (nI 0)
theorem fBeg_fo {l p : Int32} {q w : Nat} : fo (fBeg l p) q w = nI 0 := by
  unfold fo fBeg
  rw [if_neg (by omega), if_neg (by omega), if_neg (by omega)]
theorem fBeg_hi {l p : Int32} {j : Nat} (h : j = 1 ∨ 5 ≤ j) : fBeg l p j = nI 0 := by
  unfold fBeg
  rw [if_neg (by omega), if_neg (by omega), if_neg (by omega)]
theorem AB_beg {S : mS} {v d n : Nat} (hcn : S 3 d 6 = nI n) : AB (pBeg S v d) v (fBeg (S 3 d 0) (S 3 d 1)) n ∧ FP S (pBeg S v d) v := by
  have e : ∀ k j, pBeg S v d k v j = if k = 29 ∨ k = 27 ∨ k = 26 then nI 0 else if k = 25 ∧ j = 7 then -1 else if k = 25 ∧ j = 6 then S 3 d 1 else if k = 25 ∧ j = 5 then nI 0 else if k = 24 then nI 0 else if k = 22 ∧ j = 1 then nI 0 else if k = 22 ∧ j = 0 then nI 0 else if k = 21 then nI 0 else if k = 19 then nI 0 else if k = 18 then -1 else if k = 17 ∧ j = 1 then -1 else if k = 17 ∧ j = 0 then S 3 d 6 else if 13 ≤ k ∧ k ≤ 16 then nI 0 else if k = 12 ∧ j = 1 then S 3 d 0 else S k v j := by
    intro k j
    simp only [pBeg, jBeg, hBeg, rBeg, sFill, up3, and_true, true_and]
    by_cases h29 : k = 29
    · simp [h29]
    by_cases h27 : k = 27
    · simp [h27]
    by_cases h26 : k = 26
    · simp [h26]
    by_cases h25 : k = 25
    · subst h25
      simp
    by_cases h24 : k = 24
    · simp [h24]
    by_cases h22 : k = 22
    · subst h22
      simp
    by_cases h21 : k = 21
    · simp [h21]
    by_cases h19 : k = 19
    · simp [h19]
    by_cases h18 : k = 18
    · simp [h18]
    by_cases h17 : k = 17
    · subst h17
      simp
    simp [h29, h27, h26, h25, h24, h22, h21, h19, h18, h17]
  refine ⟨⟨⟨?_, fun p hp => ?_⟩, ⟨?_, ?_, fun p hp => ?_, fun p t g hp hg ht hg4 => ?_, fun a b ha hb => ?_⟩, fun p hp => ?_, ?_, ?_⟩, fun k i hn => ?_⟩
  · rw [e]; simp [fBeg]
  · rw [e, e, e, e, fBeg_fo, fBeg_fo, fBeg_fo, fBeg_fo]
    simp
  · rw [e]; simp [hcn]
  · rw [e]; simp [fBeg]
  · rw [e, fBeg_fo]; simp
  · rw [fBeg_fo] at hg
    have := (nI_eq (by omega) (by omega)).mp hg
    omega
  · rw [e]
    unfold fFol
    rw [fBeg_hi (by omega)]
    simp
  · right
    rw [e, fBeg_fo, fBeg_fo]
    simp
  · refine ⟨0, 0, by omega, by omega, ?_, ?_, ?_, fun e' t h1 => absurd h1 (Nat.not_lt_zero _), fun w hw => ?_⟩
    · rw [e]; simp
    · rw [e]; simp
    · rw [fBeg_hi (by omega)]
    · rw [e, fBeg_hi (by omega)]; simp
  · refine ⟨?_, ?_, ?_, fun p hp => ?_⟩
    · rw [e]; simp [fBeg]
    · rw [e]; simp [fBeg]
    · rw [e]; simp [fBeg]
    · rw [fBeg_fo, fBeg_fo, fBeg_fo, e, e, e]
      refine ⟨by simp, by simp, Or.inl rfl, by rw [e, fBeg_fo]; simp, fun t w hw ht hw5 => ?_⟩
      rw [fBeg_fo] at hw
      have := (nI_eq (by omega) (by omega)).mp hw
      omega
  · funext j
    simp only [pBeg, jBeg, hBeg, rBeg, sFill, up3]
    by_cases hi : i = v
    · subst hi
      simp only [and_true, true_and]
      repeat rw [if_neg (by omega)]
    · simp [hi]

def rm_X0_begin : Room := { frames := 0, cells := 0, slots := 0, locals := 0 }
set_option maxHeartbeats 4000000 in
set_option maxRecDepth 100000 in
theorem c_X0_begin {l : Launch} {G : mG} {ad : mA} {S : mS} {L : mL} {R : mR} {dm : mD} {d : Nat} (hd : dm 3 d) : Kv l yX0_begin cX0_begin 1 rm_X0_begin G ad dm [.ref (ad 3 d)] S L R (fun S2 L2 R2 => dBeg S d = S2 ∧ L = L2 ∧ R = R2) := by
  refine Kv.of RX0 (by decide) rfl (Nat.le_of_ble_eq_true rfl) ?_
  intro X hXl hXG C ret
  subst hXl; subst hXG
  change Z X 1 ad dm S L R 0 0 0 [(0, _)] []
  refine z_aload_n C 0 0 0 dX0_begin_0 rfl rfl ?_
  refine z_bipush (v := nI 100) C 1 dX0_begin_1 (by decide +kernel) ?_
  refine z_puti C 3 dX0_begin_3 gf_X0_23 ⟨rfl, rfl⟩ rfl (by assumption) ?_
  refine z_aload_n C 6 0 0 dX0_begin_6 rfl rfl ?_
  refine z_iconst (v := nI 0) C 7 dX0_begin_7 (by decide) ?_
  refine z_puti C 8 dX0_begin_8 gf_X0_27 ⟨rfl, rfl⟩ rfl (by assumption) ?_
  refine z_aload_n C 11 0 0 dX0_begin_11 rfl rfl ?_
  refine z_bipush (v := nI 10) C 12 dX0_begin_12 (by decide +kernel) ?_
  refine z_puti C 14 dX0_begin_14 gf_X0_30 ⟨rfl, rfl⟩ rfl (by assumption) ?_
  refine z_aload_n C 17 0 0 dX0_begin_17 rfl rfl ?_
  refine z_iconst (v := nI 2) C 18 dX0_begin_18 (by decide) ?_
  refine z_puti C 19 dX0_begin_19 gf_X0_33 ⟨rfl, rfl⟩ rfl (by assumption) ?_
  refine z_aload_n C 22 0 0 dX0_begin_22 rfl rfl ?_
  refine z_iconst (v := nI 5) C 23 dX0_begin_23 (by decide) ?_
  refine z_puti C 24 dX0_begin_24 gf_X0_36 ⟨rfl, rfl⟩ rfl (by assumption) ?_
  refine z_aload_n C 27 0 0 dX0_begin_27 rfl rfl ?_
  refine z_bipush (v := nI 20) C 28 dX0_begin_28 (by decide +kernel) ?_
  refine z_puti C 30 dX0_begin_30 gf_X0_39 ⟨rfl, rfl⟩ rfl (by assumption) ?_
  refine z_aload_n C 33 0 0 dX0_begin_33 rfl rfl ?_
  refine z_iconst (v := nI 0) C 34 dX0_begin_34 (by decide) ?_
  refine z_puti C 35 dX0_begin_35 gf_X0_42 ⟨rfl, rfl⟩ rfl (by assumption) ?_
  exact ret 38 _ _ _ _ dX0_begin_38 (⟨rfl, rfl, rfl⟩)
def rm_X0_withName : Room := { frames := 0, cells := 0, slots := 0, locals := 0 }
set_option maxHeartbeats 4000000 in
set_option maxRecDepth 100000 in
theorem c_X0_withName {l : Launch} {G : mG} {ad : mA} {S : mS} {L : mL} {R : mR} {d n : Nat} {x : Int64} (hR : mlk R) (hd : d < 3) (hcn : S 3 d 6 = nI n) (hn10 : n ≤ 10) : Ki l yX0_withName cX0_withName 4 .int rm_X0_withName G ad mdm [.ref (ad 3 d), .long x] S L R (fun r_ S2 L2 R2 => r_ = oI (nmU (L 4 d) x n 0) ∧ S = S2 ∧ L = L2 ∧ R = R2) := by
  refine Ki.of RX0 (by decide) rfl (Nat.le_of_ble_eq_true rfl) ?_
  intro X hXl hXG C ret
  subst hXl; subst hXG
  change Z X 4 ad mdm S L R 0 0 0 [(0, _), (1, _)] []
  refine z_iconst (v := nI 0) C 0 dX0_withName_0 (by decide) ?_
  refine z_istore_n C 1 3 [(3, _), (0, _), (1, _)] dX0_withName_1 rfl (by decide) rfl ?_
  have loop_2 : ∀ (n_2 : Nat) (i : Nat), i ≤ n → nmU (L 4 d) x n 0 = nmU (L 4 d) x (n - i) i → n - i < n_2 → Z X 4 ad mdm S L R 0 0 2 [(0, .ref (ad 3 d)), (1, .long x), (3, .int (nI i))] [] := by
    intro n_2
    induction n_2 with
    | zero => intro i hi hx hm2; exact absurd hm2 (Nat.not_lt_zero _)
    | succ n_2 ih2 =>
      intro i hi hx hm2
      refine z_iload_n C 2 3 2 dX0_withName_2 rfl rfl ?_
      refine z_aload_n C 3 0 0 dX0_withName_3 rfl rfl ?_
      refine z_getiv C 4 dX0_withName_4 gf_X0_42 rfl (by first | assumption | exact Nat.zero_lt_one | exact (show (15 : Nat) < 16 by decide) | exact Nat.lt_succ_of_lt (by assumption) | omega) hcn ?_
      first | with_reducible refine z_icmp_geN C 7 29 dX0_withName_7 (by decide) (by omega) (by omega) (fun h7 => ?_) (fun h7 => ?_) | refine z_icmp_ge C 7 29 dX0_withName_7 (by decide) (fun h7 => ?_) (fun h7 => ?_)
      · refine z_iconst (v := (-1)) C 29 dX0_withName_29 (by decide) ?_
        exact ret 30 _ _ _ _ _ dX0_withName_30 (by first | rfl | exact bI_n | decide) (⟨(by rw [hx, show n - i = 0 by omega]; rfl), rfl, rfl, rfl⟩)
      · refine z_aload_n C 10 0 0 dX0_withName_10 rfl rfl ?_
        refine z_getr C 11 dX0_withName_11 gf_X0_9 rfl (by first | assumption | exact Nat.zero_lt_one | exact (show (15 : Nat) < 16 by decide) | exact Nat.lt_succ_of_lt (by assumption) | omega) (by first | exact hR _ _ _ _ rfl | exact hR2 _ _ _ _ rfl | assumption) ?_
        refine z_iload_n C 14 3 2 dX0_withName_14 rfl rfl ?_
        refine z_lald C 15 dX0_withName_15 rfl (by first | assumption | exact Nat.zero_lt_one | exact (show (15 : Nat) < 16 by decide) | exact Nat.lt_succ_of_lt (by assumption) | omega) (by first | rfl | assumption) (by first | decide | omega) (by first | assumption | omega) ?_
        refine z_lload_n C 16 1 1 dX0_withName_16 rfl rfl ?_
        refine z_lcmp C 17 dX0_withName_17 ?_
        first | with_reducible refine z_if_neB C 18 23 dX0_withName_18 (by decide) (fun h18 => ?_) (fun h18 => ?_) | with_reducible refine z_if_neN C 18 23 dX0_withName_18 (by decide) (by omega) (fun h18 => ?_) (fun h18 => ?_) | refine z_if_ne C 18 23 dX0_withName_18 (by decide) (fun h18 => ?_) (fun h18 => ?_)
        · refine z_iinc C 23 3 2 [(3, _), (0, _), (1, _)] dX0_withName_23 rfl (by first | exact nI_1 _ | rfl) (by decide) rfl ?_
          refine z_goto C 26 2 dX0_withName_26 (by decide) ?_
          refine z_sub [(0, _), (1, _), (3, _)] [1, 2, 0] rfl ?_
          exact ih2 (i + 1) (by omega) (by rw [hx, show n - i = (n - (i + 1)) + 1 by omega, nmU_f (fun z => h18 (lg_cmp0 z))]) (by omega)
        · refine z_iload_n C 21 3 2 dX0_withName_21 rfl rfl ?_
          exact ret 22 _ _ _ _ _ dX0_withName_22 (by first | rfl | exact bI_n | decide) (⟨(by rw [hx, show n - i = (n - (i + 1)) + 1 by omega, nmU_t (lg_cmp_0 h18)]; rfl), rfl, rfl, rfl⟩)
  refine z_sub [(0, _), (1, _), (3, _)] [1, 2, 0] rfl ?_
  exact loop_2 (n + 1) 0 (Nat.zero_le _) rfl (by omega)
def rm_X6_begin : Room := { frames := 1, cells := 0, slots := 0, locals := 23 }
set_option maxHeartbeats 4000000 in
set_option maxRecDepth 100000 in
theorem c_X6_begin {l : Launch} {G : mG} {ad : mA} {S : mS} {L : mL} {R : mR} {dm : mD} {r d : Nat} (hdm : ∀ k, 12 ≤ k → k ≤ 16 → dm k r) (hd3 : dm 3 d) (hV : ∀ k j q, 12 ≤ k → k ≤ 16 → mlf k r j = some q → R k r j = some q) : Kv l yX6_begin cX6_begin 3 rm_X6_begin G ad dm [.ref (ad 12 r), .ref (ad 3 d)] S L R (fun S2 L2 R2 => rBeg S r d = S2 ∧ L = L2 ∧ up3 R 12 r 0 (some (3, d)) = R2) := by
  refine Kv.of RX6 (by decide) rfl (Nat.le_of_ble_eq_true rfl) ?_
  intro X hXl hXG C ret
  subst hXl; subst hXG
  change Z X 3 ad dm S L R 0 0 0 [(0, _), (1, _)] []
  refine z_aload_n C 0 0 0 dX6_begin_0 rfl rfl ?_
  refine z_aload_n C 1 1 1 dX6_begin_1 rfl rfl ?_
  refine z_putr C 2 dX6_begin_2 gf_X6_29 ⟨rfl, fun _ => ⟨rfl, rfl⟩⟩ rfl (by first | assumption | exact hdm _ (by decide) (by decide) | omega) ?_
  have hV2 : ∀ k j q, 12 ≤ k → k ≤ 16 → mlf k r j = some q → (up3 R 12 r 0 (some (3, d))) k r j = some q := fun k j q h1 h2 h => by
    by_cases e : k = 12 ∧ j = 0
    · obtain ⟨rfl, rfl⟩ := e
      cases h
    · show (if _ then _ else _) = _
      rw [if_neg (fun z => e ⟨z.1, z.2.2⟩)]
      exact hV k j q h1 h2 h
  refine z_aload_n C 5 0 0 dX6_begin_5 rfl rfl ?_
  refine z_aload_n C 6 1 1 dX6_begin_6 rfl rfl ?_
  refine z_geti C 7 dX6_begin_7 gf_X6_33 rfl (by first | assumption | exact hdm _ (by decide) (by decide) | omega) ?_
  refine z_puti C 10 dX6_begin_10 gf_X6_39 ⟨rfl, rfl⟩ rfl (by first | assumption | exact hdm _ (by decide) (by decide) | omega) ?_
  refine z_aload_n C 13 0 0 dX6_begin_13 rfl rfl ?_
  refine z_getr C 14 dX6_begin_14 gf_X6_9 rfl (by first | assumption | exact hdm _ (by decide) (by decide) | omega) (by first | exact hV2 _ _ _ (by decide) (by decide) rfl | exact hV _ _ _ (by decide) (by decide) rfl) ?_
  refine z_iconst (v := nI 0) C 17 dX6_begin_17 (by decide) ?_
  refine z_cJv0 C 18 dX6_begin_18 cf_X6_40 (c_J7_fill_53178 (by first | assumption | exact hdm _ (by decide) (by decide) | omega) rfl (by decide)) rfl rfl (Nat.le_of_ble_eq_true rfl) ⟨by decide, by decide⟩ ⟨rfl, rfl⟩ ⟨by decide, by decide⟩ ?_
  intro S18 L18 R18 p18
  obtain ⟨rfl, rfl, rfl⟩ := p18
  refine z_aload_n C 21 0 0 dX6_begin_21 rfl rfl ?_
  refine z_getr C 22 dX6_begin_22 gf_X6_15 rfl (by first | assumption | exact hdm _ (by decide) (by decide) | omega) (by first | exact hV2 _ _ _ (by decide) (by decide) rfl | exact hV _ _ _ (by decide) (by decide) rfl) ?_
  refine z_iconst (v := nI 0) C 25 dX6_begin_25 (by decide) ?_
  refine z_cJv0 C 26 dX6_begin_26 cf_X6_40 (c_J7_fill_53178 (by first | assumption | exact hdm _ (by decide) (by decide) | omega) rfl (by decide)) rfl rfl (Nat.le_of_ble_eq_true rfl) ⟨by decide, by decide⟩ ⟨rfl, rfl⟩ ⟨by decide, by decide⟩ ?_
  intro S26 L26 R26 p26
  obtain ⟨rfl, rfl, rfl⟩ := p26
  refine z_aload_n C 29 0 0 dX6_begin_29 rfl rfl ?_
  refine z_getr C 30 dX6_begin_30 gf_X6_18 rfl (by first | assumption | exact hdm _ (by decide) (by decide) | omega) (by first | exact hV2 _ _ _ (by decide) (by decide) rfl | exact hV _ _ _ (by decide) (by decide) rfl) ?_
  refine z_iconst (v := nI 0) C 33 dX6_begin_33 (by decide) ?_
  refine z_cJv0 C 34 dX6_begin_34 cf_X6_40 (c_J7_fill_53178 (by first | assumption | exact hdm _ (by decide) (by decide) | omega) rfl (by decide)) rfl rfl (Nat.le_of_ble_eq_true rfl) ⟨by decide, by decide⟩ ⟨rfl, rfl⟩ ⟨by decide, by decide⟩ ?_
  intro S34 L34 R34 p34
  obtain ⟨rfl, rfl, rfl⟩ := p34
  rw [← pF_0 (sFill (sFill (sFill (up3 S 12 r 1 (S 3 d 0)) 13 r (nI 0)) 14 r (nI 0)) 15 r (nI 0)) 16 r (nI 0)]
  refine z_iconst (v := nI 0) C 37 dX6_begin_37 (by decide) ?_
  refine z_istore_n C 38 2 [(2, _), (0, _), (1, _)] dX6_begin_38 rfl (by decide) rfl ?_
  have loop_39 : ∀ (n_39 : Nat) (i : Nat), i ≤ 10 → 10 - i < n_39 → Z X 3 ad dm (pF (sFill (sFill (sFill (up3 S 12 r 1 (S 3 d 0)) 13 r (nI 0)) 14 r (nI 0)) 15 r (nI 0)) 16 r (nI 0) i) L (up3 R 12 r 0 (some (3, d))) 0 0 39 [(0, .ref (ad 12 r)), (1, .ref (ad 3 d)), (2, .int (nI i))] [] := by
    intro n_39
    induction n_39 with
    | zero => intro i hi hm39; exact absurd hm39 (Nat.not_lt_zero _)
    | succ n_39 ih39 =>
      intro i hi hm39
      refine z_iload_n C 39 2 2 dX6_begin_39 rfl rfl ?_
      refine z_bipush (v := nI 10) C 40 dX6_begin_40 (by decide +kernel) ?_
      first | with_reducible refine z_icmp_geN C 42 58 dX6_begin_42 (by decide) (by omega) (by omega) (fun h42 => ?_) (fun h42 => ?_) | refine z_icmp_ge C 42 58 dX6_begin_42 (by decide) (fun h42 => ?_) (fun h42 => ?_)
      · obtain rfl : i = 10 := by omega
        refine z_ext (rBeg S r d) (rBeg_end S r d) ?_
        exact ret 58 _ _ _ _ dX6_begin_58 (⟨rfl, rfl, rfl⟩)
      · refine z_aload_n C 45 0 0 dX6_begin_45 rfl rfl ?_
        refine z_getr C 46 dX6_begin_46 gf_X6_21 rfl (by first | assumption | exact hdm _ (by decide) (by decide) | omega) (by first | exact hV2 _ _ _ (by decide) (by decide) rfl | exact hV _ _ _ (by decide) (by decide) rfl) ?_
        refine z_iload_n C 49 2 2 dX6_begin_49 rfl rfl ?_
        refine z_iconst (v := nI 0) C 50 dX6_begin_50 (by decide) ?_
        refine z_zast C 51 dX6_begin_51 (by first | rfl | assumption) (by first | assumption | exact hdm _ (by decide) (by decide) | omega)  (by first | rfl | assumption) (by first | decide | omega) (by first | assumption | omega) (by first | exact bI_01 | exact Or.inl rfl | exact Or.inr rfl | assumption) ?_
        rw [pF_up]
        refine z_iinc C 52 2 2 [(2, _), (0, _), (1, _)] dX6_begin_52 rfl (by first | exact nI_1 _ | rfl) (by decide) rfl ?_
        refine z_goto C 55 39 dX6_begin_55 (by decide) ?_
        refine z_sub [(0, _), (1, _), (2, _)] [1, 2, 0] rfl ?_
        exact ih39 (i + 1) (by omega) (by omega)
  refine z_sub [(0, _), (1, _), (2, _)] [1, 2, 0] rfl ?_
  exact loop_39 11 0 (by omega) (by omega)
def rm_X1_begin : Room := { frames := 1, cells := 0, slots := 0, locals := 23 }
set_option maxHeartbeats 4000000 in
set_option maxRecDepth 100000 in
theorem c_X1_begin {l : Launch} {G : mG} {ad : mA} {S : mS} {L : mL} {R : mR} {dm : mD} {v d : Nat} (hdm : ∀ k, 17 ≤ k → k ≤ 21 → dm k v) (hd3 : dm 3 d) (hV : ∀ k j q, 17 ≤ k → k ≤ 21 → mlf k v j = some q → R k v j = some q) : Kv l yX1_begin cX1_begin 2 rm_X1_begin G ad dm [.ref (ad 17 v), .ref (ad 3 d)] S L R (fun S2 L2 R2 => hBeg S v d = S2 ∧ L = L2 ∧ R = R2) := by
  refine Kv.of RX1 (by decide) rfl (Nat.le_of_ble_eq_true rfl) ?_
  intro X hXl hXG C ret
  subst hXl; subst hXG
  change Z X 2 ad dm S L R 0 0 0 [(0, _), (1, _)] []
  refine z_aload_n C 0 0 0 dX1_begin_0 rfl rfl ?_
  refine z_aload_n C 1 1 1 dX1_begin_1 rfl rfl ?_
  refine z_geti C 2 dX1_begin_2 gf_X1_24 rfl (by first | assumption | exact hdm _ (by decide) (by decide) | omega) ?_
  refine z_puti C 5 dX1_begin_5 gf_X1_30 ⟨rfl, rfl⟩ rfl (by first | assumption | exact hdm _ (by decide) (by decide) | omega) ?_
  refine z_aload_n C 8 0 0 dX1_begin_8 rfl rfl ?_
  refine z_iconst (v := (-1)) C 9 dX1_begin_9 (by decide) ?_
  refine z_puti C 10 dX1_begin_10 gf_X1_31 ⟨rfl, rfl⟩ rfl (by first | assumption | exact hdm _ (by decide) (by decide) | omega) ?_
  refine z_aload_n C 13 0 0 dX1_begin_13 rfl rfl ?_
  refine z_getr C 14 dX1_begin_14 gf_X1_9 rfl (by first | assumption | exact hdm _ (by decide) (by decide) | omega) (by first | exact hV _ _ _ (by decide) (by decide) rfl) ?_
  refine z_iconst (v := (-1)) C 17 dX1_begin_17 (by decide) ?_
  refine z_cJv0 C 18 dX1_begin_18 cf_X1_34 (c_J7_fill_53178 (by first | assumption | exact hdm _ (by decide) (by decide) | omega) rfl (by decide)) rfl rfl (Nat.le_of_ble_eq_true rfl) ⟨by decide, by decide⟩ ⟨rfl, rfl⟩ ⟨by decide, by decide⟩ ?_
  intro S18 L18 R18 p18
  obtain ⟨rfl, rfl, rfl⟩ := p18
  refine z_aload_n C 21 0 0 dX1_begin_21 rfl rfl ?_
  refine z_getr C 22 dX1_begin_22 gf_X1_15 rfl (by first | assumption | exact hdm _ (by decide) (by decide) | omega) (by first | exact hV _ _ _ (by decide) (by decide) rfl) ?_
  refine z_iconst (v := nI 0) C 25 dX1_begin_25 (by decide) ?_
  refine z_cJv0 C 26 dX1_begin_26 cf_X1_34 (c_J7_fill_53178 (by first | assumption | exact hdm _ (by decide) (by decide) | omega) rfl (by decide)) rfl rfl (Nat.le_of_ble_eq_true rfl) ⟨by decide, by decide⟩ ⟨rfl, rfl⟩ ⟨by decide, by decide⟩ ?_
  intro S26 L26 R26 p26
  obtain ⟨rfl, rfl, rfl⟩ := p26
  refine z_aload_n C 29 0 0 dX1_begin_29 rfl rfl ?_
  refine z_getr C 30 dX1_begin_30 gf_X1_21 rfl (by first | assumption | exact hdm _ (by decide) (by decide) | omega) (by first | exact hV _ _ _ (by decide) (by decide) rfl) ?_
  refine z_iconst (v := nI 0) C 33 dX1_begin_33 (by decide) ?_
  refine z_cJv0 C 34 dX1_begin_34 cf_X1_34 (c_J7_fill_53178 (by first | assumption | exact hdm _ (by decide) (by decide) | omega) rfl (by decide)) rfl rfl (Nat.le_of_ble_eq_true rfl) ⟨by decide, by decide⟩ ⟨rfl, rfl⟩ ⟨by decide, by decide⟩ ?_
  intro S34 L34 R34 p34
  obtain ⟨rfl, rfl, rfl⟩ := p34
  exact ret 37 _ _ _ _ dX1_begin_37 (⟨rfl, rfl, rfl⟩)
def rm_X3_begin : Room := { frames := 1, cells := 0, slots := 0, locals := 23 }
set_option maxHeartbeats 4000000 in
set_option maxRecDepth 100000 in
theorem c_X3_begin {l : Launch} {G : mG} {ad : mA} {S : mS} {L : mL} {R : mR} {dm : mD} {v : Nat} (hdm : ∀ k, 22 ≤ k → k ≤ 24 → dm k v) (hV : ∀ k j q, 22 ≤ k → k ≤ 24 → mlf k v j = some q → R k v j = some q) : Kv l yX3_begin cX3_begin 1 rm_X3_begin G ad dm [.ref (ad 22 v)] S L R (fun S2 L2 R2 => jBeg S v = S2 ∧ L = L2 ∧ R = R2) := by
  refine Kv.of RX3 (by decide) rfl (Nat.le_of_ble_eq_true rfl) ?_
  intro X hXl hXG C ret
  subst hXl; subst hXG
  change Z X 1 ad dm S L R 0 0 0 [(0, _)] []
  refine z_aload_n C 0 0 0 dX3_begin_0 rfl rfl ?_
  refine z_iconst (v := nI 0) C 1 dX3_begin_1 (by decide) ?_
  refine z_puti C 2 dX3_begin_2 gf_X3_9 ⟨rfl, rfl⟩ rfl (by first | assumption | exact hdm _ (by decide) (by decide) | omega) ?_
  refine z_aload_n C 5 0 0 dX3_begin_5 rfl rfl ?_
  refine z_iconst (v := nI 0) C 6 dX3_begin_6 (by decide) ?_
  refine z_puti C 7 dX3_begin_7 gf_X3_15 ⟨rfl, rfl⟩ rfl (by first | assumption | exact hdm _ (by decide) (by decide) | omega) ?_
  refine z_aload_n C 10 0 0 dX3_begin_10 rfl rfl ?_
  refine z_getr C 11 dX3_begin_11 gf_X3_22 rfl (by first | assumption | exact hdm _ (by decide) (by decide) | omega) (by first | exact hV _ _ _ (by decide) (by decide) rfl) ?_
  refine z_iconst (v := nI 0) C 14 dX3_begin_14 (by decide) ?_
  refine z_cJv0 C 15 dX3_begin_15 cf_X3_25 (c_J7_fill_53178 (by first | assumption | exact hdm _ (by decide) (by decide) | omega) rfl (by decide)) rfl rfl (Nat.le_of_ble_eq_true rfl) ⟨by decide, by decide⟩ ⟨rfl, rfl⟩ ⟨by decide, by decide⟩ ?_
  intro S15 L15 R15 p15
  obtain ⟨rfl, rfl, rfl⟩ := p15
  exact ret 18 _ _ _ _ dX3_begin_18 (⟨rfl, rfl, rfl⟩)
def rm_X4_begin : Room := { frames := 2, cells := 0, slots := 0, locals := 45 }
set_option maxHeartbeats 4000000 in
set_option maxRecDepth 100000 in
theorem c_X4_begin {l : Launch} {G : mG} {ad : mA} {S : mS} {L : mL} {R : mR} {dm : mD} {v d n : Nat} (hdm : ∀ k, 12 ≤ k → k ≤ 30 → dm k v) (hd3 : dm 3 d) (hV : ∀ k j q, 12 ≤ k → k ≤ 30 → mlf k v j = some q → R k v j = some q) (hcn : S 3 d 6 = nI n) : Kv l yX4_begin cX4_begin 2 rm_X4_begin G ad dm [.ref (ad 25 v), .ref (ad 3 d)] S L R (fun S2 L2 R2 => (AB S2 v (fBeg (S 3 d 0) (S 3 d 1)) n ∧ FP S S2 v) ∧ L = L2 ∧ (up3 (up3 R 25 v 1 (some (3, d))) 12 v 0 (some (3, d))) = R2) := by
  refine Kv.of RX4 (by decide) rfl (Nat.le_of_ble_eq_true rfl) ?_
  intro X hXl hXG C ret
  subst hXl; subst hXG
  change Z X 2 ad dm S L R 0 0 0 [(0, _), (1, _)] []
  refine z_aload_n C 0 0 0 dX4_begin_0 rfl rfl ?_
  refine z_aload_n C 1 1 1 dX4_begin_1 rfl rfl ?_
  refine z_putr C 2 dX4_begin_2 gf_X4_57 ⟨rfl, fun _ => ⟨rfl, rfl⟩⟩ rfl (by first | assumption | exact hdm _ (by decide) (by decide) | omega) ?_
  have hV2 : ∀ k j q, 12 ≤ k → k ≤ 30 → mlf k v j = some q → (up3 R 25 v 1 (some (3, d))) k v j = some q := fun k j q h1 h2 h => by
    by_cases e : k = 25 ∧ j = 1
    · obtain ⟨rfl, rfl⟩ := e
      cases h
    · show (if _ then _ else _) = _
      rw [if_neg (fun z => e ⟨z.1, z.2.2⟩)]
      exact hV k j q h1 h2 h
  have hV3 : ∀ k j q, 12 ≤ k → k ≤ 30 → mlf k v j = some q → (up3 (up3 R 25 v 1 (some (3, d))) 12 v 0 (some (3, d))) k v j = some q := fun k j q h1 h2 h => by
    by_cases e : k = 12 ∧ j = 0
    · obtain ⟨rfl, rfl⟩ := e
      cases h
    · show (if _ then _ else _) = _
      rw [if_neg (fun z => e ⟨z.1, z.2.2⟩)]
      exact hV2 k j q h1 h2 h
  refine z_aload_n C 5 0 0 dX4_begin_5 rfl rfl ?_
  refine z_getr C 6 dX4_begin_6 gf_X4_50 rfl (by first | assumption | exact hdm _ (by decide) (by decide) | omega) (by first | exact hV3 _ _ _ (by decide) (by decide) rfl | exact hV2 _ _ _ (by decide) (by decide) rfl | exact hV _ _ _ (by decide) (by decide) rfl) ?_
  refine z_aload_n C 9 1 1 dX4_begin_9 rfl rfl ?_
  refine z_cVv0 C 10 dX4_begin_10 cv_X4_61 (c_X6_begin (r := v) (d := d) (fun k a b => hdm k (by omega) (by omega)) hd3 (fun k j q a b => hV2 k j q (by omega) (by omega))) rfl ⟨by decide, rfl⟩ (by first | assumption | exact hdm _ (by decide) (by decide) | omega) rfl rfl (Nat.le_of_ble_eq_true rfl) ⟨by decide, by decide⟩ ⟨rfl, rfl⟩ ⟨by decide, by decide⟩ ?_
  intro S10 L10 R10 p10
  obtain ⟨rfl, rfl, rfl⟩ := p10
  refine z_aload_n C 13 0 0 dX4_begin_13 rfl rfl ?_
  refine z_getr C 14 dX4_begin_14 gf_X4_12 rfl (by first | assumption | exact hdm _ (by decide) (by decide) | omega) (by first | exact hV3 _ _ _ (by decide) (by decide) rfl | exact hV2 _ _ _ (by decide) (by decide) rfl | exact hV _ _ _ (by decide) (by decide) rfl) ?_
  refine z_aload_n C 17 1 1 dX4_begin_17 rfl rfl ?_
  refine z_cVv0 C 18 dX4_begin_18 cv_X4_62 (c_X1_begin (v := v) (d := d) (fun k a b => hdm k (by omega) (by omega)) hd3 (fun k j q a b => hV3 k j q (by omega) (by omega))) rfl ⟨by decide, rfl⟩ (by first | assumption | exact hdm _ (by decide) (by decide) | omega) rfl rfl (Nat.le_of_ble_eq_true rfl) ⟨by decide, by decide⟩ ⟨rfl, rfl⟩ ⟨by decide, by decide⟩ ?_
  intro S18 L18 R18 p18
  obtain ⟨rfl, rfl, rfl⟩ := p18
  refine z_aload_n C 21 0 0 dX4_begin_21 rfl rfl ?_
  refine z_getr C 22 dX4_begin_22 gf_X4_21 rfl (by first | assumption | exact hdm _ (by decide) (by decide) | omega) (by first | exact hV3 _ _ _ (by decide) (by decide) rfl | exact hV2 _ _ _ (by decide) (by decide) rfl | exact hV _ _ _ (by decide) (by decide) rfl) ?_
  refine z_cVv0 C 25 dX4_begin_25 cv_X4_63 (c_X3_begin (v := v) (fun k a b => hdm k (by omega) (by omega)) (fun k j q a b => hV3 k j q (by omega) (by omega))) rfl ⟨by decide, rfl⟩ (by first | assumption | exact hdm _ (by decide) (by decide) | omega) rfl rfl (Nat.le_of_ble_eq_true rfl) ⟨by decide, by decide⟩ ⟨rfl, rfl⟩ ⟨by decide, by decide⟩ ?_
  intro S25 L25 R25 p25
  obtain ⟨rfl, rfl, rfl⟩ := p25
  refine z_aload_n C 28 0 0 dX4_begin_28 rfl rfl ?_
  refine z_iconst (v := nI 0) C 29 dX4_begin_29 (by decide) ?_
  refine z_puti C 30 dX4_begin_30 gf_X4_65 ⟨rfl, rfl⟩ rfl (by first | assumption | exact hdm _ (by decide) (by decide) | omega) ?_
  refine z_aload_n C 33 0 0 dX4_begin_33 rfl rfl ?_
  refine z_aload_n C 34 1 1 dX4_begin_34 rfl rfl ?_
  refine z_geti C 35 dX4_begin_35 gf_X4_69 rfl (by first | assumption | exact hdm _ (by decide) (by decide) | omega) ?_
  refine z_puti C 38 dX4_begin_38 gf_X4_74 ⟨rfl, rfl⟩ rfl (by first | assumption | exact hdm _ (by decide) (by decide) | omega) ?_
  refine z_aload_n C 41 0 0 dX4_begin_41 rfl rfl ?_
  refine z_iconst (v := (-1)) C 42 dX4_begin_42 (by decide) ?_
  refine z_puti C 43 dX4_begin_43 gf_X4_75 ⟨rfl, rfl⟩ rfl (by first | assumption | exact hdm _ (by decide) (by decide) | omega) ?_
  refine z_aload_n C 46 0 0 dX4_begin_46 rfl rfl ?_
  refine z_getr C 47 dX4_begin_47 gf_X4_25 rfl (by first | assumption | exact hdm _ (by decide) (by decide) | omega) (by first | exact hV3 _ _ _ (by decide) (by decide) rfl | exact hV2 _ _ _ (by decide) (by decide) rfl | exact hV _ _ _ (by decide) (by decide) rfl) ?_
  refine z_iconst (v := nI 0) C 50 dX4_begin_50 (by decide) ?_
  refine z_cJv0 C 51 dX4_begin_51 cf_X4_78 (c_J7_fill_53178 (by first | assumption | exact hdm _ (by decide) (by decide) | omega) rfl (by decide)) rfl rfl (Nat.le_of_ble_eq_true rfl) ⟨by decide, by decide⟩ ⟨rfl, rfl⟩ ⟨by decide, by decide⟩ ?_
  intro S51 L51 R51 p51
  obtain ⟨rfl, rfl, rfl⟩ := p51
  refine z_aload_n C 54 0 0 dX4_begin_54 rfl rfl ?_
  refine z_getr C 55 dX4_begin_55 gf_X4_29 rfl (by first | assumption | exact hdm _ (by decide) (by decide) | omega) (by first | exact hV3 _ _ _ (by decide) (by decide) rfl | exact hV2 _ _ _ (by decide) (by decide) rfl | exact hV _ _ _ (by decide) (by decide) rfl) ?_
  refine z_iconst (v := nI 0) C 58 dX4_begin_58 (by decide) ?_
  refine z_cJv0 C 59 dX4_begin_59 cf_X4_78 (c_J7_fill_53178 (by first | assumption | exact hdm _ (by decide) (by decide) | omega) rfl (by decide)) rfl rfl (Nat.le_of_ble_eq_true rfl) ⟨by decide, by decide⟩ ⟨rfl, rfl⟩ ⟨by decide, by decide⟩ ?_
  intro S59 L59 R59 p59
  obtain ⟨rfl, rfl, rfl⟩ := p59
  refine z_aload_n C 62 0 0 dX4_begin_62 rfl rfl ?_
  refine z_getr C 63 dX4_begin_63 gf_X4_35 rfl (by first | assumption | exact hdm _ (by decide) (by decide) | omega) (by first | exact hV3 _ _ _ (by decide) (by decide) rfl | exact hV2 _ _ _ (by decide) (by decide) rfl | exact hV _ _ _ (by decide) (by decide) rfl) ?_
  refine z_iconst (v := nI 0) C 66 dX4_begin_66 (by decide) ?_
  refine z_cJv0 C 67 dX4_begin_67 cf_X4_78 (c_J7_fill_53178 (by first | assumption | exact hdm _ (by decide) (by decide) | omega) rfl (by decide)) rfl rfl (Nat.le_of_ble_eq_true rfl) ⟨by decide, by decide⟩ ⟨rfl, rfl⟩ ⟨by decide, by decide⟩ ?_
  intro S67 L67 R67 p67
  obtain ⟨rfl, rfl, rfl⟩ := p67
  exact ret 70 _ _ _ _ dX4_begin_70 (⟨AB_beg hcn, rfl, rfl⟩)
