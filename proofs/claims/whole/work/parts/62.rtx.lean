/-! THE REFERENCE'S TEXT -/
section
variable {X : mX} {own : String} {cc : ByteArray} {nL : Nat} {rm : Room} {ad : mA} {dm : mD} {S : mS} {L : mL} {R : mR} {ce sl : Nat} {lv : List (Nat × Value)} {rest st : List Value}
theorem z_ishl (C : mK X own cc nL rm) (pc : Nat) (d : decode cc pc = .ok (.ishl, 1)) {a b : Int32} (k : Z X nL ad dm S L R ce sl (pc + 1) lv (.int (a <<< (b &&& 31)) :: rest)) : Z X nL ad dm S L R ce sl pc lv (.int b :: .int a :: rest) := by
  obtain ⟨p, l, e, Rm, s, m, args, below, meth, c, Q, G, A⟩ := X
  intro H locs ls h1 h2 h3
  exact lv_ishl C.1 C.2.1 d  (k H locs ls h1 h2 h3)
end
theorem z_meL {X : mX} {nL : Nat} {ad : mA} {dm : mD} {S : mS} {L : mL} {R : mR} {ce sl pc : Nat} {lv : List (Nat × Value)} {st : List Value} (L' : mL) (h : L = L') (k : Z X nL ad dm S L' R ce sl pc lv st) : Z X nL ad dm S L R ce sl pc lv st := h ▸ k
/-- the text under reading: len bytes -/
def rU (S : mS) (un : Nat → Nat) (len : Nat) : Prop := S 40 0 8 = nI len ∧ len ≤ 700 ∧ (∀ j, un j < 256) ∧ ∀ j, j < len → S 45 0 j = sb (un j)
noncomputable def bAt (un : Nat → Nat) (len q : Nat) : Int32 := if q < len then nI (un q) else -1
theorem bAt_y {un : Nat → Nat} {len q : Nat} (h : q < len) : bAt un len q = nI (un q) := if_pos h
theorem bAt_n {un : Nat → Nat} {len q : Nat} (h : ¬ q < len) : bAt un len q = -1 := if_neg h
theorem bAt_c {un : Nat → Nat} {len q c : Nat} (hu : ∀ j, un j < 256) (hc : c < 256) : bAt un len q = nI c ↔ (q < len ∧ un q = c) := by
  by_cases h : q < len
  · rw [bAt_y h, nI_eq (by have := hu q; omega) (by omega)]
    exact ⟨fun z => ⟨h, z⟩, fun z => z.2⟩
  · rw [bAt_n h]
    exact ⟨fun z => absurd z.symm (nI_m1 (by omega)), fun z => absurd z.1 h⟩
theorem bAt_m {un : Nat → Nat} {len q : Nat} (hu : ∀ j, un j < 256) : bAt un len q = -1 ↔ ¬ q < len := by
  by_cases h : q < len
  · rw [bAt_y h]
    exact ⟨fun z => absurd z (nI_m1 (by have := hu q; omega)), fun z => absurd h z⟩
  · rw [bAt_n h]
    exact ⟨fun _ => h, fun _ => rfl⟩
theorem bAt_r {un : Nat → Nat} {len q a b : Nat} (hu : ∀ j, un j < 256) (ha : a < 256) (hb : b < 256) : (nI a ≤ bAt un len q ∧ bAt un len q ≤ nI b) ↔ (q < len ∧ a ≤ un q ∧ un q ≤ b) := by
  by_cases h : q < len
  · have h1 := hu q
    rw [bAt_y h]
    have e1 : nI a ≤ nI (un q) ↔ a ≤ un q := by
      rw [← Int32.not_lt, nI_ltI (by omega) (by omega)]
      omega
    have e2 : nI (un q) ≤ nI b ↔ un q ≤ b := by
      rw [← Int32.not_lt, nI_ltI (by omega) (by omega)]
      omega
    rw [e1, e2]
    exact ⟨fun z => ⟨h, z⟩, fun z => z.2⟩
  · rw [bAt_n h]
    exact ⟨fun z => absurd (Int32.le_trans (nI_pos' (show a < 2 ^ 31 by omega)) z.1) (by decide), fun z => absurd z.1 h⟩
theorem bAt_lt {un : Nat → Nat} {len q : Nat} (hu : ∀ j, un j < 256) : (nI 97 ≤ bAt un len q ∧ bAt un len q ≤ nI 122) ↔ (q < len ∧ isLt (un q) = true) := by
  rw [bAt_r hu (by omega) (by omega), isLt_i]
theorem bAt_dg {un : Nat → Nat} {len q : Nat} (hu : ∀ j, un j < 256) : (nI 48 ≤ bAt un len q ∧ bAt un len q ≤ nI 57) ↔ (q < len ∧ isDg (un q) = true) := by
  rw [bAt_r hu (by omega) (by omega), isDg_i]
theorem bAt_ws {un : Nat → Nat} {len q : Nat} (hu : ∀ j, un j < 256) (h : bAt un len q = nI 32 ∨ bAt un len q = nI 10) : q < len ∧ isWs (un q) = true := by
  rcases h with h | h
  · have := (bAt_c hu (by omega)).mp h
    exact ⟨this.1, isWs_i.mpr (Or.inl this.2)⟩
  · have := (bAt_c hu (by omega)).mp h
    exact ⟨this.1, isWs_i.mpr (Or.inr this.2)⟩
theorem bAt_wn {un : Nat → Nat} {len q : Nat} (hu : ∀ j, un j < 256) (h : ¬ bAt un len q = nI 32) (h2 : ¬ bAt un len q = nI 10) : ¬ (q < len ∧ isWs (un q) = true) := fun z =>
  (isWs_i.mp z.2).elim (fun y => h ((bAt_c hu (by omega)).mpr ⟨z.1, y⟩)) (fun y => h2 ((bAt_c hu (by omega)).mpr ⟨z.1, y⟩))
theorem or_8 {a c : Nat} (hc : c < 256) : a * 2 ^ 8 ||| c = 256 * a + c := by
  have h := Nat.shiftLeft_add_eq_or_of_lt (i := 8) (show c < 2 ^ 8 by omega) a
  rw [Nat.shiftLeft_eq] at h
  rw [← h]
  omega
theorem lt_step {a c : Nat} (ha : a < 2 ^ 55) (hc : c < 256) : lN a <<< ((nI 8).toInt64 &&& 63) ||| (nI c).toInt64 = lN (256 * a + c) := by
  rw [wb_shl _ (by omega), nI_l (by omega), wb_or (by omega) (by omega), or_8 hc]
/-- letters, the first eight -/
def wl8 (un : Nat → Nat) (p q : Nat) : List Nat := wl un p (if q - p < 8 then q - p else 8)
theorem wl8_s {un : Nat → Nat} {p q : Nat} (h : q - p < 8) (hp : p ≤ q) : wl8 un p (q + 1) = un q :: wl8 un p q := by
  unfold wl8
  rw [if_pos h]
  rw [show (if q + 1 - p < 8 then q + 1 - p else 8) = (q - p) + 1 by split <;> omega, wl, show p + (q - p) = q by omega]
theorem wl8_e {un : Nat → Nat} {p q : Nat} (h : ¬ q - p < 8) (hp : p ≤ q) : wl8 un p (q + 1) = wl8 un p q := by
  unfold wl8
  rw [if_neg h, if_neg (by omega)]
theorem wl8_lt {un : Nat → Nat} {p q : Nat} (h : q - p < 8) (hl : ∀ j, p ≤ j → j < q → isLt (un j) = true) (hp : p ≤ q) : e256 (wl8 un p q) < 2 ^ 55 := by
  unfold wl8
  rw [if_pos h]
  have h1 := e256_lt (wl_ok (m := q - p) (fun j a b => hl j a (by omega)))
  rw [wl_len] at h1
  have h2 : 256 ^ (q - p) ≤ 256 ^ 7 := Nat.pow_le_pow_right (by omega) (by omega)
  have h3 : (256 : Nat) ^ 7 = 2 * 2 ^ 55 := by decide
  omega
/-- digits, the first four -/
def vD4 (un : Nat → Nat) (p q : Nat) : Nat := vD un p (if q - p < 4 then q - p else 4)
theorem vD4_s {un : Nat → Nat} {p q : Nat} (h : q - p < 4) (hp : p ≤ q) : vD4 un p (q + 1) = 10 * vD4 un p q + (un q - 48) := by
  unfold vD4
  rw [if_pos h]
  rw [show (if q + 1 - p < 4 then q + 1 - p else 4) = (q - p) + 1 by split <;> omega, vD, show p + (q - p) = q by omega]
theorem vD4_e {un : Nat → Nat} {p q : Nat} (h : ¬ q - p < 4) (hp : p ≤ q) : vD4 un p (q + 1) = vD4 un p q := by
  unfold vD4
  rw [if_neg h, if_neg (by omega)]
theorem m4012 (S : mS) (a b c d : Int32) : up3 (up3 (up3 (up3 S 40 0 12 a) 40 0 10 b) 40 0 12 c) 40 0 10 d = up3 (up3 S 40 0 12 c) 40 0 10 d := by
  funext k i j
  simp only [up3]
  by_cases h3 : k = 40 ∧ i = 0 ∧ j = 10
  · rw [if_pos h3, if_pos h3]
  · rw [if_neg h3, if_neg h3, if_neg h3]
    by_cases h7 : k = 40 ∧ i = 0 ∧ j = 12
    · rw [if_pos h7, if_pos h7]
    · rw [if_neg h7, if_neg h7, if_neg h7]

def rm_X9_byteAt : Room := { frames := 0, cells := 0, slots := 0, locals := 0 }
set_option maxHeartbeats 4000000 in
set_option maxRecDepth 100000 in
theorem c_X9_byteAt {l : Launch} {G : mG} {ad : mA} {S : mS} {L : mL} {R : mR} {un : Nat → Nat} {len q : Nat} (hR : mlk R) (hB : rU S un len) (hq : q < 2 ^ 31) : Ki l yX9_byteAt cX9_byteAt 2 .int rm_X9_byteAt G ad mdm [.ref (ad 40 0), .int (nI q)] S L R (fun r_ S2 L2 R2 => r_ = bAt un len q ∧ S = S2 ∧ L = L2 ∧ R = R2) := by
  refine Ki.of RX9 (by decide) rfl (Nat.le_of_ble_eq_true rfl) ?_
  intro X hXl hXG C ret
  subst hXl; subst hXG
  change Z X 2 ad mdm S L R 0 0 0 [(0, _), (1, _)] []
  have hl7 := hB.2.1
  refine z_iload_n C 0 1 1 dX9_byteAt_0 rfl rfl ?_
  refine z_aload_n C 1 0 0 dX9_byteAt_1 rfl rfl ?_
  refine z_getiv C 2 dX9_byteAt_2 gf_X9_75 rfl (by first | assumption | exact Nat.zero_lt_one | exact (show (15 : Nat) < 16 by decide) | exact Nat.lt_succ_of_lt (by assumption) | omega) hB.1 ?_
  first | with_reducible refine z_icmp_geN C 5 21 dX9_byteAt_5 (by decide) (by omega) (by omega) (fun h5 => ?_) (fun h5 => ?_) | refine z_icmp_ge C 5 21 dX9_byteAt_5 (by decide) (fun h5 => ?_) (fun h5 => ?_)
  · refine z_iconst (v := (-1)) C 21 dX9_byteAt_21 (by decide) ?_
    exact ret 22 _ _ _ _ _ dX9_byteAt_22 (by first | rfl | exact bI_n | decide) (⟨(by first | exact (bAt_y (by omega)).symm | exact (bAt_n (by omega)).symm), rfl, rfl, rfl⟩)
  · refine z_aload_n C 8 0 0 dX9_byteAt_8 rfl rfl ?_
    refine z_getr C 9 dX9_byteAt_9 gf_X9_23 rfl (by first | assumption | exact Nat.zero_lt_one | exact (show (15 : Nat) < 16 by decide) | exact Nat.lt_succ_of_lt (by assumption) | omega) (by first | exact hR _ _ _ _ rfl | exact hR2 _ _ _ _ rfl | assumption) ?_
    refine z_iload_n C 12 1 1 dX9_byteAt_12 rfl rfl ?_
    refine z_bald C 13 dX9_byteAt_13 rfl (by first | assumption | exact Nat.zero_lt_one | exact (show (15 : Nat) < 16 by decide) | exact Nat.lt_succ_of_lt (by assumption) | omega) (by first | rfl | assumption) (by first | decide | omega) (by first | assumption | omega) ?_
    rw [hB.2.2.2 q (by omega)]
    refine z_sipush (v := nI 255) C 14 dX9_byteAt_14 (by decide +kernel) ?_
    refine z_iand C 17 dX9_byteAt_17 ?_
    rw [show sb (un q) &&& nI 255 = nI (un q) from tb_u _ (hB.2.2.1 q)]
    refine z_goto C 18 22 dX9_byteAt_18 (by decide) ?_
    exact ret 22 _ _ _ _ _ dX9_byteAt_22 (by first | rfl | exact bI_n | decide) (⟨(by first | exact (bAt_y (by omega)).symm | exact (bAt_n (by omega)).symm), rfl, rfl, rfl⟩)
def rm_X9_takesLetters : Room := { frames := 1, cells := 0, slots := 0, locals := 22 }
set_option maxHeartbeats 4000000 in
set_option maxRecDepth 100000 in
theorem c_X9_takesLetters {l : Launch} {G : mG} {ad : mA} {S : mS} {L : mL} {R : mR} {un : Nat → Nat} {len s : Nat} (hR : mlk R) (hB : rU S un len) (hs : S 40 0 9 = nI s) (hn : S 40 0 10 = nI s) (hsl : s ≤ len) : Kv l yX9_takesLetters cX9_takesLetters 1 rm_X9_takesLetters G ad mdm [.ref (ad 40 0)] S L R (fun S2 L2 R2 => up3 S 40 0 10 (nI (sk isLt un len s)) = S2 ∧ up3 L 40 0 13 (lN (e256 (wl8 un s (sk isLt un len s)))) = L2 ∧ R = R2) := by
  refine Kv.of RX9 (by decide) rfl (Nat.le_of_ble_eq_true rfl) ?_
  intro X hXl hXG C ret
  subst hXl; subst hXG
  change Z X 1 ad mdm S L R 0 0 0 [(0, _)] []
  have hl7 := hB.2.1
  have hu := hB.2.2.1
  have hBq : ∀ q, rU (up3 S 40 0 10 (nI q)) un len := fun q => ⟨(up3_j _ (by omega)).trans hB.1, hB.2.1, hB.2.2.1, fun j hj => by rw [up3_k _ (by omega)]; exact hB.2.2.2 j hj⟩
  refine z_aload_n C 0 0 0 dX9_takesLetters_0 rfl rfl ?_
  refine z_lconst (v := 0) C 1 dX9_takesLetters_1 (by decide) ?_
  refine z_putl C 2 dX9_takesLetters_2 gf_X9_78 ⟨rfl, rfl⟩ rfl (by first | assumption | exact Nat.zero_lt_one | exact (show (15 : Nat) < 16 by decide) | exact Nat.lt_succ_of_lt (by assumption) | omega) ?_
  have loop_5 : ∀ (n_5 : Nat) (q : Nat), s ≤ q → q ≤ len → (∀ j, s ≤ j → j < q → isLt (un j) = true) → sk isLt un len s = sk isLt un len q → len - q < n_5 → Z X 1 ad mdm (up3 S 40 0 10 (nI q)) (up3 L 40 0 13 (lN (e256 (wl8 un s q)))) R 0 0 5 [(0, .ref (ad 40 0))] [] := by
    intro n_5
    induction n_5 with
    | zero => intro q hq1 hq hl he hm5; exact absurd hm5 (Nat.not_lt_zero _)
    | succ n_5 ih5 =>
      intro q hq1 hq hl he hm5
      refine z_aload_n C 5 0 0 dX9_takesLetters_5 rfl rfl ?_
      refine z_aload_n C 6 0 0 dX9_takesLetters_6 rfl rfl ?_
      refine z_getiv C 7 dX9_takesLetters_7 gf_X9_82 rfl (by first | assumption | exact Nat.zero_lt_one | exact (show (15 : Nat) < 16 by decide) | exact Nat.lt_succ_of_lt (by assumption) | omega) (up3_s _ _ _ _ _) ?_
      refine z_cVi0 C 10 dX9_takesLetters_10 cv_X9_85 (c_X9_byteAt (un := un) (len := len) (q := q) hR (hBq q) (by omega)) rfl ⟨by decide, rfl⟩ (by first | assumption | exact Nat.zero_lt_one | exact (show (15 : Nat) < 16 by decide) | exact Nat.lt_succ_of_lt (by assumption) | omega) rfl rfl (Nat.le_of_ble_eq_true rfl) ⟨by decide, by decide⟩ ⟨rfl, rfl⟩ ⟨by decide, by decide⟩ ?_
      intro r10 S10 L10 R10 p10
      obtain ⟨rfl, rfl, rfl, rfl⟩ := p10
      refine z_bipush (v := nI 97) C 13 dX9_takesLetters_13 (by decide +kernel) ?_
      refine z_bipush (v := nI 122) C 15 dX9_takesLetters_15 (by decide +kernel) ?_
      refine z_cSi0 C 17 dX9_takesLetters_17 cs_X9_89 (c_X9_within ) rfl rfl (Nat.le_of_ble_eq_true rfl) ⟨by decide, by decide⟩ ⟨rfl, rfl⟩ ⟨by decide, by decide⟩ ?_
      intro r17 S17 L17 R17 p17
      obtain ⟨rfl, rfl, rfl, rfl⟩ := p17
      first | with_reducible refine z_if_eqB C 20 78 dX9_takesLetters_20 (by decide) (fun h20 => ?_) (fun h20 => ?_) | with_reducible refine z_if_eqN C 20 78 dX9_takesLetters_20 (by decide) (by omega) (fun h20 => ?_) (fun h20 => ?_) | refine z_if_eq C 20 78 dX9_takesLetters_20 (by decide) (fun h20 => ?_) (fun h20 => ?_)
      · exact ret 78 _ _ _ _ dX9_takesLetters_78 ((by have e : sk isLt un len s = q := he.trans (sk_f (fun z => h20 ((bAt_lt hu).mpr z))); rw [e]; exact ⟨rfl, rfl, rfl⟩))
      · have hq2 := (bAt_lt hu).mp h20
        refine z_aload_n C 23 0 0 dX9_takesLetters_23 rfl rfl ?_
        refine z_aload_n C 24 0 0 dX9_takesLetters_24 rfl rfl ?_
        refine z_getiv C 25 dX9_takesLetters_25 gf_X9_82 rfl (by first | assumption | exact Nat.zero_lt_one | exact (show (15 : Nat) < 16 by decide) | exact Nat.lt_succ_of_lt (by assumption) | omega) (up3_s _ _ _ _ _) ?_
        refine z_aload_n C 28 0 0 dX9_takesLetters_28 rfl rfl ?_
        refine z_getiv C 29 dX9_takesLetters_29 gf_X9_93 rfl (by first | assumption | exact Nat.zero_lt_one | exact (show (15 : Nat) < 16 by decide) | exact Nat.lt_succ_of_lt (by assumption) | omega) ((up3_j S (by omega)).trans hs) ?_
        first | with_reducible refine z_isubN C 32 dX9_takesLetters_32 (by omega) ?_ | refine z_isub C 32 dX9_takesLetters_32 ?_
        refine z_bipush (v := nI 8) C 33 dX9_takesLetters_33 (by decide +kernel) ?_
        first | with_reducible refine z_icmp_geN C 35 58 dX9_takesLetters_35 (by decide) (by omega) (by omega) (fun h35 => ?_) (fun h35 => ?_) | refine z_icmp_ge C 35 58 dX9_takesLetters_35 (by decide) (fun h35 => ?_) (fun h35 => ?_)
        · refine z_aload_n C 58 0 0 dX9_takesLetters_58 rfl rfl ?_
          refine z_getl C 59 dX9_takesLetters_59 gf_X9_78 rfl (by first | assumption | exact Nat.zero_lt_one | exact (show (15 : Nat) < 16 by decide) | exact Nat.lt_succ_of_lt (by assumption) | omega) ?_
          refine z_putl C 62 dX9_takesLetters_62 gf_X9_78 ⟨rfl, rfl⟩ rfl (by first | assumption | exact Nat.zero_lt_one | exact (show (15 : Nat) < 16 by decide) | exact Nat.lt_succ_of_lt (by assumption) | omega) ?_
          refine z_aload_n C 65 0 0 dX9_takesLetters_65 rfl rfl ?_
          refine z_dup C 66 dX9_takesLetters_66 rfl ?_
          refine z_getiv C 67 dX9_takesLetters_67 gf_X9_82 rfl (by first | assumption | exact Nat.zero_lt_one | exact (show (15 : Nat) < 16 by decide) | exact Nat.lt_succ_of_lt (by assumption) | omega) (up3_s _ _ _ _ _) ?_
          refine z_iconst (v := nI 1) C 70 dX9_takesLetters_70 (by decide) ?_
          first | with_reducible refine z_iaddN C 71 dX9_takesLetters_71 ?_ | refine z_iadd C 71 dX9_takesLetters_71 ?_
          refine z_puti C 72 dX9_takesLetters_72 gf_X9_82 ⟨rfl, rfl⟩ rfl (by first | assumption | exact Nat.zero_lt_one | exact (show (15 : Nat) < 16 by decide) | exact Nat.lt_succ_of_lt (by assumption) | omega) ?_
          rw [up3_up3]
          refine z_goto C 75 5 dX9_takesLetters_75 (by decide) ?_
          refine z_sub [(0, _)] [0] rfl ?_
          first
            | (refine z_meL (up3 L 40 0 13 (lN (e256 (wl8 un s (q + 1))))) (up3_up3 _ _ _ _ _ _) ?_
               exact ih5 (q + 1) (by omega) (by omega) (fun j a b => by rcases (show j < q ∨ j = q by omega) with z | z; exact hl j a z; rw [z]; exact hq2.2) (he.trans (sk_t hq2.1 hq2.2)) (by omega))
            | (refine z_meL (up3 L 40 0 13 (lN (e256 (wl8 un s (q + 1))))) (by rw [up3_s, up3_up3, wl8_e (by omega) hq1]) ?_
               exact ih5 (q + 1) (by omega) (by omega) (fun j a b => by rcases (show j < q ∨ j = q by omega) with z | z; exact hl j a z; rw [z]; exact hq2.2) (he.trans (sk_t hq2.1 hq2.2)) (by omega))
        · refine z_aload_n C 38 0 0 dX9_takesLetters_38 rfl rfl ?_
          refine z_getl C 39 dX9_takesLetters_39 gf_X9_78 rfl (by first | assumption | exact Nat.zero_lt_one | exact (show (15 : Nat) < 16 by decide) | exact Nat.lt_succ_of_lt (by assumption) | omega) ?_
          refine z_bipush (v := nI 8) C 42 dX9_takesLetters_42 (by decide +kernel) ?_
          refine z_lshl C 44 dX9_takesLetters_44 rfl ?_
          rw [show up3 L 40 0 13 (lN (e256 (wl8 un s q))) 40 0 13 = lN (e256 (wl8 un s q)) from up3_s _ _ _ _ _]
          refine z_aload_n C 45 0 0 dX9_takesLetters_45 rfl rfl ?_
          refine z_aload_n C 46 0 0 dX9_takesLetters_46 rfl rfl ?_
          refine z_getiv C 47 dX9_takesLetters_47 gf_X9_82 rfl (by first | assumption | exact Nat.zero_lt_one | exact (show (15 : Nat) < 16 by decide) | exact Nat.lt_succ_of_lt (by assumption) | omega) (up3_s _ _ _ _ _) ?_
          refine z_cVi0 C 50 dX9_takesLetters_50 cv_X9_85 (c_X9_byteAt (un := un) (len := len) (q := q) hR (hBq q) (by omega)) rfl ⟨by decide, rfl⟩ (by first | assumption | exact Nat.zero_lt_one | exact (show (15 : Nat) < 16 by decide) | exact Nat.lt_succ_of_lt (by assumption) | omega) rfl rfl (Nat.le_of_ble_eq_true rfl) ⟨by decide, by decide⟩ ⟨rfl, rfl⟩ ⟨by decide, by decide⟩ ?_
          intro r50 S50 L50 R50 p50
          obtain ⟨rfl, rfl, rfl, rfl⟩ := p50
          refine z_i2l C 53 dX9_takesLetters_53 rfl ?_
          refine z_lor C 54 dX9_takesLetters_54 ?_
          rw [bAt_y hq2.1, lt_step (wl8_lt (by omega) hl hq1) (hu q), show 256 * e256 (wl8 un s q) + un q = e256 (un q :: wl8 un s q) from rfl, ← wl8_s (by omega) hq1]
          refine z_goto C 55 62 dX9_takesLetters_55 (by decide) ?_
          refine z_putl C 62 dX9_takesLetters_62 gf_X9_78 ⟨rfl, rfl⟩ rfl (by first | assumption | exact Nat.zero_lt_one | exact (show (15 : Nat) < 16 by decide) | exact Nat.lt_succ_of_lt (by assumption) | omega) ?_
          refine z_aload_n C 65 0 0 dX9_takesLetters_65 rfl rfl ?_
          refine z_dup C 66 dX9_takesLetters_66 rfl ?_
          refine z_getiv C 67 dX9_takesLetters_67 gf_X9_82 rfl (by first | assumption | exact Nat.zero_lt_one | exact (show (15 : Nat) < 16 by decide) | exact Nat.lt_succ_of_lt (by assumption) | omega) (up3_s _ _ _ _ _) ?_
          refine z_iconst (v := nI 1) C 70 dX9_takesLetters_70 (by decide) ?_
          first | with_reducible refine z_iaddN C 71 dX9_takesLetters_71 ?_ | refine z_iadd C 71 dX9_takesLetters_71 ?_
          refine z_puti C 72 dX9_takesLetters_72 gf_X9_82 ⟨rfl, rfl⟩ rfl (by first | assumption | exact Nat.zero_lt_one | exact (show (15 : Nat) < 16 by decide) | exact Nat.lt_succ_of_lt (by assumption) | omega) ?_
          rw [up3_up3]
          refine z_goto C 75 5 dX9_takesLetters_75 (by decide) ?_
          refine z_sub [(0, _)] [0] rfl ?_
          first
            | (refine z_meL (up3 L 40 0 13 (lN (e256 (wl8 un s (q + 1))))) (up3_up3 _ _ _ _ _ _) ?_
               exact ih5 (q + 1) (by omega) (by omega) (fun j a b => by rcases (show j < q ∨ j = q by omega) with z | z; exact hl j a z; rw [z]; exact hq2.2) (he.trans (sk_t hq2.1 hq2.2)) (by omega))
            | (refine z_meL (up3 L 40 0 13 (lN (e256 (wl8 un s (q + 1))))) (by rw [up3_s, up3_up3, wl8_e (by omega) hq1]) ?_
               exact ih5 (q + 1) (by omega) (by omega) (fun j a b => by rcases (show j < q ∨ j = q by omega) with z | z; exact hl j a z; rw [z]; exact hq2.2) (he.trans (sk_t hq2.1 hq2.2)) (by omega))
  refine z_sub [(0, _)] [0] rfl ?_
  refine z_mem (up3 S 40 0 10 (nI s)) (up3_idd S hn).symm ?_
  refine z_meL (up3 L 40 0 13 (lN (e256 (wl8 un s s)))) (by unfold wl8; rw [Nat.sub_self]; rfl) ?_
  exact loop_5 (len + 1) s (Nat.le_refl _) hsl (fun j a b => by omega) rfl (by omega)
