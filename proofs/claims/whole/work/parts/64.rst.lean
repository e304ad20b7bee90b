/-! the reference's status, the next token read -/
def rSt (S : mS) (L : mL) (un : Nat → Nat) (len : Nat) (q : mQ) : Prop := S 40 0 14 = nI q.1 ∧ q.1 ≤ 5 ∧ S 40 0 15 = q.2.1 ∧ (q.1 = 0 → rLd S L un len q.2.2 ∧ q.2.2 ≤ len)
/-- what an error writes -/
def rFl (S : mS) (c : Int32) (p : Int32) : mS := up3 (up3 S 40 0 14 c) 40 0 15 p
/-- what reading writes: the tokens, the errors -/
def RE (S S2 : mS) : Prop := (∀ k i, k ≠ 40 → S2 k i = S k i) ∧ ∀ j, ¬ (9 ≤ j ∧ j ≤ 12) → ¬ (14 ≤ j ∧ j ≤ 16) → S2 40 0 j = S 40 0 j
theorem RE.rf (S : mS) : RE S S := ⟨fun _ _ _ => rfl, fun _ _ _ => rfl⟩
theorem RE.tr {S S2 S3 : mS} (h : RE S S2) (h2 : RE S2 S3) : RE S S3 := ⟨fun k i hk => (h2.1 k i hk).trans (h.1 k i hk), fun j hj hj2 => (h2.2 j hj hj2).trans (h.2 j hj hj2)⟩
theorem RG.re {S S2 : mS} (h : RG S S2) : RE S S2 := ⟨h.1, fun j hj _ => h.2 j hj⟩
theorem RE.up {S S2 : mS} (h : RE S S2) {j : Nat} {v : Int32} (hj : (9 ≤ j ∧ j ≤ 12) ∨ (14 ≤ j ∧ j ≤ 16)) : RE S (up3 S2 40 0 j v) := ⟨fun k i hk => by rw [up3_k _ hk]; exact h.1 k i hk, fun j' hj' hj2 => by rw [up3_j _ (by omega)]; exact h.2 j' hj' hj2⟩
theorem rU.re {S S2 : mS} {un : Nat → Nat} {len : Nat} (h : rU S un len) (hF : RE S S2) : rU S2 un len := ⟨(hF.2 8 (by omega) (by omega)).trans h.1, h.2.1, h.2.2.1, fun j hj => by rw [hF.1 45 0 (by omega)]; exact h.2.2.2 j hj⟩
theorem rFl_st {S : mS} {L : mL} {un : Nat → Nat} {len c x : Nat} {p : Int32} (hc : c ≤ 5) (hc0 : ¬ c = 0) : rSt (rFl S (nI c) p) L un len (c, p, x) := ⟨(up3_j _ (by omega)).trans (up3_s _ _ _ _ _), hc, up3_s _ _ _ _ _, fun z => absurd z hc0⟩
theorem rFl_re {S : mS} {c p : Int32} : RE S (rFl S c p) := ((RE.rf S).up (by omega)).up (by omega)
/-- accepted -/
def yA (un : Nat → Nat) (len : Nat) (q : mQ) : mQ := (0, q.2.1, tE un len q.2.2)
theorem rSt.a {S S2 : mS} {L2 : mL} {L : mL} {un : Nat → Nat} {len : Nat} {q : mQ} (h : rSt S L un len q) (h0 : q.1 = 0) (hL : rLd S2 L2 un len (tE un len q.2.2)) (hF : RG S S2) : rSt S2 L2 un len (yA un len q) := ⟨(hF.2 14 (by omega)).trans (by rw [h.1, h0]; rfl), Nat.zero_le _, (hF.2 15 (by omega)).trans h.2.2.1, fun _ => ⟨hL, tE_le (h.2.2.2 h0).2⟩⟩

def rm_X9_fails : Room := { frames := 0, cells := 0, slots := 0, locals := 0 }
set_option maxHeartbeats 4000000 in
set_option maxRecDepth 100000 in
theorem c_X9_fails {l : Launch} {G : mG} {ad : mA} {S : mS} {L : mL} {R : mR} {c : Int32} (hR : mlk R) (h0 : S 40 0 14 = nI 0) : Ki l yX9_fails cX9_fails 2 .boolean rm_X9_fails G ad mdm [.ref (ad 40 0), .int c] S L R (fun r_ S2 L2 R2 => r_ = nI 0 ∧ rFl S c (S 40 0 9) = S2 ∧ L = L2 ∧ R = R2) := by
  refine Ki.of RX9 (by decide) rfl (Nat.le_of_ble_eq_true rfl) ?_
  intro X hXl hXG C ret
  subst hXl; subst hXG
  change Z X 2 ad mdm S L R 0 0 0 [(0, _), (1, _)] []
  refine z_aload_n C 0 0 0 dX9_fails_0 rfl rfl ?_
  refine z_getiv C 1 dX9_fails_1 gf_X9_114 rfl (by first | assumption | exact Nat.zero_lt_one | exact (show (15 : Nat) < 16 by decide) | exact Nat.lt_succ_of_lt (by assumption) | omega) h0 ?_
  first | with_reducible refine z_if_neB C 4 20 dX9_fails_4 (by decide) (fun h4 => absurd h4 (by first | decide | omega)) (fun h4 => ?_) | with_reducible refine z_if_neN C 4 20 dX9_fails_4 (by decide) (by omega) (fun h4 => absurd h4 (by first | decide | omega)) (fun h4 => ?_) | refine z_if_ne C 4 20 dX9_fails_4 (by decide) (fun h4 => absurd h4 (by first | decide | omega)) (fun h4 => ?_)
  · refine z_aload_n C 7 0 0 dX9_fails_7 rfl rfl ?_
    refine z_iload_n C 8 1 1 dX9_fails_8 rfl rfl ?_
    refine z_puti C 9 dX9_fails_9 gf_X9_114 ⟨rfl, rfl⟩ rfl (by first | assumption | exact Nat.zero_lt_one | exact (show (15 : Nat) < 16 by decide) | exact Nat.lt_succ_of_lt (by assumption) | omega) ?_
    refine z_aload_n C 12 0 0 dX9_fails_12 rfl rfl ?_
    refine z_aload_n C 13 0 0 dX9_fails_13 rfl rfl ?_
    refine z_getiv C 14 dX9_fails_14 gf_X9_93 rfl (by first | assumption | exact Nat.zero_lt_one | exact (show (15 : Nat) < 16 by decide) | exact Nat.lt_succ_of_lt (by assumption) | omega) (up3_j _ (by omega)) ?_
    refine z_puti C 17 dX9_fails_17 gf_X9_27 ⟨rfl, rfl⟩ rfl (by first | assumption | exact Nat.zero_lt_one | exact (show (15 : Nat) < 16 by decide) | exact Nat.lt_succ_of_lt (by assumption) | omega) ?_
    refine z_iconst (v := nI 0) C 20 dX9_fails_20 (by decide) ?_
    exact ret 21 _ _ _ _ _ dX9_fails_21 (by first | rfl | exact bI_n | decide) (⟨rfl, rfl, rfl, rfl⟩)
def rm_X9_starts : Room := { frames := 3, cells := 0, slots := 0, locals := 63 }
set_option maxHeartbeats 4000000 in
set_option maxRecDepth 100000 in
theorem c_X9_starts {l : Launch} {G : mG} {ad : mA} {S : mS} {L : mL} {R : mR} {un : Nat → Nat} {len c : Nat} {q : mQ} {x : Int32} {P : Prop} (hR : mlk R) (hU : rU S un len) (hq : rSt S L un len q) (h0 : q.1 = 0) (hx : x = bI P) (hc : c ≤ 5) (hc0 : ¬ c = 0) : Ki l yX9_starts cX9_starts 3 .boolean rm_X9_starts G ad mdm [.ref (ad 40 0), .int (nI c), .int x] S L R (fun r_ S2 L2 R2 => r_ = bI P ∧ (P → rSt S2 L2 un len (yA un len q)) ∧ (¬ P → rSt S2 L2 un len (c, nI (tS un len q.2.2), q.2.2)) ∧ RE S S2 ∧ LG L L2 ∧ R = R2) := by
  refine Ki.of RX9 (by decide) rfl (Nat.le_of_ble_eq_true rfl) ?_
  intro X hXl hXG C ret
  subst hXl; subst hXG
  change Z X 3 ad mdm S L R 0 0 0 [(0, _), (1, _), (2, _)] []
  subst hx
  have e14 : S 40 0 14 = nI 0 := by rw [hq.1, h0]
  have hld := (hq.2.2.2 h0).1
  have hql := (hq.2.2.2 h0).2
  refine z_iload_n C 0 2 2 dX9_starts_0 rfl rfl ?_
  first | with_reducible refine z_if_neB C 1 10 dX9_starts_1 (by decide) (fun h1 => ?_) (fun h1 => ?_) | with_reducible refine z_if_neN C 1 10 dX9_starts_1 (by decide) (by omega) (fun h1 => ?_) (fun h1 => ?_) | refine z_if_ne C 1 10 dX9_starts_1 (by decide) (fun h1 => ?_) (fun h1 => ?_)
  · refine z_aload_n C 10 0 0 dX9_starts_10 rfl rfl ?_
    refine z_cVv0 C 11 dX9_starts_11 cv_X9_121 (c_X9_advance (un := un) (len := len) (p := tE un len q.2.2) hR hU hld.2.1 (tE_le hql)) rfl ⟨by decide, rfl⟩ (by first | assumption | exact Nat.zero_lt_one | exact (show (15 : Nat) < 16 by decide) | exact Nat.lt_succ_of_lt (by assumption) | omega) rfl rfl (Nat.le_of_ble_eq_true rfl) ⟨by decide, by decide⟩ ⟨rfl, rfl⟩ ⟨by decide, by decide⟩ ?_
    intro S11 L11 R11 p11
    obtain ⟨t11, F11, G11, rfl⟩ := p11
    refine z_iconst (v := nI 1) C 14 dX9_starts_14 (by decide) ?_
    exact ret 15 _ _ _ _ _ dX9_starts_15 (by first | rfl | exact bI_n | decide) (⟨bI_1 h1, fun _ => hq.a h0 t11 F11, fun z => absurd h1 z, F11.re, G11, rfl⟩)
  · refine z_aload_n C 4 0 0 dX9_starts_4 rfl rfl ?_
    refine z_iload_n C 5 1 1 dX9_starts_5 rfl rfl ?_
    refine z_cVi0 C 6 dX9_starts_6 cv_X9_117 (c_X9_fails hR e14) rfl ⟨by decide, rfl⟩ (by first | assumption | exact Nat.zero_lt_one | exact (show (15 : Nat) < 16 by decide) | exact Nat.lt_succ_of_lt (by assumption) | omega) rfl rfl (Nat.le_of_ble_eq_true rfl) ⟨by decide, by decide⟩ ⟨rfl, rfl⟩ ⟨by decide, by decide⟩ ?_
    intro r6 S6 L6 R6 p6
    obtain ⟨rfl, rfl, rfl, rfl⟩ := p6
    exact ret 9 _ _ _ _ _ dX9_starts_9 (by first | rfl | exact bI_n | decide) (⟨bI_0 h1, fun z => absurd z h1, fun _ => (by rw [hld.1]; exact rFl_st hc hc0), rFl_re, LG.rf _, rfl⟩)
def rm_X9_closes : Room := { frames := 4, cells := 0, slots := 0, locals := 85 }
set_option maxHeartbeats 4000000 in
set_option maxRecDepth 100000 in
theorem c_X9_closes {l : Launch} {G : mG} {ad : mA} {S : mS} {L : mL} {R : mR} {un : Nat → Nat} {len : Nat} {q : mQ} (hR : mlk R) (hU : rU S un len) (hq : rSt S L un len q) (h0 : q.1 = 0) : Ki l yX9_closes cX9_closes 1 .boolean rm_X9_closes G ad mdm [.ref (ad 40 0)] S L R (fun r_ S2 L2 R2 => r_ = bI ((yT un len q 3).1 = 0) ∧ rSt S2 L2 un len (yT un len q 3) ∧ RE S S2 ∧ LG L L2 ∧ R = R2) := by
  refine Ki.of RX9 (by decide) rfl (Nat.le_of_ble_eq_true rfl) ?_
  intro X hXl hXG C ret
  subst hXl; subst hXG
  change Z X 1 ad mdm S L R 0 0 0 [(0, _)] []
  have hld := (hq.2.2.2 h0).1
  have hk4 := tK_le (un := un) (len := len) (p := q.2.2)
  refine z_aload_n C 0 0 0 dX9_closes_0 rfl rfl ?_
  refine z_iconst (v := nI 1) C 1 dX9_closes_1 (by decide) ?_
  refine z_aload_n C 2 0 0 dX9_closes_2 rfl rfl ?_
  refine z_getiv C 3 dX9_closes_3 gf_X9_99 rfl (by first | assumption | exact Nat.zero_lt_one | exact (show (15 : Nat) < 16 by decide) | exact Nat.lt_succ_of_lt (by assumption) | omega) hld.2.2.1 ?_
  refine z_iconst (v := nI 3) C 6 dX9_closes_6 (by decide) ?_
  first | with_reducible refine z_icmp_neN C 7 14 dX9_closes_7 (by decide) (by omega) (by omega) (fun h7 => ?_) (fun h7 => ?_) | refine z_icmp_ne C 7 14 dX9_closes_7 (by decide) (fun h7 => ?_) (fun h7 => ?_)
  · refine z_iconst (v := nI 0) C 14 dX9_closes_14 (by decide) ?_
    refine z_cVi0 C 15 dX9_closes_15 cv_X9_131 (c_X9_starts (un := un) (len := len) (c := 1) (q := q) (P := (yT un len q 3).1 = 0) hR hU hq h0 (by first | exact bI_1 (by rw [yT_k h0 (by omega)]) | exact bI_0 (by rw [yT_e h0 (by omega)]; exact fun z => nomatch z)) (by decide) (by decide)) rfl ⟨by decide, rfl⟩ (by first | assumption | exact Nat.zero_lt_one | exact (show (15 : Nat) < 16 by decide) | exact Nat.lt_succ_of_lt (by assumption) | omega) rfl rfl (Nat.le_of_ble_eq_true rfl) ⟨by decide, by decide⟩ ⟨rfl, rfl⟩ ⟨by decide, by decide⟩ ?_
    intro r15 S15 L15 R15 p15
    obtain ⟨rfl, q1, q2, q3, q4, rfl⟩ := p15
    exact ret 18 _ _ _ _ _ dX9_closes_18 (by first | rfl | exact bI_n | decide) ((by by_cases z : (yT un len q 3).1 = 0; exact ⟨rfl, (by rw [(yT_ok z).2.2]; exact q1 z), q3, q4, rfl⟩; exact ⟨rfl, (by rw [yT_e h0 (fun y => z (by rw [yT_k h0 y]))]; exact q2 z), q3, q4, rfl⟩))
  · refine z_iconst (v := nI 1) C 10 dX9_closes_10 (by decide) ?_
    refine z_goto C 11 15 dX9_closes_11 (by decide) ?_
    refine z_cVi0 C 15 dX9_closes_15 cv_X9_131 (c_X9_starts (un := un) (len := len) (c := 1) (q := q) (P := (yT un len q 3).1 = 0) hR hU hq h0 (by first | exact bI_1 (by rw [yT_k h0 (by omega)]) | exact bI_0 (by rw [yT_e h0 (by omega)]; exact fun z => nomatch z)) (by decide) (by decide)) rfl ⟨by decide, rfl⟩ (by first | assumption | exact Nat.zero_lt_one | exact (show (15 : Nat) < 16 by decide) | exact Nat.lt_succ_of_lt (by assumption) | omega) rfl rfl (Nat.le_of_ble_eq_true rfl) ⟨by decide, by decide⟩ ⟨rfl, rfl⟩ ⟨by decide, by decide⟩ ?_
    intro r15 S15 L15 R15 p15
    obtain ⟨rfl, q1, q2, q3, q4, rfl⟩ := p15
    exact ret 18 _ _ _ _ _ dX9_closes_18 (by first | rfl | exact bI_n | decide) ((by by_cases z : (yT un len q 3).1 = 0; exact ⟨rfl, (by rw [(yT_ok z).2.2]; exact q1 z), q3, q4, rfl⟩; exact ⟨rfl, (by rw [yT_e h0 (fun y => z (by rw [yT_k h0 y]))]; exact q2 z), q3, q4, rfl⟩))
def rm_X9_takes : Room := { frames := 3, cells := 0, slots := 0, locals := 63 }
set_option maxHeartbeats 4000000 in
set_option maxRecDepth 100000 in
theorem c_X9_takes {l : Launch} {G : mG} {ad : mA} {S : mS} {L : mL} {R : mR} {un : Nat → Nat} {len a b : Nat} {q : mQ} (hR : mlk R) (hU : rU S un len) (hq : rSt S L un len q) (h0 : q.1 = 0) (ha : a < 2 ^ 31) (hb : b < 2 ^ 31) : Ki l yX9_takes cX9_takes 3 .boolean rm_X9_takes G ad mdm [.ref (ad 40 0), .int (nI a), .int (nI b)] S L R (fun r_ S2 L2 R2 => r_ = bI ((yN un len q a b).1 = 0) ∧ rSt S2 L2 un len (yN un len q a b) ∧ ((yN un len q a b).1 = 0 → S2 40 0 16 = nI (tV un len q.2.2)) ∧ RE S S2 ∧ LG L L2 ∧ R = R2) := by
  refine Ki.of RX9 (by decide) rfl (Nat.le_of_ble_eq_true rfl) ?_
  intro X hXl hXG C ret
  subst hXl; subst hXG
  change Z X 3 ad mdm S L R 0 0 0 [(0, _), (1, _), (2, _)] []
  have hld := (hq.2.2.2 h0).1
  have hql := (hq.2.2.2 h0).2
  have hk4 := tK_le (un := un) (len := len) (p := q.2.2)
  have e14 : S 40 0 14 = nI 0 := by rw [hq.1, h0]
  refine z_aload_n C 0 0 0 dX9_takes_0 rfl rfl ?_
  refine z_getiv C 1 dX9_takes_1 gf_X9_99 rfl (by first | assumption | exact Nat.zero_lt_one | exact (show (15 : Nat) < 16 by decide) | exact Nat.lt_succ_of_lt (by assumption) | omega) hld.2.2.1 ?_
  refine z_iconst (v := nI 2) C 4 dX9_takes_4 (by decide) ?_
  first | with_reducible refine z_icmp_eqN C 5 14 dX9_takes_5 (by decide) (by omega) (by omega) (fun h5 => ?_) (fun h5 => ?_) | refine z_icmp_eq C 5 14 dX9_takes_5 (by decide) (fun h5 => ?_) (fun h5 => ?_)
  · have hk2 : tK un len q.2.2 = 2 := by omega
    have hv := (tV_2 hk2).1
    have hR2 : (nI a ≤ nI (tV un len q.2.2) ∧ nI (tV un len q.2.2) ≤ nI b) ↔ (a ≤ tV un len q.2.2 ∧ tV un len q.2.2 ≤ b) := by
      rw [← Int32.not_lt, ← Int32.not_lt, nI_ltI (by omega) ha, nI_ltI hb (by omega)]
      omega
    refine z_aload_n C 14 0 0 dX9_takes_14 rfl rfl ?_
    refine z_getiv C 15 dX9_takes_15 gf_X9_96 rfl (by first | assumption | exact Nat.zero_lt_one | exact (show (15 : Nat) < 16 by decide) | exact Nat.lt_succ_of_lt (by assumption) | omega) (hld.2.2.2.1 hk2) ?_
    refine z_iload_n C 18 1 1 dX9_takes_18 rfl rfl ?_
    refine z_iload_n C 19 2 2 dX9_takes_19 rfl rfl ?_
    refine z_cSi0 C 20 dX9_takes_20 cs_X9_89 (c_X9_within ) rfl rfl (Nat.le_of_ble_eq_true rfl) ⟨by decide, by decide⟩ ⟨rfl, rfl⟩ ⟨by decide, by decide⟩ ?_
    intro r20 S20 L20 R20 p20
    obtain ⟨rfl, rfl, rfl, rfl⟩ := p20
    first | with_reducible refine z_if_neB C 23 32 dX9_takes_23 (by decide) (fun h23 => ?_) (fun h23 => ?_) | with_reducible refine z_if_neN C 23 32 dX9_takes_23 (by decide) (by omega) (fun h23 => ?_) (fun h23 => ?_) | refine z_if_ne C 23 32 dX9_takes_23 (by decide) (fun h23 => ?_) (fun h23 => ?_)
    · refine z_aload_n C 32 0 0 dX9_takes_32 rfl rfl ?_
      refine z_aload_n C 33 0 0 dX9_takes_33 rfl rfl ?_
      refine z_getiv C 34 dX9_takes_34 gf_X9_96 rfl (by first | assumption | exact Nat.zero_lt_one | exact (show (15 : Nat) < 16 by decide) | exact Nat.lt_succ_of_lt (by assumption) | omega) (hld.2.2.2.1 hk2) ?_
      refine z_puti C 37 dX9_takes_37 gf_X9_124 ⟨rfl, rfl⟩ rfl (by first | assumption | exact Nat.zero_lt_one | exact (show (15 : Nat) < 16 by decide) | exact Nat.lt_succ_of_lt (by assumption) | omega) ?_
      refine z_aload_n C 40 0 0 dX9_takes_40 rfl rfl ?_
      refine z_cVv0 C 41 dX9_takes_41 cv_X9_121 (c_X9_advance (un := un) (len := len) (p := tE un len q.2.2) hR (hU.re ((RE.rf S).up (by omega))) ((up3_j _ (by omega)).trans hld.2.1) (tE_le hql)) rfl ⟨by decide, rfl⟩ (by first | assumption | exact Nat.zero_lt_one | exact (show (15 : Nat) < 16 by decide) | exact Nat.lt_succ_of_lt (by assumption) | omega) rfl rfl (Nat.le_of_ble_eq_true rfl) ⟨by decide, by decide⟩ ⟨rfl, rfl⟩ ⟨by decide, by decide⟩ ?_
      intro S41 L41 R41 p41
      obtain ⟨t41, F41, G41, rfl⟩ := p41
      refine z_iconst (v := nI 1) C 44 dX9_takes_44 (by decide) ?_
      exact ret 45 _ _ _ _ _ dX9_takes_45 (by first | rfl | exact bI_n | decide) ((by rw [yN_k h0 hk2 (hR2.mp h23)]; exact ⟨bI_1 rfl, ⟨(F41.2 14 (by omega)).trans ((up3_j _ (by omega)).trans e14), Nat.zero_le _, (F41.2 15 (by omega)).trans ((up3_j _ (by omega)).trans hq.2.2.1), fun _ => ⟨t41, tE_le hql⟩⟩, fun _ => (F41.2 16 (by omega)).trans (up3_s _ _ _ _ _), ((RE.rf S).up (by omega)).tr F41.re, G41, rfl⟩))
    · refine z_aload_n C 26 0 0 dX9_takes_26 rfl rfl ?_
      refine z_iconst (v := nI 3) C 27 dX9_takes_27 (by decide) ?_
      refine z_cVi0 C 28 dX9_takes_28 cv_X9_117 (c_X9_fails hR e14) rfl ⟨by decide, rfl⟩ (by first | assumption | exact Nat.zero_lt_one | exact (show (15 : Nat) < 16 by decide) | exact Nat.lt_succ_of_lt (by assumption) | omega) rfl rfl (Nat.le_of_ble_eq_true rfl) ⟨by decide, by decide⟩ ⟨rfl, rfl⟩ ⟨by decide, by decide⟩ ?_
      intro r28 S28 L28 R28 p28
      obtain ⟨rfl, rfl, rfl, rfl⟩ := p28
      exact ret 31 _ _ _ _ _ dX9_takes_31 (by first | rfl | exact bI_n | decide) ((by rw [yN_v h0 hk2 (fun z => h23 (hR2.mpr z)), hld.1]; exact ⟨bI_0 (fun z => nomatch z), rFl_st (by decide) (by decide), fun z => (nomatch z), rFl_re, LG.rf _, rfl⟩))
  · have hk2 : ¬ tK un len q.2.2 = 2 := by omega
    refine z_aload_n C 8 0 0 dX9_takes_8 rfl rfl ?_
    refine z_iconst (v := nI 1) C 9 dX9_takes_9 (by decide) ?_
    refine z_cVi0 C 10 dX9_takes_10 cv_X9_117 (c_X9_fails hR e14) rfl ⟨by decide, rfl⟩ (by first | assumption | exact Nat.zero_lt_one | exact (show (15 : Nat) < 16 by decide) | exact Nat.lt_succ_of_lt (by assumption) | omega) rfl rfl (Nat.le_of_ble_eq_true rfl) ⟨by decide, by decide⟩ ⟨rfl, rfl⟩ ⟨by decide, by decide⟩ ?_
    intro r10 S10 L10 R10 p10
    obtain ⟨rfl, rfl, rfl, rfl⟩ := p10
    exact ret 13 _ _ _ _ _ dX9_takes_13 (by first | rfl | exact bI_n | decide) ((by rw [yN_e h0 hk2, hld.1]; exact ⟨bI_0 (fun z => nomatch z), rFl_st (by decide) (by decide), fun z => (nomatch z), rFl_re, LG.rf _, rfl⟩))
