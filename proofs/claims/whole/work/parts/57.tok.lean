/-! what the reader has come to: a code (0: no error), the error's place, the next place -/
abbrev mQ : Type := Nat × Int32 × Nat
def yT (un : Nat → Nat) (len : Nat) (q : mQ) (w : Nat) : mQ := if ¬ q.1 = 0 then q else if tK un len q.2.2 = w then (0, q.2.1, tE un len q.2.2) else (1, nI (tS un len q.2.2), q.2.2)
def yN (un : Nat → Nat) (len : Nat) (q : mQ) (a b : Nat) : mQ := if ¬ q.1 = 0 then q else if tK un len q.2.2 = 2 then (if a ≤ tV un len q.2.2 ∧ tV un len q.2.2 ≤ b then (0, q.2.1, tE un len q.2.2) else (3, nI (tS un len q.2.2), q.2.2)) else (1, nI (tS un len q.2.2), q.2.2)
def cSt (S : mS) (len : Nat) (q : mQ) : Prop := S 1 0 8 = nI q.1 ∧ q.1 ≤ 5 ∧ S 1 0 9 = q.2.1 ∧ q.2.2 ≤ len ∧ (q.1 = 0 → S 1 0 3 = nI q.2.2)
def cSu (S : mS) (L : mL) (un : Nat → Nat) (len : Nat) (q : mQ) : Prop := S 1 0 8 = nI q.1 ∧ q.1 ≤ 5 ∧ S 1 0 9 = q.2.1 ∧ q.2.2 ≤ len ∧ (q.1 = 0 → cLd S L un len q.2.2)
def kF (S : mS) (c : Int32) : mS := if S 1 0 8 = 0 then up3 (up3 S 1 0 8 c) 1 0 9 (S 1 0 5) else S
theorem nI_00 {n : Nat} (h : n < 2 ^ 31) : nI n = 0 ↔ n = 0 := (nI_eq h (by decide))
theorem yT_f {un : Nat → Nat} {len : Nat} {q : mQ} {w : Nat} (h : ¬ q.1 = 0) : yT un len q w = q := if_pos h
theorem yN_f {un : Nat → Nat} {len : Nat} {q : mQ} {a b : Nat} (h : ¬ q.1 = 0) : yN un len q a b = q := if_pos h
theorem yT_k {un : Nat → Nat} {len : Nat} {q : mQ} {w : Nat} (h : q.1 = 0) (hk : tK un len q.2.2 = w) : yT un len q w = (0, q.2.1, tE un len q.2.2) := by
  unfold yT
  rw [if_neg (fun z => z h), if_pos hk]
theorem yT_e {un : Nat → Nat} {len : Nat} {q : mQ} {w : Nat} (h : q.1 = 0) (hk : ¬ tK un len q.2.2 = w) : yT un len q w = (1, nI (tS un len q.2.2), q.2.2) := by
  unfold yT
  rw [if_neg (fun z => z h), if_neg hk]
theorem yN_k {un : Nat → Nat} {len : Nat} {q : mQ} {a b : Nat} (h : q.1 = 0) (hk : tK un len q.2.2 = 2) (hv : a ≤ tV un len q.2.2 ∧ tV un len q.2.2 ≤ b) : yN un len q a b = (0, q.2.1, tE un len q.2.2) := by
  unfold yN
  rw [if_neg (fun z => z h), if_pos hk, if_pos hv]
theorem yN_v {un : Nat → Nat} {len : Nat} {q : mQ} {a b : Nat} (h : q.1 = 0) (hk : tK un len q.2.2 = 2) (hv : ¬ (a ≤ tV un len q.2.2 ∧ tV un len q.2.2 ≤ b)) : yN un len q a b = (3, nI (tS un len q.2.2), q.2.2) := by
  unfold yN
  rw [if_neg (fun z => z h), if_pos hk, if_neg hv]
theorem yN_e {un : Nat → Nat} {len : Nat} {q : mQ} {a b : Nat} (h : q.1 = 0) (hk : ¬ tK un len q.2.2 = 2) : yN un len q a b = (1, nI (tS un len q.2.2), q.2.2) := by
  unfold yN
  rw [if_neg (fun z => z h), if_neg hk]
/-- no error behind it: no error before it, and the token was right -/
theorem yT_ok {un : Nat → Nat} {len : Nat} {q : mQ} {w : Nat} (h : (yT un len q w).1 = 0) : q.1 = 0 ∧ tK un len q.2.2 = w ∧ yT un len q w = (0, q.2.1, tE un len q.2.2) := by
  by_cases h1 : q.1 = 0
  · by_cases h2 : tK un len q.2.2 = w
    · exact ⟨h1, h2, yT_k h1 h2⟩
    · rw [yT_e h1 h2] at h
      exact nomatch h
  · rw [yT_f h1] at h
    exact absurd h h1
theorem yN_ok {un : Nat → Nat} {len : Nat} {q : mQ} {a b : Nat} (h : (yN un len q a b).1 = 0) : q.1 = 0 ∧ tK un len q.2.2 = 2 ∧ (a ≤ tV un len q.2.2 ∧ tV un len q.2.2 ≤ b) ∧ yN un len q a b = (0, q.2.1, tE un len q.2.2) := by
  by_cases h1 : q.1 = 0
  · by_cases h2 : tK un len q.2.2 = 2
    · by_cases h3 : a ≤ tV un len q.2.2 ∧ tV un len q.2.2 ≤ b
      · exact ⟨h1, h2, h3, yN_k h1 h2 h3⟩
      · rw [yN_v h1 h2 h3] at h
        exact nomatch h
    · rw [yN_e h1 h2] at h
      exact nomatch h
  · rw [yN_f h1] at h
    exact absurd h h1
theorem cSu.st {S : mS} {L : mL} {un : Nat → Nat} {len : Nat} {q : mQ} (h : cSu S L un len q) (hq : ¬ q.1 = 0) : cSt S len q := ⟨h.1, h.2.1, h.2.2.1, h.2.2.2.1, fun z => absurd z hq⟩
theorem kF_f {S : mS} {c : Int32} (h : ¬ S 1 0 8 = 0) : kF S c = S := if_neg h
theorem kF_c {S : mS} {c : Int32} (h : S 1 0 8 = 0) : kF S c = up3 (up3 S 1 0 8 c) 1 0 9 (S 1 0 5) := if_pos h
theorem kF_r (S : mS) (c : Int32) : RFr S (kF S c) := by
  unfold kF
  split
  · exact ((RFr.rf S).up (by omega)).up (by omega)
  · exact RFr.rf S
theorem kF_7 (S : mS) (c : Int32) : kF S c 1 0 7 = S 1 0 7 := by
  unfold kF
  split
  · rw [up3_j _ (by omega), up3_j _ (by omega)]
  · rfl
/-- an error, told where the token begins -/
theorem kF_e {S : mS} {L : mL} {un : Nat → Nat} {len : Nat} {q : mQ} (h : cSu S L un len q) (h0 : q.1 = 0) {c : Nat} (hc : c ≤ 5) (hc0 : ¬ c = 0) : cSt (kF S (nI c)) len (c, nI (tS un len q.2.2), q.2.2) := by
  obtain ⟨a, _, _, b, d⟩ := h
  rw [kF_c (by rw [a, h0]; rfl)]
  exact ⟨(up3_j _ (by omega)).trans (up3_s _ _ _ _ _), hc, (up3_s _ _ _ _ _).trans (d h0).2.1, b, fun z => absurd z hc0⟩
theorem kF_n {S : mS} {L : mL} {un : Nat → Nat} {len : Nat} {q : mQ} (h : cSu S L un len q) (h0 : ¬ q.1 = 0) {c : Int32} : cSt (kF S c) len q := by
  rw [kF_f (by rw [h.1, nI_00 (by have := h.2.1; omega)]; exact h0)]
  exact h.st h0
theorem cSu_k {S : mS} {L : mL} {un : Nat → Nat} {len : Nat} {q : mQ} (h : cSu S L un len q) (h0 : q.1 = 0) : cSt S len (0, q.2.1, tE un len q.2.2) := by
  obtain ⟨a, _, e, b, d⟩ := h
  exact ⟨by rw [a, h0], Nat.zero_le _, e, tE_le b, fun _ => (d h0).1⟩
theorem yT_same {S : mS} {L : mL} {un : Nat → Nat} {len : Nat} {q : mQ} {w : Nat} (h : cSu S L un len q) (hw : w ≤ 4) (e : S 1 0 4 = nI w) : cSt S len (yT un len q w) ∧ RFr S S ∧ ((yT un len q w).1 = 0 → cLd S L un len q.2.2) := by
  refine ⟨?_, RFr.rf _, fun z => h.2.2.2.2 (yT_ok z).1⟩
  by_cases h0 : q.1 = 0
  · have hk := tK_le (un := un) (len := len) (p := q.2.2)
    rw [yT_k h0 ((nI_eq (by omega) (by omega)).mp ((h.2.2.2.2 h0).2.2.1.symm.trans e))]
    exact cSu_k h h0
  · rw [yT_f h0]
    exact h.st h0
theorem yT_diff {S : mS} {L : mL} {un : Nat → Nat} {len : Nat} {q : mQ} {w : Nat} (h : cSu S L un len q) (e : ¬ S 1 0 4 = nI w) : cSt (kF S (nI 1)) len (yT un len q w) ∧ RFr S (kF S (nI 1)) ∧ ((yT un len q w).1 = 0 → cLd (kF S (nI 1)) L un len q.2.2) := by
  by_cases h0 : q.1 = 0
  · have hk : ¬ tK un len q.2.2 = w := fun z => e ((h.2.2.2.2 h0).2.2.1.trans (by rw [z]))
    rw [yT_e h0 hk]
    exact ⟨kF_e h h0 (by decide) (by decide), kF_r _ _, fun z => nomatch z⟩
  · rw [yT_f h0]
    exact ⟨kF_n h h0, kF_r _ _, fun z => absurd z h0⟩
def yNr (S S1 : mS) (un : Nat → Nat) (len : Nat) (q : mQ) (a b : Nat) : Prop := cSt S1 len (yN un len q a b) ∧ RFr S S1 ∧ ((yN un len q a b).1 = 0 → S1 1 0 7 = nI (tV un len q.2.2))
theorem yN_1 {S : mS} {L : mL} {un : Nat → Nat} {len : Nat} {q : mQ} {a b : Nat} (h : cSu S L un len q) (e : ¬ S 1 0 4 = nI 2) : yNr S (kF S (nI 1)) un len q a b := by
  unfold yNr
  by_cases h0 : q.1 = 0
  · have hk : ¬ tK un len q.2.2 = 2 := fun z => e ((h.2.2.2.2 h0).2.2.1.trans (by rw [z]))
    rw [yN_e h0 hk]
    exact ⟨kF_e h h0 (by decide) (by decide), kF_r _ _, fun z => nomatch z⟩
  · rw [yN_f h0]
    exact ⟨kF_n h h0, kF_r _ _, fun z => absurd z h0⟩
theorem yN_num {S : mS} {L : mL} {un : Nat → Nat} {len : Nat} {q : mQ} (h : cSu S L un len q) (e : S 1 0 4 = nI 2) (h0 : q.1 = 0) : tK un len q.2.2 = 2 ∧ S 1 0 7 = nI (tV un len q.2.2) ∧ tV un len q.2.2 < 10000 := by
  have hk := tK_le (un := un) (len := len) (p := q.2.2)
  have h1 : tK un len q.2.2 = 2 := (nI_eq (by omega) (by omega)).mp ((h.2.2.2.2 h0).2.2.1.symm.trans e)
  exact ⟨h1, (h.2.2.2.2 h0).2.2.2.1 h1, (tV_2 h1).1⟩
theorem yN_3 {S : mS} {L : mL} {un : Nat → Nat} {len : Nat} {q : mQ} {a b : Nat} {lo hi : Int32} (h : cSu S L un len q) (e : S 1 0 4 = nI 2) (hl : q.1 = 0 → lo = nI a ∧ hi = nI b) (ha : a < 2 ^ 31) (hb : b < 2 ^ 31) (hv : S 1 0 7 < lo ∨ hi < S 1 0 7) : yNr S (kF S (nI 3)) un len q a b := by
  unfold yNr
  by_cases h0 : q.1 = 0
  · obtain ⟨h1, h2, h3⟩ := yN_num h e h0
    obtain ⟨rfl, rfl⟩ := hl h0
    rw [h2] at hv
    rw [yN_v h0 h1 (fun z => hv.elim (fun y => by have := (nI_ltI (by omega) ha).mp y; omega) (fun y => by have := (nI_ltI hb (by omega)).mp y; omega))]
    exact ⟨kF_e h h0 (by decide) (by decide), kF_r _ _, fun z => nomatch z⟩
  · rw [yN_f h0]
    exact ⟨kF_n h h0, kF_r _ _, fun z => absurd z h0⟩
theorem yN_y {S : mS} {L : mL} {un : Nat → Nat} {len : Nat} {q : mQ} {a b : Nat} {lo hi : Int32} (h : cSu S L un len q) (e : S 1 0 4 = nI 2) (hl : q.1 = 0 → lo = nI a ∧ hi = nI b) (ha : a < 2 ^ 31) (hb : b < 2 ^ 31) (hv : ¬ S 1 0 7 < lo) (hv2 : ¬ hi < S 1 0 7) : yNr S S un len q a b := by
  unfold yNr
  by_cases h0 : q.1 = 0
  · obtain ⟨h1, h2, h3⟩ := yN_num h e h0
    obtain ⟨rfl, rfl⟩ := hl h0
    rw [h2] at hv hv2
    rw [yN_k h0 h1 ⟨Nat.not_lt.mp fun z => hv ((nI_ltI (by omega) ha).mpr z), Nat.not_lt.mp fun z => hv2 ((nI_ltI hb (by omega)).mpr z)⟩]
    exact ⟨cSu_k h h0, RFr.rf _, fun _ => h2⟩
  · rw [yN_f h0]
    exact ⟨h.st h0, RFr.rf _, fun z => absurd z h0⟩

def rm_X5_fail : Room := { frames := 0, cells := 0, slots := 0, locals := 0 }
set_option maxHeartbeats 4000000 in
set_option maxRecDepth 100000 in
theorem c_X5_fail {l : Launch} {G : mG} {ad : mA} {S : mS} {L : mL} {R : mR} {c : Int32} (hR : mlk R) : Kv l yX5_fail cX5_fail 2 rm_X5_fail G ad mdm [.ref (ad 1 0), .int c] S L R (fun S2 L2 R2 => kF S c = S2 ∧ L = L2 ∧ R = R2) := by
  refine Kv.of RX5 (by decide) rfl (Nat.le_of_ble_eq_true rfl) ?_
  intro X hXl hXG C ret
  subst hXl; subst hXG
  change Z X 2 ad mdm S L R 0 0 0 [(0, _), (1, _)] []
  refine z_aload_n C 0 0 0 dX5_fail_0 rfl rfl ?_
  refine z_geti C 1 dX5_fail_1 gf_X5_35 rfl (by first | assumption | exact Nat.zero_lt_one | exact (show (15 : Nat) < 16 by decide) | exact Nat.lt_succ_of_lt (by assumption) | omega) ?_
  first | with_reducible refine z_if_neB C 4 20 dX5_fail_4 (by decide) (fun h4 => ?_) (fun h4 => ?_) | with_reducible refine z_if_neN C 4 20 dX5_fail_4 (by decide) (by omega) (fun h4 => ?_) (fun h4 => ?_) | refine z_if_ne C 4 20 dX5_fail_4 (by decide) (fun h4 => ?_) (fun h4 => ?_)
  · exact ret 20 _ _ _ _ dX5_fail_20 (⟨(by first | exact kF_c h4 | exact kF_f h4), rfl, rfl⟩)
  · refine z_aload_n C 7 0 0 dX5_fail_7 rfl rfl ?_
    refine z_iload_n C 8 1 1 dX5_fail_8 rfl rfl ?_
    refine z_puti C 9 dX5_fail_9 gf_X5_35 ⟨rfl, rfl⟩ rfl (by first | assumption | exact Nat.zero_lt_one | exact (show (15 : Nat) < 16 by decide) | exact Nat.lt_succ_of_lt (by assumption) | omega) ?_
    refine z_aload_n C 12 0 0 dX5_fail_12 rfl rfl ?_
    refine z_aload_n C 13 0 0 dX5_fail_13 rfl rfl ?_
    refine z_getiv C 14 dX5_fail_14 gf_X5_138 rfl (by first | assumption | exact Nat.zero_lt_one | exact (show (15 : Nat) < 16 by decide) | exact Nat.lt_succ_of_lt (by assumption) | omega) (up3_j _ (by omega)) ?_
    refine z_puti C 17 dX5_fail_17 gf_X5_38 ⟨rfl, rfl⟩ rfl (by first | assumption | exact Nat.zero_lt_one | exact (show (15 : Nat) < 16 by decide) | exact Nat.lt_succ_of_lt (by assumption) | omega) ?_
    exact ret 20 _ _ _ _ dX5_fail_20 (⟨(by first | exact kF_c h4 | exact kF_f h4), rfl, rfl⟩)

set_option maxHeartbeats 4000000 in
set_option maxRecDepth 100000 in
theorem c_X5_step_f {l : Launch} {G : mG} {ad : mA} {S : mS} {L : mL} {R : mR}  (hR : mlk R) (hc : ¬ S 1 0 8 = 0) : Kv l yX5_step cX5_step 1 rm_X5_step G ad mdm [.ref (ad 1 0)] S L R (fun S2 L2 R2 => S = S2 ∧ L = L2 ∧ R = R2) := by
  refine Kv.of RX5 (by decide) rfl (Nat.le_of_ble_eq_true rfl) ?_
  intro X hXl hXG C ret
  subst hXl; subst hXG
  change Z X 1 ad mdm S L R 0 0 0 [(0, _)] []
  refine z_aload_n C 0 0 0 dX5_step_0 rfl rfl ?_
  refine z_geti C 1 dX5_step_1 gf_X5_35 rfl (by first | assumption | exact Nat.zero_lt_one | exact (show (15 : Nat) < 16 by decide) | exact Nat.lt_succ_of_lt (by assumption) | omega) ?_
  first | with_reducible refine z_if_eqB C 4 8 dX5_step_4 (by decide) (fun h4 => absurd h4 hc) (fun h4 => ?_) | with_reducible refine z_if_eqN C 4 8 dX5_step_4 (by decide) (by omega) (fun h4 => absurd h4 hc) (fun h4 => ?_) | refine z_if_eq C 4 8 dX5_step_4 (by decide) (fun h4 => absurd h4 hc) (fun h4 => ?_)
  · exact ret 7 _ _ _ _ dX5_step_7 (⟨rfl, rfl, rfl⟩)
theorem c_X5_stepq {l : Launch} {G : mG} {ad : mA} {S : mS} {L : mL} {R : mR} {un : Nat → Nat} {len f : Nat} {q : mQ} (hR : mlk R) (hB : cB S un len f) (hq : cSt S len q) : Kv l yX5_step cX5_step 1 rm_X5_step G ad mdm [.ref (ad 1 0)] S L R (fun S2 L2 R2 => cSu S2 L2 un len q ∧ RFr S S2 ∧ LFr L L2 ∧ R = R2) := by
  obtain ⟨a, b, c, d, e⟩ := hq
  by_cases h0 : q.1 = 0
  · refine Kv.mono (c_X5_step (un := un) (len := len) (f := f) (p := q.2.2) hR hB (by rw [a, h0]) (e h0) d) (fun S2 L2 R2 p => ?_)
    obtain ⟨p1, p2, p3, p4, p5⟩ := p
    exact ⟨⟨p3.1.trans a, b, p3.2.trans c, d, fun _ => p1⟩, p2, p4, p5⟩
  · refine Kv.mono (c_X5_step_f hR (by rw [a, nI_00 (by omega)]; exact h0)) (fun S2 L2 R2 p => ?_)
    obtain ⟨rfl, rfl, rfl⟩ := p
    exact ⟨⟨a, b, c, d, fun z => absurd z h0⟩, RFr.rf _, LFr.rf _, rfl⟩

def rm_X5_take : Room := { frames := 3, cells := 0, slots := 0, locals := 65 }
set_option maxHeartbeats 4000000 in
set_option maxRecDepth 100000 in
theorem c_X5_take {l : Launch} {G : mG} {ad : mA} {S : mS} {L : mL} {R : mR} {un : Nat → Nat} {len f : Nat} {q : mQ} {w : Nat} (hR : mlk R) (hB : cB S un len f) (hq : cSt S len q) (hw : w ≤ 4) : Kv l yX5_take cX5_take 2 rm_X5_take G ad mdm [.ref (ad 1 0), .int (nI w)] S L R (fun S2 L2 R2 => cSt S2 len (yT un len q w) ∧ RFr S S2 ∧ LFr L L2 ∧ R = R2 ∧ ((yT un len q w).1 = 0 → cLd S2 L2 un len q.2.2)) := by
  refine Kv.of RX5 (by decide) rfl (Nat.le_of_ble_eq_true rfl) ?_
  intro X hXl hXG C ret
  subst hXl; subst hXG
  change Z X 2 ad mdm S L R 0 0 0 [(0, _), (1, _)] []
  refine z_aload_n C 0 0 0 dX5_take_0 rfl rfl ?_
  refine z_cVv0 C 1 dX5_take_1 cv_X5_53 (c_X5_stepq (f := f) (q := q) hR hB hq) rfl ⟨by decide, rfl⟩ (by first | assumption | exact Nat.zero_lt_one | exact (show (15 : Nat) < 16 by decide) | exact Nat.lt_succ_of_lt (by assumption) | omega) rfl rfl (Nat.le_of_ble_eq_true rfl) ⟨by decide, by decide⟩ ⟨rfl, rfl⟩ ⟨by decide, by decide⟩ ?_
  intro S1 L1 R1 p1
  obtain ⟨hu, hF, hG, rfl⟩ := p1
  refine z_aload_n C 4 0 0 dX5_take_4 rfl rfl ?_
  refine z_geti C 5 dX5_take_5 gf_X5_75 rfl (by first | assumption | exact Nat.zero_lt_one | exact (show (15 : Nat) < 16 by decide) | exact Nat.lt_succ_of_lt (by assumption) | omega) ?_
  refine z_iload_n C 8 1 1 dX5_take_8 rfl rfl ?_
  first | with_reducible refine z_icmp_eqN C 9 17 dX5_take_9 (by decide) (by omega) (by omega) (fun h9 => ?_) (fun h9 => ?_) | refine z_icmp_eq C 9 17 dX5_take_9 (by decide) (fun h9 => ?_) (fun h9 => ?_)
  · exact ret 17 _ _ _ _ dX5_take_17 ((by first | exact let t := yT_same hu hw h9; ⟨t.1, hF.tr t.2.1, hG, rfl, t.2.2⟩ | exact let t := yT_diff hu h9; ⟨t.1, hF.tr t.2.1, hG, rfl, t.2.2⟩))
  · refine z_aload_n C 12 0 0 dX5_take_12 rfl rfl ?_
    refine z_iconst (v := nI 1) C 13 dX5_take_13 (by decide) ?_
    refine z_cVv0 C 14 dX5_take_14 cv_X5_62 (c_X5_fail hR) rfl ⟨by decide, rfl⟩ (by first | assumption | exact Nat.zero_lt_one | exact (show (15 : Nat) < 16 by decide) | exact Nat.lt_succ_of_lt (by assumption) | omega) rfl rfl (Nat.le_of_ble_eq_true rfl) ⟨by decide, by decide⟩ ⟨rfl, rfl⟩ ⟨by decide, by decide⟩ ?_
    intro S14 L14 R14 p14
    obtain ⟨rfl, rfl, rfl⟩ := p14
    exact ret 17 _ _ _ _ dX5_take_17 ((by first | exact let t := yT_same hu hw h9; ⟨t.1, hF.tr t.2.1, hG, rfl, t.2.2⟩ | exact let t := yT_diff hu h9; ⟨t.1, hF.tr t.2.1, hG, rfl, t.2.2⟩))
def rm_X5_takeNumber : Room := { frames := 3, cells := 0, slots := 0, locals := 65 }
set_option maxHeartbeats 4000000 in
set_option maxRecDepth 100000 in
theorem c_X5_takeNumber {l : Launch} {G : mG} {ad : mA} {S : mS} {L : mL} {R : mR} {un : Nat → Nat} {len f : Nat} {q : mQ} {a b : Nat} {lo hi : Int32} (hR : mlk R) (hB : cB S un len f) (hq : cSt S len q) (hl : q.1 = 0 → lo = nI a ∧ hi = nI b) (ha : a < 2 ^ 31) (hb : b < 2 ^ 31) : Ki l yX5_takeNumber cX5_takeNumber 3 .int rm_X5_takeNumber G ad mdm [.ref (ad 1 0), .int lo, .int hi] S L R (fun r_ S2 L2 R2 => cSt S2 len (yN un len q a b) ∧ RFr S S2 ∧ LFr L L2 ∧ R = R2 ∧ ((yN un len q a b).1 = 0 → r_ = nI (tV un len q.2.2))) := by
  refine Ki.of RX5 (by decide) rfl (Nat.le_of_ble_eq_true rfl) ?_
  intro X hXl hXG C ret
  subst hXl; subst hXG
  change Z X 3 ad mdm S L R 0 0 0 [(0, _), (1, _), (2, _)] []
  refine z_aload_n C 0 0 0 dX5_takeNumber_0 rfl rfl ?_
  refine z_cVv0 C 1 dX5_takeNumber_1 cv_X5_53 (c_X5_stepq (f := f) (q := q) hR hB hq) rfl ⟨by decide, rfl⟩ (by first | assumption | exact Nat.zero_lt_one | exact (show (15 : Nat) < 16 by decide) | exact Nat.lt_succ_of_lt (by assumption) | omega) rfl rfl (Nat.le_of_ble_eq_true rfl) ⟨by decide, by decide⟩ ⟨rfl, rfl⟩ ⟨by decide, by decide⟩ ?_
  intro S1 L1 R1 p1
  obtain ⟨hu, hF, hG, rfl⟩ := p1
  refine z_aload_n C 4 0 0 dX5_takeNumber_4 rfl rfl ?_
  refine z_geti C 5 dX5_takeNumber_5 gf_X5_75 rfl (by first | assumption | exact Nat.zero_lt_one | exact (show (15 : Nat) < 16 by decide) | exact Nat.lt_succ_of_lt (by assumption) | omega) ?_
  refine z_iconst (v := nI 2) C 8 dX5_takeNumber_8 (by decide) ?_
  first | with_reducible refine z_icmp_eqN C 9 20 dX5_takeNumber_9 (by decide) (by omega) (by omega) (fun h9 => ?_) (fun h9 => ?_) | refine z_icmp_eq C 9 20 dX5_takeNumber_9 (by decide) (fun h9 => ?_) (fun h9 => ?_)
  · refine z_aload_n C 20 0 0 dX5_takeNumber_20 rfl rfl ?_
    refine z_geti C 21 dX5_takeNumber_21 gf_X5_141 rfl (by first | assumption | exact Nat.zero_lt_one | exact (show (15 : Nat) < 16 by decide) | exact Nat.lt_succ_of_lt (by assumption) | omega) ?_
    refine z_iload_n C 24 1 1 dX5_takeNumber_24 rfl rfl ?_
    first | with_reducible refine z_icmp_ltN C 25 36 dX5_takeNumber_25 (by decide) (by omega) (by omega) (fun h25 => ?_) (fun h25 => ?_) | refine z_icmp_lt C 25 36 dX5_takeNumber_25 (by decide) (fun h25 => ?_) (fun h25 => ?_)
    · refine z_aload_n C 36 0 0 dX5_takeNumber_36 rfl rfl ?_
      refine z_iconst (v := nI 3) C 37 dX5_takeNumber_37 (by decide) ?_
      refine z_cVv0 C 38 dX5_takeNumber_38 cv_X5_62 (c_X5_fail hR) rfl ⟨by decide, rfl⟩ (by first | assumption | exact Nat.zero_lt_one | exact (show (15 : Nat) < 16 by decide) | exact Nat.lt_succ_of_lt (by assumption) | omega) rfl rfl (Nat.le_of_ble_eq_true rfl) ⟨by decide, by decide⟩ ⟨rfl, rfl⟩ ⟨by decide, by decide⟩ ?_
      intro S38 L38 R38 p38
      obtain ⟨rfl, rfl, rfl⟩ := p38
      refine z_aload_n C 41 0 0 dX5_takeNumber_41 rfl rfl ?_
      refine z_geti C 42 dX5_takeNumber_42 gf_X5_141 rfl (by first | assumption | exact Nat.zero_lt_one | exact (show (15 : Nat) < 16 by decide) | exact Nat.lt_succ_of_lt (by assumption) | omega) ?_
      exact ret 45 _ _ _ _ _ dX5_takeNumber_45 (by first | rfl | exact bI_n | decide) ((by first | exact let t := yN_1 (a := a) (b := b) hu h9; ⟨t.1, hF.tr t.2.1, hG, rfl, t.2.2⟩ | exact let t := yN_3 hu h9 hl ha hb (Or.inl h25); ⟨t.1, hF.tr t.2.1, hG, rfl, t.2.2⟩ | exact let t := yN_3 hu h9 hl ha hb (Or.inr (Int32.not_le.mp h33)); ⟨t.1, hF.tr t.2.1, hG, rfl, t.2.2⟩ | exact let t := yN_y hu h9 hl ha hb h25 (fun z => Int32.not_le.mpr z h33); ⟨t.1, hF.tr t.2.1, hG, rfl, t.2.2⟩))
    · refine z_aload_n C 28 0 0 dX5_takeNumber_28 rfl rfl ?_
      refine z_geti C 29 dX5_takeNumber_29 gf_X5_141 rfl (by first | assumption | exact Nat.zero_lt_one | exact (show (15 : Nat) < 16 by decide) | exact Nat.lt_succ_of_lt (by assumption) | omega) ?_
      refine z_iload_n C 32 2 2 dX5_takeNumber_32 rfl rfl ?_
      first | with_reducible refine z_icmp_leN C 33 41 dX5_takeNumber_33 (by decide) (by omega) (by omega) (fun h33 => ?_) (fun h33 => ?_) | refine z_icmp_le C 33 41 dX5_takeNumber_33 (by decide) (fun h33 => ?_) (fun h33 => ?_)
      · refine z_aload_n C 41 0 0 dX5_takeNumber_41 rfl rfl ?_
        refine z_geti C 42 dX5_takeNumber_42 gf_X5_141 rfl (by first | assumption | exact Nat.zero_lt_one | exact (show (15 : Nat) < 16 by decide) | exact Nat.lt_succ_of_lt (by assumption) | omega) ?_
        exact ret 45 _ _ _ _ _ dX5_takeNumber_45 (by first | rfl | exact bI_n | decide) ((by first | exact let t := yN_1 (a := a) (b := b) hu h9; ⟨t.1, hF.tr t.2.1, hG, rfl, t.2.2⟩ | exact let t := yN_3 hu h9 hl ha hb (Or.inl h25); ⟨t.1, hF.tr t.2.1, hG, rfl, t.2.2⟩ | exact let t := yN_3 hu h9 hl ha hb (Or.inr (Int32.not_le.mp h33)); ⟨t.1, hF.tr t.2.1, hG, rfl, t.2.2⟩ | exact let t := yN_y hu h9 hl ha hb h25 (fun z => Int32.not_le.mpr z h33); ⟨t.1, hF.tr t.2.1, hG, rfl, t.2.2⟩))
      · refine z_aload_n C 36 0 0 dX5_takeNumber_36 rfl rfl ?_
        refine z_iconst (v := nI 3) C 37 dX5_takeNumber_37 (by decide) ?_
        refine z_cVv0 C 38 dX5_takeNumber_38 cv_X5_62 (c_X5_fail hR) rfl ⟨by decide, rfl⟩ (by first | assumption | exact Nat.zero_lt_one | exact (show (15 : Nat) < 16 by decide) | exact Nat.lt_succ_of_lt (by assumption) | omega) rfl rfl (Nat.le_of_ble_eq_true rfl) ⟨by decide, by decide⟩ ⟨rfl, rfl⟩ ⟨by decide, by decide⟩ ?_
        intro S38 L38 R38 p38
        obtain ⟨rfl, rfl, rfl⟩ := p38
        refine z_aload_n C 41 0 0 dX5_takeNumber_41 rfl rfl ?_
        refine z_geti C 42 dX5_takeNumber_42 gf_X5_141 rfl (by first | assumption | exact Nat.zero_lt_one | exact (show (15 : Nat) < 16 by decide) | exact Nat.lt_succ_of_lt (by assumption) | omega) ?_
        exact ret 45 _ _ _ _ _ dX5_takeNumber_45 (by first | rfl | exact bI_n | decide) ((by first | exact let t := yN_1 (a := a) (b := b) hu h9; ⟨t.1, hF.tr t.2.1, hG, rfl, t.2.2⟩ | exact let t := yN_3 hu h9 hl ha hb (Or.inl h25); ⟨t.1, hF.tr t.2.1, hG, rfl, t.2.2⟩ | exact let t := yN_3 hu h9 hl ha hb (Or.inr (Int32.not_le.mp h33)); ⟨t.1, hF.tr t.2.1, hG, rfl, t.2.2⟩ | exact let t := yN_y hu h9 hl ha hb h25 (fun z => Int32.not_le.mpr z h33); ⟨t.1, hF.tr t.2.1, hG, rfl, t.2.2⟩))
  · refine z_aload_n C 12 0 0 dX5_takeNumber_12 rfl rfl ?_
    refine z_iconst (v := nI 1) C 13 dX5_takeNumber_13 (by decide) ?_
    refine z_cVv0 C 14 dX5_takeNumber_14 cv_X5_62 (c_X5_fail hR) rfl ⟨by decide, rfl⟩ (by first | assumption | exact Nat.zero_lt_one | exact (show (15 : Nat) < 16 by decide) | exact Nat.lt_succ_of_lt (by assumption) | omega) rfl rfl (Nat.le_of_ble_eq_true rfl) ⟨by decide, by decide⟩ ⟨rfl, rfl⟩ ⟨by decide, by decide⟩ ?_
    intro S14 L14 R14 p14
    obtain ⟨rfl, rfl, rfl⟩ := p14
    refine z_goto C 17 41 dX5_takeNumber_17 (by decide) ?_
    refine z_aload_n C 41 0 0 dX5_takeNumber_41 rfl rfl ?_
    refine z_geti C 42 dX5_takeNumber_42 gf_X5_141 rfl (by first | assumption | exact Nat.zero_lt_one | exact (show (15 : Nat) < 16 by decide) | exact Nat.lt_succ_of_lt (by assumption) | omega) ?_
    exact ret 45 _ _ _ _ _ dX5_takeNumber_45 (by first | rfl | exact bI_n | decide) ((by first | exact let t := yN_1 (a := a) (b := b) hu h9; ⟨t.1, hF.tr t.2.1, hG, rfl, t.2.2⟩ | exact let t := yN_3 hu h9 hl ha hb (Or.inl h25); ⟨t.1, hF.tr t.2.1, hG, rfl, t.2.2⟩ | exact let t := yN_3 hu h9 hl ha hb (Or.inr (Int32.not_le.mp h33)); ⟨t.1, hF.tr t.2.1, hG, rfl, t.2.2⟩ | exact let t := yN_y hu h9 hl ha hb h25 (fun z => Int32.not_le.mpr z h33); ⟨t.1, hF.tr t.2.1, hG, rfl, t.2.2⟩))
/-- a keyword's first letters, the last one first -/
def kwp (i j : Nat) : List Nat := (((kwb i).take j).map (fun b => b.toNatClampNeg)).reverse
theorem kwp_s : ∀ i, i < 8 → ∀ j, j < (kwb i).length → kwp i (j + 1) = ((kwb i).getD j 0).toNatClampNeg :: kwp i j ∧ 97 ≤ ((kwb i).getD j 0).toNatClampNeg ∧ ((kwb i).getD j 0).toNatClampNeg ≤ 122 ∧ (kwb i).getD j 0 = nI ((kwb i).getD j 0).toNatClampNeg := by decide +kernel
theorem kwp_l : ∀ i, i < 8 → kwp i (kwb i).length = kwr i ∧ (kwb i).length ≤ 8 := by decide +kernel
theorem kw_32 {i : Nat} (hi : i < 8) : e32 (kwr i) < 2 ^ 40 := e32_8 (kwr_w hi) (kwr_ok i hi).2.2.1
/-- what isWord compares, of a token that has been read -/
theorem isW_i {S : mS} {L : mL} {un : Nat → Nat} {len p i : Nat} (h : cLd S L un len p) (hi : i < 8) : (S 1 0 4 = nI 1 ∧ L 1 0 6 = lN (e32 (kwr i))) ↔ isW un len p i := by
  obtain ⟨_, _, a, _, b⟩ := h
  have hk := tK_le (un := un) (len := len) (p := p)
  rw [a, b, nI_eq (by omega) (by omega)]
  constructor
  · rintro ⟨h1, h2⟩
    obtain ⟨w1, w2, w3, _⟩ := wd_1 h1
    rw [if_pos h1] at h2
    have h3 := e32_8 w1 (by omega)
    have h4 := kw_32 hi
    exact ⟨h1, e32_inj w1 (kwr_w hi) ((pk_lEQ (by omega) (by omega)).mp h2)⟩
  · rintro ⟨h1, h2⟩
    rw [if_pos h1, h2]
    exact ⟨h1, rfl⟩

def rm_X5_packed : Room := { frames := 4, cells := 0, slots := 0, locals := 140 }
set_option maxHeartbeats 4000000 in
set_option maxRecDepth 100000 in
theorem c_X5_packed {l : Launch} {G : mG} {ad : mA} {S : mS} {L : mL} {R : mR} {i : Nat} (hi : i < 8) : Kl l yX5_packed cX5_packed 4 rm_X5_packed G ad mdm [.ref (G.2 (100 + i))] S L R (fun r_ S2 L2 R2 => r_ = lN (e32 (kwr i)) ∧ S = S2 ∧ L = L2 ∧ R = R2) := by
  refine Kl.of RX5 (by decide) rfl (Nat.le_of_ble_eq_true rfl) ?_
  intro X hXl hXG C ret
  subst hXl; subst hXG
  change Z X 4 ad mdm S L R 0 0 0 [(0, _)] []
  have hwl := kwp_l i hi
  refine z_lconst (v := 0) C 0 dX5_packed_0 (by decide) ?_
  refine z_lstore_n C 1 1 [(1, _), (0, _)] dX5_packed_1 rfl (by decide) rfl ?_
  refine z_iconst (v := nI 0) C 2 dX5_packed_2 (by decide) ?_
  refine z_istore_n C 3 3 [(3, _), (1, _), (0, _)] dX5_packed_3 rfl (by decide) rfl ?_
  have loop_4 : ∀ (n_4 : Nat) (j : Nat) (a : Int64), j ≤ (kwb i).length → a = lN (e32 (kwp i j)) → (kwb i).length - j < n_4 → Z X 4 ad mdm S L R 0 0 4 [(0, .ref (X.2.2.2.2.2.2.2.2.2.2.2.1.2 (100 + i))), (1, .long a), (3, .int (nI j))] [] := by
    intro n_4
    induction n_4 with
    | zero => intro j a hj ha hm4; exact absurd hm4 (Nat.not_lt_zero _)
    | succ n_4 ih4 =>
      intro j a hj ha hm4
      refine z_iload_n C 4 3 2 dX5_packed_4 rfl rfl ?_
      refine z_aload_n C 5 0 0 dX5_packed_5 rfl rfl ?_
      refine z_sVi0 C 6 dX5_packed_6 cv_X5_163 (c_J0_length hi) rfl hi rfl rfl (Nat.le_of_ble_eq_true rfl) ⟨by decide, by decide⟩ ⟨rfl, rfl⟩ ⟨by decide, by decide⟩ ?_
      intro r6 S6 L6 R6 p6
      obtain ⟨rfl, rfl, rfl, rfl⟩ := p6
      first | with_reducible refine z_icmp_geN C 9 36 dX5_packed_9 (by decide) (by omega) (by omega) (fun h9 => ?_) (fun h9 => ?_) | refine z_icmp_ge C 9 36 dX5_packed_9 (by decide) (fun h9 => ?_) (fun h9 => ?_)
      · refine z_lload_n C 36 1 1 dX5_packed_36 rfl rfl ?_
        exact ret 37 _ _ _ _ _ dX5_packed_37 (⟨(by have e : j = (kwb i).length := (by omega); subst e; rw [ha, hwl.1]), rfl, rfl, rfl⟩)
      · refine z_ldc2 C 12 dX5_packed_12 cl_X5_161 ?_
        refine z_lload_n C 15 1 1 dX5_packed_15 rfl rfl ?_
        refine z_lmul C 16 dX5_packed_16 ?_
        refine z_aload_n C 17 0 0 dX5_packed_17 rfl rfl ?_
        refine z_iload_n C 18 3 2 dX5_packed_18 rfl rfl ?_
        refine z_sVi0 C 19 dX5_packed_19 cv_X5_168 (c_J0_charAt hi (by omega)) rfl hi rfl rfl (Nat.le_of_ble_eq_true rfl) ⟨by decide, by decide⟩ ⟨rfl, rfl⟩ ⟨by decide, by decide⟩ ?_
        intro r19 S19 L19 R19 p19
        obtain ⟨rfl, rfl, rfl, rfl⟩ := p19
        obtain ⟨k1, k2, k3, k4⟩ := kwp_s i hi j (by omega)
        rw [k4]
        refine z_bipush (v := nI 97) C 22 dX5_packed_22 (by decide +kernel) ?_
        first | with_reducible refine z_isubN C 24 dX5_packed_24 (by omega) ?_ | refine z_isub C 24 dX5_packed_24 ?_
        refine z_iconst (v := nI 1) C 25 dX5_packed_25 (by decide) ?_
        first | with_reducible refine z_iaddN C 26 dX5_packed_26 ?_ | refine z_iadd C 26 dX5_packed_26 ?_
        refine z_i2l C 27 dX5_packed_27 rfl ?_
        rw [nI_l (by omega)]
        refine z_ladd C 28 dX5_packed_28 ?_
        refine z_lstore_n C 29 1 [(1, _), (0, _), (3, _)] dX5_packed_29 rfl (by decide) rfl ?_
        refine z_iinc C 30 3 2 [(3, _), (1, _), (0, _)] dX5_packed_30 rfl (by first | exact nI_1 _ | rfl) (by decide) rfl ?_
        refine z_goto C 33 4 dX5_packed_33 (by decide) ?_
        refine z_sub [(0, _), (1, _), (3, _)] [2, 1, 0] rfl ?_
        exact ih4 (j + 1) _ (by omega) (by rw [ha, lN_mul, lN_add, k1, e32, show ((kwb i).getD j 0).toNatClampNeg - 97 + 1 = ((kwb i).getD j 0).toNatClampNeg - 96 by omega]) (by omega)
  refine z_sub [(0, _), (1, _), (3, _)] [2, 1, 0] rfl ?_
  exact loop_4 ((kwb i).length + 1) 0 _ (Nat.zero_le _) rfl (by omega)
def rm_X5_isWord : Room := { frames := 5, cells := 0, slots := 0, locals := 163 }
set_option maxHeartbeats 4000000 in
set_option maxRecDepth 100000 in
theorem c_X5_isWord {l : Launch} {G : mG} {ad : mA} {S : mS} {L : mL} {R : mR} {i : Nat} (hR : mlk R) (hi : i < 8) : Ki l yX5_isWord cX5_isWord 2 .boolean rm_X5_isWord G ad mdm [.ref (ad 1 0), .ref (G.2 (100 + i))] S L R (fun r_ S2 L2 R2 => r_ = bI (S 1 0 4 = nI 1 ∧ L 1 0 6 = lN (e32 (kwr i))) ∧ S = S2 ∧ L = L2 ∧ R = R2) := by
  refine Ki.of RX5 (by decide) rfl (Nat.le_of_ble_eq_true rfl) ?_
  intro X hXl hXG C ret
  subst hXl; subst hXG
  change Z X 2 ad mdm S L R 0 0 0 [(0, _), (1, _)] []
  refine z_aload_n C 0 0 0 dX5_isWord_0 rfl rfl ?_
  refine z_geti C 1 dX5_isWord_1 gf_X5_75 rfl (by first | assumption | exact Nat.zero_lt_one | exact (show (15 : Nat) < 16 by decide) | exact Nat.lt_succ_of_lt (by assumption) | omega) ?_
  refine z_iconst (v := nI 1) C 4 dX5_isWord_4 (by decide) ?_
  first | with_reducible refine z_icmp_neN C 5 24 dX5_isWord_5 (by decide) (by omega) (by omega) (fun h5 => ?_) (fun h5 => ?_) | refine z_icmp_ne C 5 24 dX5_isWord_5 (by decide) (fun h5 => ?_) (fun h5 => ?_)
  · refine z_iconst (v := nI 0) C 24 dX5_isWord_24 (by decide) ?_
    exact ret 25 _ _ _ _ _ dX5_isWord_25 (by first | rfl | exact bI_n | decide) (⟨(by first | exact bI_1 ⟨h5, lg_cmp_0 h17⟩ | exact bI_0 (fun z => h5 z.1) | exact bI_0 (fun z => h17 (lg_cmp0 z.2))), rfl, rfl, rfl⟩)
  · refine z_aload_n C 8 0 0 dX5_isWord_8 rfl rfl ?_
    refine z_getl C 9 dX5_isWord_9 gf_X5_102 rfl (by first | assumption | exact Nat.zero_lt_one | exact (show (15 : Nat) < 16 by decide) | exact Nat.lt_succ_of_lt (by assumption) | omega) ?_
    refine z_aload_n C 12 1 1 dX5_isWord_12 rfl rfl ?_
    refine z_cSl0 C 13 dX5_isWord_13 cs_X5_144 (c_X5_packed hi) rfl rfl (Nat.le_of_ble_eq_true rfl) ⟨by decide, by decide⟩ ⟨rfl, rfl⟩ ⟨by decide, by decide⟩ ?_
    intro r13 S13 L13 R13 p13
    obtain ⟨rfl, rfl, rfl, rfl⟩ := p13
    refine z_lcmp C 16 dX5_isWord_16 ?_
    first | with_reducible refine z_if_neB C 17 24 dX5_isWord_17 (by decide) (fun h17 => ?_) (fun h17 => ?_) | with_reducible refine z_if_neN C 17 24 dX5_isWord_17 (by decide) (by omega) (fun h17 => ?_) (fun h17 => ?_) | refine z_if_ne C 17 24 dX5_isWord_17 (by decide) (fun h17 => ?_) (fun h17 => ?_)
    · refine z_iconst (v := nI 0) C 24 dX5_isWord_24 (by decide) ?_
      exact ret 25 _ _ _ _ _ dX5_isWord_25 (by first | rfl | exact bI_n | decide) (⟨(by first | exact bI_1 ⟨h5, lg_cmp_0 h17⟩ | exact bI_0 (fun z => h5 z.1) | exact bI_0 (fun z => h17 (lg_cmp0 z.2))), rfl, rfl, rfl⟩)
    · refine z_iconst (v := nI 1) C 20 dX5_isWord_20 (by decide) ?_
      refine z_goto C 21 25 dX5_isWord_21 (by decide) ?_
      exact ret 25 _ _ _ _ _ dX5_isWord_25 (by first | rfl | exact bI_n | decide) (⟨(by first | exact bI_1 ⟨h5, lg_cmp_0 h17⟩ | exact bI_0 (fun z => h5 z.1) | exact bI_0 (fun z => h17 (lg_cmp0 z.2))), rfl, rfl, rfl⟩)
