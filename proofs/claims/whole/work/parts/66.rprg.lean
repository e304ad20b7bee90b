/-! the reference's draft -/
def rD (S : mS) (L : mL) (D : PD) : Prop := D.k ≤ 10 ∧ S 40 0 18 = nI D.k ∧ (∀ j, j < 4 → S 48 0 j = D.c j) ∧ S 40 0 19 = nI D.pol ∧ (∀ j, j < D.k → L 47 0 j = lN (e256 (D.nm j))) ∧ (∀ j w, j < D.k → w < 8 → S 46 0 (8 * j + w) = D.T (8 * j + w)) ∧ S 40 0 20 = nI (D.dc + 2 * D.dp) ∧ D.dc ≤ 1 ∧ D.dp ≤ 1
/-- what a statement may change -/
def RS (S S2 : mS) : Prop := (∀ k i, k ≠ 40 → k ≠ 46 → k ≠ 48 → S2 k i = S k i) ∧ ∀ j, j < 9 ∨ j = 17 ∨ 21 ≤ j → S2 40 0 j = S 40 0 j
def LW (L L2 : mL) : Prop := ∀ k i, k ≠ 40 → k ≠ 47 → L2 k i = L k i
theorem RS.rf (S : mS) : RS S S := ⟨fun _ _ _ _ _ => rfl, fun _ _ => rfl⟩
theorem RS.tr {S S2 S3 : mS} (h : RS S S2) (h2 : RS S2 S3) : RS S S3 := ⟨fun k i a b c => (h2.1 k i a b c).trans (h.1 k i a b c), fun j hj => (h2.2 j hj).trans (h.2 j hj)⟩
theorem LW.rf (L : mL) : LW L L := fun _ _ _ _ => rfl
theorem LW.tr {L L2 L3 : mL} (h : LW L L2) (h2 : LW L2 L3) : LW L L3 := fun k i a b => (h2 k i a b).trans (h k i a b)
theorem RE.rs {S S2 : mS} (h : RE S S2) : RS S S2 := ⟨fun k i a _ _ => h.1 k i a, fun j hj => h.2 j (by omega) (by omega)⟩
theorem LG.ls {L L2 : mL} (h : LG L L2) : LW L L2 := fun k i a _ => h k i a
theorem RS.u46 {S S2 : mS} (h : RS S S2) {j : Nat} {v : Int32} : RS S (up3 S2 46 0 j v) := ⟨fun k i a b c => by rw [up3_k _ b]; exact h.1 k i a b c, fun j' hj => by rw [up3_k _ (by omega)]; exact h.2 j' hj⟩
theorem RS.u48 {S S2 : mS} (h : RS S S2) {j : Nat} {v : Int32} : RS S (up3 S2 48 0 j v) := ⟨fun k i a b c => by rw [up3_k _ c]; exact h.1 k i a b c, fun j' hj => by rw [up3_k _ (by omega)]; exact h.2 j' hj⟩
theorem RS.u40 {S S2 : mS} (h : RS S S2) {j : Nat} {v : Int32} (hj : 9 ≤ j ∧ j ≤ 20 ∧ j ≠ 17) : RS S (up3 S2 40 0 j v) := ⟨fun k i a b c => by rw [up3_k _ a]; exact h.1 k i a b c, fun j' hj' => by rw [up3_j _ (by omega)]; exact h.2 j' hj'⟩
theorem LW.u47 {L L2 : mL} (h : LW L L2) {j : Nat} {v : Int64} : LW L (up3 L2 47 0 j v) := fun k i a b => by rw [up3_k _ b]; exact h k i a b
theorem rU.rs {S S2 : mS} {un : Nat → Nat} {len : Nat} (h : rU S un len) (hF : RS S S2) : rU S2 un len := ⟨(hF.2 8 (by omega)).trans h.1, h.2.1, h.2.2.1, fun j hj => by rw [hF.1 45 0 (by omega) (by omega) (by omega)]; exact h.2.2.2 j hj⟩
theorem rD.re {S S2 : mS} {L L2 : mL} {D : PD} (h : rD S L D) (hF : RE S S2) (hG : LG L L2) : rD S2 L2 D := by
  obtain ⟨a, b, c, d, f, g, i, j⟩ := h
  exact ⟨a, (hF.2 18 (by omega) (by omega)).trans b, fun w hw => by rw [hF.1 48 0 (by omega)]; exact c w hw, (hF.2 19 (by omega) (by omega)).trans d, fun w hw => by rw [hG 47 0 (by omega)]; exact f w hw, fun w x hw hx => by rw [hF.1 46 0 (by omega)]; exact g w x hw hx, (hF.2 20 (by omega) (by omega)).trans i, j⟩
theorem rSt.pl {S : mS} {L : mL} {un : Nat → Nat} {len c x : Nat} {a : Int32} (h : rSt S L un len (c, a, x)) (hc : ¬ c = 0) (y : Nat) : rSt S L un len (c, a, y) := ⟨h.1, h.2.1, h.2.2.1, fun z => absurd z hc⟩
theorem rSt.k {S S2 : mS} {L L2 : mL} {un : Nat → Nat} {len : Nat} {q : mQ} (h : rSt S L un len q) (e : ∀ j, 9 ≤ j ∧ j ≤ 15 → S2 40 0 j = S 40 0 j) (e2 : L2 40 0 13 = L 40 0 13) : rSt S2 L2 un len q := by
  obtain ⟨a, b, c, d⟩ := h
  refine ⟨(e 14 (by omega)).trans a, b, (e 15 (by omega)).trans c, fun z => ⟨?_, (d z).2⟩⟩
  obtain ⟨d1, d2, d3, d4, d5⟩ := (d z).1
  exact ⟨(e 9 (by omega)).trans d1, (e 10 (by omega)).trans d2, (e 11 (by omega)).trans d3, fun y => (e 12 (by omega)).trans (d4 y), fun y => e2.trans (d5 y)⟩
/-- the reference finds a name where the text told it -/
theorem rD.nmw {S : mS} {L : mL} {D : PD} (h : rD S L D) (hok : dOK D) {w : List Nat} (hw : nOK w) : nmU (L 47 0) (lN (e256 w)) D.k 0 = nmW D.nm w D.k := nmU_cong (fun j _ hj => by
  have h1 := hok.2.2.2.2.2 j (by omega)
  rw [h.2.2.2.2.1 j (by omega)]
  have a1 := e256_8 h1.1 h1.2.1
  have a2 := e256_8 hw.1 hw.2.1
  have a3 := e32_8 h1.1 h1.2.1
  have a4 := e32_8 hw.1 hw.2.1
  rw [pk_lEQ (by omega) (by omega)]
  show _ ↔ lN (e32 (D.nm j)) = lN (e32 w)
  rw [pk_lEQ (by omega) (by omega)]
  exact ⟨fun z => by rw [e256_inj h1.1 hw.1 z], fun z => by rw [e32_inj h1.1 hw.1 z]⟩)
theorem wd_ok {un : Nat → Nat} {len p : Nat} (h : tK un len p = 1) : nOK (wd un len p) := by
  have h2 := wd_1 h
  exact ⟨h2.1, by omega, by omega⟩
theorem yC_f {un : Nat → Nat} {len : Nat} {q : mQ} (h : ¬ q.1 = 0) : ∀ j, yC un len q j = q
  | 0 => rfl
  | j + 1 => by rw [yC, yC_f h j, yN_f h]
theorem yC_ff {un : Nat → Nat} {len : Nat} {q : mQ} {j : Nat} (h : ¬ (yC un len q j).1 = 0) : ∀ d, yC un len q (j + d) = yC un len q j
  | 0 => rfl
  | d + 1 => by rw [← Nat.add_assoc, yC, yC_ff h d, yN_f h]
theorem yCc_ff {un : Nat → Nat} {len : Nat} {q : mQ} {j : Nat} (h : ¬ (yCc un len q j).1 = 0) : ∀ d, yCc un len q (j + d) = yCc un len q j
  | 0 => rfl
  | d + 1 => by rw [← Nat.add_assoc, yCc, yCc_ff h d, yN_f h]
theorem oI_nn {o : Option Nat} (h : o = none) : oI o = -1 := by rw [h]; rfl
theorem oI_nf {nm : Nat → List Nat} {w : List Nat} {k : Nat} (hk : k ≤ 10) (h : oI (nmW nm w k) = -1) : nmW nm w k = none := oI_f (n := k) (by omega) (fun q hq => by have := (nmU_lt hq).2.1; omega) h
/-- program's numbers, j of them laid -/
def PR (S : mS) (L : mL) (un : Nat → Nat) (len k : Nat) (q : mQ) (j : Nat) (M : mS) (L1 : mL) : Prop :=
  rSt M L1 un len (yC un len q j) ∧ ((yC un len q j).1 = 0 → ∀ w, w < j → M 46 0 (8 * k + w) = nI (tW un len (yC un len q w).2.2)) ∧ M 46 0 (8 * k + 7) = nI 0 ∧ (∀ x, ¬ (8 * k ≤ x ∧ x < 8 * k + 8) → M 46 0 x = S 46 0 x) ∧ (∀ kk i, kk ≠ 40 → kk ≠ 46 → M kk i = S kk i) ∧ (∀ j, j < 9 ∨ 17 ≤ j → M 40 0 j = S 40 0 j) ∧ (∀ kk i, kk ≠ 40 → L1 kk i = L kk i)
theorem PR.z {S : mS} {L : mL} {un : Nat → Nat} {len k : Nat} {q : mQ} {x : Int64} (h : rSt S L un len q) : PR S (up3 L 47 0 k x) un len k q 0 (up3 S 46 0 (8 * k + 7) (nI 0)) (up3 L 47 0 k x) :=
  ⟨h.k (fun j _ => by rw [up3_k _ (by omega)]) (by rw [up3_k _ (by omega)]), fun _ w hw => absurd hw (Nat.not_lt_zero _), up3_s _ _ _ _ _, fun x hx => up3_j _ (by omega), fun kk i _ h6 => by rw [up3_k _ h6], fun j _ => by rw [up3_k _ (by omega)], fun _ _ _ => rfl⟩
theorem PR.nx {S : mS} {L : mL} {un : Nat → Nat} {len k : Nat} {q : mQ} {j : Nat} {M M1 : mS} {L1 L2 : mL} (h : PR S L un len k q j M L1) (hS : rSt (up3 M1 46 0 (8 * k + j) (nI (tV un len (yC un len q j).2.2))) L2 un len (yC un len q (j + 1))) (hF : RE M M1) (hG : LG L1 L2) (hk : (yC un len q (j + 1)).1 = 0) (hj : j < 7) : PR S L un len k q (j + 1) (up3 M1 46 0 (8 * k + j) (nI (tV un len (yC un len q j).2.2))) L2 := by
  obtain ⟨a, b, c, d, e, f, g⟩ := h
  refine ⟨hS, fun z w hw => ?_, ?_, fun x hx => ?_, fun kk i h0 h6 => ?_, fun j' hj' => ?_, fun kk i h0 => (hG kk i h0).trans (g kk i h0)⟩
  · rw [up3_at]
    by_cases e' : w = j
    · rw [if_pos ⟨rfl, rfl, by omega⟩, e', tW_2 (yN_ok z).2.1]
    · rw [if_neg (by omega), hF.1 46 0 (by omega)]
      exact b (yC_ok z) w (by omega)
  · rw [up3_j _ (by omega), hF.1 46 0 (by omega)]
    exact c
  · rw [up3_j _ (by omega), hF.1 46 0 (by omega)]
    exact d x hx
  · rw [up3_k _ h6, hF.1 kk i h0]
    exact e kk i h0 h6
  · rw [up3_k _ (by omega), hF.2 j' (by omega) (by omega)]
    exact f j' hj'
theorem PR.U {S : mS} {L : mL} {un : Nat → Nat} {len k : Nat} {q : mQ} {j : Nat} {M : mS} {L1 : mL} (h : PR S L un len k q j M L1) (hU : rU S un len) : rU M un len :=
  ⟨(h.2.2.2.2.2.1 8 (by omega)).trans hU.1, hU.2.1, hU.2.2.1, fun x hx => by rw [h.2.2.2.2.1 45 0 (by omega) (by omega)]; exact hU.2.2.2 x hx⟩
theorem PR.rs {S : mS} {L : mL} {un : Nat → Nat} {len k : Nat} {q : mQ} {j : Nat} {M : mS} {L1 : mL} (h : PR S L un len k q j M L1) : RS S M ∧ LG L L1 := ⟨⟨fun kk i a b _ => h.2.2.2.2.1 kk i a b, fun j hj => h.2.2.2.2.2.1 j (by omega)⟩, h.2.2.2.2.2.2⟩
theorem PR.lo {S : mS} {L : mL} {un : Nat → Nat} {len k : Nat} {q : mQ} {j : Nat} {M : mS} {L1 : mL} (h : PR S L un len k q j M L1) (hj : 0 < j) (z : (yC un len q j).1 = 0) : M 46 0 (8 * k + 0) = nI (tW un len q.2.2) := h.2.1 z 0 hj
theorem yProg_1 {un : Nat → Nat} {len p : Nat} {D : PD} (hk : D.k < 10) : (yProg un len D p).1 = yC un len (yPq un len D p) 7 := by
  unfold yProg
  rw [if_neg (by omega)]
theorem prog_rend {S M : mS} {L L1 : mL} {un : Nat → Nat} {len p : Nat} {D : PD} {S0 : mS} {L0 : mL} (hD : rD S0 L0 D) (hk : D.k < 10) (hF : RE S0 S) (hG : LG L0 L) (h : PR S (up3 L 47 0 D.k (lN (e256 (wd un len (tE un len p))))) un len D.k (yPq un len D p) 7 M L1) :
    rSt (up3 M 40 0 18 (nI (D.k + 1))) L1 un len (yProg un len D p).1 ∧ ((yProg un len D p).1.1 = 0 → rD (up3 M 40 0 18 (nI (D.k + 1))) L1 (yProg un len D p).2) ∧ RS S0 (up3 M 40 0 18 (nI (D.k + 1))) ∧ LW L0 L1 := by
  have hrs := h.rs
  obtain ⟨a, b, c, d, e, f, g⟩ := h
  have hy : yProg un len D p = (yC un len (yPq un len D p) 7, (D.k + 1, (fun j => if j = D.k then wd un len (tE un len p) else D.nm j), (fun x => if x / 8 = D.k then (if x % 8 = 7 then nI 0 else nI (tW un len (yC un len (yPq un len D p) (x % 8)).2.2)) else D.T x), D.c, D.pol, D.lim, D.dc, D.dp)) := if_neg (by omega)
  rw [hy]
  refine ⟨a.k (fun j hj => up3_j _ (by omega)) rfl, fun z => ?_, (hF.rs.tr hrs.1).u40 (by omega), (hG.ls.tr (LW.rf _).u47).tr hrs.2.ls⟩
  obtain ⟨d1, d2, d3, d4, d5, d6, d7, d8⟩ := hD
  refine ⟨show D.k + 1 ≤ 10 by omega, up3_s _ _ _ _ _, fun j hj => by rw [up3_k _ (by omega), e 48 0 (by omega) (by omega), hF.1 48 0 (by omega)]; exact d3 j hj, by rw [up3_j _ (by omega), f 19 (by omega), hF.2 19 (by omega) (by omega)]; exact d4, fun w hw => ?_, fun w x hw hx => ?_, by rw [up3_j _ (by omega), f 20 (by omega), hF.2 20 (by omega) (by omega)]; exact d7, d8⟩
  · show _ = lN (e256 (if w = D.k then _ else _))
    rw [g 47 0 (by omega), up3_at]
    by_cases e' : w = D.k
    · rw [if_pos ⟨rfl, rfl, e'⟩, if_pos e']
    · rw [if_neg (fun y => e' y.2.2), if_neg e', hG 47 0 (by omega)]
      exact d5 w (by have : w < D.k + 1 := hw; omega)
  · show _ = (if (8 * w + x) / 8 = D.k then (if (8 * w + x) % 8 = 7 then nI 0 else _) else D.T (8 * w + x))
    rw [show (8 * w + x) / 8 = w by omega, show (8 * w + x) % 8 = x by omega, up3_k _ (by omega)]
    by_cases e' : w = D.k
    · subst e'
      rw [if_pos rfl]
      by_cases e7 : x = 7
      · rw [if_pos e7, e7]
        exact c
      · rw [if_neg e7]
        exact b z x (by omega)
    · have hw' : w < D.k := by have : w < D.k + 1 := hw; omega
      rw [if_neg e', d _ (by omega), hF.1 46 0 (by omega)]
      exact d6 w x hw' hx

def rm_X9_programLine : Room := { frames := 5, cells := 0, slots := 0, locals := 109 }
set_option maxHeartbeats 4000000 in
set_option maxRecDepth 100000 in
theorem c_X9_programLine {l : Launch} {G : mG} {ad : mA} {S : mS} {L : mL} {R : mR} {un : Nat → Nat} {len p : Nat} {D : PD} (hR : mlk R) (hU : rU S un len) (hq : rSt S L un len (y0 p)) (hD : rD S L D) (hok : dOK D) : Ki l yX9_programLine cX9_programLine 5 .boolean rm_X9_programLine G ad mdm [.ref (ad 40 0)] S L R (fun r_ S2 L2 R2 => r_ = bI ((yProg un len D p).1.1 = 0) ∧ rSt S2 L2 un len (yProg un len D p).1 ∧ ((yProg un len D p).1.1 = 0 → rD S2 L2 (yProg un len D p).2) ∧ RS S S2 ∧ LW L L2 ∧ R = R2) := by
  refine Ki.of RX9 (by decide) rfl (Nat.le_of_ble_eq_true rfl) ?_
  intro X hXl hXG C ret
  subst hXl; subst hXG
  change Z X 5 ad mdm S L R 0 0 0 [(0, _)] []
  have hk10 := hD.1
  have hk4 := tK_le (un := un) (len := len) (p := tE un len p)
  have ld0 : rLd S L un len p := (hq.2.2.2 rfl).1
  have hpl : p ≤ len := (hq.2.2.2 rfl).2
  have e14 : S 40 0 14 = nI 0 := hq.1
  refine z_aload_n C 0 0 0 dX9_programLine_0 rfl rfl ?_
  refine z_getiv C 1 dX9_programLine_1 gf_X9_135 rfl (by first | assumption | exact Nat.zero_lt_one | exact (show (15 : Nat) < 16 by decide) | exact Nat.lt_succ_of_lt (by assumption) | omega) hD.2.1 ?_
  refine z_istore_n C 4 1 [(1, _), (0, _)] dX9_programLine_4 rfl (by decide) rfl ?_
  refine z_aload_n C 5 0 1 dX9_programLine_5 rfl rfl ?_
  refine z_iconst (v := nI 5) C 6 dX9_programLine_6 (by decide) ?_
  refine z_iload_n C 7 1 0 dX9_programLine_7 rfl rfl ?_
  refine z_bipush (v := nI 10) C 8 dX9_programLine_8 (by decide +kernel) ?_
  first | with_reducible refine z_icmp_geN C 10 17 dX9_programLine_10 (by decide) (by omega) (by omega) (fun h10 => ?_) (fun h10 => ?_) | refine z_icmp_ge C 10 17 dX9_programLine_10 (by decide) (fun h10 => ?_) (fun h10 => ?_)
  · refine z_iconst (v := nI 0) C 17 dX9_programLine_17 (by decide) ?_
    refine z_cVi0 C 18 dX9_programLine_18 cv_X9_131 (c_X9_starts (un := un) (len := len) (c := 5) (q := y0 p) (P := D.k < 10) hR hU hq rfl (by first | exact bI_1 (by omega) | exact bI_0 (by omega)) (by decide) (by decide)) rfl ⟨by decide, rfl⟩ (by first | assumption | exact Nat.zero_lt_one | exact (show (15 : Nat) < 16 by decide) | exact Nat.lt_succ_of_lt (by assumption) | omega) rfl rfl (Nat.le_of_ble_eq_true rfl) ⟨by decide, by decide⟩ ⟨rfl, rfl⟩ ⟨by decide, by decide⟩ ?_
    intro r18 S18 L18 R18 p18
    obtain ⟨rfl, a18, b18, F18, G18, rfl⟩ := p18
    first | with_reducible refine z_if_neB C 21 26 dX9_programLine_21 (by decide) (fun h21 => absurd h21 (by omega)) (fun h21 => ?_) | with_reducible refine z_if_neN C 21 26 dX9_programLine_21 (by decide) (by omega) (fun h21 => absurd h21 (by omega)) (fun h21 => ?_) | refine z_if_ne C 21 26 dX9_programLine_21 (by decide) (fun h21 => absurd h21 (by omega)) (fun h21 => ?_)
    · refine z_iconst (v := nI 0) C 24 dX9_programLine_24 (by decide) ?_
      exact ret 25 _ _ _ _ _ dX9_programLine_25 (by first | rfl | exact bI_n | decide) ((by
      have hy : yProg un len D p = ((5, nI (tS un len p), tE un len p), D) := if_pos (by omega)
      rw [hy]
      exact ⟨bI_0 (fun z => nomatch z), (b18 h21).pl (by decide) _, fun z => (nomatch z), F18.rs, G18.ls, rfl⟩))
  · refine z_iconst (v := nI 1) C 13 dX9_programLine_13 (by decide) ?_
    refine z_goto C 14 18 dX9_programLine_14 (by decide) ?_
    refine z_cVi0 C 18 dX9_programLine_18 cv_X9_131 (c_X9_starts (un := un) (len := len) (c := 5) (q := y0 p) (P := D.k < 10) hR hU hq rfl (by first | exact bI_1 (by omega) | exact bI_0 (by omega)) (by decide) (by decide)) rfl ⟨by decide, rfl⟩ (by first | assumption | exact Nat.zero_lt_one | exact (show (15 : Nat) < 16 by decide) | exact Nat.lt_succ_of_lt (by assumption) | omega) rfl rfl (Nat.le_of_ble_eq_true rfl) ⟨by decide, by decide⟩ ⟨rfl, rfl⟩ ⟨by decide, by decide⟩ ?_
    intro r18 S18 L18 R18 p18
    obtain ⟨rfl, a18, b18, F18, G18, rfl⟩ := p18
    first | with_reducible refine z_if_neB C 21 26 dX9_programLine_21 (by decide) (fun h21 => ?_) (fun h21 => absurd (show D.k < 10 by omega) h21) | with_reducible refine z_if_neN C 21 26 dX9_programLine_21 (by decide) (by omega) (fun h21 => ?_) (fun h21 => absurd (show D.k < 10 by omega) h21) | refine z_if_ne C 21 26 dX9_programLine_21 (by decide) (fun h21 => ?_) (fun h21 => absurd (show D.k < 10 by omega) h21)
    · have hk : D.k < 10 := h21
      have q1 : rSt S18 L18 un len (y0 (tE un len p)) := a18 h21
      have ld : rLd S18 L18 un len (tE un len p) := (q1.2.2.2 rfl).1
      have U18 := hU.re F18
      have D18 := hD.re F18 G18
      refine z_aload_n C 26 0 1 dX9_programLine_26 rfl rfl ?_
      refine z_getiv C 27 dX9_programLine_27 gf_X9_99 rfl (by first | assumption | exact Nat.zero_lt_one | exact (show (15 : Nat) < 16 by decide) | exact Nat.lt_succ_of_lt (by assumption) | omega) ld.2.2.1 ?_
      refine z_iconst (v := nI 1) C 30 dX9_programLine_30 (by decide) ?_
      first | with_reducible refine z_icmp_eqN C 31 40 dX9_programLine_31 (by decide) (by omega) (by omega) (fun h31 => ?_) (fun h31 => ?_) | refine z_icmp_eq C 31 40 dX9_programLine_31 (by decide) (fun h31 => ?_) (fun h31 => ?_)
      · have hk1 : tK un len (tE un len p) = 1 := by omega
        have hw := wd_ok hk1
        have hl13 := ld.2.2.2.2 hk1
        refine z_aload_n C 40 0 1 dX9_programLine_40 rfl rfl ?_
        refine z_getl C 41 dX9_programLine_41 gf_X9_78 rfl (by first | assumption | exact Nat.zero_lt_one | exact (show (15 : Nat) < 16 by decide) | exact Nat.lt_succ_of_lt (by assumption) | omega) ?_
        rw [hl13]
        refine z_lstore_n C 44 2 [(2, _), (1, _), (0, _)] dX9_programLine_44 rfl (by decide) rfl ?_
        refine z_aload_n C 45 0 2 dX9_programLine_45 rfl rfl ?_
        refine z_iconst (v := nI 2) C 46 dX9_programLine_46 (by decide) ?_
        refine z_aload_n C 47 0 2 dX9_programLine_47 rfl rfl ?_
        refine z_getr C 48 dX9_programLine_48 gf_X9_34 rfl (by first | assumption | exact Nat.zero_lt_one | exact (show (15 : Nat) < 16 by decide) | exact Nat.lt_succ_of_lt (by assumption) | omega) (by first | exact hR _ _ _ _ rfl | exact hR2 _ _ _ _ rfl | assumption) ?_
        refine z_iload_n C 51 1 1 dX9_programLine_51 rfl rfl ?_
        refine z_lload_n C 52 2 0 dX9_programLine_52 rfl rfl ?_
        refine z_cSi0 C 53 dX9_programLine_53 cs_X9_138 (c_X9_named (n := D.k) hR hk10) rfl rfl (Nat.le_of_ble_eq_true rfl) ⟨by decide, by decide⟩ ⟨rfl, rfl⟩ ⟨by decide, by decide⟩ ?_
        intro r53 S53 L53 R53 p53
        obtain ⟨rfl, rfl, rfl, rfl⟩ := p53
        rw [D18.nmw hok hw]
        refine z_iconst (v := (-1)) C 56 dX9_programLine_56 (by decide) ?_
        first | with_reducible refine z_icmp_neN C 57 64 dX9_programLine_57 (by decide) (by omega) (by omega) (fun h57 => ?_) (fun h57 => ?_) | refine z_icmp_ne C 57 64 dX9_programLine_57 (by decide) (fun h57 => ?_) (fun h57 => ?_)
        · refine z_iconst (v := nI 0) C 64 dX9_programLine_64 (by decide) ?_
          refine z_cVi0 C 65 dX9_programLine_65 cv_X9_131 (c_X9_starts (un := un) (len := len) (c := 2) (q := y0 (tE un len p)) (P := nmW D.nm (wd un len (tE un len p)) D.k = none) hR U18 q1 rfl (by first | exact bI_1 (oI_f (n := D.k) (by omega) (fun q hq => by have := (nmU_lt hq).2.1; omega) h57) | exact bI_0 (fun z => h57 (by rw [z]; rfl))) (by decide) (by decide)) rfl ⟨by decide, rfl⟩ (by first | assumption | exact Nat.zero_lt_one | exact (show (15 : Nat) < 16 by decide) | exact Nat.lt_succ_of_lt (by assumption) | omega) rfl rfl (Nat.le_of_ble_eq_true rfl) ⟨by decide, by decide⟩ ⟨rfl, rfl⟩ ⟨by decide, by decide⟩ ?_
          intro r65 S65 L65 R65 p65
          obtain ⟨rfl, a65, b65, F65, G65, rfl⟩ := p65
          first | with_reducible refine z_if_neB C 68 73 dX9_programLine_68 (by decide) (fun h68 => absurd (oI_nn h68) h57) (fun h68 => ?_) | with_reducible refine z_if_neN C 68 73 dX9_programLine_68 (by decide) (by omega) (fun h68 => absurd (oI_nn h68) h57) (fun h68 => ?_) | refine z_if_ne C 68 73 dX9_programLine_68 (by decide) (fun h68 => absurd (oI_nn h68) h57) (fun h68 => ?_)
          · refine z_iconst (v := nI 0) C 71 dX9_programLine_71 (by decide) ?_
            exact ret 72 _ _ _ _ _ dX9_programLine_72 (by first | rfl | exact bI_n | decide) ((by
      obtain ⟨j, hj⟩ := oI_s h57
      have e1 : yPq un len D p = (2, nI (tS un len (tE un len p)), tE un len (tE un len p)) := by
        rw [yPq_s hj, yT_k (q := y0 (tE un len p)) rfl hk1]
        exact yE_c rfl
      have e2 : (yProg un len D p).1 = (2, nI (tS un len (tE un len p)), tE un len (tE un len p)) := by
        rw [yProg_1 hk, e1]
        exact yC_f (show ¬ (2 : Nat) = 0 by decide) 7
      rw [e2]
      exact ⟨bI_0 (fun z => nomatch z), (b65 h68).pl (by decide) _, fun z => (nomatch z), (F18.tr F65).rs, (G18.tr G65).ls, rfl⟩))
        · refine z_iconst (v := nI 1) C 60 dX9_programLine_60 (by decide) ?_
          refine z_goto C 61 65 dX9_programLine_61 (by decide) ?_
          refine z_cVi0 C 65 dX9_programLine_65 cv_X9_131 (c_X9_starts (un := un) (len := len) (c := 2) (q := y0 (tE un len p)) (P := nmW D.nm (wd un len (tE un len p)) D.k = none) hR U18 q1 rfl (by first | exact bI_1 (oI_f (n := D.k) (by omega) (fun q hq => by have := (nmU_lt hq).2.1; omega) h57) | exact bI_0 (fun z => h57 (by rw [z]; rfl))) (by decide) (by decide)) rfl ⟨by decide, rfl⟩ (by first | assumption | exact Nat.zero_lt_one | exact (show (15 : Nat) < 16 by decide) | exact Nat.lt_succ_of_lt (by assumption) | omega) rfl rfl (Nat.le_of_ble_eq_true rfl) ⟨by decide, by decide⟩ ⟨rfl, rfl⟩ ⟨by decide, by decide⟩ ?_
          intro r65 S65 L65 R65 p65
          obtain ⟨rfl, a65, b65, F65, G65, rfl⟩ := p65
          first | with_reducible refine z_if_neB C 68 73 dX9_programLine_68 (by decide) (fun h68 => ?_) (fun h68 => absurd (oI_nf hk10 h57) h68) | with_reducible refine z_if_neN C 68 73 dX9_programLine_68 (by decide) (by omega) (fun h68 => ?_) (fun h68 => absurd (oI_nf hk10 h57) h68) | refine z_if_ne C 68 73 dX9_programLine_68 (by decide) (fun h68 => ?_) (fun h68 => absurd (oI_nf hk10 h57) h68)
          · have q2 : rSt S65 L65 un len (yPq un len D p) := by rw [yPq_n (fun _ => h68), yT_k (q := y0 (tE un len p)) rfl hk1]; exact a65 h68
            have U65 := U18.re F65
            have hU65 := U65
            have z0 : (yC un len (yPq un len D p) 0).1 = 0 := by show (yPq un len D p).1 = 0; rw [yPq_n (fun _ => h68), yT_k (q := y0 (tE un len p)) rfl hk1]
            have hF65 := F18.tr F65
            have hG65 := G18.tr G65
            refine z_aload_n C 73 0 2 dX9_programLine_73 rfl rfl ?_
            refine z_getr C 74 dX9_programLine_74 gf_X9_34 rfl (by first | assumption | exact Nat.zero_lt_one | exact (show (15 : Nat) < 16 by decide) | exact Nat.lt_succ_of_lt (by assumption) | omega) (by first | exact hR _ _ _ _ rfl | exact hR2 _ _ _ _ rfl | assumption) ?_
            refine z_iload_n C 77 1 1 dX9_programLine_77 rfl rfl ?_
            refine z_lload_n C 78 2 0 dX9_programLine_78 rfl rfl ?_
            refine z_last C 79 dX9_programLine_79 (by first | rfl | assumption) (by first | assumption | exact Nat.zero_lt_one | exact (show (15 : Nat) < 16 by decide) | exact Nat.lt_succ_of_lt (by assumption) | omega)  (by first | rfl | assumption) (by first | decide | omega) (by first | assumption | omega) ?_
            refine z_bipush (v := nI 8) C 80 dX9_programLine_80 (by decide +kernel) ?_
            refine z_iload_n C 82 1 1 dX9_programLine_82 rfl rfl ?_
            first | with_reducible refine z_imulN C 83 dX9_programLine_83 ?_ | refine z_imul C 83 dX9_programLine_83 ?_
            refine z_istore C 84 4 [(4, _), (2, _), (1, _), (0, _)] dX9_programLine_84 (by decide) rfl ?_
            refine z_aload_n C 86 0 3 dX9_programLine_86 rfl rfl ?_
            refine z_getr C 87 dX9_programLine_87 gf_X9_31 rfl (by first | assumption | exact Nat.zero_lt_one | exact (show (15 : Nat) < 16 by decide) | exact Nat.lt_succ_of_lt (by assumption) | omega) (by first | exact hR _ _ _ _ rfl | exact hR2 _ _ _ _ rfl | assumption) ?_
            refine z_iload C 90 4 0 dX9_programLine_90 rfl ?_
            refine z_bipush (v := nI 7) C 92 dX9_programLine_92 (by decide +kernel) ?_
            first | with_reducible refine z_iaddN C 94 dX9_programLine_94 ?_ | refine z_iadd C 94 dX9_programLine_94 ?_
            refine z_iconst (v := nI 0) C 95 dX9_programLine_95 (by decide) ?_
            refine z_iast C 96 dX9_programLine_96 (by first | rfl | assumption) (by first | assumption | exact Nat.zero_lt_one | exact (show (15 : Nat) < 16 by decide) | exact Nat.lt_succ_of_lt (by assumption) | omega)  (by first | rfl | assumption) (by first | decide | omega) (by first | assumption | omega) ?_
            have g0 := PR.z (k := D.k) (x := lN (e256 (wd un len (tE un len p)))) q2
            refine z_aload_n C 97 0 3 dX9_programLine_97 rfl rfl ?_
            refine z_aload_n C 98 0 3 dX9_programLine_98 rfl rfl ?_
            refine z_getr C 99 dX9_programLine_99 gf_X9_31 rfl (by first | assumption | exact Nat.zero_lt_one | exact (show (15 : Nat) < 16 by decide) | exact Nat.lt_succ_of_lt (by assumption) | omega) (by first | exact hR _ _ _ _ rfl | exact hR2 _ _ _ _ rfl | assumption) ?_
            refine z_iload C 102 4 0 dX9_programLine_102 rfl ?_
            refine z_iconst (v := nI 0) C 104 dX9_programLine_104 (by decide) ?_
            first | with_reducible refine z_iaddN C 105 dX9_programLine_105 ?_ | refine z_iadd C 105 dX9_programLine_105 ?_
            refine z_iconst (v := nI 1) C 106 dX9_programLine_106 (by decide) ?_
            refine z_sipush (v := nI 400) C 107 dX9_programLine_107 (by decide +kernel) ?_
            refine z_cVi0 C 110 dX9_programLine_110 cv_X9_142 (c_X9_lays (un := un) (len := len) (q := yC un len (yPq un len D p) 0) (a := 1) (b := 400) (t := 8 * D.k + 0) hR (g0.U hU65) g0.1 z0 (by decide) (by decide) (by omega)) rfl ⟨by decide, rfl⟩ (by first | assumption | exact Nat.zero_lt_one | exact (show (15 : Nat) < 16 by decide) | exact Nat.lt_succ_of_lt (by assumption) | omega) rfl rfl (Nat.le_of_ble_eq_true rfl) ⟨by decide, by decide⟩ ⟨rfl, rfl⟩ ⟨by decide, by decide⟩ ?_
            intro r110 S110 L110 R110 p110
            obtain ⟨rfl, t0, v0, f0, G0, rfl⟩ := p110
            first | with_reducible refine z_if_eqB C 113 244 dX9_programLine_113 (by decide) (fun h113 => ?_) (fun h113 => ?_) | with_reducible refine z_if_eqN C 113 244 dX9_programLine_113 (by decide) (by omega) (fun h113 => ?_) (fun h113 => ?_) | refine z_if_eq C 113 244 dX9_programLine_113 (by decide) (fun h113 => ?_) (fun h113 => ?_)
            · have zb : (yProg un len D p).1 = yC un len (yPq un len D p) 1 := (yProg_1 hk).trans (yC_ff (j := 1) h113 6)
              refine z_iconst (v := nI 0) C 244 dX9_programLine_244 (by decide) ?_
              exact ret 245 _ _ _ _ _ dX9_programLine_245 (by first | rfl | exact bI_n | decide) ((by
      rw [zb]
      first
        | exact ⟨bI_0 h241, t6, fun z => absurd z h241, (hF65.rs.tr g6.rs.1).tr (f6 h241).rs, ((hG65.ls.tr (LW.rf _).u47).tr g6.rs.2.ls).tr G6.ls, rfl⟩
        | exact ⟨bI_0 h221, t5, fun z => absurd z h221, (hF65.rs.tr g5.rs.1).tr (f5 h221).rs, ((hG65.ls.tr (LW.rf _).u47).tr g5.rs.2.ls).tr G5.ls, rfl⟩
        | exact ⟨bI_0 h196, t4, fun z => absurd z h196, (hF65.rs.tr g4.rs.1).tr (f4 h196).rs, ((hG65.ls.tr (LW.rf _).u47).tr g4.rs.2.ls).tr G4.ls, rfl⟩
        | exact ⟨bI_0 h177, t3, fun z => absurd z h177, (hF65.rs.tr g3.rs.1).tr (f3 h177).rs, ((hG65.ls.tr (LW.rf _).u47).tr g3.rs.2.ls).tr G3.ls, rfl⟩
        | exact ⟨bI_0 h150, t2, fun z => absurd z h150, (hF65.rs.tr g2.rs.1).tr (f2 h150).rs, ((hG65.ls.tr (LW.rf _).u47).tr g2.rs.2.ls).tr G2.ls, rfl⟩
        | exact ⟨bI_0 h132, t1, fun z => absurd z h132, (hF65.rs.tr g1.rs.1).tr (f1 h132).rs, ((hG65.ls.tr (LW.rf _).u47).tr g1.rs.2.ls).tr G1.ls, rfl⟩
        | exact ⟨bI_0 h113, t0, fun z => absurd z h113, (hF65.rs.tr g0.rs.1).tr (f0 h113).rs, ((hG65.ls.tr (LW.rf _).u47).tr g0.rs.2.ls).tr G0.ls, rfl⟩))
            · have z1 : (yC un len (yPq un len D p) 1).1 = 0 := h113
              obtain ⟨M0, F0, rfl⟩ := v0 h113
              have g1 := g0.nx t0 F0 G0 z1 (by omega)
              refine z_aload_n C 116 0 3 dX9_programLine_116 rfl rfl ?_
              refine z_aload_n C 117 0 3 dX9_programLine_117 rfl rfl ?_
              refine z_getr C 118 dX9_programLine_118 gf_X9_31 rfl (by first | assumption | exact Nat.zero_lt_one | exact (show (15 : Nat) < 16 by decide) | exact Nat.lt_succ_of_lt (by assumption) | omega) (by first | exact hR _ _ _ _ rfl | exact hR2 _ _ _ _ rfl | assumption) ?_
              refine z_iload C 121 4 0 dX9_programLine_121 rfl ?_
              refine z_iconst (v := nI 1) C 123 dX9_programLine_123 (by decide) ?_
              first | with_reducible refine z_iaddN C 124 dX9_programLine_124 ?_ | refine z_iadd C 124 dX9_programLine_124 ?_
              refine z_iconst (v := nI 0) C 125 dX9_programLine_125 (by decide) ?_
              refine z_sipush (v := nI 200) C 126 dX9_programLine_126 (by decide +kernel) ?_
              refine z_cVi0 C 129 dX9_programLine_129 cv_X9_142 (c_X9_lays (un := un) (len := len) (q := yC un len (yPq un len D p) 1) (a := 0) (b := 200) (t := 8 * D.k + 1) hR (g1.U hU65) g1.1 z1 (by decide) (by decide) (by omega)) rfl ⟨by decide, rfl⟩ (by first | assumption | exact Nat.zero_lt_one | exact (show (15 : Nat) < 16 by decide) | exact Nat.lt_succ_of_lt (by assumption) | omega) rfl rfl (Nat.le_of_ble_eq_true rfl) ⟨by decide, by decide⟩ ⟨rfl, rfl⟩ ⟨by decide, by decide⟩ ?_
              intro r129 S129 L129 R129 p129
              obtain ⟨rfl, t1, v1, f1, G1, rfl⟩ := p129
              first | with_reducible refine z_if_eqB C 132 244 dX9_programLine_132 (by decide) (fun h132 => ?_) (fun h132 => ?_) | with_reducible refine z_if_eqN C 132 244 dX9_programLine_132 (by decide) (by omega) (fun h132 => ?_) (fun h132 => ?_) | refine z_if_eq C 132 244 dX9_programLine_132 (by decide) (fun h132 => ?_) (fun h132 => ?_)
              · have zb : (yProg un len D p).1 = yC un len (yPq un len D p) 2 := (yProg_1 hk).trans (yC_ff (j := 2) h132 5)
                refine z_iconst (v := nI 0) C 244 dX9_programLine_244 (by decide) ?_
                exact ret 245 _ _ _ _ _ dX9_programLine_245 (by first | rfl | exact bI_n | decide) ((by
      rw [zb]
      first
        | exact ⟨bI_0 h241, t6, fun z => absurd z h241, (hF65.rs.tr g6.rs.1).tr (f6 h241).rs, ((hG65.ls.tr (LW.rf _).u47).tr g6.rs.2.ls).tr G6.ls, rfl⟩
        | exact ⟨bI_0 h221, t5, fun z => absurd z h221, (hF65.rs.tr g5.rs.1).tr (f5 h221).rs, ((hG65.ls.tr (LW.rf _).u47).tr g5.rs.2.ls).tr G5.ls, rfl⟩
        | exact ⟨bI_0 h196, t4, fun z => absurd z h196, (hF65.rs.tr g4.rs.1).tr (f4 h196).rs, ((hG65.ls.tr (LW.rf _).u47).tr g4.rs.2.ls).tr G4.ls, rfl⟩
        | exact ⟨bI_0 h177, t3, fun z => absurd z h177, (hF65.rs.tr g3.rs.1).tr (f3 h177).rs, ((hG65.ls.tr (LW.rf _).u47).tr g3.rs.2.ls).tr G3.ls, rfl⟩
        | exact ⟨bI_0 h150, t2, fun z => absurd z h150, (hF65.rs.tr g2.rs.1).tr (f2 h150).rs, ((hG65.ls.tr (LW.rf _).u47).tr g2.rs.2.ls).tr G2.ls, rfl⟩
        | exact ⟨bI_0 h132, t1, fun z => absurd z h132, (hF65.rs.tr g1.rs.1).tr (f1 h132).rs, ((hG65.ls.tr (LW.rf _).u47).tr g1.rs.2.ls).tr G1.ls, rfl⟩
        | exact ⟨bI_0 h113, t0, fun z => absurd z h113, (hF65.rs.tr g0.rs.1).tr (f0 h113).rs, ((hG65.ls.tr (LW.rf _).u47).tr g0.rs.2.ls).tr G0.ls, rfl⟩))
              · have z2 : (yC un len (yPq un len D p) 2).1 = 0 := h132
                obtain ⟨M1, F1, rfl⟩ := v1 h132
                have g2 := g1.nx t1 F1 G1 z2 (by omega)
                refine z_aload_n C 135 0 3 dX9_programLine_135 rfl rfl ?_
                refine z_aload_n C 136 0 3 dX9_programLine_136 rfl rfl ?_
                refine z_getr C 137 dX9_programLine_137 gf_X9_31 rfl (by first | assumption | exact Nat.zero_lt_one | exact (show (15 : Nat) < 16 by decide) | exact Nat.lt_succ_of_lt (by assumption) | omega) (by first | exact hR _ _ _ _ rfl | exact hR2 _ _ _ _ rfl | assumption) ?_
                refine z_iload C 140 4 0 dX9_programLine_140 rfl ?_
                refine z_iconst (v := nI 2) C 142 dX9_programLine_142 (by decide) ?_
                first | with_reducible refine z_iaddN C 143 dX9_programLine_143 ?_ | refine z_iadd C 143 dX9_programLine_143 ?_
                refine z_iconst (v := nI 0) C 144 dX9_programLine_144 (by decide) ?_
                refine z_bipush (v := nI 20) C 145 dX9_programLine_145 (by decide +kernel) ?_
                refine z_cVi0 C 147 dX9_programLine_147 cv_X9_142 (c_X9_lays (un := un) (len := len) (q := yC un len (yPq un len D p) 2) (a := 0) (b := 20) (t := 8 * D.k + 2) hR (g2.U hU65) g2.1 z2 (by decide) (by decide) (by omega)) rfl ⟨by decide, rfl⟩ (by first | assumption | exact Nat.zero_lt_one | exact (show (15 : Nat) < 16 by decide) | exact Nat.lt_succ_of_lt (by assumption) | omega) rfl rfl (Nat.le_of_ble_eq_true rfl) ⟨by decide, by decide⟩ ⟨rfl, rfl⟩ ⟨by decide, by decide⟩ ?_
                intro r147 S147 L147 R147 p147
                obtain ⟨rfl, t2, v2, f2, G2, rfl⟩ := p147
                first | with_reducible refine z_if_eqB C 150 244 dX9_programLine_150 (by decide) (fun h150 => ?_) (fun h150 => ?_) | with_reducible refine z_if_eqN C 150 244 dX9_programLine_150 (by decide) (by omega) (fun h150 => ?_) (fun h150 => ?_) | refine z_if_eq C 150 244 dX9_programLine_150 (by decide) (fun h150 => ?_) (fun h150 => ?_)
                · have zb : (yProg un len D p).1 = yC un len (yPq un len D p) 3 := (yProg_1 hk).trans (yC_ff (j := 3) h150 4)
                  refine z_iconst (v := nI 0) C 244 dX9_programLine_244 (by decide) ?_
                  exact ret 245 _ _ _ _ _ dX9_programLine_245 (by first | rfl | exact bI_n | decide) ((by
      rw [zb]
      first
        | exact ⟨bI_0 h241, t6, fun z => absurd z h241, (hF65.rs.tr g6.rs.1).tr (f6 h241).rs, ((hG65.ls.tr (LW.rf _).u47).tr g6.rs.2.ls).tr G6.ls, rfl⟩
        | exact ⟨bI_0 h221, t5, fun z => absurd z h221, (hF65.rs.tr g5.rs.1).tr (f5 h221).rs, ((hG65.ls.tr (LW.rf _).u47).tr g5.rs.2.ls).tr G5.ls, rfl⟩
        | exact ⟨bI_0 h196, t4, fun z => absurd z h196, (hF65.rs.tr g4.rs.1).tr (f4 h196).rs, ((hG65.ls.tr (LW.rf _).u47).tr g4.rs.2.ls).tr G4.ls, rfl⟩
        | exact ⟨bI_0 h177, t3, fun z => absurd z h177, (hF65.rs.tr g3.rs.1).tr (f3 h177).rs, ((hG65.ls.tr (LW.rf _).u47).tr g3.rs.2.ls).tr G3.ls, rfl⟩
        | exact ⟨bI_0 h150, t2, fun z => absurd z h150, (hF65.rs.tr g2.rs.1).tr (f2 h150).rs, ((hG65.ls.tr (LW.rf _).u47).tr g2.rs.2.ls).tr G2.ls, rfl⟩
        | exact ⟨bI_0 h132, t1, fun z => absurd z h132, (hF65.rs.tr g1.rs.1).tr (f1 h132).rs, ((hG65.ls.tr (LW.rf _).u47).tr g1.rs.2.ls).tr G1.ls, rfl⟩
        | exact ⟨bI_0 h113, t0, fun z => absurd z h113, (hF65.rs.tr g0.rs.1).tr (f0 h113).rs, ((hG65.ls.tr (LW.rf _).u47).tr g0.rs.2.ls).tr G0.ls, rfl⟩))
                · have z3 : (yC un len (yPq un len D p) 3).1 = 0 := h150
                  obtain ⟨M2, F2, rfl⟩ := v2 h150
                  have g3 := g2.nx t2 F2 G2 z3 (by omega)
                  refine z_aload_n C 153 0 3 dX9_programLine_153 rfl rfl ?_
                  refine z_aload_n C 154 0 3 dX9_programLine_154 rfl rfl ?_
                  refine z_getr C 155 dX9_programLine_155 gf_X9_31 rfl (by first | assumption | exact Nat.zero_lt_one | exact (show (15 : Nat) < 16 by decide) | exact Nat.lt_succ_of_lt (by assumption) | omega) (by first | exact hR _ _ _ _ rfl | exact hR2 _ _ _ _ rfl | assumption) ?_
                  refine z_iload C 158 4 0 dX9_programLine_158 rfl ?_
                  refine z_iconst (v := nI 3) C 160 dX9_programLine_160 (by decide) ?_
                  first | with_reducible refine z_iaddN C 161 dX9_programLine_161 ?_ | refine z_iadd C 161 dX9_programLine_161 ?_
                  refine z_aload_n C 162 0 3 dX9_programLine_162 rfl rfl ?_
                  refine z_getr C 163 dX9_programLine_163 gf_X9_31 rfl (by first | assumption | exact Nat.zero_lt_one | exact (show (15 : Nat) < 16 by decide) | exact Nat.lt_succ_of_lt (by assumption) | omega) (by first | exact hR _ _ _ _ rfl | exact hR2 _ _ _ _ rfl | assumption) ?_
                  refine z_iload C 166 4 0 dX9_programLine_166 rfl ?_
                  refine z_iconst (v := nI 0) C 168 dX9_programLine_168 (by decide) ?_
                  first | with_reducible refine z_iaddN C 169 dX9_programLine_169 ?_ | refine z_iadd C 169 dX9_programLine_169 ?_
                  refine z_iald C 170 dX9_programLine_170 (by first | rfl | assumption) (by first | assumption | exact Nat.zero_lt_one | exact (show (15 : Nat) < 16 by decide) | exact Nat.lt_succ_of_lt (by assumption) | omega) (by first | rfl | assumption) (by first | decide | omega) (by first | assumption | omega) ?_
                  rw [g3.lo (by omega) z3]
                  refine z_sipush (v := nI 999) C 171 dX9_programLine_171 (by decide +kernel) ?_
                  refine z_cVi0 C 174 dX9_programLine_174 cv_X9_142 (c_X9_lays (un := un) (len := len) (q := yC un len (yPq un len D p) 3) (a := tW un len (yPq un len D p).2.2) (b := 999) (t := 8 * D.k + 3) hR (g3.U hU65) g3.1 z3 (by have := @tW_lt un len (yPq un len D p).2.2; omega) (by decide) (by omega)) rfl ⟨by decide, rfl⟩ (by first | assumption | exact Nat.zero_lt_one | exact (show (15 : Nat) < 16 by decide) | exact Nat.lt_succ_of_lt (by assumption) | omega) rfl rfl (Nat.le_of_ble_eq_true rfl) ⟨by decide, by decide⟩ ⟨rfl, rfl⟩ ⟨by decide, by decide⟩ ?_
                  intro r174 S174 L174 R174 p174
                  obtain ⟨rfl, t3, v3, f3, G3, rfl⟩ := p174
                  first | with_reducible refine z_if_eqB C 177 244 dX9_programLine_177 (by decide) (fun h177 => ?_) (fun h177 => ?_) | with_reducible refine z_if_eqN C 177 244 dX9_programLine_177 (by decide) (by omega) (fun h177 => ?_) (fun h177 => ?_) | refine z_if_eq C 177 244 dX9_programLine_177 (by decide) (fun h177 => ?_) (fun h177 => ?_)
                  · have zb : (yProg un len D p).1 = yC un len (yPq un len D p) 4 := (yProg_1 hk).trans (yC_ff (j := 4) h177 3)
                    refine z_iconst (v := nI 0) C 244 dX9_programLine_244 (by decide) ?_
                    exact ret 245 _ _ _ _ _ dX9_programLine_245 (by first | rfl | exact bI_n | decide) ((by
      rw [zb]
      first
        | exact ⟨bI_0 h241, t6, fun z => absurd z h241, (hF65.rs.tr g6.rs.1).tr (f6 h241).rs, ((hG65.ls.tr (LW.rf _).u47).tr g6.rs.2.ls).tr G6.ls, rfl⟩
        | exact ⟨bI_0 h221, t5, fun z => absurd z h221, (hF65.rs.tr g5.rs.1).tr (f5 h221).rs, ((hG65.ls.tr (LW.rf _).u47).tr g5.rs.2.ls).tr G5.ls, rfl⟩
        | exact ⟨bI_0 h196, t4, fun z => absurd z h196, (hF65.rs.tr g4.rs.1).tr (f4 h196).rs, ((hG65.ls.tr (LW.rf _).u47).tr g4.rs.2.ls).tr G4.ls, rfl⟩
        | exact ⟨bI_0 h177, t3, fun z => absurd z h177, (hF65.rs.tr g3.rs.1).tr (f3 h177).rs, ((hG65.ls.tr (LW.rf _).u47).tr g3.rs.2.ls).tr G3.ls, rfl⟩
        | exact ⟨bI_0 h150, t2, fun z => absurd z h150, (hF65.rs.tr g2.rs.1).tr (f2 h150).rs, ((hG65.ls.tr (LW.rf _).u47).tr g2.rs.2.ls).tr G2.ls, rfl⟩
        | exact ⟨bI_0 h132, t1, fun z => absurd z h132, (hF65.rs.tr g1.rs.1).tr (f1 h132).rs, ((hG65.ls.tr (LW.rf _).u47).tr g1.rs.2.ls).tr G1.ls, rfl⟩
        | exact ⟨bI_0 h113, t0, fun z => absurd z h113, (hF65.rs.tr g0.rs.1).tr (f0 h113).rs, ((hG65.ls.tr (LW.rf _).u47).tr g0.rs.2.ls).tr G0.ls, rfl⟩))
                  · have z4 : (yC un len (yPq un len D p) 4).1 = 0 := h177
                    obtain ⟨M3, F3, rfl⟩ := v3 h177
                    have g4 := g3.nx t3 F3 G3 z4 (by omega)
                    refine z_aload_n C 180 0 3 dX9_programLine_180 rfl rfl ?_
                    refine z_aload_n C 181 0 3 dX9_programLine_181 rfl rfl ?_
                    refine z_getr C 182 dX9_programLine_182 gf_X9_31 rfl (by first | assumption | exact Nat.zero_lt_one | exact (show (15 : Nat) < 16 by decide) | exact Nat.lt_succ_of_lt (by assumption) | omega) (by first | exact hR _ _ _ _ rfl | exact hR2 _ _ _ _ rfl | assumption) ?_
                    refine z_iload C 185 4 0 dX9_programLine_185 rfl ?_
                    refine z_iconst (v := nI 4) C 187 dX9_programLine_187 (by decide) ?_
                    first | with_reducible refine z_iaddN C 188 dX9_programLine_188 ?_ | refine z_iadd C 188 dX9_programLine_188 ?_
                    refine z_bipush (v := nI 10) C 189 dX9_programLine_189 (by decide +kernel) ?_
                    refine z_bipush (v := nI 100) C 191 dX9_programLine_191 (by decide +kernel) ?_
                    refine z_cVi0 C 193 dX9_programLine_193 cv_X9_142 (c_X9_lays (un := un) (len := len) (q := yC un len (yPq un len D p) 4) (a := 10) (b := 100) (t := 8 * D.k + 4) hR (g4.U hU65) g4.1 z4 (by decide) (by decide) (by omega)) rfl ⟨by decide, rfl⟩ (by first | assumption | exact Nat.zero_lt_one | exact (show (15 : Nat) < 16 by decide) | exact Nat.lt_succ_of_lt (by assumption) | omega) rfl rfl (Nat.le_of_ble_eq_true rfl) ⟨by decide, by decide⟩ ⟨rfl, rfl⟩ ⟨by decide, by decide⟩ ?_
                    intro r193 S193 L193 R193 p193
                    obtain ⟨rfl, t4, v4, f4, G4, rfl⟩ := p193
                    first | with_reducible refine z_if_eqB C 196 244 dX9_programLine_196 (by decide) (fun h196 => ?_) (fun h196 => ?_) | with_reducible refine z_if_eqN C 196 244 dX9_programLine_196 (by decide) (by omega) (fun h196 => ?_) (fun h196 => ?_) | refine z_if_eq C 196 244 dX9_programLine_196 (by decide) (fun h196 => ?_) (fun h196 => ?_)
                    · have zb : (yProg un len D p).1 = yC un len (yPq un len D p) 5 := (yProg_1 hk).trans (yC_ff (j := 5) h196 2)
                      refine z_iconst (v := nI 0) C 244 dX9_programLine_244 (by decide) ?_
                      exact ret 245 _ _ _ _ _ dX9_programLine_245 (by first | rfl | exact bI_n | decide) ((by
      rw [zb]
      first
        | exact ⟨bI_0 h241, t6, fun z => absurd z h241, (hF65.rs.tr g6.rs.1).tr (f6 h241).rs, ((hG65.ls.tr (LW.rf _).u47).tr g6.rs.2.ls).tr G6.ls, rfl⟩
        | exact ⟨bI_0 h221, t5, fun z => absurd z h221, (hF65.rs.tr g5.rs.1).tr (f5 h221).rs, ((hG65.ls.tr (LW.rf _).u47).tr g5.rs.2.ls).tr G5.ls, rfl⟩
        | exact ⟨bI_0 h196, t4, fun z => absurd z h196, (hF65.rs.tr g4.rs.1).tr (f4 h196).rs, ((hG65.ls.tr (LW.rf _).u47).tr g4.rs.2.ls).tr G4.ls, rfl⟩
        | exact ⟨bI_0 h177, t3, fun z => absurd z h177, (hF65.rs.tr g3.rs.1).tr (f3 h177).rs, ((hG65.ls.tr (LW.rf _).u47).tr g3.rs.2.ls).tr G3.ls, rfl⟩
        | exact ⟨bI_0 h150, t2, fun z => absurd z h150, (hF65.rs.tr g2.rs.1).tr (f2 h150).rs, ((hG65.ls.tr (LW.rf _).u47).tr g2.rs.2.ls).tr G2.ls, rfl⟩
        | exact ⟨bI_0 h132, t1, fun z => absurd z h132, (hF65.rs.tr g1.rs.1).tr (f1 h132).rs, ((hG65.ls.tr (LW.rf _).u47).tr g1.rs.2.ls).tr G1.ls, rfl⟩
        | exact ⟨bI_0 h113, t0, fun z => absurd z h113, (hF65.rs.tr g0.rs.1).tr (f0 h113).rs, ((hG65.ls.tr (LW.rf _).u47).tr g0.rs.2.ls).tr G0.ls, rfl⟩))
                    · have z5 : (yC un len (yPq un len D p) 5).1 = 0 := h196
                      obtain ⟨M4, F4, rfl⟩ := v4 h196
                      have g5 := g4.nx t4 F4 G4 z5 (by omega)
                      refine z_aload_n C 199 0 3 dX9_programLine_199 rfl rfl ?_
                      refine z_aload_n C 200 0 3 dX9_programLine_200 rfl rfl ?_
                      refine z_getr C 201 dX9_programLine_201 gf_X9_31 rfl (by first | assumption | exact Nat.zero_lt_one | exact (show (15 : Nat) < 16 by decide) | exact Nat.lt_succ_of_lt (by assumption) | omega) (by first | exact hR _ _ _ _ rfl | exact hR2 _ _ _ _ rfl | assumption) ?_
                      refine z_iload C 204 4 0 dX9_programLine_204 rfl ?_
                      refine z_iconst (v := nI 5) C 206 dX9_programLine_206 (by decide) ?_
                      first | with_reducible refine z_iaddN C 207 dX9_programLine_207 ?_ | refine z_iadd C 207 dX9_programLine_207 ?_
                      refine z_iconst (v := nI 1) C 208 dX9_programLine_208 (by decide) ?_
                      refine z_aload_n C 209 0 3 dX9_programLine_209 rfl rfl ?_
                      refine z_getr C 210 dX9_programLine_210 gf_X9_31 rfl (by first | assumption | exact Nat.zero_lt_one | exact (show (15 : Nat) < 16 by decide) | exact Nat.lt_succ_of_lt (by assumption) | omega) (by first | exact hR _ _ _ _ rfl | exact hR2 _ _ _ _ rfl | assumption) ?_
                      refine z_iload C 213 4 0 dX9_programLine_213 rfl ?_
                      refine z_iconst (v := nI 0) C 215 dX9_programLine_215 (by decide) ?_
                      first | with_reducible refine z_iaddN C 216 dX9_programLine_216 ?_ | refine z_iadd C 216 dX9_programLine_216 ?_
                      refine z_iald C 217 dX9_programLine_217 (by first | rfl | assumption) (by first | assumption | exact Nat.zero_lt_one | exact (show (15 : Nat) < 16 by decide) | exact Nat.lt_succ_of_lt (by assumption) | omega) (by first | rfl | assumption) (by first | decide | omega) (by first | assumption | omega) ?_
                      rw [g5.lo (by omega) z5]
                      refine z_cVi0 C 218 dX9_programLine_218 cv_X9_142 (c_X9_lays (un := un) (len := len) (q := yC un len (yPq un len D p) 5) (a := 1) (b := tW un len (yPq un len D p).2.2) (t := 8 * D.k + 5) hR (g5.U hU65) g5.1 z5 (by decide) (by have := @tW_lt un len (yPq un len D p).2.2; omega) (by omega)) rfl ⟨by decide, rfl⟩ (by first | assumption | exact Nat.zero_lt_one | exact (show (15 : Nat) < 16 by decide) | exact Nat.lt_succ_of_lt (by assumption) | omega) rfl rfl (Nat.le_of_ble_eq_true rfl) ⟨by decide, by decide⟩ ⟨rfl, rfl⟩ ⟨by decide, by decide⟩ ?_
                      intro r218 S218 L218 R218 p218
                      obtain ⟨rfl, t5, v5, f5, G5, rfl⟩ := p218
                      first | with_reducible refine z_if_eqB C 221 244 dX9_programLine_221 (by decide) (fun h221 => ?_) (fun h221 => ?_) | with_reducible refine z_if_eqN C 221 244 dX9_programLine_221 (by decide) (by omega) (fun h221 => ?_) (fun h221 => ?_) | refine z_if_eq C 221 244 dX9_programLine_221 (by decide) (fun h221 => ?_) (fun h221 => ?_)
                      · have zb : (yProg un len D p).1 = yC un len (yPq un len D p) 6 := (yProg_1 hk).trans (yC_ff (j := 6) h221 1)
                        refine z_iconst (v := nI 0) C 244 dX9_programLine_244 (by decide) ?_
                        exact ret 245 _ _ _ _ _ dX9_programLine_245 (by first | rfl | exact bI_n | decide) ((by
      rw [zb]
      first
        | exact ⟨bI_0 h241, t6, fun z => absurd z h241, (hF65.rs.tr g6.rs.1).tr (f6 h241).rs, ((hG65.ls.tr (LW.rf _).u47).tr g6.rs.2.ls).tr G6.ls, rfl⟩
        | exact ⟨bI_0 h221, t5, fun z => absurd z h221, (hF65.rs.tr g5.rs.1).tr (f5 h221).rs, ((hG65.ls.tr (LW.rf _).u47).tr g5.rs.2.ls).tr G5.ls, rfl⟩
        | exact ⟨bI_0 h196, t4, fun z => absurd z h196, (hF65.rs.tr g4.rs.1).tr (f4 h196).rs, ((hG65.ls.tr (LW.rf _).u47).tr g4.rs.2.ls).tr G4.ls, rfl⟩
        | exact ⟨bI_0 h177, t3, fun z => absurd z h177, (hF65.rs.tr g3.rs.1).tr (f3 h177).rs, ((hG65.ls.tr (LW.rf _).u47).tr g3.rs.2.ls).tr G3.ls, rfl⟩
        | exact ⟨bI_0 h150, t2, fun z => absurd z h150, (hF65.rs.tr g2.rs.1).tr (f2 h150).rs, ((hG65.ls.tr (LW.rf _).u47).tr g2.rs.2.ls).tr G2.ls, rfl⟩
        | exact ⟨bI_0 h132, t1, fun z => absurd z h132, (hF65.rs.tr g1.rs.1).tr (f1 h132).rs, ((hG65.ls.tr (LW.rf _).u47).tr g1.rs.2.ls).tr G1.ls, rfl⟩
        | exact ⟨bI_0 h113, t0, fun z => absurd z h113, (hF65.rs.tr g0.rs.1).tr (f0 h113).rs, ((hG65.ls.tr (LW.rf _).u47).tr g0.rs.2.ls).tr G0.ls, rfl⟩))
                      · have z6 : (yC un len (yPq un len D p) 6).1 = 0 := h221
                        obtain ⟨M5, F5, rfl⟩ := v5 h221
                        have g6 := g5.nx t5 F5 G5 z6 (by omega)
                        refine z_aload_n C 224 0 3 dX9_programLine_224 rfl rfl ?_
                        refine z_aload_n C 225 0 3 dX9_programLine_225 rfl rfl ?_
                        refine z_getr C 226 dX9_programLine_226 gf_X9_31 rfl (by first | assumption | exact Nat.zero_lt_one | exact (show (15 : Nat) < 16 by decide) | exact Nat.lt_succ_of_lt (by assumption) | omega) (by first | exact hR _ _ _ _ rfl | exact hR2 _ _ _ _ rfl | assumption) ?_
                        refine z_iload C 229 4 0 dX9_programLine_229 rfl ?_
                        refine z_bipush (v := nI 6) C 231 dX9_programLine_231 (by decide +kernel) ?_
                        first | with_reducible refine z_iaddN C 233 dX9_programLine_233 ?_ | refine z_iadd C 233 dX9_programLine_233 ?_
                        refine z_iconst (v := nI 0) C 234 dX9_programLine_234 (by decide) ?_
                        refine z_sipush (v := nI 9999) C 235 dX9_programLine_235 (by decide +kernel) ?_
                        refine z_cVi0 C 238 dX9_programLine_238 cv_X9_142 (c_X9_lays (un := un) (len := len) (q := yC un len (yPq un len D p) 6) (a := 0) (b := 9999) (t := 8 * D.k + 6) hR (g6.U hU65) g6.1 z6 (by decide) (by decide) (by omega)) rfl ⟨by decide, rfl⟩ (by first | assumption | exact Nat.zero_lt_one | exact (show (15 : Nat) < 16 by decide) | exact Nat.lt_succ_of_lt (by assumption) | omega) rfl rfl (Nat.le_of_ble_eq_true rfl) ⟨by decide, by decide⟩ ⟨rfl, rfl⟩ ⟨by decide, by decide⟩ ?_
                        intro r238 S238 L238 R238 p238
                        obtain ⟨rfl, t6, v6, f6, G6, rfl⟩ := p238
                        first | with_reducible refine z_if_neB C 241 246 dX9_programLine_241 (by decide) (fun h241 => ?_) (fun h241 => ?_) | with_reducible refine z_if_neN C 241 246 dX9_programLine_241 (by decide) (by omega) (fun h241 => ?_) (fun h241 => ?_) | refine z_if_ne C 241 246 dX9_programLine_241 (by decide) (fun h241 => ?_) (fun h241 => ?_)
                        · have z7 : (yC un len (yPq un len D p) 7).1 = 0 := h241
                          obtain ⟨M6, F6, rfl⟩ := v6 h241
                          have g7 := g6.nx t6 F6 G6 z7 (by omega)
                          refine z_aload_n C 246 0 3 dX9_programLine_246 rfl rfl ?_
                          refine z_dup C 247 dX9_programLine_247 rfl ?_
                          refine z_getiv C 248 dX9_programLine_248 gf_X9_135 rfl (by first | assumption | exact Nat.zero_lt_one | exact (show (15 : Nat) < 16 by decide) | exact Nat.lt_succ_of_lt (by assumption) | omega) ((g7.2.2.2.2.2.1 18 (by omega)).trans ((hF65.2 18 (by omega) (by omega)).trans hD.2.1)) ?_
                          refine z_iconst (v := nI 1) C 251 dX9_programLine_251 (by decide) ?_
                          first | with_reducible refine z_iaddN C 252 dX9_programLine_252 ?_ | refine z_iadd C 252 dX9_programLine_252 ?_
                          refine z_puti C 253 dX9_programLine_253 gf_X9_135 ⟨rfl, rfl⟩ rfl (by first | assumption | exact Nat.zero_lt_one | exact (show (15 : Nat) < 16 by decide) | exact Nat.lt_succ_of_lt (by assumption) | omega) ?_
                          refine z_iconst (v := nI 1) C 256 dX9_programLine_256 (by decide) ?_
                          exact ret 257 _ _ _ _ _ dX9_programLine_257 (by first | rfl | exact bI_n | decide) ((let t := prog_rend hD hk hF65 hG65 g7; ⟨bI_1 (by rw [yProg_1 hk]; exact z7), t.1, t.2.1, t.2.2.1, t.2.2.2, rfl⟩))
                        · have zb : (yProg un len D p).1 = yC un len (yPq un len D p) 7 := (yProg_1 hk).trans (yC_ff (j := 7) h241 0)
                          refine z_iconst (v := nI 0) C 244 dX9_programLine_244 (by decide) ?_
                          exact ret 245 _ _ _ _ _ dX9_programLine_245 (by first | rfl | exact bI_n | decide) ((by
      rw [zb]
      first
        | exact ⟨bI_0 h241, t6, fun z => absurd z h241, (hF65.rs.tr g6.rs.1).tr (f6 h241).rs, ((hG65.ls.tr (LW.rf _).u47).tr g6.rs.2.ls).tr G6.ls, rfl⟩
        | exact ⟨bI_0 h221, t5, fun z => absurd z h221, (hF65.rs.tr g5.rs.1).tr (f5 h221).rs, ((hG65.ls.tr (LW.rf _).u47).tr g5.rs.2.ls).tr G5.ls, rfl⟩
        | exact ⟨bI_0 h196, t4, fun z => absurd z h196, (hF65.rs.tr g4.rs.1).tr (f4 h196).rs, ((hG65.ls.tr (LW.rf _).u47).tr g4.rs.2.ls).tr G4.ls, rfl⟩
        | exact ⟨bI_0 h177, t3, fun z => absurd z h177, (hF65.rs.tr g3.rs.1).tr (f3 h177).rs, ((hG65.ls.tr (LW.rf _).u47).tr g3.rs.2.ls).tr G3.ls, rfl⟩
        | exact ⟨bI_0 h150, t2, fun z => absurd z h150, (hF65.rs.tr g2.rs.1).tr (f2 h150).rs, ((hG65.ls.tr (LW.rf _).u47).tr g2.rs.2.ls).tr G2.ls, rfl⟩
        | exact ⟨bI_0 h132, t1, fun z => absurd z h132, (hF65.rs.tr g1.rs.1).tr (f1 h132).rs, ((hG65.ls.tr (LW.rf _).u47).tr g1.rs.2.ls).tr G1.ls, rfl⟩
        | exact ⟨bI_0 h113, t0, fun z => absurd z h113, (hF65.rs.tr g0.rs.1).tr (f0 h113).rs, ((hG65.ls.tr (LW.rf _).u47).tr g0.rs.2.ls).tr G0.ls, rfl⟩))
      · have hk1 : ¬ tK un len (tE un len p) = 1 := by omega
        refine z_aload_n C 34 0 1 dX9_programLine_34 rfl rfl ?_
        refine z_iconst (v := nI 1) C 35 dX9_programLine_35 (by decide) ?_
        refine z_cVi0 C 36 dX9_programLine_36 cv_X9_117 (c_X9_fails hR (show S18 40 0 14 = nI 0 from q1.1)) rfl ⟨by decide, rfl⟩ (by first | assumption | exact Nat.zero_lt_one | exact (show (15 : Nat) < 16 by decide) | exact Nat.lt_succ_of_lt (by assumption) | omega) rfl rfl (Nat.le_of_ble_eq_true rfl) ⟨by decide, by decide⟩ ⟨rfl, rfl⟩ ⟨by decide, by decide⟩ ?_
        intro r36 S36 L36 R36 p36
        obtain ⟨rfl, rfl, rfl, rfl⟩ := p36
        exact ret 39 _ _ _ _ _ dX9_programLine_39 (by first | rfl | exact bI_n | decide) ((by
      have e1 : yT un len (y0 (tE un len p)) 1 = (1, nI (tS un len (tE un len p)), tE un len p) := yT_e (q := y0 (tE un len p)) rfl hk1
      have e2 : (yProg un len D p).1 = (1, nI (tS un len (tE un len p)), tE un len p) := by
        rw [yProg_1 hk, yPq_n (fun z => absurd (yT_ok z).2.1 hk1), e1]
        exact yC_f (show ¬ (1 : Nat) = 0 by decide) 7
      rw [e2, ld.1]
      exact ⟨bI_0 (fun z => nomatch z), rFl_st (by decide) (by decide), fun z => (nomatch z), (F18.tr rFl_re).rs, G18.ls, rfl⟩))
