/-! THE STATEMENTS OF A TEXT -/
/-- what a text has told so far -/
def PD : Type := Nat × (Nat → List Nat) × NN × NN × Nat × Nat × Nat × Nat
def PD.k (D : PD) : Nat := D.1
def PD.nm (D : PD) : Nat → List Nat := D.2.1
def PD.T (D : PD) : NN := D.2.2.1
def PD.c (D : PD) : NN := D.2.2.2.1
def PD.pol (D : PD) : Nat := D.2.2.2.2.1
def PD.lim (D : PD) : Nat := D.2.2.2.2.2.1
def PD.dc (D : PD) : Nat := D.2.2.2.2.2.2.1
def PD.dp (D : PD) : Nat := D.2.2.2.2.2.2.2
abbrev yK (un : Nat → Nat) (len p i : Nat) : Prop := tK un len p = 1 ∧ wd un len p = kwr i
/-- an error, if there was none -/
def yE (q : mQ) (c : Nat) (a : Int32) : mQ := if ¬ q.1 = 0 then q else (c, a, q.2.2)
theorem yE_f {q : mQ} {c : Nat} {a : Int32} (h : ¬ q.1 = 0) : yE q c a = q := if_pos h
theorem yE_c {q : mQ} {c : Nat} {a : Int32} (h : q.1 = 0) : yE q c a = (c, a, q.2.2) := if_neg (fun z => z h)
theorem yE_0 {q : mQ} {c : Nat} {a : Int32} (hc : ¬ c = 0) : ¬ (yE q c a).1 = 0 := by
  by_cases h : q.1 = 0
  · rw [yE_c h]; exact hc
  · rw [yE_f h]; exact h
def nmW (nm : Nat → List Nat) (w : List Nat) (k : Nat) : Option Nat := nmU (fun j => lN (e32 (nm j))) (lN (e32 w)) k 0
def tW (un : Nat → Nat) (len p : Nat) : Nat := tV un len p % 10000
theorem tW_2 {un : Nat → Nat} {len p : Nat} (h : tK un len p = 2) : tW un len p = tV un len p := Nat.mod_eq_of_lt (tV_2 h).1
theorem tW_lt {un : Nat → Nat} {len p : Nat} : tW un len p < 10000 := Nat.mod_lt _ (by decide)
/-- the bounds of a program's numbers -/
def pLo (b w : Nat) : Nat := [1, 0, 0, b, 10, 1, 0].getD w 0
def pHi (b w : Nat) : Nat := [400, 200, 20, 999, 100, b, 9999].getD w 0
def yC (un : Nat → Nat) (len : Nat) (q : mQ) : Nat → mQ
  | 0 => q
  | w + 1 => yN un len (yC un len q w) (pLo (tW un len q.2.2) w) (pHi (tW un len q.2.2) w)
def yCc (un : Nat → Nat) (len : Nat) (q : mQ) : Nat → mQ
  | 0 => q
  | w + 1 => yN un len (yCc un len q w) 0 99
theorem yC_ok {un : Nat → Nat} {len : Nat} {q : mQ} {j : Nat} (h : (yC un len q (j + 1)).1 = 0) : (yC un len q j).1 = 0 := (yN_ok h).1
theorem yC_le {un : Nat → Nat} {len : Nat} {q : mQ} : ∀ {j w : Nat}, (yC un len q j).1 = 0 → w ≤ j → (yC un len q w).1 = 0
  | 0, w, h, hw => by rw [show w = 0 by omega]; exact h
  | j + 1, w, h, hw => by
    by_cases e : w = j + 1
    · rw [e]; exact h
    · exact yC_le (yC_ok h) (by omega)
theorem yCc_le {un : Nat → Nat} {len : Nat} {q : mQ} : ∀ {j w : Nat}, (yCc un len q j).1 = 0 → w ≤ j → (yCc un len q w).1 = 0
  | 0, w, h, hw => by rw [show w = 0 by omega]; exact h
  | j + 1, w, h, hw => by
    by_cases e : w = j + 1
    · rw [e]; exact h
    · exact yCc_le (yN_ok h).1 (by omega)
def y0 (p : Nat) : mQ := (0, -1, p)
/-- program -/
def yPq (un : Nat → Nat) (len : Nat) (D : PD) (p : Nat) : mQ :=
  match nmW D.nm (wd un len (tE un len p)) D.k with
  | none => yT un len (y0 (tE un len p)) 1
  | some _ => yE (yT un len (y0 (tE un len p)) 1) 2 (nI (tS un len (tE un len p)))
def yProg (un : Nat → Nat) (len : Nat) (D : PD) (p : Nat) : mQ × PD :=
  if 10 ≤ D.k then ((5, nI (tS un len p), tE un len p), D) else
  (yC un len (yPq un len D p) 7, (D.k + 1, (fun j => if j = D.k then wd un len (tE un len p) else D.nm j), (fun x => if x / 8 = D.k then (if x % 8 = 7 then nI 0 else nI (tW un len (yC un len (yPq un len D p) (x % 8)).2.2)) else D.T x), D.c, D.pol, D.lim, D.dc, D.dp))
/-- work -/
def yWork (un : Nat → Nat) (len : Nat) (D : PD) (p : Nat) : mQ × PD :=
  match nmW D.nm (wd un len (tE un len p)) D.k with
  | none => (yE (yT un len (y0 (tE un len p)) 1) 4 (nI (tS un len (tE un len p))), D)
  | some j =>
    let q := if D.T (8 * j + 7) = 0 then yT un len (y0 (tE un len p)) 1 else yE (yT un len (y0 (tE un len p)) 1) 2 (nI (tS un len (tE un len p)))
    (yN un len q 1 60, (D.k, D.nm, (fun x => if x = 8 * j + 7 then nI (tW un len q.2.2) else D.T x), D.c, D.pol, D.lim, D.dc, D.dp))
/-- costs, policy: once each -/
def yOn (un : Nat → Nat) (len p d : Nat) : mQ := if d = 0 then y0 (tE un len p) else (2, nI (tS un len p), tE un len p)
def yCost (un : Nat → Nat) (len : Nat) (D : PD) (p : Nat) : mQ × PD :=
  (yCc un len (yOn un len p D.dc) 4, (D.k, D.nm, D.T, (fun j => nI (tW un len (yCc un len (yOn un len p D.dc) j).2.2)), D.pol, D.lim, 1, D.dp))
def yPol (un : Nat → Nat) (len : Nat) (D : PD) (p : Nat) : mQ × PD :=
  let q := yT un len (yOn un len p D.dp) 1
  if yK un len (tE un len p) 5 then (q, (D.k, D.nm, D.T, D.c, 0, D.lim, D.dc, 1)) else if yK un len (tE un len p) 6 then (q, (D.k, D.nm, D.T, D.c, 1, D.lim, D.dc, 1))
  else if yK un len (tE un len p) 7 then (q, (D.k, D.nm, D.T, D.c, 2, D.lim, D.dc, 1)) else (yE q 1 (nI (tS un len (tE un len p))), (D.k, D.nm, D.T, D.c, D.pol, D.lim, D.dc, 1))
def yStm (un : Nat → Nat) (len : Nat) (D : PD) (p : Nat) : mQ × PD :=
  if yK un len p 1 then yProg un len D p else if yK un len p 2 then yWork un len D p else if yK un len p 3 then yCost un len D p
  else if yK un len p 4 then yPol un len D p else ((1, nI (tS un len p), tE un len p), D)
/-! the class's draft -/
def cD (S : mS) (L : mL) (e : Nat) (D : PD) : Prop := D.k ≤ 10 ∧ S 3 e 6 = nI D.k ∧ S 3 e 0 = nI D.lim ∧ S 3 e 1 = nI D.pol ∧ (∀ j, j < 4 → S 3 e (2 + j) = D.c j) ∧ (∀ j, j < D.k → L 4 e j = lN (e32 (D.nm j))) ∧ (∀ j w, j < D.k → w < 8 → S 6 (10 * e + j) w = D.T (8 * j + w)) ∧ S 1 0 10 = nI D.dc ∧ S 1 0 11 = nI D.dp ∧ D.dc ≤ 1 ∧ D.dp ≤ 1
def PFs (e : Nat) (S S2 : mS) : Prop := (∀ k i, k ≠ 1 → ¬ (k = 3 ∧ i = e) → ¬ (k = 6 ∧ 10 * e ≤ i ∧ i < 10 * e + 10) → S2 k i = S k i) ∧ ∀ j, j = 1 ∨ j = 2 → S2 1 0 j = S 1 0 j
def PFl (e : Nat) (L L2 : mL) : Prop := ∀ k i, k ≠ 1 → ¬ (k = 4 ∧ i = e) → L2 k i = L k i
theorem PFs.rf (e : Nat) (S : mS) : PFs e S S := ⟨fun _ _ _ _ _ => rfl, fun _ _ => rfl⟩
theorem PFs.tr {e : Nat} {S S2 S3 : mS} (h : PFs e S S2) (h2 : PFs e S2 S3) : PFs e S S3 := ⟨fun k i a b c => (h2.1 k i a b c).trans (h.1 k i a b c), fun j hj => (h2.2 j hj).trans (h.2 j hj)⟩
theorem PFl.rf (e : Nat) (L : mL) : PFl e L L := fun _ _ _ _ => rfl
theorem PFl.tr {e : Nat} {L L2 L3 : mL} (h : PFl e L L2) (h2 : PFl e L2 L3) : PFl e L L3 := fun k i a b => (h2 k i a b).trans (h k i a b)
theorem RFr.pf {S S2 : mS} {e : Nat} (h : RFr S S2) : PFs e S S2 := ⟨fun k i a _ _ => h.1 k i a, fun j hj => h.2 j (by omega)⟩
theorem LFr.pf {L L2 : mL} {e : Nat} (h : LFr L L2) : PFl e L L2 := fun k i a _ => h k i a
theorem PFs.u3 {S S2 : mS} {e : Nat} (h : PFs e S S2) {j : Nat} {v : Int32} : PFs e S (up3 S2 3 e j v) := ⟨fun k i a b c => by
    rw [← h.1 k i a b c]
    by_cases z : k = 3
    · subst z
      rw [up3_i _ (fun y => b ⟨rfl, y⟩)]
    · rw [up3_k _ z], fun j' hj => by rw [up3_k _ (by omega)]; exact h.2 j' hj⟩
theorem PFs.u6 {S S2 : mS} {e : Nat} (h : PFs e S S2) {k j : Nat} {v : Int32} (hk : k < 10) : PFs e S (up3 S2 6 (10 * e + k) j v) := ⟨fun kk i a b c => by
    rw [← h.1 kk i a b c]
    by_cases z : kk = 6
    · subst z
      rw [up3_i _ (fun y => c ⟨rfl, by omega⟩)]
    · rw [up3_k _ z], fun j' hj => by rw [up3_k _ (by omega)]; exact h.2 j' hj⟩
theorem PFs.u1 {S S2 : mS} {e : Nat} (h : PFs e S S2) {j : Nat} {v : Int32} (hj : 3 ≤ j) : PFs e S (up3 S2 1 0 j v) := ⟨fun kk i a b c => by rw [up3_k _ a]; exact h.1 kk i a b c, fun j' hj' => by rw [up3_j _ (by omega)]; exact h.2 j' hj'⟩
theorem PFl.u4 {L L2 : mL} {e : Nat} (h : PFl e L L2) {j : Nat} {v : Int64} : PFl e L (up3 L2 4 e j v) := fun k i a b => by
  rw [← h k i a b]
  by_cases z : k = 4
  · subst z
    rw [up3_i _ (fun y => b ⟨rfl, y⟩)]
  · rw [up3_k _ z]
theorem cB.pf {S S2 : mS} {un : Nat → Nat} {len f e : Nat} (h : cB S un len f) (hF : PFs e S S2) : cB S2 un len f := ⟨h.1.off (hF.2 1 (by omega)) (hF.1 2 0 (by omega) (by omega) (by omega)), (hF.2 2 (by omega)).trans h.2.1, h.2.2⟩
theorem cSt.k {S : mS} {len : Nat} {q : mQ} (h : cSt S len q) {S2 : mS} (e : ∀ j, j = 3 ∨ j = 8 ∨ j = 9 → S2 1 0 j = S 1 0 j) : cSt S2 len q := ⟨(e 8 (by omega)).trans h.1, h.2.1, (e 9 (by omega)).trans h.2.2.1, h.2.2.2.1, fun z => (e 3 (by omega)).trans (h.2.2.2.2 z)⟩
theorem cSt.u {S : mS} {len : Nat} {q : mQ} (h : cSt S len q) {k i j : Nat} {v : Int32} (hk : k ≠ 1) : cSt (up3 S k i j v) len q := h.k (fun j' _ => by rw [up3_k _ (fun z => hk z.symm)])
theorem cD.fr {S S2 : mS} {L L2 : mL} {e : Nat} {D : PD} (h : cD S L e D) (hF : RFr S S2) (hG : LFr L L2) : cD S2 L2 e D := by
  obtain ⟨a, b, c, d, f, g, i, j, k, l⟩ := h
  exact ⟨a, by rw [hF.1 3 e (by omega)]; exact b, by rw [hF.1 3 e (by omega)]; exact c, by rw [hF.1 3 e (by omega)]; exact d, fun w hw => by rw [hF.1 3 e (by omega)]; exact f w hw, fun w hw => by rw [hG 4 e (by omega)]; exact g w hw, fun w x hw hx => by rw [hF.1 6 _ (by omega)]; exact i w x hw hx, (hF.2 10 (by omega)).trans j, (hF.2 11 (by omega)).trans k, l⟩
theorem cD.u1 {S : mS} {L : mL} {e : Nat} {D : PD} (h : cD S L e D) {j : Nat} {v : Int32} (hj : j ≠ 10 ∧ j ≠ 11) : cD (up3 S 1 0 j v) L e D := by
  obtain ⟨a, b, c, d, f, g, i, j', k, l⟩ := h
  exact ⟨a, by rw [up3_k _ (by omega)]; exact b, by rw [up3_k _ (by omega)]; exact c, by rw [up3_k _ (by omega)]; exact d, fun w hw => by rw [up3_k _ (by omega)]; exact f w hw, g, fun w x hw hx => by rw [up3_k _ (by omega)]; exact i w x hw hx, by rw [up3_j _ (by omega)]; exact j', by rw [up3_j _ (by omega)]; exact k, l⟩
/-- the class finds a name where the text told it -/
theorem cD.nm {S : mS} {L : mL} {e : Nat} {D : PD} (h : cD S L e D) {L2 : mL} (hG : LFr L L2) {x : Int64} {w : List Nat} (hx : x = lN (e32 w)) : nmU (L2 4 e) x D.k 0 = nmW D.nm w D.k := nmU_cong (fun j _ hj => by rw [hG 4 e (by omega), hx, h.2.2.2.2.2.1 j (by omega)])

/-- program's numbers, j of them read -/
def PG (S : mS) (L : mL) (un : Nat → Nat) (len r : Nat) (q : mQ) (j : Nat) (M : mS) (L1 : mL) : Prop :=
  cSt M len (yC un len q j) ∧ ((yC un len q j).1 = 0 → ∀ w, w < j → M 6 r w = nI (tW un len (yC un len q w).2.2)) ∧ (∀ i, i ≠ r → M 6 i = S 6 i) ∧ (∀ kk i, kk ≠ 1 → kk ≠ 6 → M kk i = S kk i) ∧ (∀ j, j = 1 ∨ j = 2 ∨ 10 ≤ j → M 1 0 j = S 1 0 j) ∧ (∀ kk i, kk ≠ 1 → L1 kk i = L kk i)
theorem PG.z {M : mS} {L1 : mL} {un : Nat → Nat} {len r : Nat} {q : mQ} (h : cSt M len q) : PG M L1 un len r q 0 M L1 :=
  ⟨h, fun _ w hw => absurd hw (Nat.not_lt_zero _), fun _ _ => rfl, fun _ _ _ _ => rfl, fun _ _ => rfl, fun _ _ _ => rfl⟩
theorem PG.nx {S : mS} {L : mL} {un : Nat → Nat} {len r : Nat} {q : mQ} {j : Nat} {M M1 : mS} {L1 L2 : mL} {v : Int32} (h : PG S L un len r q j M L1) (hS : cSt M1 len (yC un len q (j + 1))) (hF : RFr M M1) (hG : LFr L1 L2) (hv : (yC un len q (j + 1)).1 = 0 → v = nI (tV un len (yC un len q j).2.2)) : PG S L un len r q (j + 1) (up3 M1 6 r j v) L2 := by
  obtain ⟨a, b, c, d, e, f⟩ := h
  refine ⟨hS.u (by omega), fun z w hw => ?_, fun i hi => ?_, fun kk i h1 h8 => ?_, fun j' hj => ?_, fun kk i h1 => (hG kk i h1).trans (f kk i h1)⟩
  · rw [up3_at]
    by_cases e' : w = j
    · rw [if_pos ⟨rfl, rfl, e'⟩, hv z, e', tW_2 (yN_ok z).2.1]
    · rw [if_neg (by omega), hF.1 6 _ (by omega)]
      exact b (yC_ok z) w (by omega)
  · rw [up3_i _ hi, hF.1 6 i (by omega)]
    exact c i hi
  · rw [up3_k _ h8, hF.1 kk i h1]
    exact d kk i h1 h8
  · rw [up3_k _ (by omega), hF.2 j' (by omega)]
    exact e j' hj
theorem PG.B {S : mS} {L : mL} {un : Nat → Nat} {len r f : Nat} {q : mQ} {j : Nat} {M : mS} {L1 : mL} (h : PG S L un len r q j M L1) (hB : cB S un len f) : cB M un len f :=
  ⟨hB.1.off (h.2.2.2.2.1 1 (by omega)) (h.2.2.2.1 2 0 (by omega) (by omega)), (h.2.2.2.2.1 2 (by omega)).trans hB.2.1, hB.2.2⟩
theorem PG.lo {S : mS} {L : mL} {un : Nat → Nat} {len r : Nat} {q : mQ} {j : Nat} {M : mS} {L1 : mL} (h : PG S L un len r q j M L1) (hj : 0 < j) (z : (yC un len q j).1 = 0) : M 6 r 0 = nI (tW un len q.2.2) := h.2.1 z 0 hj
theorem prog_end {S M : mS} {L L1 : mL} {un : Nat → Nat} {len e p : Nat} {D : PD} {S0 : mS} {L0 : mL} (hD : cD S0 L0 e D) (hk : D.k < 10) (hF : RFr S0 S) (hG : LFr L0 L) {x : Int64} (hx : (yPq un len D p).1 = 0 → x = lN (e32 (wd un len (tE un len p)))) (h : PG S (up3 L 4 e D.k x) un len (10 * e + D.k) (yPq un len D p) 7 M L1) :
    cSt (up3 (up3 M 6 (10 * e + D.k) 7 (nI 0)) 3 e 6 (nI (D.k + 1))) len (yProg un len D p).1 ∧ ((yProg un len D p).1.1 = 0 → cD (up3 (up3 M 6 (10 * e + D.k) 7 (nI 0)) 3 e 6 (nI (D.k + 1))) L1 e (yProg un len D p).2) ∧ PFs e S0 (up3 (up3 M 6 (10 * e + D.k) 7 (nI 0)) 3 e 6 (nI (D.k + 1))) ∧ PFl e L0 L1 := by
  obtain ⟨a, b, c, d, f, g⟩ := h
  have hy : yProg un len D p = (yC un len (yPq un len D p) 7, (D.k + 1, (fun j => if j = D.k then wd un len (tE un len p) else D.nm j), (fun x => if x / 8 = D.k then (if x % 8 = 7 then nI 0 else nI (tW un len (yC un len (yPq un len D p) (x % 8)).2.2)) else D.T x), D.c, D.pol, D.lim, D.dc, D.dp)) := if_neg (by omega)
  rw [hy]
  refine ⟨(a.u (by omega)).u (by omega), fun z => ?_, (PFs.u3 (PFs.u6 ⟨fun kk i h1 h3 h8 => ?_, fun j hj => (f j (by omega)).trans (hF.2 j (by omega))⟩ hk)), fun kk i h1 h4 => ?_⟩
  · obtain ⟨d1, d2, d3, d4, d5, d6, d7, d8, d9, d10⟩ := hD
    have e3 : ∀ w, M 3 e w = S0 3 e w := fun w => by rw [d 3 e (by omega) (by omega), hF.1 3 e (by omega)]
    refine ⟨show D.k + 1 ≤ 10 by omega, up3_s _ _ _ _ _, by rw [up3_j _ (by omega), up3_k _ (by omega), e3]; exact d3, by rw [up3_j _ (by omega), up3_k _ (by omega), e3]; exact d4, fun w hw => by rw [up3_j _ (by omega), up3_k _ (by omega), e3]; exact d5 w hw, fun w hw => ?_, fun w x hw hx8 => ?_, ?_, ?_, d10⟩
    · show _ = lN (e32 (if w = D.k then _ else _))
      rw [g 4 e (by omega), up3_at]
      by_cases e' : w = D.k
      · rw [if_pos ⟨rfl, rfl, e'⟩, if_pos e', hx (yC_le z (Nat.zero_le _))]
      · rw [if_neg (fun y => e' y.2.2), if_neg e', hG 4 e (by omega)]
        exact d6 w (by have : w < D.k + 1 := hw; omega)
    · show _ = (if (8 * w + x) / 8 = D.k then (if (8 * w + x) % 8 = 7 then nI 0 else _) else D.T (8 * w + x))
      rw [show (8 * w + x) / 8 = w by omega, show (8 * w + x) % 8 = x by omega, up3_k _ (by omega), up3_at]
      by_cases e' : w = D.k
      · subst e'
        rw [if_pos rfl]
        by_cases e7 : x = 7
        · rw [if_pos ⟨rfl, rfl, e7⟩, if_pos e7]
        · rw [if_neg (fun y => e7 y.2.2), if_neg e7]
          exact b z x (by omega)
      · have hw' : w < D.k := by have : w < D.k + 1 := hw; omega
        rw [if_neg (by omega), if_neg e', c _ (by omega), hF.1 6 _ (by omega)]
        exact d7 w x hw' hx8
    · rw [up3_k _ (by omega), up3_k _ (by omega), f 10 (by omega), hF.2 10 (by omega)]; exact d8
    · rw [up3_k _ (by omega), up3_k _ (by omega), f 11 (by omega), hF.2 11 (by omega)]; exact d9
  · by_cases e6 : kk = 6
    · subst e6
      rw [c i (by omega), hF.1 6 i (by omega)]
    · rw [d kk i h1 e6, hF.1 kk i h1]
  · rw [g kk i h1]
    by_cases e4 : kk = 4
    · subst e4
      rw [up3_i _ (fun y => h4 ⟨rfl, y⟩), hG 4 i (by omega)]
    · rw [up3_k _ e4, hG kk i h1]

theorem oI_f {o : Option Nat} {n : Nat} (hn : n < 2 ^ 31) (h : ∀ p, o = some p → p < n) (e : oI o = -1) : o = none := by
  cases o with
  | none => rfl
  | some p => exact absurd e (nI_m1 (by have := h p rfl; omega))
theorem oI_s {o : Option Nat} (e : ¬ oI o = -1) : ∃ p, o = some p := by
  cases o with
  | none => exact absurd rfl e
  | some p => exact ⟨p, rfl⟩
theorem yPq_n {un : Nat → Nat} {len p : Nat} {D : PD} (h : (yT un len (y0 (tE un len p)) 1).1 = 0 → nmW D.nm (wd un len (tE un len p)) D.k = none) : yPq un len D p = yT un len (y0 (tE un len p)) 1 := by
  unfold yPq
  split
  · rfl
  · rename_i j hj
    by_cases z : (yT un len (y0 (tE un len p)) 1).1 = 0
    · rw [h z] at hj
      cases hj
    · exact yE_f z
theorem yPq_s {un : Nat → Nat} {len p j : Nat} {D : PD} (h : nmW D.nm (wd un len (tE un len p)) D.k = some j) : yPq un len D p = yE (yT un len (y0 (tE un len p)) 1) 2 (nI (tS un len (tE un len p))) := by
  unfold yPq
  rw [h]
theorem cSt.tk {S : mS} {L : mL} {un : Nat → Nat} {len w : Nat} {q : mQ} (h : cSt S len (yT un len q w)) (hL : (yT un len q w).1 = 0 → cLd S L un len q.2.2) {c : Nat} (hc : c ≤ 5) (hc0 : ¬ c = 0) : cSt (kF S (nI c)) len (yE (yT un len q w) c (nI (tS un len q.2.2))) := by
  obtain ⟨a, b, d, e, f⟩ := h
  by_cases z : (yT un len q w).1 = 0
  · rw [yE_c z, kF_c (by rw [a, z]; rfl)]
    exact ⟨(up3_j _ (by omega)).trans (up3_s _ _ _ _ _), hc, (up3_s _ _ _ _ _).trans (hL z).2.1, e, fun y => absurd y hc0⟩
  · rw [yE_f z, kF_f (by rw [a, nI_00 (by omega)]; exact z)]
    exact ⟨a, b, d, e, f⟩
theorem prog_n {S : mS} {L : mL} {un : Nat → Nat} {len p e : Nat} {D : PD} {S0 : mS} {L0 : mL} (hD : cD S0 L0 e D) (hG : LFr L0 L) (h : cSt S len (yT un len (y0 (tE un len p)) 1)) (hL : (yT un len (y0 (tE un len p)) 1).1 = 0 → cLd S L un len (tE un len p)) (hx : oI (nmU (L 4 e) (L 1 0 6) D.k 0) = -1) : cSt S len (yPq un len D p) ∧ ((yPq un len D p).1 = 0 → L 1 0 6 = lN (e32 (wd un len (tE un len p)))) := by
  have hw : (yT un len (y0 (tE un len p)) 1).1 = 0 → L 1 0 6 = lN (e32 (wd un len (tE un len p))) := fun z => by
    have t := (hL z).2.2.2.2
    rw [if_pos (show tK un len (tE un len p) = 1 from (yT_ok z).2.1)] at t
    exact t
  rw [yPq_n (fun z => by rw [← hD.nm hG (hw z)]; exact oI_f (n := D.k) (by have := hD.1; omega) (fun q hq => by have := (nmU_lt hq).2.1; omega) hx)]
  exact ⟨h, hw⟩
theorem prog_s {S : mS} {L : mL} {un : Nat → Nat} {len p e : Nat} {D : PD} {S0 : mS} {L0 : mL} (hD : cD S0 L0 e D) (hG : LFr L0 L) (h : cSt S len (yT un len (y0 (tE un len p)) 1)) (hL : (yT un len (y0 (tE un len p)) 1).1 = 0 → cLd S L un len (tE un len p)) (hx : ¬ oI (nmU (L 4 e) (L 1 0 6) D.k 0) = -1) : cSt (kF S (nI 2)) len (yPq un len D p) ∧ ((yPq un len D p).1 = 0 → L 1 0 6 = lN (e32 (wd un len (tE un len p)))) := by
  by_cases z : (yT un len (y0 (tE un len p)) 1).1 = 0
  · have t := (hL z).2.2.2.2
    rw [if_pos (show tK un len (tE un len p) = 1 from (yT_ok z).2.1)] at t
    obtain ⟨j, hj⟩ := oI_s hx
    rw [hD.nm hG t] at hj
    rw [yPq_s hj]
    exact ⟨h.tk (q := y0 (tE un len p)) hL (by decide) (by decide), fun _ => t⟩
  · have e1 : yPq un len D p = yT un len (y0 (tE un len p)) 1 := yPq_n (fun y => absurd y z)
    rw [e1, kF_f (by rw [h.1, nI_00 (by have := h.2.1; omega)]; exact z)]
    exact ⟨h, fun y => absurd y z⟩
theorem kF_1 {S : mS} {L : mL} {un : Nat → Nat} {len p : Nat} (h : cSt S len (y0 (tE un len p))) (hL : cLd S L un len p) {c : Nat} (hc : c ≤ 5) (hc0 : ¬ c = 0) : cSt (kF S (nI c)) len (c, nI (tS un len p), tE un len p) := by
  obtain ⟨a, b, d, e, f⟩ := h
  rw [kF_c a]
  exact ⟨(up3_j _ (by omega)).trans (up3_s _ _ _ _ _), hc, (up3_s _ _ _ _ _).trans hL.2.1, e, fun y => absurd y hc0⟩

def rm_X5_readProgram : Room := { frames := 4, cells := 0, slots := 0, locals := 87 }
set_option maxHeartbeats 4000000 in
set_option maxRecDepth 100000 in
theorem c_X5_readProgram {l : Launch} {G : mG} {ad : mA} {S : mS} {L : mL} {R : mR} {un : Nat → Nat} {len f p e : Nat} {D : PD} (hR : mlk R) (hB : cB S un len f) (hq : cSt S len (y0 (tE un len p))) (hL : cLd S L un len p) (hD : cD S L e D) (he : e < 2) : Kv l yX5_readProgram cX5_readProgram 4 rm_X5_readProgram G ad mdm [.ref (ad 1 0), .ref (ad 3 e)] S L R (fun S2 L2 R2 => cSt S2 len (yProg un len D p).1 ∧ ((yProg un len D p).1.1 = 0 → cD S2 L2 e (yProg un len D p).2) ∧ PFs e S S2 ∧ PFl e L L2 ∧ R = R2) := by
  refine Kv.of RX5 (by decide) rfl (Nat.le_of_ble_eq_true rfl) ?_
  intro X hXl hXG C ret
  subst hXl; subst hXG
  change Z X 4 ad mdm S L R 0 0 0 [(0, _), (1, _)] []
  have hk10 := hD.1
  have join_39 : ∀ (M : mS) (L1 : mL), D.k < 10 → cSt M len (yPq un len D p) → RFr S M → LFr L L1 → ((yPq un len D p).1 = 0 → L1 1 0 6 = lN (e32 (wd un len (tE un len p)))) → Z X 4 ad mdm M L1 R 0 0 39 [(2, .int (nI D.k)), (0, .ref (ad 1 0)), (1, .ref (ad 3 e))] [] := by
    intro M L1 hk mq mF mG mw
    have hdm : mdm 6 (10 * e + D.k) := show 10 * e + D.k < 30 by omega
    have mB := hB.fr mF
    have g0 := PG.z (un := un) (r := 10 * e + D.k) (L1 := up3 L1 4 e D.k (L1 1 0 6)) mq
    refine z_aload_n C 39 1 2 dX5_readProgram_39 rfl rfl ?_
    refine z_getr C 40 dX5_readProgram_40 gf_X5_110 rfl (by first | assumption | exact Nat.zero_lt_one | exact (show (15 : Nat) < 16 by decide) | exact Nat.lt_succ_of_lt (by assumption) | omega) (by first | exact hR _ _ _ _ rfl | exact hR2 _ _ _ _ rfl | assumption) ?_
    refine z_iload_n C 43 2 0 dX5_readProgram_43 rfl rfl ?_
    refine z_aload_n C 44 0 1 dX5_readProgram_44 rfl rfl ?_
    refine z_getl C 45 dX5_readProgram_45 gf_X5_102 rfl (by first | assumption | exact Nat.zero_lt_one | exact (show (15 : Nat) < 16 by decide) | exact Nat.lt_succ_of_lt (by assumption) | omega) ?_
    refine z_last C 48 dX5_readProgram_48 (by first | rfl | assumption) (by first | assumption | exact Nat.zero_lt_one | exact (show (15 : Nat) < 16 by decide) | exact Nat.lt_succ_of_lt (by assumption) | omega)  (by first | rfl | assumption) (by first | decide | omega) (by first | assumption | omega) ?_
    refine z_aload_n C 49 1 2 dX5_readProgram_49 rfl rfl ?_
    refine z_getr C 50 dX5_readProgram_50 gf_X5_114 rfl (by first | assumption | exact Nat.zero_lt_one | exact (show (15 : Nat) < 16 by decide) | exact Nat.lt_succ_of_lt (by assumption) | omega) (by first | exact hR _ _ _ _ rfl | exact hR2 _ _ _ _ rfl | assumption) ?_
    refine z_iload_n C 53 2 0 dX5_readProgram_53 rfl rfl ?_
    refine z_aald4 C 54 dX5_readProgram_54 rfl (by first | assumption | exact Nat.zero_lt_one | exact (show (15 : Nat) < 16 by decide) | exact Nat.lt_succ_of_lt (by assumption) | omega) (by first | rfl | assumption) (by decide) (by first | assumption | omega) (by first | exact hR _ _ _ _ rfl | exact hR2 _ _ _ _ rfl | assumption) ?_
    refine z_astore_n C 55 3 [(3, _), (2, _), (0, _), (1, _)] dX5_readProgram_55 rfl (by decide) rfl ?_
    refine z_aload_n C 56 3 0 dX5_readProgram_56 rfl rfl ?_
    refine z_iconst (v := nI 0) C 57 dX5_readProgram_57 (by decide) ?_
    refine z_aload_n C 58 0 2 dX5_readProgram_58 rfl rfl ?_
    refine z_iconst (v := nI 1) C 59 dX5_readProgram_59 (by decide) ?_
    refine z_sipush (v := nI 400) C 60 dX5_readProgram_60 (by decide +kernel) ?_
    refine z_cVi0 C 63 dX5_readProgram_63 cv_X5_66 (c_X5_takeNumber (un := un) (f := f) (q := yC un len (yPq un len D p) 0) (a := 1) (b := 400) hR (g0.B mB) g0.1 (fun _ => ⟨rfl, rfl⟩) (by decide) (by decide)) rfl ⟨by decide, rfl⟩ (by first | assumption | exact Nat.zero_lt_one | exact (show (15 : Nat) < 16 by decide) | exact Nat.lt_succ_of_lt (by assumption) | omega) rfl rfl (Nat.le_of_ble_eq_true rfl) ⟨by decide, by decide⟩ ⟨rfl, rfl⟩ ⟨by decide, by decide⟩ ?_
    intro r63 S63 L63 R63 p63
    obtain ⟨t0, F0, G0, rfl, v0⟩ := p63
    refine z_iast C 66 dX5_readProgram_66 (by first | rfl | assumption) (by first | assumption | exact Nat.zero_lt_one | exact (show (15 : Nat) < 16 by decide) | exact Nat.lt_succ_of_lt (by assumption) | omega)  (by first | rfl | assumption) (by first | decide | omega) (by first | assumption | omega) ?_
    have g1 := g0.nx t0 F0 G0 v0
    refine z_aload_n C 67 3 0 dX5_readProgram_67 rfl rfl ?_
    refine z_iconst (v := nI 1) C 68 dX5_readProgram_68 (by decide) ?_
    refine z_aload_n C 69 0 2 dX5_readProgram_69 rfl rfl ?_
    refine z_iconst (v := nI 0) C 70 dX5_readProgram_70 (by decide) ?_
    refine z_sipush (v := nI 200) C 71 dX5_readProgram_71 (by decide +kernel) ?_
    refine z_cVi0 C 74 dX5_readProgram_74 cv_X5_66 (c_X5_takeNumber (un := un) (f := f) (q := yC un len (yPq un len D p) 1) (a := 0) (b := 200) hR (g1.B mB) g1.1 (fun _ => ⟨rfl, rfl⟩) (by decide) (by decide)) rfl ⟨by decide, rfl⟩ (by first | assumption | exact Nat.zero_lt_one | exact (show (15 : Nat) < 16 by decide) | exact Nat.lt_succ_of_lt (by assumption) | omega) rfl rfl (Nat.le_of_ble_eq_true rfl) ⟨by decide, by decide⟩ ⟨rfl, rfl⟩ ⟨by decide, by decide⟩ ?_
    intro r74 S74 L74 R74 p74
    obtain ⟨t1, F1, G1, rfl, v1⟩ := p74
    refine z_iast C 77 dX5_readProgram_77 (by first | rfl | assumption) (by first | assumption | exact Nat.zero_lt_one | exact (show (15 : Nat) < 16 by decide) | exact Nat.lt_succ_of_lt (by assumption) | omega)  (by first | rfl | assumption) (by first | decide | omega) (by first | assumption | omega) ?_
    have g2 := g1.nx t1 F1 G1 v1
    refine z_aload_n C 78 3 0 dX5_readProgram_78 rfl rfl ?_
    refine z_iconst (v := nI 2) C 79 dX5_readProgram_79 (by decide) ?_
    refine z_aload_n C 80 0 2 dX5_readProgram_80 rfl rfl ?_
    refine z_iconst (v := nI 0) C 81 dX5_readProgram_81 (by decide) ?_
    refine z_bipush (v := nI 20) C 82 dX5_readProgram_82 (by decide +kernel) ?_
    refine z_cVi0 C 84 dX5_readProgram_84 cv_X5_66 (c_X5_takeNumber (un := un) (f := f) (q := yC un len (yPq un len D p) 2) (a := 0) (b := 20) hR (g2.B mB) g2.1 (fun _ => ⟨rfl, rfl⟩) (by decide) (by decide)) rfl ⟨by decide, rfl⟩ (by first | assumption | exact Nat.zero_lt_one | exact (show (15 : Nat) < 16 by decide) | exact Nat.lt_succ_of_lt (by assumption) | omega) rfl rfl (Nat.le_of_ble_eq_true rfl) ⟨by decide, by decide⟩ ⟨rfl, rfl⟩ ⟨by decide, by decide⟩ ?_
    intro r84 S84 L84 R84 p84
    obtain ⟨t2, F2, G2, rfl, v2⟩ := p84
    refine z_iast C 87 dX5_readProgram_87 (by first | rfl | assumption) (by first | assumption | exact Nat.zero_lt_one | exact (show (15 : Nat) < 16 by decide) | exact Nat.lt_succ_of_lt (by assumption) | omega)  (by first | rfl | assumption) (by first | decide | omega) (by first | assumption | omega) ?_
    have g3 := g2.nx t2 F2 G2 v2
    refine z_aload_n C 88 3 0 dX5_readProgram_88 rfl rfl ?_
    refine z_iconst (v := nI 3) C 89 dX5_readProgram_89 (by decide) ?_
    refine z_aload_n C 90 0 2 dX5_readProgram_90 rfl rfl ?_
    refine z_aload_n C 91 3 0 dX5_readProgram_91 rfl rfl ?_
    refine z_iconst (v := nI 0) C 92 dX5_readProgram_92 (by decide) ?_
    refine z_iald C 93 dX5_readProgram_93 (by first | rfl | assumption) (by first | assumption | exact Nat.zero_lt_one | exact (show (15 : Nat) < 16 by decide) | exact Nat.lt_succ_of_lt (by assumption) | omega) (by first | rfl | assumption) (by first | decide | omega) (by first | assumption | omega) ?_
    refine z_sipush (v := nI 999) C 94 dX5_readProgram_94 (by decide +kernel) ?_
    refine z_cVi0 C 97 dX5_readProgram_97 cv_X5_66 (c_X5_takeNumber (un := un) (f := f) (q := yC un len (yPq un len D p) 3) (a := tW un len (yPq un len D p).2.2) (b := 999) hR (g3.B mB) g3.1 (fun z => ⟨g3.lo (by omega) z, rfl⟩) (by have := @tW_lt un len (yPq un len D p).2.2; omega) (by decide)) rfl ⟨by decide, rfl⟩ (by first | assumption | exact Nat.zero_lt_one | exact (show (15 : Nat) < 16 by decide) | exact Nat.lt_succ_of_lt (by assumption) | omega) rfl rfl (Nat.le_of_ble_eq_true rfl) ⟨by decide, by decide⟩ ⟨rfl, rfl⟩ ⟨by decide, by decide⟩ ?_
    intro r97 S97 L97 R97 p97
    obtain ⟨t3, F3, G3, rfl, v3⟩ := p97
    refine z_iast C 100 dX5_readProgram_100 (by first | rfl | assumption) (by first | assumption | exact Nat.zero_lt_one | exact (show (15 : Nat) < 16 by decide) | exact Nat.lt_succ_of_lt (by assumption) | omega)  (by first | rfl | assumption) (by first | decide | omega) (by first | assumption | omega) ?_
    have g4 := g3.nx t3 F3 G3 v3
    refine z_aload_n C 101 3 0 dX5_readProgram_101 rfl rfl ?_
    refine z_iconst (v := nI 4) C 102 dX5_readProgram_102 (by decide) ?_
    refine z_aload_n C 103 0 2 dX5_readProgram_103 rfl rfl ?_
    refine z_bipush (v := nI 10) C 104 dX5_readProgram_104 (by decide +kernel) ?_
    refine z_bipush (v := nI 100) C 106 dX5_readProgram_106 (by decide +kernel) ?_
    refine z_cVi0 C 108 dX5_readProgram_108 cv_X5_66 (c_X5_takeNumber (un := un) (f := f) (q := yC un len (yPq un len D p) 4) (a := 10) (b := 100) hR (g4.B mB) g4.1 (fun _ => ⟨rfl, rfl⟩) (by decide) (by decide)) rfl ⟨by decide, rfl⟩ (by first | assumption | exact Nat.zero_lt_one | exact (show (15 : Nat) < 16 by decide) | exact Nat.lt_succ_of_lt (by assumption) | omega) rfl rfl (Nat.le_of_ble_eq_true rfl) ⟨by decide, by decide⟩ ⟨rfl, rfl⟩ ⟨by decide, by decide⟩ ?_
    intro r108 S108 L108 R108 p108
    obtain ⟨t4, F4, G4, rfl, v4⟩ := p108
    refine z_iast C 111 dX5_readProgram_111 (by first | rfl | assumption) (by first | assumption | exact Nat.zero_lt_one | exact (show (15 : Nat) < 16 by decide) | exact Nat.lt_succ_of_lt (by assumption) | omega)  (by first | rfl | assumption) (by first | decide | omega) (by first | assumption | omega) ?_
    have g5 := g4.nx t4 F4 G4 v4
    refine z_aload_n C 112 3 0 dX5_readProgram_112 rfl rfl ?_
    refine z_iconst (v := nI 5) C 113 dX5_readProgram_113 (by decide) ?_
    refine z_aload_n C 114 0 2 dX5_readProgram_114 rfl rfl ?_
    refine z_iconst (v := nI 1) C 115 dX5_readProgram_115 (by decide) ?_
    refine z_aload_n C 116 3 0 dX5_readProgram_116 rfl rfl ?_
    refine z_iconst (v := nI 0) C 117 dX5_readProgram_117 (by decide) ?_
    refine z_iald C 118 dX5_readProgram_118 (by first | rfl | assumption) (by first | assumption | exact Nat.zero_lt_one | exact (show (15 : Nat) < 16 by decide) | exact Nat.lt_succ_of_lt (by assumption) | omega) (by first | rfl | assumption) (by first | decide | omega) (by first | assumption | omega) ?_
    refine z_cVi0 C 119 dX5_readProgram_119 cv_X5_66 (c_X5_takeNumber (un := un) (f := f) (q := yC un len (yPq un len D p) 5) (a := 1) (b := tW un len (yPq un len D p).2.2) hR (g5.B mB) g5.1 (fun z => ⟨rfl, g5.lo (by omega) z⟩) (by decide) (by have := @tW_lt un len (yPq un len D p).2.2; omega)) rfl ⟨by decide, rfl⟩ (by first | assumption | exact Nat.zero_lt_one | exact (show (15 : Nat) < 16 by decide) | exact Nat.lt_succ_of_lt (by assumption) | omega) rfl rfl (Nat.le_of_ble_eq_true rfl) ⟨by decide, by decide⟩ ⟨rfl, rfl⟩ ⟨by decide, by decide⟩ ?_
    intro r119 S119 L119 R119 p119
    obtain ⟨t5, F5, G5, rfl, v5⟩ := p119
    refine z_iast C 122 dX5_readProgram_122 (by first | rfl | assumption) (by first | assumption | exact Nat.zero_lt_one | exact (show (15 : Nat) < 16 by decide) | exact Nat.lt_succ_of_lt (by assumption) | omega)  (by first | rfl | assumption) (by first | decide | omega) (by first | assumption | omega) ?_
    have g6 := g5.nx t5 F5 G5 v5
    refine z_aload_n C 123 3 0 dX5_readProgram_123 rfl rfl ?_
    refine z_bipush (v := nI 6) C 124 dX5_readProgram_124 (by decide +kernel) ?_
    refine z_aload_n C 126 0 2 dX5_readProgram_126 rfl rfl ?_
    refine z_iconst (v := nI 0) C 127 dX5_readProgram_127 (by decide) ?_
    refine z_sipush (v := nI 9999) C 128 dX5_readProgram_128 (by decide +kernel) ?_
    refine z_cVi0 C 131 dX5_readProgram_131 cv_X5_66 (c_X5_takeNumber (un := un) (f := f) (q := yC un len (yPq un len D p) 6) (a := 0) (b := 9999) hR (g6.B mB) g6.1 (fun _ => ⟨rfl, rfl⟩) (by decide) (by decide)) rfl ⟨by decide, rfl⟩ (by first | assumption | exact Nat.zero_lt_one | exact (show (15 : Nat) < 16 by decide) | exact Nat.lt_succ_of_lt (by assumption) | omega) rfl rfl (Nat.le_of_ble_eq_true rfl) ⟨by decide, by decide⟩ ⟨rfl, rfl⟩ ⟨by decide, by decide⟩ ?_
    intro r131 S131 L131 R131 p131
    obtain ⟨t6, F6, G6, rfl, v6⟩ := p131
    refine z_iast C 134 dX5_readProgram_134 (by first | rfl | assumption) (by first | assumption | exact Nat.zero_lt_one | exact (show (15 : Nat) < 16 by decide) | exact Nat.lt_succ_of_lt (by assumption) | omega)  (by first | rfl | assumption) (by first | decide | omega) (by first | assumption | omega) ?_
    have g7 := g6.nx t6 F6 G6 v6
    refine z_aload_n C 135 3 0 dX5_readProgram_135 rfl rfl ?_
    refine z_bipush (v := nI 7) C 136 dX5_readProgram_136 (by decide +kernel) ?_
    refine z_iconst (v := nI 0) C 138 dX5_readProgram_138 (by decide) ?_
    refine z_iast C 139 dX5_readProgram_139 (by first | rfl | assumption) (by first | assumption | exact Nat.zero_lt_one | exact (show (15 : Nat) < 16 by decide) | exact Nat.lt_succ_of_lt (by assumption) | omega)  (by first | rfl | assumption) (by first | decide | omega) (by first | assumption | omega) ?_
    refine z_aload_n C 140 1 3 dX5_readProgram_140 rfl rfl ?_
    refine z_iload_n C 141 2 1 dX5_readProgram_141 rfl rfl ?_
    refine z_iconst (v := nI 1) C 142 dX5_readProgram_142 (by decide) ?_
    first | with_reducible refine z_iaddN C 143 dX5_readProgram_143 ?_ | refine z_iadd C 143 dX5_readProgram_143 ?_
    refine z_puti C 144 dX5_readProgram_144 gf_X5_99 ⟨rfl, rfl⟩ rfl (by first | assumption | exact Nat.zero_lt_one | exact (show (15 : Nat) < 16 by decide) | exact Nat.lt_succ_of_lt (by assumption) | omega) ?_
    exact ret 147 _ _ _ _ dX5_readProgram_147 ((let t := prog_end hD hk mF mG mw g7; ⟨t.1, t.2.1, t.2.2.1, t.2.2.2, rfl⟩))
  refine z_aload_n C 0 1 1 dX5_readProgram_0 rfl rfl ?_
  refine z_getiv C 1 dX5_readProgram_1 gf_X5_99 rfl (by first | assumption | exact Nat.zero_lt_one | exact (show (15 : Nat) < 16 by decide) | exact Nat.lt_succ_of_lt (by assumption) | omega) hD.2.1 ?_
  refine z_istore_n C 4 2 [(2, _), (0, _), (1, _)] dX5_readProgram_4 rfl (by decide) rfl ?_
  refine z_iload_n C 5 2 0 dX5_readProgram_5 rfl rfl ?_
  refine z_bipush (v := nI 10) C 6 dX5_readProgram_6 (by decide +kernel) ?_
  first | with_reducible refine z_icmp_ltN C 8 17 dX5_readProgram_8 (by decide) (by omega) (by omega) (fun h8 => ?_) (fun h8 => ?_) | refine z_icmp_lt C 8 17 dX5_readProgram_8 (by decide) (fun h8 => ?_) (fun h8 => ?_)
  · refine z_aload_n C 17 0 1 dX5_readProgram_17 rfl rfl ?_
    refine z_iconst (v := nI 1) C 18 dX5_readProgram_18 (by decide) ?_
    refine z_cVv0 C 19 dX5_readProgram_19 cv_X5_72 (c_X5_take (f := f) (q := y0 (tE un len p)) hR hB hq (by decide)) rfl ⟨by decide, rfl⟩ (by first | assumption | exact Nat.zero_lt_one | exact (show (15 : Nat) < 16 by decide) | exact Nat.lt_succ_of_lt (by assumption) | omega) rfl rfl (Nat.le_of_ble_eq_true rfl) ⟨by decide, by decide⟩ ⟨rfl, rfl⟩ ⟨by decide, by decide⟩ ?_
    intro S19 L19 R19 p19
    obtain ⟨t19, F19, G19, rfl, w19⟩ := p19
    refine z_aload_n C 22 1 2 dX5_readProgram_22 rfl rfl ?_
    refine z_aload_n C 23 0 1 dX5_readProgram_23 rfl rfl ?_
    refine z_getl C 24 dX5_readProgram_24 gf_X5_102 rfl (by first | assumption | exact Nat.zero_lt_one | exact (show (15 : Nat) < 16 by decide) | exact Nat.lt_succ_of_lt (by assumption) | omega) ?_
    refine z_cVi0 C 27 dX5_readProgram_27 cv_X5_106 (c_X0_withName (n := D.k) hR (by omega) (by rw [F19.1 3 e (by omega)]; exact hD.2.1) hk10) rfl ⟨by decide, rfl⟩ (by first | assumption | exact Nat.zero_lt_one | exact (show (15 : Nat) < 16 by decide) | exact Nat.lt_succ_of_lt (by assumption) | omega) rfl rfl (Nat.le_of_ble_eq_true rfl) ⟨by decide, by decide⟩ ⟨rfl, rfl⟩ ⟨by decide, by decide⟩ ?_
    intro r27 S27 L27 R27 p27
    obtain ⟨rfl, rfl, rfl, rfl⟩ := p27
    refine z_iconst (v := (-1)) C 30 dX5_readProgram_30 (by decide) ?_
    first | with_reducible refine z_icmp_eqN C 31 39 dX5_readProgram_31 (by decide) (by omega) (by omega) (fun h31 => ?_) (fun h31 => ?_) | refine z_icmp_eq C 31 39 dX5_readProgram_31 (by decide) (fun h31 => ?_) (fun h31 => ?_)
    · refine z_sub [(2, _), (0, _), (1, _)] [0, 1, 2] rfl ?_
      first
        | exact (let t := prog_n hD G19 t19 w19 h31; join_39 _ _ h8 t.1 F19 G19 t.2)
        | exact (let t := prog_s hD G19 t19 w19 h31; join_39 _ _ h8 t.1 (F19.tr (kF_r _ _)) G19 t.2)
    · refine z_aload_n C 34 0 1 dX5_readProgram_34 rfl rfl ?_
      refine z_iconst (v := nI 2) C 35 dX5_readProgram_35 (by decide) ?_
      refine z_cVv0 C 36 dX5_readProgram_36 cv_X5_62 (c_X5_fail hR) rfl ⟨by decide, rfl⟩ (by first | assumption | exact Nat.zero_lt_one | exact (show (15 : Nat) < 16 by decide) | exact Nat.lt_succ_of_lt (by assumption) | omega) rfl rfl (Nat.le_of_ble_eq_true rfl) ⟨by decide, by decide⟩ ⟨rfl, rfl⟩ ⟨by decide, by decide⟩ ?_
      intro S36 L36 R36 p36
      obtain ⟨rfl, rfl, rfl⟩ := p36
      refine z_sub [(2, _), (0, _), (1, _)] [0, 1, 2] rfl ?_
      first
        | exact (let t := prog_n hD G19 t19 w19 h31; join_39 _ _ h8 t.1 F19 G19 t.2)
        | exact (let t := prog_s hD G19 t19 w19 h31; join_39 _ _ h8 t.1 (F19.tr (kF_r _ _)) G19 t.2)
  · refine z_aload_n C 11 0 1 dX5_readProgram_11 rfl rfl ?_
    refine z_iconst (v := nI 5) C 12 dX5_readProgram_12 (by decide) ?_
    refine z_cVv0 C 13 dX5_readProgram_13 cv_X5_62 (c_X5_fail hR) rfl ⟨by decide, rfl⟩ (by first | assumption | exact Nat.zero_lt_one | exact (show (15 : Nat) < 16 by decide) | exact Nat.lt_succ_of_lt (by assumption) | omega) rfl rfl (Nat.le_of_ble_eq_true rfl) ⟨by decide, by decide⟩ ⟨rfl, rfl⟩ ⟨by decide, by decide⟩ ?_
    intro S13 L13 R13 p13
    obtain ⟨rfl, rfl, rfl⟩ := p13
    exact ret 16 _ _ _ _ dX5_readProgram_16 (⟨(by unfold yProg; rw [if_pos h8]; exact kF_1 hq hL (by decide) (by decide)), (fun z => by unfold yProg at z; rw [if_pos h8] at z; exact nomatch z), (kF_r _ _).pf, PFl.rf _ _, rfl⟩)
/-- work: what the number's place is read from -/
def WK (un : Nat → Nat) (len : Nat) (D : PD) (p j : Nat) (q : mQ) : Prop := (yWork un len D p).1 = yN un len q 1 60 ∧ (q.1 = 0 → (yWork un len D p).2 = (D.k, D.nm, (fun x => if x = 8 * j + 7 then nI (tW un len q.2.2) else D.T x), D.c, D.pol, D.lim, D.dc, D.dp))
theorem work_f {un : Nat → Nat} {len p : Nat} {D : PD} (h : ¬ (yT un len (y0 (tE un len p)) 1).1 = 0) : (yWork un len D p).1 = yT un len (y0 (tE un len p)) 1 := by
  unfold yWork
  split
  · exact yE_f h
  · show yN un len (if _ then _ else _) 1 60 = _
    rw [yE_f h, ite_self, yN_f h]
theorem work_w {S : mS} {L : mL} {un : Nat → Nat} {len p e : Nat} {D : PD} {S0 : mS} {L0 : mL} (hD : cD S0 L0 e D) (hG : LFr L0 L) (hL : (yT un len (y0 (tE un len p)) 1).1 = 0 → cLd S L un len (tE un len p)) {o : Option Nat} (hj : nmU (L 4 e) (L 1 0 6) D.k 0 = o) (z : (yT un len (y0 (tE un len p)) 1).1 = 0) : nmW D.nm (wd un len (tE un len p)) D.k = o := by
  have t := (hL z).2.2.2.2
  rw [if_pos (show tK un len (tE un len p) = 1 from (yT_ok z).2.1)] at t
  rw [hD.nm hG t] at hj
  exact hj
theorem work_n {S : mS} {L : mL} {un : Nat → Nat} {len p e : Nat} {D : PD} {S0 : mS} {L0 : mL} (hD : cD S0 L0 e D) (hG : LFr L0 L) (h : cSt S len (yT un len (y0 (tE un len p)) 1)) (hL : (yT un len (y0 (tE un len p)) 1).1 = 0 → cLd S L un len (tE un len p)) (hj : oI (nmU (L 4 e) (L 1 0 6) D.k 0) = -1) : cSt (kF S (nI 4)) len (yWork un len D p).1 ∧ ¬ (yWork un len D p).1.1 = 0 := by
  have hj' := oI_f (n := D.k) (by have := hD.1; omega) (fun q hq => by have := (nmU_lt hq).2.1; omega) hj
  have e1 : (yWork un len D p).1 = yE (yT un len (y0 (tE un len p)) 1) 4 (nI (tS un len (tE un len p))) := by
    by_cases z : (yT un len (y0 (tE un len p)) 1).1 = 0
    · unfold yWork
      rw [work_w hD hG hL hj' z]
    · rw [work_f z, yE_f z]
  rw [e1]
  exact ⟨h.tk (q := y0 (tE un len p)) hL (by decide) (by decide), yE_0 (by decide)⟩
theorem work_v {S : mS} {un : Nat → Nat} {len p j e : Nat} {D : PD} {S0 : mS} {L0 : mL} (hD : cD S0 L0 e D) (hF : RFr S0 S) (hj : j < D.k) : S 6 (10 * e + j) 7 = D.T (8 * j + 7) := by
  rw [hF.1 6 _ (by omega)]
  exact hD.2.2.2.2.2.2.1 j 7 hj (by omega)
theorem work_a {S : mS} {L : mL} {un : Nat → Nat} {len p j e : Nat} {D : PD} {S0 : mS} {L0 : mL} (hD : cD S0 L0 e D) (hF : RFr S0 S) (hG : LFr L0 L) (hL : (yT un len (y0 (tE un len p)) 1).1 = 0 → cLd S L un len (tE un len p)) (hj : nmU (L 4 e) (L 1 0 6) D.k 0 = some j) (hjk : j < D.k) (h0 : S 6 (10 * e + j) 7 = 0) : WK un len D p j (yT un len (y0 (tE un len p)) 1) := by
  rw [work_v (un := un) (len := len) (p := p) hD hF hjk] at h0
  by_cases z : (yT un len (y0 (tE un len p)) 1).1 = 0
  · unfold WK yWork
    rw [work_w hD hG hL hj z]
    dsimp only
    rw [if_pos h0]
    exact ⟨rfl, fun _ => rfl⟩
  · exact ⟨(work_f z).trans (yN_f z).symm, fun y => absurd y z⟩
theorem work_b {S : mS} {L : mL} {un : Nat → Nat} {len p j e : Nat} {D : PD} {S0 : mS} {L0 : mL} (hD : cD S0 L0 e D) (hF : RFr S0 S) (hG : LFr L0 L) (hL : (yT un len (y0 (tE un len p)) 1).1 = 0 → cLd S L un len (tE un len p)) (hj : nmU (L 4 e) (L 1 0 6) D.k 0 = some j) (hjk : j < D.k) (h0 : ¬ S 6 (10 * e + j) 7 = 0) : WK un len D p j (yE (yT un len (y0 (tE un len p)) 1) 2 (nI (tS un len (tE un len p)))) := by
  rw [work_v (un := un) (len := len) (p := p) hD hF hjk] at h0
  by_cases z : (yT un len (y0 (tE un len p)) 1).1 = 0
  · unfold WK yWork
    rw [work_w hD hG hL hj z]
    dsimp only
    rw [if_neg h0]
    exact ⟨rfl, fun _ => rfl⟩
  · rw [yE_f z]
    exact ⟨(work_f z).trans (yN_f z).symm, fun y => absurd y z⟩
theorem cD.T7 {S : mS} {L : mL} {e : Nat} {D : PD} (h : cD S L e D) {j : Nat} {v v' : Int32} (hv : v = v') : cD (up3 S 6 (10 * e + j) 7 v) L e (D.k, D.nm, (fun x => if x = 8 * j + 7 then v' else D.T x), D.c, D.pol, D.lim, D.dc, D.dp) := by
  obtain ⟨a, b, c, d, f, g, i, j', k, l⟩ := h
  subst hv
  refine ⟨a, by rw [up3_k _ (by omega)]; exact b, by rw [up3_k _ (by omega)]; exact c, by rw [up3_k _ (by omega)]; exact d, fun w hw => by rw [up3_k _ (by omega)]; exact f w hw, g, fun w x hw hx => ?_, by rw [up3_k _ (by omega)]; exact j', by rw [up3_k _ (by omega)]; exact k, l⟩
  show _ = if 8 * w + x = 8 * j + 7 then v else D.T (8 * w + x)
  rw [up3_at]
  by_cases z : w = j ∧ x = 7
  · rw [if_pos ⟨rfl, by omega, z.2⟩, if_pos (by omega)]
  · rw [if_neg (by omega), if_neg (by omega)]
    exact i w x hw hx
theorem work_end {S M M1 : mS} {L L1 L2 : mL} {un : Nat → Nat} {len p e j : Nat} {D : PD} {q : mQ} {r : Int32} (hD : cD S L e D) (hW : WK un len D p j q) (hF : RFr S M) (hG : LFr L L1) (hF1 : RFr M M1) (hG1 : LFr L1 L2) (hS : cSt M1 len (yN un len q 1 60)) (hr : (yN un len q 1 60).1 = 0 → r = nI (tV un len q.2.2)) (hj : j < 10) :
    cSt (up3 M1 6 (10 * e + j) 7 r) len (yWork un len D p).1 ∧ ((yWork un len D p).1.1 = 0 → cD (up3 M1 6 (10 * e + j) 7 r) L2 e (yWork un len D p).2) ∧ PFs e S (up3 M1 6 (10 * e + j) 7 r) ∧ PFl e L L2 := by
  rw [hW.1]
  refine ⟨hS.u (by omega), fun z => ?_, ((hF.tr hF1).pf).u6 hj, (hG.tr hG1).pf⟩
  rw [hW.2 (yN_ok z).1]
  exact (hD.fr (hF.tr hF1) (hG.tr hG1)).T7 (by rw [hr z, tW_2 (yN_ok z).2.1])

def rm_X5_readWork : Room := { frames := 4, cells := 0, slots := 0, locals := 87 }
set_option maxHeartbeats 4000000 in
set_option maxRecDepth 100000 in
theorem c_X5_readWork {l : Launch} {G : mG} {ad : mA} {S : mS} {L : mL} {R : mR} {un : Nat → Nat} {len f p e : Nat} {D : PD} (hR : mlk R) (hB : cB S un len f) (hq : cSt S len (y0 (tE un len p))) (hL : cLd S L un len p) (hD : cD S L e D) (he : e < 2) : Kv l yX5_readWork cX5_readWork 3 rm_X5_readWork G ad mdm [.ref (ad 1 0), .ref (ad 3 e)] S L R (fun S2 L2 R2 => cSt S2 len (yWork un len D p).1 ∧ ((yWork un len D p).1.1 = 0 → cD S2 L2 e (yWork un len D p).2) ∧ PFs e S S2 ∧ PFl e L L2 ∧ R = R2) := by
  refine Kv.of RX5 (by decide) rfl (Nat.le_of_ble_eq_true rfl) ?_
  intro X hXl hXG C ret
  subst hXl; subst hXG
  change Z X 3 ad mdm S L R 0 0 0 [(0, _), (1, _)] []
  have hk10 := hD.1
  have join_42 : ∀ (j : Nat) (qq : mQ) (M : mS) (L1 : mL), j < D.k → cSt M len qq → WK un len D p j qq → RFr S M → LFr L L1 → Z X 3 ad mdm M L1 R 0 0 42 [(2, .int (nI j)), (0, .ref (ad 1 0)), (1, .ref (ad 3 e))] [] := by
    intro j qq M L1 hjk mq mW mF mG
    have hdm : mdm 6 (10 * e + j) := show 10 * e + j < 30 by omega
    refine z_aload_n C 42 1 2 dX5_readWork_42 rfl rfl ?_
    refine z_getr C 43 dX5_readWork_43 gf_X5_114 rfl (by first | assumption | exact Nat.zero_lt_one | exact (show (15 : Nat) < 16 by decide) | exact Nat.lt_succ_of_lt (by assumption) | omega) (by first | exact hR _ _ _ _ rfl | exact hR2 _ _ _ _ rfl | assumption) ?_
    refine z_iload_n C 46 2 0 dX5_readWork_46 rfl rfl ?_
    refine z_aald4 C 47 dX5_readWork_47 rfl (by first | assumption | exact Nat.zero_lt_one | exact (show (15 : Nat) < 16 by decide) | exact Nat.lt_succ_of_lt (by assumption) | omega) (by first | rfl | assumption) (by decide) (by first | assumption | omega) (by first | exact hR _ _ _ _ rfl | exact hR2 _ _ _ _ rfl | assumption) ?_
    refine z_bipush (v := nI 7) C 48 dX5_readWork_48 (by decide +kernel) ?_
    refine z_aload_n C 50 0 1 dX5_readWork_50 rfl rfl ?_
    refine z_iconst (v := nI 1) C 51 dX5_readWork_51 (by decide) ?_
    refine z_bipush (v := nI 60) C 52 dX5_readWork_52 (by decide +kernel) ?_
    refine z_cVi0 C 54 dX5_readWork_54 cv_X5_66 (c_X5_takeNumber (un := un) (f := f) (q := qq) (a := 1) (b := 60) hR (hB.fr mF) mq (fun _ => ⟨rfl, rfl⟩) (by decide) (by decide)) rfl ⟨by decide, rfl⟩ (by first | assumption | exact Nat.zero_lt_one | exact (show (15 : Nat) < 16 by decide) | exact Nat.lt_succ_of_lt (by assumption) | omega) rfl rfl (Nat.le_of_ble_eq_true rfl) ⟨by decide, by decide⟩ ⟨rfl, rfl⟩ ⟨by decide, by decide⟩ ?_
    intro r54 S54 L54 R54 p54
    obtain ⟨t54, F54, G54, rfl, v54⟩ := p54
    refine z_iast C 57 dX5_readWork_57 (by first | rfl | assumption) (by first | assumption | exact Nat.zero_lt_one | exact (show (15 : Nat) < 16 by decide) | exact Nat.lt_succ_of_lt (by assumption) | omega)  (by first | rfl | assumption) (by first | decide | omega) (by first | assumption | omega) ?_
    exact ret 58 _ _ _ _ dX5_readWork_58 ((let t := work_end hD mW mF mG F54 G54 t54 v54 (by omega); ⟨t.1, t.2.1, t.2.2.1, t.2.2.2, rfl⟩))
  refine z_aload_n C 0 0 0 dX5_readWork_0 rfl rfl ?_
  refine z_iconst (v := nI 1) C 1 dX5_readWork_1 (by decide) ?_
  refine z_cVv0 C 2 dX5_readWork_2 cv_X5_72 (c_X5_take (f := f) (q := y0 (tE un len p)) hR hB hq (by decide)) rfl ⟨by decide, rfl⟩ (by first | assumption | exact Nat.zero_lt_one | exact (show (15 : Nat) < 16 by decide) | exact Nat.lt_succ_of_lt (by assumption) | omega) rfl rfl (Nat.le_of_ble_eq_true rfl) ⟨by decide, by decide⟩ ⟨rfl, rfl⟩ ⟨by decide, by decide⟩ ?_
  intro S2 L2 R2 p2
  obtain ⟨t2, F2, G2, rfl, w2⟩ := p2
  refine z_aload_n C 5 1 1 dX5_readWork_5 rfl rfl ?_
  refine z_aload_n C 6 0 0 dX5_readWork_6 rfl rfl ?_
  refine z_getl C 7 dX5_readWork_7 gf_X5_102 rfl (by first | assumption | exact Nat.zero_lt_one | exact (show (15 : Nat) < 16 by decide) | exact Nat.lt_succ_of_lt (by assumption) | omega) ?_
  refine z_cVi0 C 10 dX5_readWork_10 cv_X5_106 (c_X0_withName (n := D.k) hR (by omega) (by rw [F2.1 3 e (by omega)]; exact hD.2.1) hk10) rfl ⟨by decide, rfl⟩ (by first | assumption | exact Nat.zero_lt_one | exact (show (15 : Nat) < 16 by decide) | exact Nat.lt_succ_of_lt (by assumption) | omega) rfl rfl (Nat.le_of_ble_eq_true rfl) ⟨by decide, by decide⟩ ⟨rfl, rfl⟩ ⟨by decide, by decide⟩ ?_
  intro r10 S10 L10 R10 p10
  obtain ⟨rfl, rfl, rfl, rfl⟩ := p10
  refine z_istore_n C 13 2 [(2, _), (0, _), (1, _)] dX5_readWork_13 rfl (by decide) rfl ?_
  refine z_iload_n C 14 2 0 dX5_readWork_14 rfl rfl ?_
  refine z_iconst (v := (-1)) C 15 dX5_readWork_15 (by decide) ?_
  first | with_reducible refine z_icmp_neN C 16 25 dX5_readWork_16 (by decide) (by omega) (by omega) (fun h16 => ?_) (fun h16 => ?_) | refine z_icmp_ne C 16 25 dX5_readWork_16 (by decide) (fun h16 => ?_) (fun h16 => ?_)
  · obtain ⟨j, hj⟩ := oI_s h16
    have hjk : j < D.k := by have := (nmU_lt hj).2.1; omega
    rw [show oI (nmU (L2 4 e) (L2 1 0 6) D.k 0) = nI j from (by rw [hj]; rfl)]
    have hdm : mdm 6 (10 * e + j) := show 10 * e + j < 30 by omega
    refine z_aload_n C 25 1 2 dX5_readWork_25 rfl rfl ?_
    refine z_getr C 26 dX5_readWork_26 gf_X5_114 rfl (by first | assumption | exact Nat.zero_lt_one | exact (show (15 : Nat) < 16 by decide) | exact Nat.lt_succ_of_lt (by assumption) | omega) (by first | exact hR _ _ _ _ rfl | exact hR2 _ _ _ _ rfl | assumption) ?_
    refine z_iload_n C 29 2 0 dX5_readWork_29 rfl rfl ?_
    refine z_aald4 C 30 dX5_readWork_30 rfl (by first | assumption | exact Nat.zero_lt_one | exact (show (15 : Nat) < 16 by decide) | exact Nat.lt_succ_of_lt (by assumption) | omega) (by first | rfl | assumption) (by decide) (by first | assumption | omega) (by first | exact hR _ _ _ _ rfl | exact hR2 _ _ _ _ rfl | assumption) ?_
    refine z_bipush (v := nI 7) C 31 dX5_readWork_31 (by decide +kernel) ?_
    refine z_iald C 33 dX5_readWork_33 (by first | rfl | assumption) (by first | assumption | exact Nat.zero_lt_one | exact (show (15 : Nat) < 16 by decide) | exact Nat.lt_succ_of_lt (by assumption) | omega) (by first | rfl | assumption) (by first | decide | omega) (by first | assumption | omega) ?_
    first | with_reducible refine z_if_eqB C 34 42 dX5_readWork_34 (by decide) (fun h34 => ?_) (fun h34 => ?_) | with_reducible refine z_if_eqN C 34 42 dX5_readWork_34 (by decide) (by omega) (fun h34 => ?_) (fun h34 => ?_) | refine z_if_eq C 34 42 dX5_readWork_34 (by decide) (fun h34 => ?_) (fun h34 => ?_)
    · refine z_sub [(2, _), (0, _), (1, _)] [0, 1, 2] rfl ?_
      first
        | exact join_42 _ _ _ _ hjk t2 (work_a hD F2 G2 w2 hj hjk h34) F2 G2
        | exact join_42 _ _ _ _ hjk (t2.tk (q := y0 (tE un len p)) w2 (by decide) (by decide)) (work_b hD F2 G2 w2 hj hjk h34) (F2.tr (kF_r _ _)) G2
    · refine z_aload_n C 37 0 1 dX5_readWork_37 rfl rfl ?_
      refine z_iconst (v := nI 2) C 38 dX5_readWork_38 (by decide) ?_
      refine z_cVv0 C 39 dX5_readWork_39 cv_X5_62 (c_X5_fail hR) rfl ⟨by decide, rfl⟩ (by first | assumption | exact Nat.zero_lt_one | exact (show (15 : Nat) < 16 by decide) | exact Nat.lt_succ_of_lt (by assumption) | omega) rfl rfl (Nat.le_of_ble_eq_true rfl) ⟨by decide, by decide⟩ ⟨rfl, rfl⟩ ⟨by decide, by decide⟩ ?_
      intro S39 L39 R39 p39
      obtain ⟨rfl, rfl, rfl⟩ := p39
      refine z_sub [(2, _), (0, _), (1, _)] [0, 1, 2] rfl ?_
      first
        | exact join_42 _ _ _ _ hjk t2 (work_a hD F2 G2 w2 hj hjk h34) F2 G2
        | exact join_42 _ _ _ _ hjk (t2.tk (q := y0 (tE un len p)) w2 (by decide) (by decide)) (work_b hD F2 G2 w2 hj hjk h34) (F2.tr (kF_r _ _)) G2
  · refine z_aload_n C 19 0 1 dX5_readWork_19 rfl rfl ?_
    refine z_iconst (v := nI 4) C 20 dX5_readWork_20 (by decide) ?_
    refine z_cVv0 C 21 dX5_readWork_21 cv_X5_62 (c_X5_fail hR) rfl ⟨by decide, rfl⟩ (by first | assumption | exact Nat.zero_lt_one | exact (show (15 : Nat) < 16 by decide) | exact Nat.lt_succ_of_lt (by assumption) | omega) rfl rfl (Nat.le_of_ble_eq_true rfl) ⟨by decide, by decide⟩ ⟨rfl, rfl⟩ ⟨by decide, by decide⟩ ?_
    intro S21 L21 R21 p21
    obtain ⟨rfl, rfl, rfl⟩ := p21
    exact ret 24 _ _ _ _ dX5_readWork_24 ((let t := work_n hD G2 t2 w2 h16; ⟨t.1, fun z => absurd z t.2, (F2.tr (kF_r _ _)).pf, G2.pf, rfl⟩))
theorem yOn_p {un : Nat → Nat} {len p d : Nat} : (yOn un len p d).2.2 = tE un len p := by
  unfold yOn
  split <;> rfl
theorem on_0 {S : mS} {un : Nat → Nat} {len p d : Nat} (h : cSt S len (y0 (tE un len p))) (hd : d = 0) : cSt S len (yOn un len p d) := by
  unfold yOn
  rw [if_pos hd]
  exact h
theorem on_1 {S : mS} {L : mL} {un : Nat → Nat} {len p d : Nat} (h : cSt S len (y0 (tE un len p))) (hL : cLd S L un len p) (hd : ¬ d = 0) : cSt (kF S (nI 2)) len (yOn un len p d) := by
  unfold yOn
  rw [if_neg hd]
  exact kF_1 h hL (by decide) (by decide)
/-- costs, j of them read -/
def PC (S : mS) (L : mL) (un : Nat → Nat) (len e : Nat) (q : mQ) (j : Nat) (M : mS) (L1 : mL) : Prop :=
  cSt M len (yCc un len q j) ∧ ((yCc un len q j).1 = 0 → ∀ w, w < j → M 3 e (2 + w) = nI (tW un len (yCc un len q w).2.2)) ∧ (∀ w, w < 2 ∨ w = 6 → M 3 e w = S 3 e w) ∧ (∀ kk i, kk ≠ 1 → ¬ (kk = 3 ∧ i = e) → M kk i = S kk i) ∧ (∀ j, j = 1 ∨ j = 2 ∨ 10 ≤ j → M 1 0 j = S 1 0 j) ∧ LFr L L1
theorem PC.z {S : mS} {L : mL} {un : Nat → Nat} {len e : Nat} {q : mQ} (h : cSt S len q) : PC S L un len e q 0 S L :=
  ⟨h, fun _ w hw => absurd hw (Nat.not_lt_zero _), fun _ _ => rfl, fun _ _ _ _ => rfl, fun _ _ => rfl, fun _ _ _ => rfl⟩
theorem PC.nx {S : mS} {L : mL} {un : Nat → Nat} {len e : Nat} {q : mQ} {j i' : Nat} {M M1 : mS} {L1 L2 : mL} {v : Int32} (h : PC S L un len e q j M L1) (hS : cSt M1 len (yCc un len q (j + 1))) (hF : RFr M M1) (hG : LFr L1 L2) (hv : (yCc un len q (j + 1)).1 = 0 → v = nI (tV un len (yCc un len q j).2.2)) (hj : j < 4) (hi : i' = 2 + j) : PC S L un len e q (j + 1) (up3 M1 3 e i' v) L2 := by
  subst hi
  obtain ⟨a, b, c, d, f, g⟩ := h
  refine ⟨hS.u (by omega), fun z w hw => ?_, fun w hw => ?_, fun kk i h1 h3 => ?_, fun j' hj => ?_, g.tr hG⟩
  · rw [up3_at]
    by_cases e' : w = j
    · rw [if_pos ⟨rfl, rfl, by omega⟩, hv z, e', tW_2 (yN_ok z).2.1]
    · rw [if_neg (by omega), hF.1 3 _ (by omega)]
      exact b (yN_ok z).1 w (by omega)
  · rw [up3_j _ (by omega), hF.1 3 e (by omega)]
    exact c w hw
  · rw [← d kk i h1 h3, ← hF.1 kk i h1]
    by_cases z : kk = 3
    · subst z
      rw [up3_i _ (fun y => h3 ⟨rfl, y⟩)]
    · rw [up3_k _ z]
  · rw [up3_k _ (by omega), hF.2 j' (by omega)]
    exact f j' hj
theorem PC.B {S : mS} {L : mL} {un : Nat → Nat} {len e f : Nat} {q : mQ} {j : Nat} {M : mS} {L1 : mL} (h : PC S L un len e q j M L1) (hB : cB S un len f) : cB M un len f :=
  ⟨hB.1.off (h.2.2.2.2.1 1 (by omega)) (h.2.2.2.1 2 0 (by omega) (by omega)), (h.2.2.2.2.1 2 (by omega)).trans hB.2.1, hB.2.2⟩
theorem cost_end {S M M1 : mS} {L L1 L2 : mL} {un : Nat → Nat} {len p e : Nat} {D : PD} (hD : cD S L e D) (hF : RFr S M) (hG : LFr L L1) (h : PC (up3 M 1 0 10 (nI 1)) L1 un len e (yOn un len p D.dc) 4 M1 L2) :
    cSt M1 len (yCost un len D p).1 ∧ ((yCost un len D p).1.1 = 0 → cD M1 L2 e (yCost un len D p).2) ∧ PFs e S M1 ∧ PFl e L L2 := by
  obtain ⟨a, b, c, d, f, g⟩ := h
  refine ⟨a, fun z => ?_, ⟨fun k i h1 h3 _ => ?_, fun j hj => ?_⟩, (hG.tr g).pf⟩
  · obtain ⟨d1, d2, d3, d4, d5, d6, d7, d8, d9, d10⟩ := hD
    exact ⟨d1, by rw [c 6 (by omega), up3_k _ (by omega), hF.1 3 e (by omega)]; exact d2, by rw [c 0 (by omega), up3_k _ (by omega), hF.1 3 e (by omega)]; exact d3, by rw [c 1 (by omega), up3_k _ (by omega), hF.1 3 e (by omega)]; exact d4, fun j hj => b z j hj, fun j hj => by rw [g 4 e (by omega), hG 4 e (by omega)]; exact d6 j hj, fun j w hj hw => by rw [d 6 _ (by omega) (by omega), up3_k _ (by omega), hF.1 6 _ (by omega)]; exact d7 j w hj hw, (f 10 (by omega)).trans (up3_s _ _ _ _ _), by rw [f 11 (by omega), up3_j _ (by omega), hF.2 11 (by omega)]; exact d9, Nat.le_refl 1, d10.2⟩
  · rw [d k i h1 h3, up3_k _ h1, hF.1 k i h1]
  · rw [f j (by omega), up3_j _ (by omega), hF.2 j (by omega)]

def rm_X5_readCosts : Room := { frames := 4, cells := 0, slots := 0, locals := 87 }
set_option maxHeartbeats 4000000 in
set_option maxRecDepth 100000 in
theorem c_X5_readCosts {l : Launch} {G : mG} {ad : mA} {S : mS} {L : mL} {R : mR} {un : Nat → Nat} {len f p e : Nat} {D : PD} (hR : mlk R) (hB : cB S un len f) (hq : cSt S len (y0 (tE un len p))) (hL : cLd S L un len p) (hD : cD S L e D) (he : e < 2) : Kv l yX5_readCosts cX5_readCosts 2 rm_X5_readCosts G ad mdm [.ref (ad 1 0), .ref (ad 3 e)] S L R (fun S2 L2 R2 => cSt S2 len (yCost un len D p).1 ∧ ((yCost un len D p).1.1 = 0 → cD S2 L2 e (yCost un len D p).2) ∧ PFs e S S2 ∧ PFl e L L2 ∧ R = R2) := by
  refine Kv.of RX5 (by decide) rfl (Nat.le_of_ble_eq_true rfl) ?_
  intro X hXl hXG C ret
  subst hXl; subst hXG
  change Z X 2 ad mdm S L R 0 0 0 [(0, _), (1, _)] []
  have hdc := hD.2.2.2.2.2.2.2.2.2.1
  have join_12 : ∀ (M : mS), cSt M len (yOn un len p D.dc) → RFr S M → Z X 2 ad mdm M L R 0 0 12 [(0, .ref (ad 1 0)), (1, .ref (ad 3 e))] [] := by
    intro M mq mF
    refine z_aload_n C 12 0 0 dX5_readCosts_12 rfl rfl ?_
    refine z_iconst (v := nI 1) C 13 dX5_readCosts_13 (by decide) ?_
    refine z_putz C 14 dX5_readCosts_14 gf_X5_41 ⟨rfl, rfl⟩ (by first | exact bI_01 | exact Or.inl rfl | exact Or.inr rfl | assumption) rfl (by first | assumption | exact Nat.zero_lt_one | exact (show (15 : Nat) < 16 by decide) | exact Nat.lt_succ_of_lt (by assumption) | omega) ?_
    have mB : cB (up3 M 1 0 10 (nI 1)) un len f := hB.pf (mF.pf.u1 (e := 0) (by omega))
    have g0 := PC.z (L := L) (un := un) (e := e) (mq.k (S2 := up3 M 1 0 10 (nI 1)) (fun j hj => by rw [up3_j _ (by omega)]))
    refine z_aload_n C 17 1 1 dX5_readCosts_17 rfl rfl ?_
    refine z_aload_n C 18 0 0 dX5_readCosts_18 rfl rfl ?_
    refine z_iconst (v := nI 0) C 19 dX5_readCosts_19 (by decide) ?_
    refine z_bipush (v := nI 99) C 20 dX5_readCosts_20 (by decide +kernel) ?_
    refine z_cVi0 C 22 dX5_readCosts_22 cv_X5_66 (c_X5_takeNumber (un := un) (f := f) (q := yCc un len (yOn un len p D.dc) 0) (a := 0) (b := 99) hR (g0.B mB) g0.1 (fun _ => ⟨rfl, rfl⟩) (by decide) (by decide)) rfl ⟨by decide, rfl⟩ (by first | assumption | exact Nat.zero_lt_one | exact (show (15 : Nat) < 16 by decide) | exact Nat.lt_succ_of_lt (by assumption) | omega) rfl rfl (Nat.le_of_ble_eq_true rfl) ⟨by decide, by decide⟩ ⟨rfl, rfl⟩ ⟨by decide, by decide⟩ ?_
    intro r22 S22 L22 R22 p22
    obtain ⟨t0, F0, G0, rfl, v0⟩ := p22
    refine z_puti C 25 dX5_readCosts_25 gf_X5_118 ⟨rfl, rfl⟩ rfl (by first | assumption | exact Nat.zero_lt_one | exact (show (15 : Nat) < 16 by decide) | exact Nat.lt_succ_of_lt (by assumption) | omega) ?_
    have g1 := g0.nx t0 F0 G0 v0 (by omega) rfl
    refine z_aload_n C 28 1 1 dX5_readCosts_28 rfl rfl ?_
    refine z_aload_n C 29 0 0 dX5_readCosts_29 rfl rfl ?_
    refine z_iconst (v := nI 0) C 30 dX5_readCosts_30 (by decide) ?_
    refine z_bipush (v := nI 99) C 31 dX5_readCosts_31 (by decide +kernel) ?_
    refine z_cVi0 C 33 dX5_readCosts_33 cv_X5_66 (c_X5_takeNumber (un := un) (f := f) (q := yCc un len (yOn un len p D.dc) 1) (a := 0) (b := 99) hR (g1.B mB) g1.1 (fun _ => ⟨rfl, rfl⟩) (by decide) (by decide)) rfl ⟨by decide, rfl⟩ (by first | assumption | exact Nat.zero_lt_one | exact (show (15 : Nat) < 16 by decide) | exact Nat.lt_succ_of_lt (by assumption) | omega) rfl rfl (Nat.le_of_ble_eq_true rfl) ⟨by decide, by decide⟩ ⟨rfl, rfl⟩ ⟨by decide, by decide⟩ ?_
    intro r33 S33 L33 R33 p33
    obtain ⟨t1, F1, G1, rfl, v1⟩ := p33
    refine z_puti C 36 dX5_readCosts_36 gf_X5_121 ⟨rfl, rfl⟩ rfl (by first | assumption | exact Nat.zero_lt_one | exact (show (15 : Nat) < 16 by decide) | exact Nat.lt_succ_of_lt (by assumption) | omega) ?_
    have g2 := g1.nx t1 F1 G1 v1 (by omega) rfl
    refine z_aload_n C 39 1 1 dX5_readCosts_39 rfl rfl ?_
    refine z_aload_n C 40 0 0 dX5_readCosts_40 rfl rfl ?_
    refine z_iconst (v := nI 0) C 41 dX5_readCosts_41 (by decide) ?_
    refine z_bipush (v := nI 99) C 42 dX5_readCosts_42 (by decide +kernel) ?_
    refine z_cVi0 C 44 dX5_readCosts_44 cv_X5_66 (c_X5_takeNumber (un := un) (f := f) (q := yCc un len (yOn un len p D.dc) 2) (a := 0) (b := 99) hR (g2.B mB) g2.1 (fun _ => ⟨rfl, rfl⟩) (by decide) (by decide)) rfl ⟨by decide, rfl⟩ (by first | assumption | exact Nat.zero_lt_one | exact (show (15 : Nat) < 16 by decide) | exact Nat.lt_succ_of_lt (by assumption) | omega) rfl rfl (Nat.le_of_ble_eq_true rfl) ⟨by decide, by decide⟩ ⟨rfl, rfl⟩ ⟨by decide, by decide⟩ ?_
    intro r44 S44 L44 R44 p44
    obtain ⟨t2, F2, G2, rfl, v2⟩ := p44
    refine z_puti C 47 dX5_readCosts_47 gf_X5_124 ⟨rfl, rfl⟩ rfl (by first | assumption | exact Nat.zero_lt_one | exact (show (15 : Nat) < 16 by decide) | exact Nat.lt_succ_of_lt (by assumption) | omega) ?_
    have g3 := g2.nx t2 F2 G2 v2 (by omega) rfl
    refine z_aload_n C 50 1 1 dX5_readCosts_50 rfl rfl ?_
    refine z_aload_n C 51 0 0 dX5_readCosts_51 rfl rfl ?_
    refine z_iconst (v := nI 0) C 52 dX5_readCosts_52 (by decide) ?_
    refine z_bipush (v := nI 99) C 53 dX5_readCosts_53 (by decide +kernel) ?_
    refine z_cVi0 C 55 dX5_readCosts_55 cv_X5_66 (c_X5_takeNumber (un := un) (f := f) (q := yCc un len (yOn un len p D.dc) 3) (a := 0) (b := 99) hR (g3.B mB) g3.1 (fun _ => ⟨rfl, rfl⟩) (by decide) (by decide)) rfl ⟨by decide, rfl⟩ (by first | assumption | exact Nat.zero_lt_one | exact (show (15 : Nat) < 16 by decide) | exact Nat.lt_succ_of_lt (by assumption) | omega) rfl rfl (Nat.le_of_ble_eq_true rfl) ⟨by decide, by decide⟩ ⟨rfl, rfl⟩ ⟨by decide, by decide⟩ ?_
    intro r55 S55 L55 R55 p55
    obtain ⟨t3, F3, G3, rfl, v3⟩ := p55
    refine z_puti C 58 dX5_readCosts_58 gf_X5_127 ⟨rfl, rfl⟩ rfl (by first | assumption | exact Nat.zero_lt_one | exact (show (15 : Nat) < 16 by decide) | exact Nat.lt_succ_of_lt (by assumption) | omega) ?_
    have g4 := g3.nx t3 F3 G3 v3 (by omega) rfl
    exact ret 61 _ _ _ _ dX5_readCosts_61 ((let t := cost_end hD mF (LFr.rf _) g4; ⟨t.1, t.2.1, t.2.2.1, t.2.2.2, rfl⟩))
  refine z_aload_n C 0 0 0 dX5_readCosts_0 rfl rfl ?_
  refine z_getiv C 1 dX5_readCosts_1 gf_X5_41 rfl (by first | assumption | exact Nat.zero_lt_one | exact (show (15 : Nat) < 16 by decide) | exact Nat.lt_succ_of_lt (by assumption) | omega) hD.2.2.2.2.2.2.2.1 ?_
  first | with_reducible refine z_if_eqB C 4 12 dX5_readCosts_4 (by decide) (fun h4 => ?_) (fun h4 => ?_) | with_reducible refine z_if_eqN C 4 12 dX5_readCosts_4 (by decide) (by omega) (fun h4 => ?_) (fun h4 => ?_) | refine z_if_eq C 4 12 dX5_readCosts_4 (by decide) (fun h4 => ?_) (fun h4 => ?_)
  · refine z_sub [(0, _), (1, _)] [0, 1] rfl ?_
    first
      | exact join_12 _ (on_0 hq (by omega)) (RFr.rf _)
      | exact join_12 _ (on_1 hq hL (by omega)) (kF_r _ _)
  · refine z_aload_n C 7 0 0 dX5_readCosts_7 rfl rfl ?_
    refine z_iconst (v := nI 2) C 8 dX5_readCosts_8 (by decide) ?_
    refine z_cVv0 C 9 dX5_readCosts_9 cv_X5_62 (c_X5_fail hR) rfl ⟨by decide, rfl⟩ (by first | assumption | exact Nat.zero_lt_one | exact (show (15 : Nat) < 16 by decide) | exact Nat.lt_succ_of_lt (by assumption) | omega) rfl rfl (Nat.le_of_ble_eq_true rfl) ⟨by decide, by decide⟩ ⟨rfl, rfl⟩ ⟨by decide, by decide⟩ ?_
    intro S9 L9 R9 p9
    obtain ⟨rfl, rfl, rfl⟩ := p9
    refine z_sub [(0, _), (1, _)] [0, 1] rfl ?_
    first
      | exact join_12 _ (on_0 hq (by omega)) (RFr.rf _)
      | exact join_12 _ (on_1 hq hL (by omega)) (kF_r _ _)
theorem pol_f {un : Nat → Nat} {len p : Nat} {D : PD} (h : ¬ (yT un len (yOn un len p D.dp) 1).1 = 0) : (yPol un len D p).1 = yT un len (yOn un len p D.dp) 1 := by
  unfold yPol
  dsimp only
  split
  · rfl
  · split
    · rfl
    · split
      · rfl
      · exact yE_f h
def PW (S : mS) (L : mL) (i : Nat) : Prop := S 1 0 4 = nI 1 ∧ L 1 0 6 = lN (e32 (kwr i))
/-- policy v was told -/
def pol_v (D : PD) (v : Nat) : PD := (D.k, D.nm, D.T, D.c, v, D.lim, D.dc, 1)
theorem pol_5 {S : mS} {L : mL} {un : Nat → Nat} {len p : Nat} {D : PD} (hL : (yT un len (yOn un len p D.dp) 1).1 = 0 → cLd S L un len (tE un len p)) (h : PW S L 5) : (yPol un len D p).1 = yT un len (yOn un len p D.dp) 1 ∧ ((yPol un len D p).1.1 = 0 → (yPol un len D p).2 = pol_v D 0) := by
  by_cases z : (yT un len (yOn un len p D.dp) 1).1 = 0
  · have h1 : yK un len (tE un len p) 5 := (isW_i (hL z) (by omega)).mp h
    unfold yPol
    dsimp only
    rw [if_pos h1]
    exact ⟨rfl, fun _ => rfl⟩
  · rw [pol_f z]
    exact ⟨rfl, fun y => absurd y z⟩
theorem pol_6 {S : mS} {L : mL} {un : Nat → Nat} {len p : Nat} {D : PD} (hL : (yT un len (yOn un len p D.dp) 1).1 = 0 → cLd S L un len (tE un len p)) (h5 : ¬ PW S L 5) (h : PW S L 6) : (yPol un len D p).1 = yT un len (yOn un len p D.dp) 1 ∧ ((yPol un len D p).1.1 = 0 → (yPol un len D p).2 = pol_v D 1) := by
  by_cases z : (yT un len (yOn un len p D.dp) 1).1 = 0
  · have h1 : ¬ yK un len (tE un len p) 5 := fun y => h5 ((isW_i (hL z) (by omega)).mpr y)
    have h2 : yK un len (tE un len p) 6 := (isW_i (hL z) (by omega)).mp h
    unfold yPol
    dsimp only
    rw [if_neg h1, if_pos h2]
    exact ⟨rfl, fun _ => rfl⟩
  · rw [pol_f z]
    exact ⟨rfl, fun y => absurd y z⟩
theorem pol_7 {S : mS} {L : mL} {un : Nat → Nat} {len p : Nat} {D : PD} (hL : (yT un len (yOn un len p D.dp) 1).1 = 0 → cLd S L un len (tE un len p)) (h5 : ¬ PW S L 5) (h6 : ¬ PW S L 6) (h : PW S L 7) : (yPol un len D p).1 = yT un len (yOn un len p D.dp) 1 ∧ ((yPol un len D p).1.1 = 0 → (yPol un len D p).2 = pol_v D 2) := by
  by_cases z : (yT un len (yOn un len p D.dp) 1).1 = 0
  · have h1 : ¬ yK un len (tE un len p) 5 := fun y => h5 ((isW_i (hL z) (by omega)).mpr y)
    have h2 : ¬ yK un len (tE un len p) 6 := fun y => h6 ((isW_i (hL z) (by omega)).mpr y)
    have h3 : yK un len (tE un len p) 7 := (isW_i (hL z) (by omega)).mp h
    unfold yPol
    dsimp only
    rw [if_neg h1, if_neg h2, if_pos h3]
    exact ⟨rfl, fun _ => rfl⟩
  · rw [pol_f z]
    exact ⟨rfl, fun y => absurd y z⟩
theorem pol_e {S : mS} {L : mL} {un : Nat → Nat} {len p : Nat} {D : PD} (hL : (yT un len (yOn un len p D.dp) 1).1 = 0 → cLd S L un len (tE un len p)) (h5 : ¬ PW S L 5) (h6 : ¬ PW S L 6) (h7 : ¬ PW S L 7) : (yPol un len D p).1 = yE (yT un len (yOn un len p D.dp) 1) 1 (nI (tS un len (tE un len p))) := by
  by_cases z : (yT un len (yOn un len p D.dp) 1).1 = 0
  · have h1 : ¬ yK un len (tE un len p) 5 := fun y => h5 ((isW_i (hL z) (by omega)).mpr y)
    have h2 : ¬ yK un len (tE un len p) 6 := fun y => h6 ((isW_i (hL z) (by omega)).mpr y)
    have h3 : ¬ yK un len (tE un len p) 7 := fun y => h7 ((isW_i (hL z) (by omega)).mpr y)
    unfold yPol
    dsimp only
    rw [if_neg h1, if_neg h2, if_neg h3]
  · rw [pol_f z, yE_f z]
theorem pol_end {S M M1 : mS} {L L2 : mL} {un : Nat → Nat} {len p e v : Nat} {D : PD} (hD : cD S L e D) (hF : RFr S M) (hF1 : RFr (up3 M 1 0 11 (nI 1)) M1) (hG : LFr L L2) (hS : cSt M1 len (yT un len (yOn un len p D.dp) 1)) (h : (yPol un len D p).1 = yT un len (yOn un len p D.dp) 1 ∧ ((yPol un len D p).1.1 = 0 → (yPol un len D p).2 = pol_v D v)) :
    cSt (up3 M1 3 e 1 (nI v)) len (yPol un len D p).1 ∧ ((yPol un len D p).1.1 = 0 → cD (up3 M1 3 e 1 (nI v)) L2 e (yPol un len D p).2) ∧ PFs e S (up3 M1 3 e 1 (nI v)) ∧ PFl e L L2 := by
  rw [h.1]
  have h2 : (yT un len (yOn un len p D.dp) 1).1 = 0 → (yPol un len D p).2 = pol_v D v := fun z => h.2 (by rw [h.1]; exact z)
  refine ⟨hS.u (by omega), fun z => ?_, ((hF.pf.u1 (by omega)).tr hF1.pf).u3, hG.pf⟩
  rw [h2 z]
  obtain ⟨d1, d2, d3, d4, d5, d6, d7, d8, d9, d10⟩ := hD
  have e3 : ∀ w, M1 3 e w = S 3 e w := fun w => by rw [hF1.1 3 e (by omega), up3_k _ (by omega), hF.1 3 e (by omega)]
  exact ⟨d1, by rw [up3_j _ (by omega), e3]; exact d2, by rw [up3_j _ (by omega), e3]; exact d3, up3_s _ _ _ _ _, fun j hj => by rw [up3_j _ (by omega), e3]; exact d5 j hj, fun j hj => by rw [hG 4 e (by omega)]; exact d6 j hj, fun j w hj hw => by rw [up3_k _ (by omega), hF1.1 6 _ (by omega), up3_k _ (by omega), hF.1 6 _ (by omega)]; exact d7 j w hj hw, by rw [up3_k _ (by omega), hF1.2 10 (by omega), up3_j _ (by omega), hF.2 10 (by omega)]; exact d8, by rw [up3_k _ (by omega), hF1.2 11 (by omega), up3_s]; rfl, d10.1, Nat.le_refl 1⟩

def rm_X5_readPolicy : Room := { frames := 6, cells := 0, slots := 0, locals := 184 }
set_option maxHeartbeats 4000000 in
set_option maxRecDepth 100000 in
theorem c_X5_readPolicy {l : Launch} {G : mG} {ad : mA} {S : mS} {L : mL} {R : mR} {un : Nat → Nat} {len f p e : Nat} {D : PD} (hR : mlk R) (hB : cB S un len f) (hq : cSt S len (y0 (tE un len p))) (hL : cLd S L un len p) (hD : cD S L e D) (he : e < 2) : Kv l yX5_readPolicy cX5_readPolicy 2 rm_X5_readPolicy G ad mdm [.ref (ad 1 0), .ref (ad 3 e)] S L R (fun S2 L2 R2 => cSt S2 len (yPol un len D p).1 ∧ ((yPol un len D p).1.1 = 0 → cD S2 L2 e (yPol un len D p).2) ∧ PFs e S S2 ∧ PFl e L L2 ∧ R = R2) := by
  refine Kv.of RX5 (by decide) rfl (Nat.le_of_ble_eq_true rfl) ?_
  intro X hXl hXG C ret
  subst hXl; subst hXG
  change Z X 2 ad mdm S L R 0 0 0 [(0, _), (1, _)] []
  have hdp := hD.2.2.2.2.2.2.2.2.2.2
  have join_12 : ∀ (M : mS), cSt M len (yOn un len p D.dp) → RFr S M → Z X 2 ad mdm M L R 0 0 12 [(0, .ref (ad 1 0)), (1, .ref (ad 3 e))] [] := by
    intro M mq mF
    refine z_aload_n C 12 0 0 dX5_readPolicy_12 rfl rfl ?_
    refine z_iconst (v := nI 1) C 13 dX5_readPolicy_13 (by decide) ?_
    refine z_putz C 14 dX5_readPolicy_14 gf_X5_45 ⟨rfl, rfl⟩ (by first | exact bI_01 | exact Or.inl rfl | exact Or.inr rfl | assumption) rfl (by first | assumption | exact Nat.zero_lt_one | exact (show (15 : Nat) < 16 by decide) | exact Nat.lt_succ_of_lt (by assumption) | omega) ?_
    refine z_aload_n C 17 0 0 dX5_readPolicy_17 rfl rfl ?_
    refine z_iconst (v := nI 1) C 18 dX5_readPolicy_18 (by decide) ?_
    refine z_cVv0 C 19 dX5_readPolicy_19 cv_X5_72 (c_X5_take (f := f) (q := yOn un len p D.dp) hR (hB.pf (mF.pf.u1 (e := 0) (by omega))) (mq.k (fun j hj => by rw [up3_j _ (by omega)])) (by decide)) rfl ⟨by decide, rfl⟩ (by first | assumption | exact Nat.zero_lt_one | exact (show (15 : Nat) < 16 by decide) | exact Nat.lt_succ_of_lt (by assumption) | omega) rfl rfl (Nat.le_of_ble_eq_true rfl) ⟨by decide, by decide⟩ ⟨rfl, rfl⟩ ⟨by decide, by decide⟩ ?_
    intro S19 L19 R19 p19
    obtain ⟨t19, F19, G19, rfl, w19⟩ := p19
    have w19p : (yT un len (yOn un len p D.dp) 1).1 = 0 → cLd S19 L19 un len (tE un len p) := fun z => by have t := w19 z; rw [yOn_p] at t; exact t
    refine z_aload_n C 22 0 0 dX5_readPolicy_22 rfl rfl ?_
    refine z_sldc (n := 5) (tx := "promise") C 23 dX5_readPolicy_23 (List.mem_of_getElem? (i := 5) rfl) ?_
    refine z_cVi0 C 25 dX5_readPolicy_25 cv_X5_58 (c_X5_isWord hR (by decide)) rfl ⟨by decide, rfl⟩ (by first | assumption | exact Nat.zero_lt_one | exact (show (15 : Nat) < 16 by decide) | exact Nat.lt_succ_of_lt (by assumption) | omega) rfl rfl (Nat.le_of_ble_eq_true rfl) ⟨by decide, by decide⟩ ⟨rfl, rfl⟩ ⟨by decide, by decide⟩ ?_
    intro r25 S25 L25 R25 p25
    obtain ⟨rfl, rfl, rfl, rfl⟩ := p25
    first | with_reducible refine z_if_eqB C 28 39 dX5_readPolicy_28 (by decide) (fun h28 => ?_) (fun h28 => ?_) | with_reducible refine z_if_eqN C 28 39 dX5_readPolicy_28 (by decide) (by omega) (fun h28 => ?_) (fun h28 => ?_) | refine z_if_eq C 28 39 dX5_readPolicy_28 (by decide) (fun h28 => ?_) (fun h28 => ?_)
    · refine z_aload_n C 39 0 0 dX5_readPolicy_39 rfl rfl ?_
      refine z_sldc (n := 6) (tx := "size") C 40 dX5_readPolicy_40 (List.mem_of_getElem? (i := 6) rfl) ?_
      refine z_cVi0 C 42 dX5_readPolicy_42 cv_X5_58 (c_X5_isWord hR (by decide)) rfl ⟨by decide, rfl⟩ (by first | assumption | exact Nat.zero_lt_one | exact (show (15 : Nat) < 16 by decide) | exact Nat.lt_succ_of_lt (by assumption) | omega) rfl rfl (Nat.le_of_ble_eq_true rfl) ⟨by decide, by decide⟩ ⟨rfl, rfl⟩ ⟨by decide, by decide⟩ ?_
      intro r42 S42 L42 R42 p42
      obtain ⟨rfl, rfl, rfl, rfl⟩ := p42
      first | with_reducible refine z_if_eqB C 45 56 dX5_readPolicy_45 (by decide) (fun h45 => ?_) (fun h45 => ?_) | with_reducible refine z_if_eqN C 45 56 dX5_readPolicy_45 (by decide) (by omega) (fun h45 => ?_) (fun h45 => ?_) | refine z_if_eq C 45 56 dX5_readPolicy_45 (by decide) (fun h45 => ?_) (fun h45 => ?_)
      · refine z_aload_n C 56 0 0 dX5_readPolicy_56 rfl rfl ?_
        refine z_sldc (n := 7) (tx := "recent") C 57 dX5_readPolicy_57 (List.mem_of_getElem? (i := 7) rfl) ?_
        refine z_cVi0 C 59 dX5_readPolicy_59 cv_X5_58 (c_X5_isWord hR (by decide)) rfl ⟨by decide, rfl⟩ (by first | assumption | exact Nat.zero_lt_one | exact (show (15 : Nat) < 16 by decide) | exact Nat.lt_succ_of_lt (by assumption) | omega) rfl rfl (Nat.le_of_ble_eq_true rfl) ⟨by decide, by decide⟩ ⟨rfl, rfl⟩ ⟨by decide, by decide⟩ ?_
        intro r59 S59 L59 R59 p59
        obtain ⟨rfl, rfl, rfl, rfl⟩ := p59
        first | with_reducible refine z_if_eqB C 62 73 dX5_readPolicy_62 (by decide) (fun h62 => ?_) (fun h62 => ?_) | with_reducible refine z_if_eqN C 62 73 dX5_readPolicy_62 (by decide) (by omega) (fun h62 => ?_) (fun h62 => ?_) | refine z_if_eq C 62 73 dX5_readPolicy_62 (by decide) (fun h62 => ?_) (fun h62 => ?_)
        · refine z_aload_n C 73 0 0 dX5_readPolicy_73 rfl rfl ?_
          refine z_iconst (v := nI 1) C 74 dX5_readPolicy_74 (by decide) ?_
          refine z_cVv0 C 75 dX5_readPolicy_75 cv_X5_62 (c_X5_fail hR) rfl ⟨by decide, rfl⟩ (by first | assumption | exact Nat.zero_lt_one | exact (show (15 : Nat) < 16 by decide) | exact Nat.lt_succ_of_lt (by assumption) | omega) rfl rfl (Nat.le_of_ble_eq_true rfl) ⟨by decide, by decide⟩ ⟨rfl, rfl⟩ ⟨by decide, by decide⟩ ?_
          intro S75 L75 R75 p75
          obtain ⟨rfl, rfl, rfl⟩ := p75
          exact ret 78 _ _ _ _ dX5_readPolicy_78 ((by first
    | exact (let t := pol_end hD mF F19 G19 t19 (pol_5 w19p h28); ⟨t.1, t.2.1, t.2.2.1, t.2.2.2, rfl⟩)
    | exact (let t := pol_end hD mF F19 G19 t19 (pol_6 w19p h28 h45); ⟨t.1, t.2.1, t.2.2.1, t.2.2.2, rfl⟩)
    | exact (let t := pol_end hD mF F19 G19 t19 (pol_7 w19p h28 h45 h62); ⟨t.1, t.2.1, t.2.2.1, t.2.2.2, rfl⟩)
    | (rw [pol_e w19p h28 h45 h62]; exact ⟨by have t := t19.tk w19 (c := 1) (by decide) (by decide); rw [yOn_p] at t; exact t, fun z => absurd z (yE_0 (by decide)), ((mF.pf.u1 (by omega)).tr F19.pf).tr (kF_r _ _).pf, G19.pf, rfl⟩)))
        · refine z_aload_n C 65 1 1 dX5_readPolicy_65 rfl rfl ?_
          refine z_iconst (v := nI 2) C 66 dX5_readPolicy_66 (by decide) ?_
          refine z_puti C 67 dX5_readPolicy_67 gf_X5_132 ⟨rfl, rfl⟩ rfl (by first | assumption | exact Nat.zero_lt_one | exact (show (15 : Nat) < 16 by decide) | exact Nat.lt_succ_of_lt (by assumption) | omega) ?_
          refine z_goto C 70 78 dX5_readPolicy_70 (by decide) ?_
          exact ret 78 _ _ _ _ dX5_readPolicy_78 ((by first
    | exact (let t := pol_end hD mF F19 G19 t19 (pol_5 w19p h28); ⟨t.1, t.2.1, t.2.2.1, t.2.2.2, rfl⟩)
    | exact (let t := pol_end hD mF F19 G19 t19 (pol_6 w19p h28 h45); ⟨t.1, t.2.1, t.2.2.1, t.2.2.2, rfl⟩)
    | exact (let t := pol_end hD mF F19 G19 t19 (pol_7 w19p h28 h45 h62); ⟨t.1, t.2.1, t.2.2.1, t.2.2.2, rfl⟩)
    | (rw [pol_e w19p h28 h45 h62]; exact ⟨by have t := t19.tk w19 (c := 1) (by decide) (by decide); rw [yOn_p] at t; exact t, fun z => absurd z (yE_0 (by decide)), ((mF.pf.u1 (by omega)).tr F19.pf).tr (kF_r _ _).pf, G19.pf, rfl⟩)))
      · refine z_aload_n C 48 1 1 dX5_readPolicy_48 rfl rfl ?_
        refine z_iconst (v := nI 1) C 49 dX5_readPolicy_49 (by decide) ?_
        refine z_puti C 50 dX5_readPolicy_50 gf_X5_132 ⟨rfl, rfl⟩ rfl (by first | assumption | exact Nat.zero_lt_one | exact (show (15 : Nat) < 16 by decide) | exact Nat.lt_succ_of_lt (by assumption) | omega) ?_
        refine z_goto C 53 78 dX5_readPolicy_53 (by decide) ?_
        exact ret 78 _ _ _ _ dX5_readPolicy_78 ((by first
    | exact (let t := pol_end hD mF F19 G19 t19 (pol_5 w19p h28); ⟨t.1, t.2.1, t.2.2.1, t.2.2.2, rfl⟩)
    | exact (let t := pol_end hD mF F19 G19 t19 (pol_6 w19p h28 h45); ⟨t.1, t.2.1, t.2.2.1, t.2.2.2, rfl⟩)
    | exact (let t := pol_end hD mF F19 G19 t19 (pol_7 w19p h28 h45 h62); ⟨t.1, t.2.1, t.2.2.1, t.2.2.2, rfl⟩)
    | (rw [pol_e w19p h28 h45 h62]; exact ⟨by have t := t19.tk w19 (c := 1) (by decide) (by decide); rw [yOn_p] at t; exact t, fun z => absurd z (yE_0 (by decide)), ((mF.pf.u1 (by omega)).tr F19.pf).tr (kF_r _ _).pf, G19.pf, rfl⟩)))
    · refine z_aload_n C 31 1 1 dX5_readPolicy_31 rfl rfl ?_
      refine z_iconst (v := nI 0) C 32 dX5_readPolicy_32 (by decide) ?_
      refine z_puti C 33 dX5_readPolicy_33 gf_X5_132 ⟨rfl, rfl⟩ rfl (by first | assumption | exact Nat.zero_lt_one | exact (show (15 : Nat) < 16 by decide) | exact Nat.lt_succ_of_lt (by assumption) | omega) ?_
      refine z_goto C 36 78 dX5_readPolicy_36 (by decide) ?_
      exact ret 78 _ _ _ _ dX5_readPolicy_78 ((by first
    | exact (let t := pol_end hD mF F19 G19 t19 (pol_5 w19p h28); ⟨t.1, t.2.1, t.2.2.1, t.2.2.2, rfl⟩)
    | exact (let t := pol_end hD mF F19 G19 t19 (pol_6 w19p h28 h45); ⟨t.1, t.2.1, t.2.2.1, t.2.2.2, rfl⟩)
    | exact (let t := pol_end hD mF F19 G19 t19 (pol_7 w19p h28 h45 h62); ⟨t.1, t.2.1, t.2.2.1, t.2.2.2, rfl⟩)
    | (rw [pol_e w19p h28 h45 h62]; exact ⟨by have t := t19.tk w19 (c := 1) (by decide) (by decide); rw [yOn_p] at t; exact t, fun z => absurd z (yE_0 (by decide)), ((mF.pf.u1 (by omega)).tr F19.pf).tr (kF_r _ _).pf, G19.pf, rfl⟩)))
  refine z_aload_n C 0 0 0 dX5_readPolicy_0 rfl rfl ?_
  refine z_getiv C 1 dX5_readPolicy_1 gf_X5_45 rfl (by first | assumption | exact Nat.zero_lt_one | exact (show (15 : Nat) < 16 by decide) | exact Nat.lt_succ_of_lt (by assumption) | omega) hD.2.2.2.2.2.2.2.2.1 ?_
  first | with_reducible refine z_if_eqB C 4 12 dX5_readPolicy_4 (by decide) (fun h4 => ?_) (fun h4 => ?_) | with_reducible refine z_if_eqN C 4 12 dX5_readPolicy_4 (by decide) (by omega) (fun h4 => ?_) (fun h4 => ?_) | refine z_if_eq C 4 12 dX5_readPolicy_4 (by decide) (fun h4 => ?_) (fun h4 => ?_)
  · refine z_sub [(0, _), (1, _)] [0, 1] rfl ?_
    first
      | exact join_12 _ (on_0 hq (by omega)) (RFr.rf _)
      | exact join_12 _ (on_1 hq hL (by omega)) (kF_r _ _)
  · refine z_aload_n C 7 0 0 dX5_readPolicy_7 rfl rfl ?_
    refine z_iconst (v := nI 2) C 8 dX5_readPolicy_8 (by decide) ?_
    refine z_cVv0 C 9 dX5_readPolicy_9 cv_X5_62 (c_X5_fail hR) rfl ⟨by decide, rfl⟩ (by first | assumption | exact Nat.zero_lt_one | exact (show (15 : Nat) < 16 by decide) | exact Nat.lt_succ_of_lt (by assumption) | omega) rfl rfl (Nat.le_of_ble_eq_true rfl) ⟨by decide, by decide⟩ ⟨rfl, rfl⟩ ⟨by decide, by decide⟩ ?_
    intro S9 L9 R9 p9
    obtain ⟨rfl, rfl, rfl⟩ := p9
    refine z_sub [(0, _), (1, _)] [0, 1] rfl ?_
    first
      | exact join_12 _ (on_0 hq (by omega)) (RFr.rf _)
      | exact join_12 _ (on_1 hq hL (by omega)) (kF_r _ _)
