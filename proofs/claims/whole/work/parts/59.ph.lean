/-! A WHOLE TEXT -/
/-- a status behind place p -/
def yG (len p : Nat) (q : mQ) : Prop := p ≤ q.2.2 ∧ q.2.2 ≤ len ∧ (q.1 = 0 → q.2.1 = -1) ∧ q.1 ≤ 5
theorem yG.y0 {len p : Nat} (h : p ≤ len) : yG len p (y0 p) := ⟨Nat.le_refl _, h, fun _ => rfl, Nat.zero_le _⟩
theorem yG.up {len p p' : Nat} {q : mQ} (h : yG len p q) (hp : p' ≤ p) : yG len p' q := ⟨Nat.le_trans hp h.1, h.2⟩
theorem yG.T {un : Nat → Nat} {len p : Nat} {q : mQ} (h : yG len p q) (w : Nat) : yG len p (yT un len q w) := by
  by_cases h0 : q.1 = 0
  · by_cases hk : tK un len q.2.2 = w
    · rw [yT_k h0 hk]
      exact ⟨Nat.le_trans h.1 (Nat.le_trans tS_ge tE_ge), tE_le h.2.1, fun _ => h.2.2.1 h0, Nat.zero_le _⟩
    · rw [yT_e h0 hk]
      exact ⟨h.1, h.2.1, (fun z => (nomatch z)), show 1 ≤ 5 by omega⟩
  · rw [yT_f h0]
    exact h
theorem yG.N {un : Nat → Nat} {len p : Nat} {q : mQ} (h : yG len p q) (a b : Nat) : yG len p (yN un len q a b) := by
  by_cases h0 : q.1 = 0
  · by_cases hk : tK un len q.2.2 = 2
    · by_cases hv : a ≤ tV un len q.2.2 ∧ tV un len q.2.2 ≤ b
      · rw [yN_k h0 hk hv]
        exact ⟨Nat.le_trans h.1 (Nat.le_trans tS_ge tE_ge), tE_le h.2.1, fun _ => h.2.2.1 h0, Nat.zero_le _⟩
      · rw [yN_v h0 hk hv]
        exact ⟨h.1, h.2.1, (fun z => (nomatch z)), show 3 ≤ 5 by omega⟩
    · rw [yN_e h0 hk]
      exact ⟨h.1, h.2.1, (fun z => (nomatch z)), show 1 ≤ 5 by omega⟩
  · rw [yN_f h0]
    exact h
theorem yG.E {len p : Nat} {q : mQ} (h : yG len p q) {c : Nat} (hc : ¬ c = 0) (hc5 : c ≤ 5) (a : Int32) : yG len p (yE q c a) := by
  by_cases h0 : q.1 = 0
  · rw [yE_c h0]
    exact ⟨h.1, h.2.1, fun z => absurd z hc, hc5⟩
  · rw [yE_f h0]
    exact h
theorem yG.C {un : Nat → Nat} {len p : Nat} {q : mQ} (h : yG len p q) : ∀ j, yG len p (yC un len q j)
  | 0 => h
  | j + 1 => (h.C j).N _ _
theorem yG.Cc {un : Nat → Nat} {len p : Nat} {q : mQ} (h : yG len p q) : ∀ j, yG len p (yCc un len q j)
  | 0 => h
  | j + 1 => (h.Cc j).N _ _
theorem yG.err {len p c : Nat} {a : Int32} (h : p ≤ len) (hc : ¬ c = 0) (hc5 : c ≤ 5) : yG len p (c, a, p) := ⟨Nat.le_refl _, h, fun z => absurd z hc, hc5⟩
theorem yG.on {un : Nat → Nat} {len p d : Nat} (h : p ≤ len) : yG len (tE un len p) (yOn un len p d) := by
  unfold yOn
  split
  · exact yG.y0 (tE_le h)
  · exact yG.err (tE_le h) (by decide) (by decide)
theorem yStm_G {un : Nat → Nat} {len p : Nat} {D : PD} (h : p ≤ len) : yG len p (yStm un len D p).1 := by
  have hE : tE un len p ≤ len := tE_le h
  have hp : p ≤ tE un len p := Nat.le_trans tS_ge tE_ge
  have h0 := (yG.y0 hE).T (un := un) 1
  unfold yStm
  split
  · unfold yProg
    split
    · exact (yG.err hE (by decide) (by decide)).up hp
    · refine (yG.C ?_ 7).up hp
      unfold yPq
      split
      · exact h0
      · exact h0.E (by decide) (by decide) _
  · split
    · unfold yWork
      split
      · exact (h0.E (by decide) (by decide) _).up hp
      · refine (yG.N ?_ _ _).up hp
        split
        · exact h0
        · exact h0.E (by decide) (by decide) _
    · split
      · exact ((yG.on h).Cc 4).up hp
      · split
        · unfold yPol
          dsimp only
          split
          · exact ((yG.on h).T 1).up hp
          · split
            · exact ((yG.on h).T 1).up hp
            · split
              · exact ((yG.on h).T 1).up hp
              · exact (((yG.on h).T 1).E (by decide) (by decide) _).up hp
        · exact (yG.err hE (by decide) (by decide)).up hp
theorem yT3 {un : Nat → Nat} {len p : Nat} {q : mQ} (h : yG len p q) (z : (yT un len q 3).1 = 0) : p < (yT un len q 3).2.2 := by
  obtain ⟨a, b, c⟩ := yT_ok z
  rw [c]
  have h1 := tE_gt (un := un) (len := len) (p := q.2.2) (by omega)
  have h2 := tS_ge (un := un) (len := len) (p := q.2.2)
  have h3 := h.1
  show p < tE un len q.2.2
  omega
def yLoop (un : Nat → Nat) (len : Nat) : Nat → PD → mQ → mQ × PD
  | 0, D, q => (q, D)
  | n + 1, D, q => if q.1 = 0 ∧ ¬ tK un len q.2.2 = 0 then yLoop un len n (yStm un len D q.2.2).2 (yT un len (yStm un len D q.2.2).1 3) else (q, D)
theorem tK_end {un : Nat → Nat} {len p : Nat} (h : len ≤ p) : tK un len p = 0 := by
  have := tS_ge (un := un) (len := len) (p := p)
  unfold tK
  rw [if_pos (by omega)]
theorem yLoop_i {un : Nat → Nat} {len : Nat} : ∀ (n m : Nat) (D : PD) (q : mQ), (q.1 = 0 → q.2.2 ≤ len ∧ len < n + q.2.2 ∧ len < m + q.2.2) → yLoop un len n D q = yLoop un len m D q
  | 0, 0, _, _, _ => rfl
  | 0, m + 1, D, q, h => by
    rw [yLoop, yLoop, if_neg]
    intro z
    have := h z.1
    omega
  | n + 1, 0, D, q, h => by
    rw [yLoop, yLoop, if_neg]
    intro z
    have := h z.1
    omega
  | n + 1, m + 1, D, q, h => by
    rw [yLoop, yLoop]
    by_cases z : q.1 = 0 ∧ ¬ tK un len q.2.2 = 0
    · rw [if_pos z, if_pos z]
      refine yLoop_i n m _ _ (fun z2 => ?_)
      have h1 := h z.1
      have hG := yStm_G (un := un) (D := D) h1.1
      have h2 := yT3 hG z2
      have h3 := (hG.T (un := un) 3).2.1
      omega
    · rw [if_neg z, if_neg z]
def yRun (un : Nat → Nat) (len : Nat) (D : PD) (q : mQ) : mQ × PD := yLoop un len (len + 1) D q
theorem yRun_s {un : Nat → Nat} {len : Nat} {D : PD} {q : mQ} (h : q.2.2 ≤ len) (h0 : q.1 = 0) (hk : ¬ tK un len q.2.2 = 0) : yRun un len D q = yRun un len (yStm un len D q.2.2).2 (yT un len (yStm un len D q.2.2).1 3) := by
  show yLoop un len (len + 1) D q = yLoop un len (len + 1) _ _
  have e : yLoop un len (len + 1) D q = yLoop un len len (yStm un len D q.2.2).2 (yT un len (yStm un len D q.2.2).1 3) := by rw [yLoop, if_pos ⟨h0, hk⟩]
  rw [e]
  refine yLoop_i _ _ _ _ (fun z => ?_)
  have hG := yStm_G (un := un) (D := D) h
  have h2 := yT3 hG z
  have h3 := (hG.T (un := un) 3).2.1
  omega
theorem yRun_e {un : Nat → Nat} {len : Nat} {D : PD} {q : mQ} (h : ¬ (q.1 = 0 ∧ ¬ tK un len q.2.2 = 0)) : yRun un len D q = (q, D) := by
  show yLoop un len (len + 1) D q = _
  rw [yLoop, if_neg h]
def yD (lim : Nat) : PD := (0, (fun _ => []), (fun _ => 0), (fun j => nI ([10, 2, 5, 20].getD j 0)), 0, lim, 0, 0)
def yH0 (un : Nat → Nat) (len : Nat) : mQ := if yK un len 0 0 then y0 (tE un len 0) else (1, nI (tS un len 0), 0)
def yH (un : Nat → Nat) (len : Nat) : mQ := yT un len (yN un len (yH0 un len) 50 2000) 3
def yPh (un : Nat → Nat) (len : Nat) : mQ × PD := yRun un len (yD (tW un len (yH0 un len).2.2)) (yH un len)
theorem yH0_G {un : Nat → Nat} {len : Nat} : yG len 0 (yH0 un len) := by
  unfold yH0
  split
  · exact (yG.y0 (tE_le (Nat.zero_le _))).up (Nat.zero_le _)
  · exact yG.err (Nat.zero_le _) (by decide) (by decide)
theorem yH_G {un : Nat → Nat} {len : Nat} : yG len 0 (yH un len) := (yH0_G.N _ _).T _
theorem stm_1 {un : Nat → Nat} {len p : Nat} {D : PD} (h : yK un len p 1) : yStm un len D p = yProg un len D p := if_pos h
theorem stm_2 {un : Nat → Nat} {len p : Nat} {D : PD} (h1 : ¬ yK un len p 1) (h : yK un len p 2) : yStm un len D p = yWork un len D p := by
  unfold yStm
  rw [if_neg h1, if_pos h]
theorem stm_3 {un : Nat → Nat} {len p : Nat} {D : PD} (h1 : ¬ yK un len p 1) (h2 : ¬ yK un len p 2) (h : yK un len p 3) : yStm un len D p = yCost un len D p := by
  unfold yStm
  rw [if_neg h1, if_neg h2, if_pos h]
theorem stm_4 {un : Nat → Nat} {len p : Nat} {D : PD} (h1 : ¬ yK un len p 1) (h2 : ¬ yK un len p 2) (h3 : ¬ yK un len p 3) (h : yK un len p 4) : yStm un len D p = yPol un len D p := by
  unfold yStm
  rw [if_neg h1, if_neg h2, if_neg h3, if_pos h]
theorem stm_5 {un : Nat → Nat} {len p : Nat} {D : PD} (h1 : ¬ yK un len p 1) (h2 : ¬ yK un len p 2) (h3 : ¬ yK un len p 3) (h : ¬ yK un len p 4) : yStm un len D p = ((1, nI (tS un len p), tE un len p), D) := by
  unfold yStm
  rw [if_neg h1, if_neg h2, if_neg h3, if_neg h]
theorem cSu.k {S : mS} {L : mL} {un : Nat → Nat} {len : Nat} {q : mQ} (h : cSu S L un len q) (h0 : q.1 = 0) (h1 : q.2.1 = -1) : cSt S len (y0 (tE un len q.2.2)) := by
  have t := cSu_k h h0
  rw [h1] at t
  exact t
theorem kF_2 {S : mS} {L : mL} {un : Nat → Nat} {len : Nat} {q : mQ} {D : PD} (h : cSu S L un len q) (h0 : q.1 = 0) (h1 : ¬ yK un len q.2.2 1) (h2 : ¬ yK un len q.2.2 2) (h3 : ¬ yK un len q.2.2 3) (h4 : ¬ yK un len q.2.2 4) (hq : q.2.1 = -1) : cSt (kF S (nI 1)) len (yStm un len D q.2.2).1 ∧ ¬ (yStm un len D q.2.2).1.1 = 0 := by
  rw [stm_5 h1 h2 h3 h4]
  exact ⟨kF_1 (h.k h0 hq) (h.2.2.2.2 h0) (by decide) (by decide), (fun z => (nomatch z))⟩
theorem dBeg_1 {S : mS} {e i j : Nat} : dBeg S e 1 i j = S 1 i j := by simp [dBeg, up3_at]
theorem cD_beg {S : mS} {L : mL} {e : Nat} (h10 : S 1 0 10 = nI 0) (h11 : S 1 0 11 = nI 0) : cD (dBeg S e) L e (yD 100) := by
  refine ⟨Nat.zero_le _, up3_s _ _ _ _ _, ?_, ?_, fun j hj => ?_, fun j hj => absurd hj (Nat.not_lt_zero _), fun j w hj => absurd hj (Nat.not_lt_zero _), ?_, ?_, Nat.zero_le _, Nat.zero_le _⟩
  · simp only [dBeg, up3_at]; rfl
  · simp only [dBeg, up3_at]; rfl
  · rcases (show j = 0 ∨ j = 1 ∨ j = 2 ∨ j = 3 by omega) with rfl | rfl | rfl | rfl <;> (simp only [dBeg, up3_at]; simp; rfl)
  · rw [dBeg_1]; exact h10
  · rw [dBeg_1]; exact h11
theorem dBeg_f {S : mS} {e : Nat} : PFs e S (dBeg S e) := ((((((((PFs.rf e S).u3).u3).u3).u3).u3).u3).u3)
theorem cD.lim {S : mS} {L : mL} {e l : Nat} (h : cD S L e (yD l)) {l2 : Nat} {v : Int32} (hv : v = nI l2) : cD (up3 S 3 e 0 v) L e (yD l2) := by
  obtain ⟨a, b, c, d, f, g, i, j, k, l⟩ := h
  subst hv
  exact ⟨a, by rw [up3_j _ (by omega)]; exact b, up3_s _ _ _ _ _, by rw [up3_j _ (by omega)]; exact d, fun j hj => by rw [up3_j _ (by omega)]; exact f j hj, g, fun j w hj _ => absurd hj (Nat.not_lt_zero _), by rw [up3_k _ (by omega)]; exact j, by rw [up3_k _ (by omega)]; exact k, l⟩
theorem cSu.dr {S : mS} {L : mL} {un : Nat → Nat} {len f : Nat} {q : mQ} {S1 : mS} (h : cSt S1 len q) (hu : cSu S L un len q) : True := trivial

def rm_X5_readPhone : Room := { frames := 7, cells := 0, slots := 0, locals := 205 }
set_option maxHeartbeats 4000000 in
set_option maxRecDepth 100000 in
theorem c_X5_readPhone {l : Launch} {G : mG} {ad : mA} {S : mS} {L : mL} {R : mR} {un : Nat → Nat} {len f e : Nat} (hR : mlk R) (hT : cT S un f) (hlf : len ≤ f) (he : e < 2) : Ki l yX5_readPhone cX5_readPhone 4 .int rm_X5_readPhone G ad mdm [.ref (ad 1 0), .int (nI len), .ref (ad 3 e)] S L R (fun r_ S2 L2 R2 => r_ = nI (yPh un len).1.1 ∧ S2 1 0 9 = (yPh un len).1.2.1 ∧ ((yPh un len).1.1 = 0 → cD S2 L2 e (yPh un len).2) ∧ PFs e (up3 S 1 0 2 (nI len)) S2 ∧ PFl e L L2 ∧ R = R2) := by
  refine Ki.of RX5 (by decide) rfl (Nat.le_of_ble_eq_true rfl) ?_
  intro X hXl hXG C ret
  subst hXl; subst hXG
  change Z X 4 ad mdm S L R 0 0 0 [(0, _), (1, _), (2, _)] []
  have hf7 := hT.2.1
  have join_59 : ∀ (M : mS) (L1 : mL), cB (up3 S 1 0 2 (nI len)) un len f → cSt M len (yH0 un len) → cD M L1 e (yD 100) → PFs e (up3 S 1 0 2 (nI len)) M → PFl e L L1 → Z X 4 ad mdm M L1 R 0 0 59 [(0, .ref (ad 1 0)), (1, .int (nI len)), (2, .ref (ad 3 e))] [] := by
    intro M L1 hB ps pd pF pG
    refine z_aload_n C 59 2 2 dX5_readPhone_59 rfl rfl ?_
    refine z_aload_n C 60 0 0 dX5_readPhone_60 rfl rfl ?_
    refine z_bipush (v := nI 50) C 61 dX5_readPhone_61 (by decide +kernel) ?_
    refine z_sipush (v := nI 2000) C 63 dX5_readPhone_63 (by decide +kernel) ?_
    refine z_cVi0 C 66 dX5_readPhone_66 cv_X5_66 (c_X5_takeNumber (un := un) (f := f) (q := yH0 un len) (a := 50) (b := 2000) hR (hB.pf pF) ps (fun _ => ⟨rfl, rfl⟩) (by decide) (by decide)) rfl ⟨by decide, rfl⟩ (by first | assumption | exact Nat.zero_lt_one | exact (show (15 : Nat) < 16 by decide) | exact Nat.lt_succ_of_lt (by assumption) | omega) rfl rfl (Nat.le_of_ble_eq_true rfl) ⟨by decide, by decide⟩ ⟨rfl, rfl⟩ ⟨by decide, by decide⟩ ?_
    intro r66 S66 L66 R66 p66
    obtain ⟨t66, F66, G66, rfl, v66⟩ := p66
    refine z_puti C 69 dX5_readPhone_69 gf_X5_69 ⟨rfl, rfl⟩ rfl (by first | assumption | exact Nat.zero_lt_one | exact (show (15 : Nat) < 16 by decide) | exact Nat.lt_succ_of_lt (by assumption) | omega) ?_
    refine z_aload_n C 72 0 0 dX5_readPhone_72 rfl rfl ?_
    refine z_iconst (v := nI 3) C 73 dX5_readPhone_73 (by decide) ?_
    refine z_cVv0 C 74 dX5_readPhone_74 cv_X5_72 (c_X5_take (un := un) (f := f) (q := yN un len (yH0 un len) 50 2000) hR (hB.pf (pF.tr F66.pf.u3)) (t66.u (by omega)) (by decide)) rfl ⟨by decide, rfl⟩ (by first | assumption | exact Nat.zero_lt_one | exact (show (15 : Nat) < 16 by decide) | exact Nat.lt_succ_of_lt (by assumption) | omega) rfl rfl (Nat.le_of_ble_eq_true rfl) ⟨by decide, by decide⟩ ⟨rfl, rfl⟩ ⟨by decide, by decide⟩ ?_
    intro S74 L74 R74 p74
    obtain ⟨t74, F74, G74, rfl, w74⟩ := p74
    refine z_aload_n C 77 0 0 dX5_readPhone_77 rfl rfl ?_
    refine z_cVv0 C 78 dX5_readPhone_78 cv_X5_53 (c_X5_stepq (un := un) (f := f) (q := yH un len) hR (hB.pf ((pF.tr F66.pf.u3).tr F74.pf)) t74) rfl ⟨by decide, rfl⟩ (by first | assumption | exact Nat.zero_lt_one | exact (show (15 : Nat) < 16 by decide) | exact Nat.lt_succ_of_lt (by assumption) | omega) rfl rfl (Nat.le_of_ble_eq_true rfl) ⟨by decide, by decide⟩ ⟨rfl, rfl⟩ ⟨by decide, by decide⟩ ?_
    intro S78 L78 R78 p78
    obtain ⟨u78, F78, G78, rfl⟩ := p78
    have hD78 : (yH un len).1 = 0 → cD S78 L78 e (yD (tW un len (yH0 un len).2.2)) := fun z => by
      have z1 := yN_ok (yT_ok z).1
      exact (((pd.fr F66 G66).lim (by rw [v66 (yT_ok z).1, tW_2 z1.2.1])).fr F74 G74).fr F78 G78
    have pF78 := ((pF.tr (F66.pf.u3)).tr F74.pf).tr F78.pf
    have pG78 := ((pG.tr G66.pf).tr G74.pf).tr G78.pf
    refine z_iconst (v := nI 0) C 81 dX5_readPhone_81 (by decide) ?_
    refine z_istore_n C 82 3 [(3, _), (0, _), (1, _), (2, _)] dX5_readPhone_82 rfl (by decide) rfl ?_
    have loop_83 : ∀ (n_83 : Nat) (s : Nat) (q : mQ) (D : PD) (M : mS) (L1 : mL), cB (up3 S 1 0 2 (nI len)) un len f → s ≤ len → cSu M L1 un len q → (q.1 = 0 → cD M L1 e D) → (q.1 = 0 → s ≤ q.2.2) → (q.1 = 0 → q.2.1 = -1) → PFs e (up3 S 1 0 2 (nI len)) M → PFl e L L1 → yPh un len = yRun un len D q → len - s < n_83 → Z X 4 ad mdm M L1 R 0 0 83 [(0, .ref (ad 1 0)), (1, .int (nI len)), (2, .ref (ad 3 e)), (3, .int (nI s))] [] := by
      intro n_83
      induction n_83 with
      | zero => intro s q D M L1 hB hs pu pd p2 p1 pF pG pR hm83; exact absurd hm83 (Nat.not_lt_zero _)
      | succ n_83 ih83 =>
        intro s q D M L1 hB hs pu pd p2 p1 pF pG pR hm83
        refine z_iload_n C 83 3 3 dX5_readPhone_83 rfl rfl ?_
        refine z_aload_n C 84 0 0 dX5_readPhone_84 rfl rfl ?_
        refine z_getiv C 85 dX5_readPhone_85 gf_X5_29 rfl (by first | assumption | exact Nat.zero_lt_one | exact (show (15 : Nat) < 16 by decide) | exact Nat.lt_succ_of_lt (by assumption) | omega) ((pF.2 2 (by omega)).trans (up3_s _ _ _ _ _)) ?_
        first | with_reducible refine z_icmp_geN C 88 193 dX5_readPhone_88 (by decide) (by omega) (by omega) (fun h88 => ?_) (fun h88 => ?_) | refine z_icmp_ge C 88 193 dX5_readPhone_88 (by decide) (fun h88 => ?_) (fun h88 => ?_)
        · refine z_aload_n C 193 0 0 dX5_readPhone_193 rfl rfl ?_
          refine z_geti C 194 dX5_readPhone_194 gf_X5_35 rfl (by first | assumption | exact Nat.zero_lt_one | exact (show (15 : Nat) < 16 by decide) | exact Nat.lt_succ_of_lt (by assumption) | omega) ?_
          exact ret 197 _ _ _ _ _ dX5_readPhone_197 (by first | rfl | exact bI_n | decide) ((by
    have e9 : yRun un len D q = (q, D) := yRun_e (fun z => by
      have h2 := p2 z.1
      first
      | exact z.2 (tK_end (by omega))
      | exact h95 (pu.1.trans (by rw [z.1]; rfl))
      | exact z.2 ((nI_00 (by have := tK_le (un := un) (len := len) (p := q.2.2); omega)).mp ((pu.2.2.2.2 z.1).2.2.1.symm.trans h102)))
    rw [pR, e9]
    exact ⟨pu.1, pu.2.2.1, pd, pF, pG, rfl⟩))
        · refine z_aload_n C 91 0 0 dX5_readPhone_91 rfl rfl ?_
          refine z_geti C 92 dX5_readPhone_92 gf_X5_35 rfl (by first | assumption | exact Nat.zero_lt_one | exact (show (15 : Nat) < 16 by decide) | exact Nat.lt_succ_of_lt (by assumption) | omega) ?_
          first | with_reducible refine z_if_neB C 95 193 dX5_readPhone_95 (by decide) (fun h95 => ?_) (fun h95 => ?_) | with_reducible refine z_if_neN C 95 193 dX5_readPhone_95 (by decide) (by omega) (fun h95 => ?_) (fun h95 => ?_) | refine z_if_ne C 95 193 dX5_readPhone_95 (by decide) (fun h95 => ?_) (fun h95 => ?_)
          · refine z_aload_n C 193 0 0 dX5_readPhone_193 rfl rfl ?_
            refine z_geti C 194 dX5_readPhone_194 gf_X5_35 rfl (by first | assumption | exact Nat.zero_lt_one | exact (show (15 : Nat) < 16 by decide) | exact Nat.lt_succ_of_lt (by assumption) | omega) ?_
            exact ret 197 _ _ _ _ _ dX5_readPhone_197 (by first | rfl | exact bI_n | decide) ((by
    have e9 : yRun un len D q = (q, D) := yRun_e (fun z => by
      have h2 := p2 z.1
      first
      | exact z.2 (tK_end (by omega))
      | exact h95 (pu.1.trans (by rw [z.1]; rfl))
      | exact z.2 ((nI_00 (by have := tK_le (un := un) (len := len) (p := q.2.2); omega)).mp ((pu.2.2.2.2 z.1).2.2.1.symm.trans h102)))
    rw [pR, e9]
    exact ⟨pu.1, pu.2.2.1, pd, pF, pG, rfl⟩))
          · have h0 : q.1 = 0 := (nI_00 (by have := pu.2.1; omega)).mp (pu.1.symm.trans h95)
            have h1 := p1 h0
            refine z_aload_n C 98 0 0 dX5_readPhone_98 rfl rfl ?_
            refine z_geti C 99 dX5_readPhone_99 gf_X5_75 rfl (by first | assumption | exact Nat.zero_lt_one | exact (show (15 : Nat) < 16 by decide) | exact Nat.lt_succ_of_lt (by assumption) | omega) ?_
            first | with_reducible refine z_if_eqB C 102 193 dX5_readPhone_102 (by decide) (fun h102 => ?_) (fun h102 => ?_) | with_reducible refine z_if_eqN C 102 193 dX5_readPhone_102 (by decide) (by omega) (fun h102 => ?_) (fun h102 => ?_) | refine z_if_eq C 102 193 dX5_readPhone_102 (by decide) (fun h102 => ?_) (fun h102 => ?_)
            · refine z_aload_n C 193 0 0 dX5_readPhone_193 rfl rfl ?_
              refine z_geti C 194 dX5_readPhone_194 gf_X5_35 rfl (by first | assumption | exact Nat.zero_lt_one | exact (show (15 : Nat) < 16 by decide) | exact Nat.lt_succ_of_lt (by assumption) | omega) ?_
              exact ret 197 _ _ _ _ _ dX5_readPhone_197 (by first | rfl | exact bI_n | decide) ((by
    have e9 : yRun un len D q = (q, D) := yRun_e (fun z => by
      have h2 := p2 z.1
      first
      | exact z.2 (tK_end (by omega))
      | exact h95 (pu.1.trans (by rw [z.1]; rfl))
      | exact z.2 ((nI_00 (by have := tK_le (un := un) (len := len) (p := q.2.2); omega)).mp ((pu.2.2.2.2 z.1).2.2.1.symm.trans h102)))
    rw [pR, e9]
    exact ⟨pu.1, pu.2.2.1, pd, pF, pG, rfl⟩))
            · have hk : ¬ tK un len q.2.2 = 0 := fun z => h102 ((pu.2.2.2.2 h0).2.2.1.trans (by rw [z]; rfl))
              have hl := pu.2.2.2.2 h0
              refine z_aload_n C 105 0 0 dX5_readPhone_105 rfl rfl ?_
              refine z_sldc (n := 1) (tx := "program") C 106 dX5_readPhone_106 (List.mem_of_getElem? (i := 1) rfl) ?_
              refine z_cVi0 C 108 dX5_readPhone_108 cv_X5_58 (c_X5_isWord hR (by decide)) rfl ⟨by decide, rfl⟩ (by first | assumption | exact Nat.zero_lt_one | exact (show (15 : Nat) < 16 by decide) | exact Nat.lt_succ_of_lt (by assumption) | omega) rfl rfl (Nat.le_of_ble_eq_true rfl) ⟨by decide, by decide⟩ ⟨rfl, rfl⟩ ⟨by decide, by decide⟩ ?_
              intro r108 S108 L108 R108 p108
              obtain ⟨rfl, rfl, rfl, rfl⟩ := p108
              first | with_reducible refine z_if_eqB C 111 122 dX5_readPhone_111 (by decide) (fun h111 => ?_) (fun h111 => ?_) | with_reducible refine z_if_eqN C 111 122 dX5_readPhone_111 (by decide) (by omega) (fun h111 => ?_) (fun h111 => ?_) | refine z_if_eq C 111 122 dX5_readPhone_111 (by decide) (fun h111 => ?_) (fun h111 => ?_)
              · have y1 : ¬ yK un len q.2.2 1 := fun z => h111 ((isW_i hl (by omega)).mpr z)
                refine z_aload_n C 122 0 0 dX5_readPhone_122 rfl rfl ?_
                refine z_sldc (n := 2) (tx := "work") C 123 dX5_readPhone_123 (List.mem_of_getElem? (i := 2) rfl) ?_
                refine z_cVi0 C 125 dX5_readPhone_125 cv_X5_58 (c_X5_isWord hR (by decide)) rfl ⟨by decide, rfl⟩ (by first | assumption | exact Nat.zero_lt_one | exact (show (15 : Nat) < 16 by decide) | exact Nat.lt_succ_of_lt (by assumption) | omega) rfl rfl (Nat.le_of_ble_eq_true rfl) ⟨by decide, by decide⟩ ⟨rfl, rfl⟩ ⟨by decide, by decide⟩ ?_
                intro r125 S125 L125 R125 p125
                obtain ⟨rfl, rfl, rfl, rfl⟩ := p125
                first | with_reducible refine z_if_eqB C 128 139 dX5_readPhone_128 (by decide) (fun h128 => ?_) (fun h128 => ?_) | with_reducible refine z_if_eqN C 128 139 dX5_readPhone_128 (by decide) (by omega) (fun h128 => ?_) (fun h128 => ?_) | refine z_if_eq C 128 139 dX5_readPhone_128 (by decide) (fun h128 => ?_) (fun h128 => ?_)
                · have y2 : ¬ yK un len q.2.2 2 := fun z => h128 ((isW_i hl (by omega)).mpr z)
                  refine z_aload_n C 139 0 0 dX5_readPhone_139 rfl rfl ?_
                  refine z_sldc (n := 3) (tx := "costs") C 140 dX5_readPhone_140 (List.mem_of_getElem? (i := 3) rfl) ?_
                  refine z_cVi0 C 142 dX5_readPhone_142 cv_X5_58 (c_X5_isWord hR (by decide)) rfl ⟨by decide, rfl⟩ (by first | assumption | exact Nat.zero_lt_one | exact (show (15 : Nat) < 16 by decide) | exact Nat.lt_succ_of_lt (by assumption) | omega) rfl rfl (Nat.le_of_ble_eq_true rfl) ⟨by decide, by decide⟩ ⟨rfl, rfl⟩ ⟨by decide, by decide⟩ ?_
                  intro r142 S142 L142 R142 p142
                  obtain ⟨rfl, rfl, rfl, rfl⟩ := p142
                  first | with_reducible refine z_if_eqB C 145 156 dX5_readPhone_145 (by decide) (fun h145 => ?_) (fun h145 => ?_) | with_reducible refine z_if_eqN C 145 156 dX5_readPhone_145 (by decide) (by omega) (fun h145 => ?_) (fun h145 => ?_) | refine z_if_eq C 145 156 dX5_readPhone_145 (by decide) (fun h145 => ?_) (fun h145 => ?_)
                  · have y3 : ¬ yK un len q.2.2 3 := fun z => h145 ((isW_i hl (by omega)).mpr z)
                    refine z_aload_n C 156 0 0 dX5_readPhone_156 rfl rfl ?_
                    refine z_sldc (n := 4) (tx := "policy") C 157 dX5_readPhone_157 (List.mem_of_getElem? (i := 4) rfl) ?_
                    refine z_cVi0 C 159 dX5_readPhone_159 cv_X5_58 (c_X5_isWord hR (by decide)) rfl ⟨by decide, rfl⟩ (by first | assumption | exact Nat.zero_lt_one | exact (show (15 : Nat) < 16 by decide) | exact Nat.lt_succ_of_lt (by assumption) | omega) rfl rfl (Nat.le_of_ble_eq_true rfl) ⟨by decide, by decide⟩ ⟨rfl, rfl⟩ ⟨by decide, by decide⟩ ?_
                    intro r159 S159 L159 R159 p159
                    obtain ⟨rfl, rfl, rfl, rfl⟩ := p159
                    first | with_reducible refine z_if_eqB C 162 173 dX5_readPhone_162 (by decide) (fun h162 => ?_) (fun h162 => ?_) | with_reducible refine z_if_eqN C 162 173 dX5_readPhone_162 (by decide) (by omega) (fun h162 => ?_) (fun h162 => ?_) | refine z_if_eq C 162 173 dX5_readPhone_162 (by decide) (fun h162 => ?_) (fun h162 => ?_)
                    · have y4 : ¬ yK un len q.2.2 4 := fun z => h162 ((isW_i hl (by omega)).mpr z)
                      refine z_aload_n C 173 0 0 dX5_readPhone_173 rfl rfl ?_
                      refine z_iconst (v := nI 1) C 174 dX5_readPhone_174 (by decide) ?_
                      refine z_cVv0 C 175 dX5_readPhone_175 cv_X5_62 (c_X5_fail hR) rfl ⟨by decide, rfl⟩ (by first | assumption | exact Nat.zero_lt_one | exact (show (15 : Nat) < 16 by decide) | exact Nat.lt_succ_of_lt (by assumption) | omega) rfl rfl (Nat.le_of_ble_eq_true rfl) ⟨by decide, by decide⟩ ⟨rfl, rfl⟩ ⟨by decide, by decide⟩ ?_
                      intro S175 L175 R175 p175
                      obtain ⟨rfl, rfl, rfl⟩ := p175
                      obtain ⟨tq, nq⟩ := kF_2 (D := D) pu h0 y1 y2 y3 y4 h1
                      have dq : (yStm un len D q.2.2).1.1 = 0 → cD (kF M (nI 1)) L1 e (yStm un len D q.2.2).2 := fun z => absurd z nq
                      have Fq : PFs e M (kF M (nI 1)) := (kF_r _ _).pf
                      have Gq := PFl.rf e L1
                      refine z_aload_n C 178 0 0 dX5_readPhone_178 rfl rfl ?_
                      refine z_iconst (v := nI 3) C 179 dX5_readPhone_179 (by decide) ?_
                      refine z_cVv0 C 180 dX5_readPhone_180 cv_X5_72 (c_X5_take (un := un) (f := f) (q := (yStm un len D q.2.2).1) hR (hB.pf (pF.tr Fq)) tq (by decide)) rfl ⟨by decide, rfl⟩ (by first | assumption | exact Nat.zero_lt_one | exact (show (15 : Nat) < 16 by decide) | exact Nat.lt_succ_of_lt (by assumption) | omega) rfl rfl (Nat.le_of_ble_eq_true rfl) ⟨by decide, by decide⟩ ⟨rfl, rfl⟩ ⟨by decide, by decide⟩ ?_
                      intro S180 L180 R180 p180
                      obtain ⟨t180, F180, G180, rfl, w180⟩ := p180
                      refine z_aload_n C 183 0 0 dX5_readPhone_183 rfl rfl ?_
                      refine z_cVv0 C 184 dX5_readPhone_184 cv_X5_53 (c_X5_stepq (un := un) (f := f) (q := yT un len (yStm un len D q.2.2).1 3) hR (hB.pf ((pF.tr Fq).tr F180.pf)) t180) rfl ⟨by decide, rfl⟩ (by first | assumption | exact Nat.zero_lt_one | exact (show (15 : Nat) < 16 by decide) | exact Nat.lt_succ_of_lt (by assumption) | omega) rfl rfl (Nat.le_of_ble_eq_true rfl) ⟨by decide, by decide⟩ ⟨rfl, rfl⟩ ⟨by decide, by decide⟩ ?_
                      intro S184 L184 R184 p184
                      obtain ⟨u184, F184, G184, rfl⟩ := p184
                      have hn := yRun_s (D := D) pu.2.2.2.1 h0 hk
                      have hqG := yStm_G (un := un) (D := D) pu.2.2.2.1
                      have pd' : (yT un len (yStm un len D q.2.2).1 3).1 = 0 → cD S184 L184 e (yStm un len D q.2.2).2 := fun z => ((dq (yT_ok z).1).fr F180 G180).fr F184 G184
                      have pF' := ((pF.tr Fq).tr F180.pf).tr F184.pf
                      have pG' := ((pG.tr Gq).tr G180.pf).tr G184.pf
                      refine z_iinc C 187 3 3 [(3, _), (0, _), (1, _), (2, _)] dX5_readPhone_187 rfl (by first | exact nI_1 _ | rfl) (by decide) rfl ?_
                      refine z_goto C 190 83 dX5_readPhone_190 (by decide) ?_
                      refine z_sub [(0, _), (1, _), (2, _), (3, _)] [1, 2, 3, 0] rfl ?_
                      exact ih83 (s + 1) _ _ _ _ hB (by omega) u184 pd' (fun z => by have := yT3 hqG z; have := p2 h0; omega) (hqG.T 3).2.2.1 pF' pG' (pR.trans hn) (by omega)
                    · have y4 : yK un len q.2.2 4 := (isW_i hl (by omega)).mp h162
                      refine z_aload_n C 165 0 0 dX5_readPhone_165 rfl rfl ?_
                      refine z_aload_n C 166 2 2 dX5_readPhone_166 rfl rfl ?_
                      refine z_cVv0 C 167 dX5_readPhone_167 cv_X5_96 (c_X5_readPolicy (un := un) (len := len) (f := f) (p := q.2.2) (e := e) (D := D) hR (hB.pf pF) (pu.k h0 h1) (pu.2.2.2.2 h0) (pd h0) he) rfl ⟨by decide, rfl⟩ (by first | assumption | exact Nat.zero_lt_one | exact (show (15 : Nat) < 16 by decide) | exact Nat.lt_succ_of_lt (by assumption) | omega) rfl rfl (Nat.le_of_ble_eq_true rfl) ⟨by decide, by decide⟩ ⟨rfl, rfl⟩ ⟨by decide, by decide⟩ ?_
                      intro S167 L167 R167 p167
                      obtain ⟨tq, dq, Fq, Gq, rfl⟩ := p167
                      rw [← show yStm un len D q.2.2 = _ from stm_4 y1 y2 y3 y4] at tq dq
                      refine z_goto C 170 178 dX5_readPhone_170 (by decide) ?_
                      refine z_aload_n C 178 0 0 dX5_readPhone_178 rfl rfl ?_
                      refine z_iconst (v := nI 3) C 179 dX5_readPhone_179 (by decide) ?_
                      refine z_cVv0 C 180 dX5_readPhone_180 cv_X5_72 (c_X5_take (un := un) (f := f) (q := (yStm un len D q.2.2).1) hR (hB.pf (pF.tr Fq)) tq (by decide)) rfl ⟨by decide, rfl⟩ (by first | assumption | exact Nat.zero_lt_one | exact (show (15 : Nat) < 16 by decide) | exact Nat.lt_succ_of_lt (by assumption) | omega) rfl rfl (Nat.le_of_ble_eq_true rfl) ⟨by decide, by decide⟩ ⟨rfl, rfl⟩ ⟨by decide, by decide⟩ ?_
                      intro S180 L180 R180 p180
                      obtain ⟨t180, F180, G180, rfl, w180⟩ := p180
                      refine z_aload_n C 183 0 0 dX5_readPhone_183 rfl rfl ?_
                      refine z_cVv0 C 184 dX5_readPhone_184 cv_X5_53 (c_X5_stepq (un := un) (f := f) (q := yT un len (yStm un len D q.2.2).1 3) hR (hB.pf ((pF.tr Fq).tr F180.pf)) t180) rfl ⟨by decide, rfl⟩ (by first | assumption | exact Nat.zero_lt_one | exact (show (15 : Nat) < 16 by decide) | exact Nat.lt_succ_of_lt (by assumption) | omega) rfl rfl (Nat.le_of_ble_eq_true rfl) ⟨by decide, by decide⟩ ⟨rfl, rfl⟩ ⟨by decide, by decide⟩ ?_
                      intro S184 L184 R184 p184
                      obtain ⟨u184, F184, G184, rfl⟩ := p184
                      have hn := yRun_s (D := D) pu.2.2.2.1 h0 hk
                      have hqG := yStm_G (un := un) (D := D) pu.2.2.2.1
                      have pd' : (yT un len (yStm un len D q.2.2).1 3).1 = 0 → cD S184 L184 e (yStm un len D q.2.2).2 := fun z => ((dq (yT_ok z).1).fr F180 G180).fr F184 G184
                      have pF' := ((pF.tr Fq).tr F180.pf).tr F184.pf
                      have pG' := ((pG.tr Gq).tr G180.pf).tr G184.pf
                      refine z_iinc C 187 3 3 [(3, _), (0, _), (1, _), (2, _)] dX5_readPhone_187 rfl (by first | exact nI_1 _ | rfl) (by decide) rfl ?_
                      refine z_goto C 190 83 dX5_readPhone_190 (by decide) ?_
                      refine z_sub [(0, _), (1, _), (2, _), (3, _)] [1, 2, 3, 0] rfl ?_
                      exact ih83 (s + 1) _ _ _ _ hB (by omega) u184 pd' (fun z => by have := yT3 hqG z; have := p2 h0; omega) (hqG.T 3).2.2.1 pF' pG' (pR.trans hn) (by omega)
                  · have y3 : yK un len q.2.2 3 := (isW_i hl (by omega)).mp h145
                    refine z_aload_n C 148 0 0 dX5_readPhone_148 rfl rfl ?_
                    refine z_aload_n C 149 2 2 dX5_readPhone_149 rfl rfl ?_
                    refine z_cVv0 C 150 dX5_readPhone_150 cv_X5_91 (c_X5_readCosts (un := un) (len := len) (f := f) (p := q.2.2) (e := e) (D := D) hR (hB.pf pF) (pu.k h0 h1) (pu.2.2.2.2 h0) (pd h0) he) rfl ⟨by decide, rfl⟩ (by first | assumption | exact Nat.zero_lt_one | exact (show (15 : Nat) < 16 by decide) | exact Nat.lt_succ_of_lt (by assumption) | omega) rfl rfl (Nat.le_of_ble_eq_true rfl) ⟨by decide, by decide⟩ ⟨rfl, rfl⟩ ⟨by decide, by decide⟩ ?_
                    intro S150 L150 R150 p150
                    obtain ⟨tq, dq, Fq, Gq, rfl⟩ := p150
                    rw [← show yStm un len D q.2.2 = _ from stm_3 y1 y2 y3] at tq dq
                    refine z_goto C 153 178 dX5_readPhone_153 (by decide) ?_
                    refine z_aload_n C 178 0 0 dX5_readPhone_178 rfl rfl ?_
                    refine z_iconst (v := nI 3) C 179 dX5_readPhone_179 (by decide) ?_
                    refine z_cVv0 C 180 dX5_readPhone_180 cv_X5_72 (c_X5_take (un := un) (f := f) (q := (yStm un len D q.2.2).1) hR (hB.pf (pF.tr Fq)) tq (by decide)) rfl ⟨by decide, rfl⟩ (by first | assumption | exact Nat.zero_lt_one | exact (show (15 : Nat) < 16 by decide) | exact Nat.lt_succ_of_lt (by assumption) | omega) rfl rfl (Nat.le_of_ble_eq_true rfl) ⟨by decide, by decide⟩ ⟨rfl, rfl⟩ ⟨by decide, by decide⟩ ?_
                    intro S180 L180 R180 p180
                    obtain ⟨t180, F180, G180, rfl, w180⟩ := p180
                    refine z_aload_n C 183 0 0 dX5_readPhone_183 rfl rfl ?_
                    refine z_cVv0 C 184 dX5_readPhone_184 cv_X5_53 (c_X5_stepq (un := un) (f := f) (q := yT un len (yStm un len D q.2.2).1 3) hR (hB.pf ((pF.tr Fq).tr F180.pf)) t180) rfl ⟨by decide, rfl⟩ (by first | assumption | exact Nat.zero_lt_one | exact (show (15 : Nat) < 16 by decide) | exact Nat.lt_succ_of_lt (by assumption) | omega) rfl rfl (Nat.le_of_ble_eq_true rfl) ⟨by decide, by decide⟩ ⟨rfl, rfl⟩ ⟨by decide, by decide⟩ ?_
                    intro S184 L184 R184 p184
                    obtain ⟨u184, F184, G184, rfl⟩ := p184
                    have hn := yRun_s (D := D) pu.2.2.2.1 h0 hk
                    have hqG := yStm_G (un := un) (D := D) pu.2.2.2.1
                    have pd' : (yT un len (yStm un len D q.2.2).1 3).1 = 0 → cD S184 L184 e (yStm un len D q.2.2).2 := fun z => ((dq (yT_ok z).1).fr F180 G180).fr F184 G184
                    have pF' := ((pF.tr Fq).tr F180.pf).tr F184.pf
                    have pG' := ((pG.tr Gq).tr G180.pf).tr G184.pf
                    refine z_iinc C 187 3 3 [(3, _), (0, _), (1, _), (2, _)] dX5_readPhone_187 rfl (by first | exact nI_1 _ | rfl) (by decide) rfl ?_
                    refine z_goto C 190 83 dX5_readPhone_190 (by decide) ?_
                    refine z_sub [(0, _), (1, _), (2, _), (3, _)] [1, 2, 3, 0] rfl ?_
                    exact ih83 (s + 1) _ _ _ _ hB (by omega) u184 pd' (fun z => by have := yT3 hqG z; have := p2 h0; omega) (hqG.T 3).2.2.1 pF' pG' (pR.trans hn) (by omega)
                · have y2 : yK un len q.2.2 2 := (isW_i hl (by omega)).mp h128
                  refine z_aload_n C 131 0 0 dX5_readPhone_131 rfl rfl ?_
                  refine z_aload_n C 132 2 2 dX5_readPhone_132 rfl rfl ?_
                  refine z_cVv0 C 133 dX5_readPhone_133 cv_X5_86 (c_X5_readWork (un := un) (len := len) (f := f) (p := q.2.2) (e := e) (D := D) hR (hB.pf pF) (pu.k h0 h1) (pu.2.2.2.2 h0) (pd h0) he) rfl ⟨by decide, rfl⟩ (by first | assumption | exact Nat.zero_lt_one | exact (show (15 : Nat) < 16 by decide) | exact Nat.lt_succ_of_lt (by assumption) | omega) rfl rfl (Nat.le_of_ble_eq_true rfl) ⟨by decide, by decide⟩ ⟨rfl, rfl⟩ ⟨by decide, by decide⟩ ?_
                  intro S133 L133 R133 p133
                  obtain ⟨tq, dq, Fq, Gq, rfl⟩ := p133
                  rw [← show yStm un len D q.2.2 = _ from stm_2 y1 y2] at tq dq
                  refine z_goto C 136 178 dX5_readPhone_136 (by decide) ?_
                  refine z_aload_n C 178 0 0 dX5_readPhone_178 rfl rfl ?_
                  refine z_iconst (v := nI 3) C 179 dX5_readPhone_179 (by decide) ?_
                  refine z_cVv0 C 180 dX5_readPhone_180 cv_X5_72 (c_X5_take (un := un) (f := f) (q := (yStm un len D q.2.2).1) hR (hB.pf (pF.tr Fq)) tq (by decide)) rfl ⟨by decide, rfl⟩ (by first | assumption | exact Nat.zero_lt_one | exact (show (15 : Nat) < 16 by decide) | exact Nat.lt_succ_of_lt (by assumption) | omega) rfl rfl (Nat.le_of_ble_eq_true rfl) ⟨by decide, by decide⟩ ⟨rfl, rfl⟩ ⟨by decide, by decide⟩ ?_
                  intro S180 L180 R180 p180
                  obtain ⟨t180, F180, G180, rfl, w180⟩ := p180
                  refine z_aload_n C 183 0 0 dX5_readPhone_183 rfl rfl ?_
                  refine z_cVv0 C 184 dX5_readPhone_184 cv_X5_53 (c_X5_stepq (un := un) (f := f) (q := yT un len (yStm un len D q.2.2).1 3) hR (hB.pf ((pF.tr Fq).tr F180.pf)) t180) rfl ⟨by decide, rfl⟩ (by first | assumption | exact Nat.zero_lt_one | exact (show (15 : Nat) < 16 by decide) | exact Nat.lt_succ_of_lt (by assumption) | omega) rfl rfl (Nat.le_of_ble_eq_true rfl) ⟨by decide, by decide⟩ ⟨rfl, rfl⟩ ⟨by decide, by decide⟩ ?_
                  intro S184 L184 R184 p184
                  obtain ⟨u184, F184, G184, rfl⟩ := p184
                  have hn := yRun_s (D := D) pu.2.2.2.1 h0 hk
                  have hqG := yStm_G (un := un) (D := D) pu.2.2.2.1
                  have pd' : (yT un len (yStm un len D q.2.2).1 3).1 = 0 → cD S184 L184 e (yStm un len D q.2.2).2 := fun z => ((dq (yT_ok z).1).fr F180 G180).fr F184 G184
                  have pF' := ((pF.tr Fq).tr F180.pf).tr F184.pf
                  have pG' := ((pG.tr Gq).tr G180.pf).tr G184.pf
                  refine z_iinc C 187 3 3 [(3, _), (0, _), (1, _), (2, _)] dX5_readPhone_187 rfl (by first | exact nI_1 _ | rfl) (by decide) rfl ?_
                  refine z_goto C 190 83 dX5_readPhone_190 (by decide) ?_
                  refine z_sub [(0, _), (1, _), (2, _), (3, _)] [1, 2, 3, 0] rfl ?_
                  exact ih83 (s + 1) _ _ _ _ hB (by omega) u184 pd' (fun z => by have := yT3 hqG z; have := p2 h0; omega) (hqG.T 3).2.2.1 pF' pG' (pR.trans hn) (by omega)
              · have y1 : yK un len q.2.2 1 := (isW_i hl (by omega)).mp h111
                refine z_aload_n C 114 0 0 dX5_readPhone_114 rfl rfl ?_
                refine z_aload_n C 115 2 2 dX5_readPhone_115 rfl rfl ?_
                refine z_cVv0 C 116 dX5_readPhone_116 cv_X5_80 (c_X5_readProgram (un := un) (len := len) (f := f) (p := q.2.2) (e := e) (D := D) hR (hB.pf pF) (pu.k h0 h1) (pu.2.2.2.2 h0) (pd h0) he) rfl ⟨by decide, rfl⟩ (by first | assumption | exact Nat.zero_lt_one | exact (show (15 : Nat) < 16 by decide) | exact Nat.lt_succ_of_lt (by assumption) | omega) rfl rfl (Nat.le_of_ble_eq_true rfl) ⟨by decide, by decide⟩ ⟨rfl, rfl⟩ ⟨by decide, by decide⟩ ?_
                intro S116 L116 R116 p116
                obtain ⟨tq, dq, Fq, Gq, rfl⟩ := p116
                rw [← show yStm un len D q.2.2 = _ from stm_1 y1] at tq dq
                refine z_goto C 119 178 dX5_readPhone_119 (by decide) ?_
                refine z_aload_n C 178 0 0 dX5_readPhone_178 rfl rfl ?_
                refine z_iconst (v := nI 3) C 179 dX5_readPhone_179 (by decide) ?_
                refine z_cVv0 C 180 dX5_readPhone_180 cv_X5_72 (c_X5_take (un := un) (f := f) (q := (yStm un len D q.2.2).1) hR (hB.pf (pF.tr Fq)) tq (by decide)) rfl ⟨by decide, rfl⟩ (by first | assumption | exact Nat.zero_lt_one | exact (show (15 : Nat) < 16 by decide) | exact Nat.lt_succ_of_lt (by assumption) | omega) rfl rfl (Nat.le_of_ble_eq_true rfl) ⟨by decide, by decide⟩ ⟨rfl, rfl⟩ ⟨by decide, by decide⟩ ?_
                intro S180 L180 R180 p180
                obtain ⟨t180, F180, G180, rfl, w180⟩ := p180
                refine z_aload_n C 183 0 0 dX5_readPhone_183 rfl rfl ?_
                refine z_cVv0 C 184 dX5_readPhone_184 cv_X5_53 (c_X5_stepq (un := un) (f := f) (q := yT un len (yStm un len D q.2.2).1 3) hR (hB.pf ((pF.tr Fq).tr F180.pf)) t180) rfl ⟨by decide, rfl⟩ (by first | assumption | exact Nat.zero_lt_one | exact (show (15 : Nat) < 16 by decide) | exact Nat.lt_succ_of_lt (by assumption) | omega) rfl rfl (Nat.le_of_ble_eq_true rfl) ⟨by decide, by decide⟩ ⟨rfl, rfl⟩ ⟨by decide, by decide⟩ ?_
                intro S184 L184 R184 p184
                obtain ⟨u184, F184, G184, rfl⟩ := p184
                have hn := yRun_s (D := D) pu.2.2.2.1 h0 hk
                have hqG := yStm_G (un := un) (D := D) pu.2.2.2.1
                have pd' : (yT un len (yStm un len D q.2.2).1 3).1 = 0 → cD S184 L184 e (yStm un len D q.2.2).2 := fun z => ((dq (yT_ok z).1).fr F180 G180).fr F184 G184
                have pF' := ((pF.tr Fq).tr F180.pf).tr F184.pf
                have pG' := ((pG.tr Gq).tr G180.pf).tr G184.pf
                refine z_iinc C 187 3 3 [(3, _), (0, _), (1, _), (2, _)] dX5_readPhone_187 rfl (by first | exact nI_1 _ | rfl) (by decide) rfl ?_
                refine z_goto C 190 83 dX5_readPhone_190 (by decide) ?_
                refine z_sub [(0, _), (1, _), (2, _), (3, _)] [1, 2, 3, 0] rfl ?_
                exact ih83 (s + 1) _ _ _ _ hB (by omega) u184 pd' (fun z => by have := yT3 hqG z; have := p2 h0; omega) (hqG.T 3).2.2.1 pF' pG' (pR.trans hn) (by omega)
    refine z_sub [(0, _), (1, _), (2, _), (3, _)] [1, 2, 3, 0] rfl ?_
    exact loop_83 (len + 1) 0 _ _ _ _ hB (Nat.zero_le _) u78 hD78 (fun _ => Nat.zero_le _) yH_G.2.2.1 pF78 pG78 rfl (by omega)
  refine z_aload_n C 0 0 0 dX5_readPhone_0 rfl rfl ?_
  refine z_iload_n C 1 1 1 dX5_readPhone_1 rfl rfl ?_
  refine z_aload_n C 2 0 0 dX5_readPhone_2 rfl rfl ?_
  refine z_getiv C 3 dX5_readPhone_3 gf_X5_15 rfl (by first | assumption | exact Nat.zero_lt_one | exact (show (15 : Nat) < 16 by decide) | exact Nat.lt_succ_of_lt (by assumption) | omega) hT.1 ?_
  refine z_min C 6 dX5_readPhone_6 lj_X5_23 (Nat.le_of_ble_eq_true rfl) ⟨by decide, by decide⟩ ⟨by decide, by decide⟩ ?_
  rw [show (if nI f < nI len then nI f else nI len) = nI len from if_neg (fun z => absurd ((nI_ltI (by omega) (by omega)).mp z) (by omega))]
  refine z_puti C 9 dX5_readPhone_9 gf_X5_29 ⟨rfl, rfl⟩ rfl (by first | assumption | exact Nat.zero_lt_one | exact (show (15 : Nat) < 16 by decide) | exact Nat.lt_succ_of_lt (by assumption) | omega) ?_
  refine z_aload_n C 12 0 0 dX5_readPhone_12 rfl rfl ?_
  refine z_iconst (v := nI 0) C 13 dX5_readPhone_13 (by decide) ?_
  refine z_puti C 14 dX5_readPhone_14 gf_X5_32 ⟨rfl, rfl⟩ rfl (by first | assumption | exact Nat.zero_lt_one | exact (show (15 : Nat) < 16 by decide) | exact Nat.lt_succ_of_lt (by assumption) | omega) ?_
  refine z_aload_n C 17 0 0 dX5_readPhone_17 rfl rfl ?_
  refine z_iconst (v := nI 0) C 18 dX5_readPhone_18 (by decide) ?_
  refine z_puti C 19 dX5_readPhone_19 gf_X5_35 ⟨rfl, rfl⟩ rfl (by first | assumption | exact Nat.zero_lt_one | exact (show (15 : Nat) < 16 by decide) | exact Nat.lt_succ_of_lt (by assumption) | omega) ?_
  refine z_aload_n C 22 0 0 dX5_readPhone_22 rfl rfl ?_
  refine z_iconst (v := (-1)) C 23 dX5_readPhone_23 (by decide) ?_
  refine z_puti C 24 dX5_readPhone_24 gf_X5_38 ⟨rfl, rfl⟩ rfl (by first | assumption | exact Nat.zero_lt_one | exact (show (15 : Nat) < 16 by decide) | exact Nat.lt_succ_of_lt (by assumption) | omega) ?_
  refine z_aload_n C 27 0 0 dX5_readPhone_27 rfl rfl ?_
  refine z_iconst (v := nI 0) C 28 dX5_readPhone_28 (by decide) ?_
  refine z_putz C 29 dX5_readPhone_29 gf_X5_41 ⟨rfl, rfl⟩ (by first | exact bI_01 | exact Or.inl rfl | exact Or.inr rfl | assumption) rfl (by first | assumption | exact Nat.zero_lt_one | exact (show (15 : Nat) < 16 by decide) | exact Nat.lt_succ_of_lt (by assumption) | omega) ?_
  refine z_aload_n C 32 0 0 dX5_readPhone_32 rfl rfl ?_
  refine z_iconst (v := nI 0) C 33 dX5_readPhone_33 (by decide) ?_
  refine z_putz C 34 dX5_readPhone_34 gf_X5_45 ⟨rfl, rfl⟩ (by first | exact bI_01 | exact Or.inl rfl | exact Or.inr rfl | assumption) rfl (by first | assumption | exact Nat.zero_lt_one | exact (show (15 : Nat) < 16 by decide) | exact Nat.lt_succ_of_lt (by assumption) | omega) ?_
  refine z_aload_n C 37 2 2 dX5_readPhone_37 rfl rfl ?_
  refine z_cVv0 C 38 dX5_readPhone_38 cv_X5_48 (c_X0_begin (Nat.lt_succ_of_lt he)) rfl ⟨by decide, rfl⟩ (by first | assumption | exact Nat.zero_lt_one | exact (show (15 : Nat) < 16 by decide) | exact Nat.lt_succ_of_lt (by assumption) | omega) rfl rfl (Nat.le_of_ble_eq_true rfl) ⟨by decide, by decide⟩ ⟨rfl, rfl⟩ ⟨by decide, by decide⟩ ?_
  intro S38 L38 R38 p38
  obtain ⟨rfl, rfl, rfl⟩ := p38
  have hB : cB (up3 S 1 0 2 (nI len)) un len f := ⟨hT.off (up3_j _ (by omega)) (by rw [up3_k _ (by omega)]), up3_s _ _ _ _ _, hlf⟩
  obtain ⟨M0, hM0⟩ : ∃ M, M = (dBeg (up3 (up3 (up3 (up3 (up3 (up3 S 1 0 2 (nI len)) 1 0 3 (nI 0)) 1 0 8 (nI 0)) 1 0 9 (-1)) 1 0 10 (nI 0)) 1 0 11 (nI 0)) e) := ⟨_, rfl⟩
  rw [← hM0]
  have pF0 : PFs e (up3 S 1 0 2 (nI len)) M0 := by rw [hM0]; exact (((((((PFs.rf e _).u1 (by omega)).u1 (by omega)).u1 (by omega)).u1 (by omega)).u1 (by omega)).tr dBeg_f)
  have hB0 := hB.pf pF0
  have h0s : cSt M0 len (y0 0) := by rw [hM0]; exact ⟨by simp [dBeg_1, up3_at, y0], Nat.zero_le _, by simp [dBeg_1, up3_at, y0], Nat.zero_le _, fun _ => by simp [dBeg_1, up3_at, y0]⟩
  have hD0 : cD M0 L e (yD 100) := by rw [hM0]; exact cD_beg (by simp [up3_at]) (by simp [up3_at])
  clear hM0
  refine z_aload_n C 41 0 0 dX5_readPhone_41 rfl rfl ?_
  refine z_cVv0 C 42 dX5_readPhone_42 cv_X5_53 (c_X5_stepq (f := f) (q := y0 0) hR hB0 h0s) rfl ⟨by decide, rfl⟩ (by first | assumption | exact Nat.zero_lt_one | exact (show (15 : Nat) < 16 by decide) | exact Nat.lt_succ_of_lt (by assumption) | omega) rfl rfl (Nat.le_of_ble_eq_true rfl) ⟨by decide, by decide⟩ ⟨rfl, rfl⟩ ⟨by decide, by decide⟩ ?_
  intro S42 L42 R42 p42
  obtain ⟨hu, hF, hG, rfl⟩ := p42
  refine z_aload_n C 45 0 0 dX5_readPhone_45 rfl rfl ?_
  refine z_sldc (n := 0) (tx := "phone") C 46 dX5_readPhone_46 (List.mem_of_getElem? (i := 0) rfl) ?_
  refine z_cVi0 C 48 dX5_readPhone_48 cv_X5_58 (c_X5_isWord hR (by decide)) rfl ⟨by decide, rfl⟩ (by first | assumption | exact Nat.zero_lt_one | exact (show (15 : Nat) < 16 by decide) | exact Nat.lt_succ_of_lt (by assumption) | omega) rfl rfl (Nat.le_of_ble_eq_true rfl) ⟨by decide, by decide⟩ ⟨rfl, rfl⟩ ⟨by decide, by decide⟩ ?_
  intro r48 S48 L48 R48 p48
  obtain ⟨rfl, rfl, rfl, rfl⟩ := p48
  first | with_reducible refine z_if_neB C 51 59 dX5_readPhone_51 (by decide) (fun h51 => ?_) (fun h51 => ?_) | with_reducible refine z_if_neN C 51 59 dX5_readPhone_51 (by decide) (by omega) (fun h51 => ?_) (fun h51 => ?_) | refine z_if_ne C 51 59 dX5_readPhone_51 (by decide) (fun h51 => ?_) (fun h51 => ?_)
  · refine z_sub [(0, _), (1, _), (2, _)] [0, 1, 2] rfl ?_
    first
      | exact join_59 _ _ hB (by unfold yH0; rw [if_pos (show yK un len 0 0 from (isW_i (hu.2.2.2.2 rfl) (by omega)).mp h51)]; exact hu.k rfl rfl) (hD0.fr hF hG) (pF0.tr hF.pf) hG.pf
      | exact join_59 _ _ hB (by unfold yH0; rw [if_neg (show ¬ yK un len 0 0 from fun z => h51 ((isW_i (hu.2.2.2.2 rfl) (by omega)).mpr z))]; exact kF_e hu rfl (by decide) (by decide)) ((hD0.fr hF hG).fr (kF_r _ _) (LFr.rf _)) ((pF0.tr hF.pf).tr (kF_r _ _).pf) hG.pf
  · refine z_aload_n C 54 0 0 dX5_readPhone_54 rfl rfl ?_
    refine z_iconst (v := nI 1) C 55 dX5_readPhone_55 (by decide) ?_
    refine z_cVv0 C 56 dX5_readPhone_56 cv_X5_62 (c_X5_fail hR) rfl ⟨by decide, rfl⟩ (by first | assumption | exact Nat.zero_lt_one | exact (show (15 : Nat) < 16 by decide) | exact Nat.lt_succ_of_lt (by assumption) | omega) rfl rfl (Nat.le_of_ble_eq_true rfl) ⟨by decide, by decide⟩ ⟨rfl, rfl⟩ ⟨by decide, by decide⟩ ?_
    intro S56 L56 R56 p56
    obtain ⟨rfl, rfl, rfl⟩ := p56
    refine z_sub [(0, _), (1, _), (2, _)] [0, 1, 2] rfl ?_
    first
      | exact join_59 _ _ hB (by unfold yH0; rw [if_pos (show yK un len 0 0 from (isW_i (hu.2.2.2.2 rfl) (by omega)).mp h51)]; exact hu.k rfl rfl) (hD0.fr hF hG) (pF0.tr hF.pf) hG.pf
      | exact join_59 _ _ hB (by unfold yH0; rw [if_neg (show ¬ yK un len 0 0 from fun z => h51 ((isW_i (hu.2.2.2.2 rfl) (by omega)).mpr z))]; exact kF_e hu rfl (by decide) (by decide)) ((hD0.fr hF hG).fr (kF_r _ _) (LFr.rf _)) ((pF0.tr hF.pf).tr (kF_r _ _).pf) hG.pf
