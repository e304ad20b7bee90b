/-- on the way through the steps of makeMemory -/
def mI (S S1 : mS) (N : NN) (n v : Nat) (kk pp : Nat → Nat) (i : Nat) : Prop := AB S1 v (fRun N kk pp i) n ∧ rI (fRun N kk pp i) n ∧ cI (fRun N kk pp i) ∧ FP S S1 v ∧ S1 18 v = S 18 v
theorem AR.row {S : mS} {r : Nat} {N M : NN} (h : AR S r N) (e0 : M 0 = N 0) (e : ∀ p w, p < 10 → (w = 0 ∨ w = 1 ∨ w = 2 ∨ w = 6) → fo M p w = fo N p w) : AR S r M :=
  ⟨h.1.trans e0.symm, fun p hp => by rw [e p 0 hp (by omega), e p 1 hp (by omega), e p 2 hp (by omega), e p 6 hp (by omega)]; exact h.2 p hp⟩
theorem fset_fol {N : NN} {p w a b : Nat} {x : Int32} (hp : p < 10) (hw : w < 20) : fFol (fset N p w x) a b = fFol N a b := fset_out hp hw (Or.inr (by omega))
theorem wr_fol {N : NN} {k p a b : Nat} (hk : k ≤ 9) (ha : a < 10) (hb : b < 10) : fFol (fWr N k p) a b = fFol N a b := wr_388 hk (Or.inr (by omega))
/-- a change of an entry and of nothing but the log -/
theorem AB.wr {S S2 : mS} {v n k p : Nat} {N : NN} (h : AB S v N n) (hk : k ≤ 9) (hJ : AJ S2 v (fWr N k p)) (hF : ∀ kk i, ¬ (22 ≤ kk ∧ kk ≤ 24 ∧ i = v) → S2 kk i = S kk i) : AB S2 v (fWr N k p) n ∧ FP S S2 v := by
  refine ⟨⟨(h.1.off (fun kk a b => hF kk v (by omega))).row (wr_lo (by omega)) (fun q w hq hw => fo_wr hq (by omega)), (h.2.1.off (fun kk a b => hF kk v (by omega))).row (wr_lo (by omega)) (fun q w hq a b => fo_wr hq (by omega)) (fun a b ha hb => wr_fol hk ha hb), (h.2.2.1.off (hF 18 v (by omega))).row (fun q w hq hw => fo_wr hq (by omega)), hJ, (h.2.2.2.2.off (fun kk a b => hF kk v (by omega))).row (wr_lo (by omega)) (wr_lo (by omega)) (wr_lo (by omega)) (fun q w hq hw => fo_wr hq (by omega)) (fun j hj => wr_388 hk (Or.inl hj))⟩, fun kk i hn => hF kk i (by omega)⟩
/-- a picture changes -/
theorem AB.set3 {S : mS} {v n p : Nat} {N : NN} {x : Int32} (h : AB S v N n) (hp : p < 10) : AB (up3 S 26 v p x) v (fset N p 3 x) n := by
  have ho : ∀ q w, q < 10 → w < 20 → w ≠ 3 → fo (fset N p 3 x) q w = fo N q w := fun q w hq hw h3 => fo_set_w _ h3 (by omega) hw
  have hl : ∀ j, j < 6 ∨ 206 ≤ j → (fset N p 3 x) j = N j := fun j hj => fset_out hp (by omega) hj
  have hk : ∀ kk, kk ≠ 26 → up3 S 26 v p x kk v = S kk v := fun kk a => by rw [up3_k _ a]
  refine ⟨(h.1.off (fun kk a b => hk kk (by omega))).row (hl 0 (by omega)) (fun q w hq hw => ho q w hq (by omega) (by omega)), (h.2.1.off (fun kk a b => hk kk (by omega))).row (hl 3 (by omega)) (fun q w hq a b => ho q w hq (by omega) (by omega)) (fun a b ha hb => hl _ (by omega)), (h.2.2.1.off (hk 18 (by omega))).row (fun q w hq hw => ho q w hq (by omega) (by omega)), (h.2.2.2.1.off (fun kk a b => hk kk (by omega))).row (fun j hj => hl j (by omega)), ?_⟩
  have hP := h.2.2.2.2
  unfold AP
  rw [hk 25 (by omega), hk 27 (by omega), hk 28 (by omega), hk 29 (by omega), hk 30 (by omega), hl 1 (by omega), hl 4 (by omega), hl 2 (by omega)]
  refine ⟨hP.1, hP.2.1, hP.2.2.1, fun q hq => ?_⟩
  obtain ⟨g3, g4, g5, g15, g30⟩ := hP.2.2.2 q hq
  rw [ho q 4 hq (by omega) (by omega), ho q 5 hq (by omega) (by omega), ho q 15 hq (by omega) (by omega), fo_set N (by omega) (by omega)]
  refine ⟨?_, g4, g5, g15, fun t w hw ht hw5 => (g30 t w hw ht hw5).trans (hl _ (by omega)).symm⟩
  by_cases e : q = p
  · subst e
    rw [up3_s, if_pos ⟨rfl, rfl⟩]
  · rw [up3_j _ e, if_neg (fun z => e z.1), g3]
/-- what waits changes -/
theorem AB.set15 {S S2 : mS} {v n p w : Nat} {N M : NN} (h : AB S v N n) (hp : p < 10) (hw : w ≤ 5) (hM : ∀ j, j < 6 ∨ (206 ≤ j ∧ j < 388) → M j = N j) (hMo : ∀ q x, q < 10 → x < 20 → fo M q x = if q = p ∧ x = 15 then nI w else fo N q x) (hMq : ∀ q t, q ≠ p → q < 10 → t < 5 → M (388 + 5 * q + t) = N (388 + 5 * q + t)) (hF : ∀ kk i, ¬ (29 ≤ kk ∧ kk ≤ 30 ∧ i = v) → S2 kk i = S kk i) (h29 : ∀ q, q < 10 → S2 29 v q = if q = p then nI w else S 29 v q) (h30 : ∀ q t, q ≠ p → q < 10 → t < 5 → S2 30 v (q * 5 + t) = S 30 v (q * 5 + t)) (h30p : ∀ t, t < w → S2 30 v (p * 5 + t) = M (388 + 5 * p + t)) : AB S2 v M n ∧ FP S S2 v := by
  have ho : ∀ q x, q < 10 → x < 20 → x ≠ 15 → fo M q x = fo N q x := fun q x hq hx hn => by rw [hMo q x hq hx, if_neg (fun z => hn z.2)]
  refine ⟨⟨(h.1.off (fun kk a b => hF kk v (by omega))).row (hM 0 (by omega)) (fun q w hq hw => ho q w hq (by omega) (by omega)), (h.2.1.off (fun kk a b => hF kk v (by omega))).row (hM 3 (by omega)) (fun q w hq a b => ho q w hq (by omega) (by omega)) (fun a b ha hb => hM _ (by omega)), (h.2.2.1.off (hF 18 v (by omega))).row (fun q w hq hw => ho q w hq (by omega) (by omega)), (h.2.2.2.1.off (fun kk a b => hF kk v (by omega))).row (fun j hj => hM j (by omega)), ?_⟩, fun kk i hn => hF kk i (by omega)⟩
  have hP := h.2.2.2.2
  unfold AP
  rw [hF 25 v (by omega), hF 26 v (by omega), hF 27 v (by omega), hF 28 v (by omega), hM 1 (by omega), hM 4 (by omega), hM 2 (by omega)]
  refine ⟨hP.1, hP.2.1, hP.2.2.1, fun q hq => ?_⟩
  obtain ⟨g3, g4, g5, g15, g30⟩ := hP.2.2.2 q hq
  rw [ho q 3 hq (by omega) (by omega), ho q 4 hq (by omega) (by omega), ho q 5 hq (by omega) (by omega), hMo q 15 hq (by omega), h29 q hq]
  by_cases e : q = p
  · subst e
    rw [if_pos rfl, if_pos ⟨rfl, rfl⟩]
    refine ⟨g3, g4, g5, rfl, fun t w' hw' ht hw5 => ?_⟩
    obtain rfl := (nI_eq (by omega) (by omega)).mp hw'
    exact h30p t ht
  · rw [if_neg e, if_neg (fun z => e z.1)]
    refine ⟨g3, g4, g5, g15, fun t w' hw' ht hw5 => ?_⟩
    rw [h30 q t e hq (by omega), hMq q t e hq (by omega)]
    exact g30 t w' hw' ht hw5
theorem AB.leave {S : mS} {v n p w : Nat} {N : NN} (h : AB S v N n) (hp : p < 10) (hw : fo N p 15 = nI w) (hw1 : 1 ≤ w) (hw5 : w ≤ 5) : AB (up3 (mcp S 30 v (p * 5 + 1) 30 v (p * 5) 4) 29 v p (nI (w - 1))) v (fLeave N p w) n ∧ FP S (up3 (mcp S 30 v (p * 5 + 1) 30 v (p * 5) 4) 29 v p (nI (w - 1))) v := by
  have hg := (h.2.2.2.2.2.2.2 p hp).2.2.2.2
  refine h.set15 (p := p) (w := w - 1) hp (by omega) (fun j hj => ?_) (fun q x hq hx => ?_) (fun q t hqp hq ht => ?_) (fun kk i hn => ?_) (fun q hq => ?_) (fun q t hqp hq ht => ?_) (fun t ht => ?_)
  · unfold fLeave fLv
    rw [if_neg (by omega)]
    exact fset_out hp (by omega) (by omega)
  · unfold fLeave
    rw [fLv_fo hq hx, fo_set N (by omega) hx]
  · unfold fLeave fLv
    rw [if_neg (by omega)]
    exact fset_out hp (by omega) (by omega)
  · funext j
    rw [up3_at, if_neg (by omega)]
    unfold mcp
    rw [if_neg (by omega)]
  · rw [up3_at]
    by_cases e : q = p
    · rw [if_pos ⟨rfl, rfl, e⟩, if_pos e]
    · rw [if_neg (fun z => e z.2.2), if_neg e]
      unfold mcp
      rw [if_neg (by omega)]
  · rw [up3_k _ (by omega)]
    unfold mcp
    rw [if_neg (by omega)]
  · rw [up3_k _ (by omega)]
    unfold mcp
    rw [if_pos (by omega), show p * 5 + 1 + (p * 5 + t - p * 5) = p * 5 + (t + 1) by omega, hg (t + 1) w hw (by omega) hw5]
    unfold fLeave fLv
    rw [if_pos (by omega)]
    rfl
theorem AB.put {S : mS} {v n p w : Nat} {N : NN} {x : Int32} (h : AB S v N n) (hp : p < 10) (hw : fo N p 15 = nI w) (hw5 : w < 5) : AB (up3 (up3 S 30 v (p * 5 + w) x) 29 v p (nI (w + 1))) v (fPut N p w x) n ∧ FP S (up3 (up3 S 30 v (p * 5 + w) x) 29 v p (nI (w + 1))) v := by
  have hg := (h.2.2.2.2.2.2.2 p hp).2.2.2.2
  have hu : ∀ q y, q < 10 → y < 20 → fo (upd N (388 + 5 * p + w) x) q y = fo N q y := fun q y hq hy => upd_n N (by omega)
  refine h.set15 (p := p) (w := w + 1) hp (by omega) (fun j hj => ?_) (fun q y hq hy => ?_) (fun q t hqp hq ht => ?_) (fun kk i hn => ?_) (fun q hq => ?_) (fun q t hqp hq ht => ?_) (fun t ht => ?_)
  · unfold fPut
    rw [fset_out hp (by omega) (by omega), upd_n N (by omega)]
  · unfold fPut
    rw [fo_set _ (by omega) hy, hu q y hq hy]
  · unfold fPut
    rw [fset_out hp (by omega) (by omega), upd_n N (by omega)]
  · funext j
    rw [up3_at, if_neg (by omega), up3_at, if_neg (by omega)]
  · rw [up3_at]
    by_cases e : q = p
    · rw [if_pos ⟨rfl, rfl, e⟩, if_pos e]
    · rw [if_neg (fun z => e z.2.2), if_neg e, up3_k _ (by omega)]
  · rw [up3_k _ (by omega), up3_j _ (by omega)]
  · unfold fPut
    rw [up3_k _ (by omega), fset_out hp (by omega) (by omega)]
    by_cases e : t = w
    · subst e
      rw [up3_s, upd_s]
    · rw [up3_j _ (by omega), upd_n N (by omega)]
      exact hg t w hw (by omega) (by omega)
theorem AB.comp {S : mS} {v n p : Nat} {N : NN} (h : AB S v N n) (hp : p < 10) : AB (up3 (up3 S 27 v p (fo N p 4 + nI 1)) 28 v p (N 1)) v (fset (fset N p 4 (fo N p 4 + nI 1)) p 5 (N 1)) n := by
  have ho : ∀ q w, q < 10 → w < 20 → w ≠ 4 → w ≠ 5 → fo (fset (fset N p 4 (fo N p 4 + nI 1)) p 5 (N 1)) q w = fo N q w := fun q w hq hw h4 h5 => by rw [fo_set_w _ h5 (by omega) hw, fo_set_w _ h4 (by omega) hw]
  have hl : ∀ j, j < 6 ∨ 206 ≤ j → (fset (fset N p 4 (fo N p 4 + nI 1)) p 5 (N 1)) j = N j := fun j hj => by rw [fset_out hp (by omega) hj, fset_out hp (by omega) hj]
  have hk : ∀ kk, kk ≠ 27 → kk ≠ 28 → up3 (up3 S 27 v p (fo N p 4 + nI 1)) 28 v p (N 1) kk v = S kk v := fun kk a b => by rw [up3_k _ b, up3_k _ a]
  refine ⟨(h.1.off (fun kk a b => hk kk (by omega) (by omega))).row (hl 0 (by omega)) (fun q w hq hw => ho q w hq (by omega) (by omega) (by omega)), (h.2.1.off (fun kk a b => hk kk (by omega) (by omega))).row (hl 3 (by omega)) (fun q w hq a b => ho q w hq (by omega) (by omega) (by omega)) (fun a b ha hb => hl _ (by omega)), (h.2.2.1.off (hk 18 (by omega) (by omega))).row (fun q w hq hw => ho q w hq (by omega) (by omega) (by omega)), (h.2.2.2.1.off (fun kk a b => hk kk (by omega) (by omega))).row (fun j hj => hl j (by omega)), ?_⟩
  have hP := h.2.2.2.2
  unfold AP
  rw [hk 25 (by omega) (by omega), hk 26 (by omega) (by omega), hk 29 (by omega) (by omega), hk 30 (by omega) (by omega), hl 1 (by omega), hl 4 (by omega), hl 2 (by omega)]
  refine ⟨hP.1, hP.2.1, hP.2.2.1, fun q hq => ?_⟩
  obtain ⟨g3, g4, g5, g15, g30⟩ := hP.2.2.2 q hq
  rw [ho q 3 hq (by omega) (by omega) (by omega), ho q 15 hq (by omega) (by omega) (by omega)]
  refine ⟨g3, ?_, ?_, g15, fun t w hw ht hw5 => (g30 t w hw ht hw5).trans (hl _ (by omega)).symm⟩
  · rw [up3_k _ (by omega), fo_set_w _ (by omega) (by omega) (by omega), fo_set _ (by omega) (by omega)]
    by_cases e : q = p
    · subst e
      rw [up3_s, if_pos ⟨rfl, rfl⟩]
    · rw [up3_j _ e, if_neg (fun z => e z.1), g4]
  · rw [fo_set_w _ (show 4 ≠ 5 by omega) (by omega) (by omega), fo_set _ (show 4 < 20 by omega) (by omega), fo_set _ (show 5 < 20 by omega) (by omega)]
    by_cases e : q = p
    · subst e
      rw [up3_s, if_pos ⟨rfl, rfl⟩]
      exact Or.inr (if_pos ⟨rfl, rfl⟩).symm
    · rw [up3_j _ e, up3_k _ (by omega), if_neg (fun z => e z.1), if_neg (fun z => e z.1), fo_set_p _ e (by omega) (by omega)]
      exact g5

def rm_X4_makeMemory : Room := { frames := 3, cells := 0, slots := 0, locals := 103 }
set_option maxHeartbeats 4000000 in
set_option maxRecDepth 100000 in
theorem c_X4_makeMemory {l : Launch} {G : mG} {ad : mA} {S : mS} {L : mL} {R : mR} {N T : NN} {n v d B : Nat} (hR : mlk R) (hv : v < 15) (hd : d < 3) (hd1 : R 25 v 1 = some (3, d)) (hd2 : R 12 v 0 = some (3, d)) (hAT : AT S d T n) (hn10 : n ≤ 10) (hI : rI N n) (hB : AB S v N n) (hcI : cI N) (hT : pI N B) (hB31 : B < 2147480000) : Ki l yX4_makeMemory cX4_makeMemory 2 .boolean rm_X4_makeMemory G ad mdm [.ref (ad 25 v)] S L R (fun r_ S2 L2 R2 => (match fMem N T n with | some q => r_ = nI 1 ∧ AB S2 v q.2 n ∧ S2 18 v = S 18 v | none => r_ = nI 0 ∧ AB S2 v N n) ∧ FV S S2 v ∧ L = L2 ∧ FR R R2) := by
  refine Ki.of RX4 (by decide) rfl (Nat.le_of_ble_eq_true rfl) ?_
  intro X hXl hXG C ret
  subst hXl; subst hXG
  change Z X 2 ad mdm S L R 0 0 0 [(0, _)] []
  refine z_aload_n C 0 0 0 dX4_makeMemory_0 rfl rfl ?_
  refine z_getr C 1 dX4_makeMemory_1 gf_X4_50 rfl (by first | assumption | exact Nat.zero_lt_one | exact (show (15 : Nat) < 16 by decide) | exact Nat.lt_succ_of_lt (by assumption) | omega) (by first | exact hR _ _ _ _ rfl | exact hR2 _ _ _ _ rfl | assumption) ?_
  refine z_cVi0 C 4 dX4_makeMemory_4 cv_X4_132 (c_X6_isOverLimit (r := v) (d := d) hR (by omega) hd hd2 hAT.1 hn10) rfl ⟨by decide, rfl⟩ (by first | assumption | exact Nat.zero_lt_one | exact (show (15 : Nat) < 16 by decide) | exact Nat.lt_succ_of_lt (by assumption) | omega) rfl rfl (Nat.le_of_ble_eq_true rfl) ⟨by decide, by decide⟩ ⟨rfl, rfl⟩ ⟨by decide, by decide⟩ ?_
  intro r4 S4 L4 R4 p4
  obtain ⟨rfl, rfl, rfl, rfl⟩ := p4
  rw [hB.1.1, rAll_eq hB.1 hAT hn10 hI]
  first | with_reducible refine z_if_neB C 7 12 dX4_makeMemory_7 (by decide) (fun h7 => ?_) (fun h7 => ?_) | with_reducible refine z_if_neN C 7 12 dX4_makeMemory_7 (by decide) (by omega) (fun h7 => ?_) (fun h7 => ?_) | refine z_if_ne C 7 12 dX4_makeMemory_7 (by decide) (fun h7 => ?_) (fun h7 => ?_)
  · refine z_aload_n C 12 0 0 dX4_makeMemory_12 rfl rfl ?_
    refine z_cVv0 C 13 dX4_makeMemory_13 cv_X4_136 (c_X4_prepareTrims (N := N) (T := T) (n := n) (d := d) (B := B) hR hv hd hd1 hd2 hAT hn10 hI hB hT hB31) rfl ⟨by decide, rfl⟩ (by first | assumption | exact Nat.zero_lt_one | exact (show (15 : Nat) < 16 by decide) | exact Nat.lt_succ_of_lt (by assumption) | omega) rfl rfl (Nat.le_of_ble_eq_true rfl) ⟨by decide, by decide⟩ ⟨rfl, rfl⟩ ⟨by decide, by decide⟩ ?_
    intro S13 L13 R13 p13
    obtain ⟨hTR, hFT, rfl, rfl⟩ := p13
    have hR2 : mlk (up3 R 12 15 0 (some (3, d))) := hR.up rfl
    refine z_aload_n C 16 0 0 dX4_makeMemory_16 rfl rfl ?_
    refine z_getr C 17 dX4_makeMemory_17 gf_X4_41 rfl (by first | assumption | exact Nat.zero_lt_one | exact (show (15 : Nat) < 16 by decide) | exact Nat.lt_succ_of_lt (by assumption) | omega) (by first | exact hR _ _ _ _ rfl | exact hR2 _ _ _ _ rfl | assumption) ?_
    refine z_cVi0 C 20 dX4_makeMemory_20 cv_X4_139 (c_X7_findSteps (N := N) (T := T) (n := n) (d := d) hR2 hd (up3_s _ _ _ _ _) (hAT.ft hFT) hn10 hI hcI hTR) rfl ⟨by decide, rfl⟩ (by first | assumption | exact Nat.zero_lt_one | exact (show (15 : Nat) < 16 by decide) | exact Nat.lt_succ_of_lt (by assumption) | omega) rfl rfl (Nat.le_of_ble_eq_true rfl) ⟨by decide, by decide⟩ ⟨rfl, rfl⟩ ⟨by decide, by decide⟩ ?_
    intro r20 S20 L20 R20 p20
    obtain ⟨hm, hF2, rfl, rfl⟩ := p20
    have hor : (r20 = nI 0 ∧ fMem N T n = none) ∨ (r20 = nI 1 ∧ ∃ m M, fMem N T n = some (m, M) ∧ S20 7 0 4 = nI m ∧ m ≤ 50 ∧ tL S20 N n m M) := by
      cases hq : fMem N T n with
      | none => rw [hq] at hm; exact Or.inl ⟨hm, rfl⟩
      | some q => rw [hq] at hm; exact Or.inr ⟨hm.1, q.1, q.2, rfl, hm.2.1, hm.2.2.1, hm.2.2.2⟩
    have hFF := hFT.tr hF2
    have hB20 := hB.ft hv hFF
    first | with_reducible refine z_if_neB C 23 28 dX4_makeMemory_23 (by decide) (fun h23 => ?_) (fun h23 => ?_) | with_reducible refine z_if_neN C 23 28 dX4_makeMemory_23 (by decide) (by omega) (fun h23 => ?_) (fun h23 => ?_) | refine z_if_ne C 23 28 dX4_makeMemory_23 (by decide) (fun h23 => ?_) (fun h23 => ?_)
    · obtain ⟨-, m, M, hfm, hst, hm50, kk, pp, hrun, hkp⟩ := hor.resolve_left (fun z => h23 z.1)
      refine z_iconst (v := nI 0) C 28 dX4_makeMemory_28 (by decide) ?_
      refine z_istore_n C 29 1 [(1, _), (0, _)] dX4_makeMemory_29 rfl (by decide) rfl ?_
      have loop_30 : ∀ (n_30 : Nat) (i : Nat) (S1 : mS), i ≤ m → mI S20 S1 N n v kk pp i → m - i < n_30 → Z X 2 ad mdm S1 L (up3 R 12 15 0 (some (3, d))) 0 0 30 [(0, .ref (ad 25 v)), (1, .int (nI i))] [] := by
        intro n_30
        induction n_30 with
        | zero => intro i S1 hi hM hm30; exact absurd hm30 (Nat.not_lt_zero _)
        | succ n_30 ih30 =>
          intro i S1 hi hM hm30
          refine z_iload_n C 30 1 1 dX4_makeMemory_30 rfl rfl ?_
          refine z_aload_n C 31 0 0 dX4_makeMemory_31 rfl rfl ?_
          refine z_getr C 32 dX4_makeMemory_32 gf_X4_41 rfl (by first | assumption | exact Nat.zero_lt_one | exact (show (15 : Nat) < 16 by decide) | exact Nat.lt_succ_of_lt (by assumption) | omega) (by first | exact hR _ _ _ _ rfl | exact hR2 _ _ _ _ rfl | assumption) ?_
          refine z_getiv C 35 dX4_makeMemory_35 gf_X4_142 rfl (by first | assumption | exact Nat.zero_lt_one | exact (show (15 : Nat) < 16 by decide) | exact Nat.lt_succ_of_lt (by assumption) | omega) ((congrFun (hM.2.2.2.1 7 0 (by omega)) 4).trans hst) ?_
          first | with_reducible refine z_icmp_geN C 38 69 dX4_makeMemory_38 (by decide) (by omega) (by omega) (fun h38 => ?_) (fun h38 => ?_) | refine z_icmp_ge C 38 69 dX4_makeMemory_38 (by decide) (fun h38 => ?_) (fun h38 => ?_)
          · refine z_iconst (v := nI 1) C 69 dX4_makeMemory_69 (by decide) ?_
            exact ret 70 _ _ _ _ _ dX4_makeMemory_70 (by first | rfl | exact bI_n | decide) (⟨(by rw [hfm]; have e : i = m := (by omega); subst e; exact ⟨rfl, hrun ▸ hM.1, hM.2.2.2.2.trans (hFF 18 v (by omega))⟩), (FV.ft hFF).tr hM.2.2.2.1.fv, rfl, FR.up hR⟩)
          · refine z_aload_n C 41 0 0 dX4_makeMemory_41 rfl rfl ?_
            refine z_aload_n C 42 0 0 dX4_makeMemory_42 rfl rfl ?_
            refine z_getr C 43 dX4_makeMemory_43 gf_X4_41 rfl (by first | assumption | exact Nat.zero_lt_one | exact (show (15 : Nat) < 16 by decide) | exact Nat.lt_succ_of_lt (by assumption) | omega) (by first | exact hR _ _ _ _ rfl | exact hR2 _ _ _ _ rfl | assumption) ?_
            refine z_getr C 46 dX4_makeMemory_46 gf_X4_145 rfl (by first | assumption | exact Nat.zero_lt_one | exact (show (15 : Nat) < 16 by decide) | exact Nat.lt_succ_of_lt (by assumption) | omega) (by first | exact hR _ _ _ _ rfl | exact hR2 _ _ _ _ rfl | assumption) ?_
            refine z_iload_n C 49 1 1 dX4_makeMemory_49 rfl rfl ?_
            refine z_iald C 50 dX4_makeMemory_50 (by first | rfl | assumption) (by first | assumption | exact Nat.zero_lt_one | exact (show (15 : Nat) < 16 by decide) | exact Nat.lt_succ_of_lt (by assumption) | omega) (by first | rfl | assumption) (by first | decide | omega) (by first | assumption | omega) ?_
            rw [show S1 10 0 i = nI (kk i) from (congrFun (hM.2.2.2.1 10 0 (by omega)) i).trans (hkp i h38).1]
            refine z_aload_n C 51 0 0 dX4_makeMemory_51 rfl rfl ?_
            refine z_getr C 52 dX4_makeMemory_52 gf_X4_41 rfl (by first | assumption | exact Nat.zero_lt_one | exact (show (15 : Nat) < 16 by decide) | exact Nat.lt_succ_of_lt (by assumption) | omega) (by first | exact hR _ _ _ _ rfl | exact hR2 _ _ _ _ rfl | assumption) ?_
            refine z_getr C 55 dX4_makeMemory_55 gf_X4_148 rfl (by first | assumption | exact Nat.zero_lt_one | exact (show (15 : Nat) < 16 by decide) | exact Nat.lt_succ_of_lt (by assumption) | omega) (by first | exact hR _ _ _ _ rfl | exact hR2 _ _ _ _ rfl | assumption) ?_
            refine z_iload_n C 58 1 1 dX4_makeMemory_58 rfl rfl ?_
            refine z_iald C 59 dX4_makeMemory_59 (by first | rfl | assumption) (by first | assumption | exact Nat.zero_lt_one | exact (show (15 : Nat) < 16 by decide) | exact Nat.lt_succ_of_lt (by assumption) | omega) (by first | rfl | assumption) (by first | decide | omega) (by first | assumption | omega) ?_
            rw [show S1 11 0 i = nI (pp i) from (congrFun (hM.2.2.2.1 11 0 (by omega)) i).trans (hkp i h38).2.1]
            refine z_cVv0 C 60 dX4_makeMemory_60 cv_X4_151 (c_X4_doStep (N := fRun N kk pp i) (n := n) hR2 hv hM.2.1 hM.1 hM.2.2.1 (by have := (hkp i h38).2.2.2.2.1; omega) (hkp i h38).2.2.1 (hkp i h38).2.2.2.1 (hkp i h38).2.2.2.2.2) rfl ⟨by decide, rfl⟩ (by first | assumption | exact Nat.zero_lt_one | exact (show (15 : Nat) < 16 by decide) | exact Nat.lt_succ_of_lt (by assumption) | omega) rfl rfl (Nat.le_of_ble_eq_true rfl) ⟨by decide, by decide⟩ ⟨rfl, rfl⟩ ⟨by decide, by decide⟩ ?_
            intro S60 L60 R60 p60
            obtain ⟨hB60, hF60, hU60, rfl, rfl⟩ := p60
            refine z_iinc C 63 1 1 [(1, _), (0, _)] dX4_makeMemory_63 rfl (by first | exact nI_1 _ | rfl) (by decide) rfl ?_
            refine z_goto C 66 30 dX4_makeMemory_66 (by decide) ?_
            refine z_sub [(0, _), (1, _)] [1, 0] rfl ?_
            exact ih30 (i + 1) _ (by omega) ⟨hB60, hM.2.1.step (by have := (hkp i h38).2.2.2.2.1; omega) (hkp i h38).2.2.1 (hkp i h38).2.2.2.1 (hkp i h38).2.2.2.2.2, hM.2.2.1.step (by have := (hkp i h38).2.2.2.2.1; omega) (hkp i h38).2.2.1 (hkp i h38).2.2.2.1 (hkp i h38).2.2.2.2.2, hM.2.2.2.1.tr hF60, hU60.trans hM.2.2.2.2⟩ (by omega)
      refine z_sub [(0, _), (1, _)] [1, 0] rfl ?_
      exact loop_30 (m + 1) 0 _ (Nat.zero_le _) ⟨hB20, hI, hcI, FP.rf _ _, rfl⟩ (by omega)
    · have hno := (hor.resolve_right (fun z => by rw [z.1] at h23; exact absurd h23 (by decide))).2
      refine z_iconst (v := nI 0) C 26 dX4_makeMemory_26 (by decide) ?_
      exact ret 27 _ _ _ _ _ dX4_makeMemory_27 (by first | rfl | exact bI_n | decide) (⟨(by rw [hno]; exact ⟨rfl, hB20⟩), FV.ft hFF, rfl, FR.up hR⟩)
  · refine z_iconst (v := nI 1) C 10 dX4_makeMemory_10 (by decide) ?_
    exact ret 11 _ _ _ _ _ dX4_makeMemory_11 (by first | rfl | exact bI_n | decide) (⟨(by rw [show fMem N T n = some (0, N) from fMemF_0 h7]; exact ⟨rfl, hB, rfl⟩), FV.rf _ _, rfl, FR.rf hR⟩)
def rm_X4_takeIn : Room := { frames := 0, cells := 0, slots := 0, locals := 0 }
set_option maxHeartbeats 4000000 in
set_option maxRecDepth 100000 in
theorem c_X4_takeIn {l : Launch} {G : mG} {ad : mA} {S : mS} {L : mL} {R : mR} {N : NN} {n v p : Nat} {x : Int32} (hR : mlk R) (hv : v < 15) (hB : AB S v N n) (hp : p < 10) : Kv l yX4_takeIn cX4_takeIn 3 rm_X4_takeIn G ad mdm [.ref (ad 25 v), .int (nI p), .int x] S L R (fun S2 L2 R2 => AB S2 v (fTake N p x) n ∧ FP S S2 v ∧ L = L2 ∧ R = R2) := by
  refine Kv.of RX4 (by decide) rfl (Nat.le_of_ble_eq_true rfl) ?_
  intro X hXl hXG C ret
  subst hXl; subst hXG
  change Z X 3 ad mdm S L R 0 0 0 [(0, _), (1, _), (2, _)] []
  have hP := hB.2.2.2.2
  have hPp := hP.2.2.2 p (by omega)
  refine z_aload_n C 0 0 0 dX4_takeIn_0 rfl rfl ?_
  refine z_getr C 1 dX4_takeIn_1 gf_X4_25 rfl (by first | assumption | exact Nat.zero_lt_one | exact (show (15 : Nat) < 16 by decide) | exact Nat.lt_succ_of_lt (by assumption) | omega) (by first | exact hR _ _ _ _ rfl | exact hR2 _ _ _ _ rfl | assumption) ?_
  refine z_iload_n C 4 1 1 dX4_takeIn_4 rfl rfl ?_
  refine z_bipush (v := nI 31) C 5 dX4_takeIn_5 (by decide +kernel) ?_
  refine z_aload_n C 7 0 0 dX4_takeIn_7 rfl rfl ?_
  refine z_getr C 8 dX4_takeIn_8 gf_X4_25 rfl (by first | assumption | exact Nat.zero_lt_one | exact (show (15 : Nat) < 16 by decide) | exact Nat.lt_succ_of_lt (by assumption) | omega) (by first | exact hR _ _ _ _ rfl | exact hR2 _ _ _ _ rfl | assumption) ?_
  refine z_iload_n C 11 1 1 dX4_takeIn_11 rfl rfl ?_
  refine z_iald C 12 dX4_takeIn_12 (by first | rfl | assumption) (by first | assumption | exact Nat.zero_lt_one | exact (show (15 : Nat) < 16 by decide) | exact Nat.lt_succ_of_lt (by assumption) | omega) (by first | rfl | assumption) (by first | decide | omega) (by first | assumption | omega) ?_
  rw [hPp.1]
  first | with_reducible refine z_imulN C 13 dX4_takeIn_13 ?_ | refine z_imul C 13 dX4_takeIn_13 ?_
  refine z_iload_n C 14 2 2 dX4_takeIn_14 rfl rfl ?_
  first | with_reducible refine z_iaddN C 15 dX4_takeIn_15 ?_ | refine z_iadd C 15 dX4_takeIn_15 ?_
  refine z_iast C 16 dX4_takeIn_16 (by first | rfl | assumption) (by first | assumption | exact Nat.zero_lt_one | exact (show (15 : Nat) < 16 by decide) | exact Nat.lt_succ_of_lt (by assumption) | omega)  (by first | rfl | assumption) (by first | decide | omega) (by first | assumption | omega) ?_
  exact ret 17 _ _ _ _ dX4_takeIn_17 (⟨hB.set3 hp, (FP.rf _ _).up (by omega), rfl, rfl⟩)
def rm_X4_dropFirst : Room := { frames := 1, cells := 0, slots := 0, locals := 60 }
set_option maxHeartbeats 4000000 in
set_option maxRecDepth 100000 in
theorem c_X4_dropFirst {l : Launch} {G : mG} {ad : mA} {S : mS} {L : mL} {R : mR} {N : NN} {n v p w : Nat} (hR : mlk R) (hv : v < 15) (hB : AB S v N n) (hp : p < 10) (hw : fo N p 15 = nI w) (hw1 : 1 ≤ w) (hw5 : w ≤ 5) : Kv l yX4_dropFirst cX4_dropFirst 3 rm_X4_dropFirst G ad mdm [.ref (ad 25 v), .int (nI p)] S L R (fun S2 L2 R2 => AB S2 v (fLeave N p w) n ∧ FP S S2 v ∧ L = L2 ∧ R = R2) := by
  refine Kv.of RX4 (by decide) rfl (Nat.le_of_ble_eq_true rfl) ?_
  intro X hXl hXG C ret
  subst hXl; subst hXG
  change Z X 3 ad mdm S L R 0 0 0 [(0, _), (1, _)] []
  have hP := hB.2.2.2.2
  have hPp := hP.2.2.2 p (by omega)
  have hpv : mcp S 30 v (p * 5 + 1) 30 v (p * 5) 4 29 v p = nI w := hPp.2.2.2.1.trans hw
  refine z_iload_n C 0 1 1 dX4_dropFirst_0 rfl rfl ?_
  refine z_iconst (v := nI 5) C 1 dX4_dropFirst_1 (by decide) ?_
  first | with_reducible refine z_imulN C 2 dX4_dropFirst_2 ?_ | refine z_imul C 2 dX4_dropFirst_2 ?_
  refine z_istore_n C 3 2 [(2, _), (0, _), (1, _)] dX4_dropFirst_3 rfl (by decide) rfl ?_
  refine z_aload_n C 4 0 1 dX4_dropFirst_4 rfl rfl ?_
  refine z_getr C 5 dX4_dropFirst_5 gf_X4_38 rfl (by first | assumption | exact Nat.zero_lt_one | exact (show (15 : Nat) < 16 by decide) | exact Nat.lt_succ_of_lt (by assumption) | omega) (by first | exact hR _ _ _ _ rfl | exact hR2 _ _ _ _ rfl | assumption) ?_
  refine z_iload_n C 8 2 0 dX4_dropFirst_8 rfl rfl ?_
  refine z_iconst (v := nI 1) C 9 dX4_dropFirst_9 (by decide) ?_
  first | with_reducible refine z_iaddN C 10 dX4_dropFirst_10 ?_ | refine z_iadd C 10 dX4_dropFirst_10 ?_
  refine z_aload_n C 11 0 1 dX4_dropFirst_11 rfl rfl ?_
  refine z_getr C 12 dX4_dropFirst_12 gf_X4_38 rfl (by first | assumption | exact Nat.zero_lt_one | exact (show (15 : Nat) < 16 by decide) | exact Nat.lt_succ_of_lt (by assumption) | omega) (by first | exact hR _ _ _ _ rfl | exact hR2 _ _ _ _ rfl | assumption) ?_
  refine z_iload_n C 15 2 0 dX4_dropFirst_15 rfl rfl ?_
  refine z_iconst (v := nI 4) C 16 dX4_dropFirst_16 (by decide) ?_
  refine z_copy C 17 dX4_dropFirst_17 lj_X4_94 rfl rfl (by first | assumption | exact Nat.zero_lt_one | exact (show (15 : Nat) < 16 by decide) | exact Nat.lt_succ_of_lt (by assumption) | omega) (by first | assumption | exact Nat.zero_lt_one | exact (show (15 : Nat) < 16 by decide) | exact Nat.lt_succ_of_lt (by assumption) | omega) (by first | rfl | assumption) (by first | rfl | assumption) (by first | rfl | assumption) (by decide) (by decide) (by omega) (by omega) (Nat.le_of_ble_eq_true rfl) ⟨by decide, by decide⟩ ?_
  refine z_aload_n C 20 0 1 dX4_dropFirst_20 rfl rfl ?_
  refine z_getr C 21 dX4_dropFirst_21 gf_X4_35 rfl (by first | assumption | exact Nat.zero_lt_one | exact (show (15 : Nat) < 16 by decide) | exact Nat.lt_succ_of_lt (by assumption) | omega) (by first | exact hR _ _ _ _ rfl | exact hR2 _ _ _ _ rfl | assumption) ?_
  refine z_iload_n C 24 1 2 dX4_dropFirst_24 rfl rfl ?_
  refine z_dup2 C 25 dX4_dropFirst_25 rfl rfl ?_
  refine z_iald C 26 dX4_dropFirst_26 (by first | rfl | assumption) (by first | assumption | exact Nat.zero_lt_one | exact (show (15 : Nat) < 16 by decide) | exact Nat.lt_succ_of_lt (by assumption) | omega) (by first | rfl | assumption) (by first | decide | omega) (by first | assumption | omega) ?_
  rw [hpv]
  refine z_iconst (v := nI 1) C 27 dX4_dropFirst_27 (by decide) ?_
  first | with_reducible refine z_isubN C 28 dX4_dropFirst_28 (by omega) ?_ | refine z_isub C 28 dX4_dropFirst_28 ?_
  refine z_iast C 29 dX4_dropFirst_29 (by first | rfl | assumption) (by first | assumption | exact Nat.zero_lt_one | exact (show (15 : Nat) < 16 by decide) | exact Nat.lt_succ_of_lt (by assumption) | omega)  (by first | rfl | assumption) (by first | decide | omega) (by first | assumption | omega) ?_
  exact ret 30 _ _ _ _ dX4_dropFirst_30 (⟨(hB.leave hp hw hw1 hw5).1, (hB.leave hp hw hw1 hw5).2, rfl, rfl⟩)
def rm_X4_complain : Room := { frames := 2, cells := 0, slots := 0, locals := 45 }
set_option maxHeartbeats 4000000 in
set_option maxRecDepth 100000 in
theorem c_X4_complain {l : Launch} {G : mG} {ad : mA} {S : mS} {L : mL} {R : mR} {N : NN} {n v p : Nat} (hR : mlk R) (hv : v < 15) (hB : AB S v N n) (hp : p < 10) : Kv l yX4_complain cX4_complain 2 rm_X4_complain G ad mdm [.ref (ad 25 v), .int (nI p)] S L R (fun S2 L2 R2 => AB S2 v (fComp N p) n ∧ FP S S2 v ∧ L = L2 ∧ R = R2) := by
  refine Kv.of RX4 (by decide) rfl (Nat.le_of_ble_eq_true rfl) ?_
  intro X hXl hXG C ret
  subst hXl; subst hXG
  change Z X 2 ad mdm S L R 0 0 0 [(0, _), (1, _)] []
  have hP := hB.2.2.2.2
  have hPp := hP.2.2.2 p (by omega)
  have hBc := hB.comp hp
  refine z_aload_n C 0 0 0 dX4_complain_0 rfl rfl ?_
  refine z_getr C 1 dX4_complain_1 gf_X4_29 rfl (by first | assumption | exact Nat.zero_lt_one | exact (show (15 : Nat) < 16 by decide) | exact Nat.lt_succ_of_lt (by assumption) | omega) (by first | exact hR _ _ _ _ rfl | exact hR2 _ _ _ _ rfl | assumption) ?_
  refine z_iload_n C 4 1 1 dX4_complain_4 rfl rfl ?_
  refine z_dup2 C 5 dX4_complain_5 rfl rfl ?_
  refine z_iald C 6 dX4_complain_6 (by first | rfl | assumption) (by first | assumption | exact Nat.zero_lt_one | exact (show (15 : Nat) < 16 by decide) | exact Nat.lt_succ_of_lt (by assumption) | omega) (by first | rfl | assumption) (by first | decide | omega) (by first | assumption | omega) ?_
  rw [hPp.2.1]
  refine z_iconst (v := nI 1) C 7 dX4_complain_7 (by decide) ?_
  first | with_reducible refine z_iaddN C 8 dX4_complain_8 ?_ | refine z_iadd C 8 dX4_complain_8 ?_
  refine z_iast C 9 dX4_complain_9 (by first | rfl | assumption) (by first | assumption | exact Nat.zero_lt_one | exact (show (15 : Nat) < 16 by decide) | exact Nat.lt_succ_of_lt (by assumption) | omega)  (by first | rfl | assumption) (by first | decide | omega) (by first | assumption | omega) ?_
  refine z_aload_n C 10 0 0 dX4_complain_10 rfl rfl ?_
  refine z_getr C 11 dX4_complain_11 gf_X4_32 rfl (by first | assumption | exact Nat.zero_lt_one | exact (show (15 : Nat) < 16 by decide) | exact Nat.lt_succ_of_lt (by assumption) | omega) (by first | exact hR _ _ _ _ rfl | exact hR2 _ _ _ _ rfl | assumption) ?_
  refine z_iload_n C 14 1 1 dX4_complain_14 rfl rfl ?_
  refine z_aload_n C 15 0 0 dX4_complain_15 rfl rfl ?_
  refine z_getiv C 16 dX4_complain_16 gf_X4_65 rfl (by first | assumption | exact Nat.zero_lt_one | exact (show (15 : Nat) < 16 by decide) | exact Nat.lt_succ_of_lt (by assumption) | omega) ((congrFun (congrFun (up3_k _ (by omega)) v) 5).trans hP.1) ?_
  refine z_iast C 19 dX4_complain_19 (by first | rfl | assumption) (by first | assumption | exact Nat.zero_lt_one | exact (show (15 : Nat) < 16 by decide) | exact Nat.lt_succ_of_lt (by assumption) | omega)  (by first | rfl | assumption) (by first | decide | omega) (by first | assumption | omega) ?_
  refine z_aload_n C 20 0 0 dX4_complain_20 rfl rfl ?_
  refine z_getr C 21 dX4_complain_21 gf_X4_21 rfl (by first | assumption | exact Nat.zero_lt_one | exact (show (15 : Nat) < 16 by decide) | exact Nat.lt_succ_of_lt (by assumption) | omega) (by first | exact hR _ _ _ _ rfl | exact hR2 _ _ _ _ rfl | assumption) ?_
  refine z_bipush (v := nI 8) C 24 dX4_complain_24 (by decide +kernel) ?_
  refine z_iload_n C 26 1 1 dX4_complain_26 rfl rfl ?_
  refine z_aload_n C 27 0 0 dX4_complain_27 rfl rfl ?_
  refine z_getiv C 28 dX4_complain_28 gf_X4_65 rfl (by first | assumption | exact Nat.zero_lt_one | exact (show (15 : Nat) < 16 by decide) | exact Nat.lt_succ_of_lt (by assumption) | omega) (show _ = (fset (fset N p 4 (fo N p 4 + nI 1)) p 5 (N 1)) 1 from (by rw [up3_k _ (by omega), up3_k _ (by omega), fset_out hp (by omega) (by omega), fset_out hp (by omega) (by omega)]; exact hP.1)) ?_
  refine z_cVv0 C 31 dX4_complain_31 cv_X4_160 (c_X3_add (N := fset (fset N p 4 (fo N p 4 + nI 1)) p 5 (N 1)) hR hv hBc.2.2.2.1 (by omega)) rfl ⟨by decide, rfl⟩ (by first | assumption | exact Nat.zero_lt_one | exact (show (15 : Nat) < 16 by decide) | exact Nat.lt_succ_of_lt (by assumption) | omega) rfl rfl (Nat.le_of_ble_eq_true rfl) ⟨by decide, by decide⟩ ⟨rfl, rfl⟩ ⟨by decide, by decide⟩ ?_
  intro S31 L31 R31 p31
  obtain ⟨hJ2, hF2, rfl, rfl⟩ := p31
  exact ret 34 _ _ _ _ dX4_complain_34 (⟨(by have e := (hBc.wr (by omega) hJ2 hF2).1; have e2 : fComp N p = fWr (fset (fset N p 4 (fo N p 4 + nI 1)) p 5 (N 1)) 8 p := (by show fWr (fset (fset N p 4 (fo N p 4 + nI 1)) p 5 (fset N p 4 (fo N p 4 + nI 1) 1)) 8 p = _; rw [show fset N p 4 (fo N p 4 + nI 1) 1 = N 1 from fset_out hp (by omega) (by omega)]); rw [e2]; exact e), (((FP.rf _ _).up (by omega)).up (by omega)).tr (hBc.wr (by omega) hJ2 hF2).2, rfl, rfl⟩)
