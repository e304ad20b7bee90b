theorem AH.off2 {S S2 : mS} {v n : Nat} {N : NN} (h : AH S v N n) (e17 : S2 17 v = S 17 v) (e19 : S2 19 v = S 19 v) (e20 : S2 20 v = S 20 v) (e21 : S2 21 v = S 21 v) : AH S2 v N n := by
  unfold AH
  rw [e17, e19, e20, e21]
  exact h
/-- what was shown came to be shown, and what is closed shows nothing -/
def wI (N : NN) : Prop := ∀ p, p < 10 → (fo N p 0 = nI 1 → fo N p 9 = nI 1) ∧ (fo N p 0 = nI 0 → fo N p 3 = nI 0)
theorem fTL {N : NN} {p w : Nat} {x : Int32} (hp : p < 10) : fLeave (fTake N p x) p w = fTake (fLeave N p w) p x := by
  have e3 : fo (fLeave N p w) p 3 = fo N p 3 := by
    unfold fLeave
    rw [fLv_fo hp (by omega), fo_set_w N (by omega) (by omega) (by omega)]
  funext j
  show fLeave (fset N p 3 (nI 31 * fo N p 3 + x)) p w j = fset (fLeave N p w) p 3 (nI 31 * fo (fLeave N p w) p 3 + x) j
  rw [e3]
  generalize nI 31 * fo N p 3 + x = y
  unfold fLeave fLv fset upd
  show (if 388 + 5 * p ≤ j ∧ j < 388 + 5 * p + (w - 1) then (if j + 1 = 6 + 20 * p + 3 then y else N (j + 1)) else if j = 6 + 20 * p + 15 then nI (w - 1) else if j = 6 + 20 * p + 3 then y else N j) = if j = 6 + 20 * p + 3 then y else if 388 + 5 * p ≤ j ∧ j < 388 + 5 * p + (w - 1) then N (j + 1) else if j = 6 + 20 * p + 15 then nI (w - 1) else N j
  by_cases h1 : 388 + 5 * p ≤ j ∧ j < 388 + 5 * p + (w - 1)
  · rw [if_pos h1, if_neg (show ¬ j + 1 = 6 + 20 * p + 3 by omega), if_neg (show ¬ j = 6 + 20 * p + 3 by omega), if_pos h1]
  · rw [if_neg h1]
    by_cases h2 : j = 6 + 20 * p + 15
    · rw [if_pos h2, if_neg (show ¬ j = 6 + 20 * p + 3 by omega), if_neg h1, if_pos h2]
    · rw [if_neg h2]
      by_cases h3 : j = 6 + 20 * p + 3
      · rw [if_pos h3, if_pos h3]
      · rw [if_neg h3, if_neg h3, if_neg h1, if_neg h2]
theorem AB.rest {S : mS} {v n q t : Nat} {N : NN} (h : AB S v N n) (hq : q < 10) (h9 : fo N q 9 = nI 1) (ht : N 1 = nI t) (htb : t < 2 ^ 31) : AB (up3 (up3 (up3 S 13 v q (nI 2)) 18 v q (N 1)) 25 v 7 (-1)) v (upd (fRest N q) 2 (-1)) n := by
  have hl : ∀ j, (j < 6 ∧ j ≠ 2) ∨ 206 ≤ j → (upd (fRest N q) 2 (-1)) j = N j := fun j hj => by
    rw [upd_n _ (by omega)]
    unfold fRest
    rw [fset_out hq (by omega) (by omega), fset_out hq (by omega) (by omega), fset_out hq (by omega) (by omega)]
  have ho : ∀ r w, w < 20 → fo (upd (fRest N q) 2 (-1)) r w = if r = q ∧ w = 0 then nI 2 else if r = q ∧ (w = 7 ∨ w = 8) then N 1 else fo N r w := fun r w hw => (show fo (upd (fRest N q) 2 (-1)) r w = fo (fRest N q) r w from upd_n _ (by omega)).trans (fo_rest N hw)
  have ho2 : ∀ r w, w < 20 → w ≠ 0 → w ≠ 7 → w ≠ 8 → fo (upd (fRest N q) 2 (-1)) r w = fo N r w := fun r w hw h0 h7 h8 => by rw [ho r w hw, if_neg (fun z => h0 z.2), if_neg (fun z => z.2.elim h7 h8)]
  have hk : ∀ kk, kk ≠ 13 → kk ≠ 18 → kk ≠ 25 → up3 (up3 (up3 S 13 v q (nI 2)) 18 v q (N 1)) 25 v 7 (-1) kk v = S kk v := fun kk a b c => by rw [up3_k _ c, up3_k _ b, up3_k _ a]
  refine ⟨⟨?_, fun p hp => ?_⟩, ?_, fun r hr => ?_, ?_, ?_⟩
  · rw [hk 12 (by omega) (by omega) (by omega), hl 0 (by omega)]
    exact h.1.1
  · obtain ⟨a0, a1, a2, a3⟩ := h.1.2 p hp
    rw [hk 14 (by omega) (by omega) (by omega), hk 15 (by omega) (by omega) (by omega), hk 16 (by omega) (by omega) (by omega), ho2 p 1 (by omega) (by omega) (by omega) (by omega), ho2 p 2 (by omega) (by omega) (by omega) (by omega), ho2 p 6 (by omega) (by omega) (by omega) (by omega)]
    refine ⟨?_, a1, a2, a3⟩
    rw [up3_k _ (by omega), up3_k _ (by omega), up3_at, ho p 0 (by omega)]
    by_cases e : p = q
    · rw [if_pos ⟨rfl, rfl, e⟩, if_pos ⟨e, rfl⟩]
    · rw [if_neg (fun z => e z.2.2), if_neg (fun z => e z.1), if_neg (fun z => e z.1)]
      exact a0
  · exact (h.2.1.row (hl 3 (by omega)) (fun p w hp a b => ho2 p w (by omega) (by omega) (by omega) (by omega)) (fun a b ha hb => hl _ (by omega))).off2 (hk 17 (by omega) (by omega) (by omega)) (hk 19 (by omega) (by omega) (by omega)) (hk 20 (by omega) (by omega) (by omega)) (hk 21 (by omega) (by omega) (by omega))
  · rw [ho r 0 (by omega), ho r 8 (by omega), ho2 r 9 (by omega) (by omega) (by omega) (by omega), up3_k _ (by omega), up3_at]
    by_cases e : r = q
    · subst e
      left
      rw [if_pos ⟨rfl, rfl, rfl⟩, if_neg (by omega), if_pos (by omega)]
      exact ⟨h9, rfl, t, htb, ht⟩
    · rw [if_neg (fun z => e z.2.2), if_neg (fun z => e z.1), if_neg (fun z => e z.1), if_neg (fun z => e z.1), if_neg (fun z => e z.1), up3_k _ (by omega)]
      exact h.2.2.1 r hr
  · exact (h.2.2.2.1.off (fun kk a b => hk kk (by omega) (by omega) (by omega))).row (fun j hj => hl j (by omega))
  · have hP := h.2.2.2.2
    have h255 : up3 (up3 (up3 S 13 v q (nI 2)) 18 v q (N 1)) 25 v 7 (-1) 25 v 5 = S 25 v 5 := by rw [up3_j _ (show (5 : Nat) ≠ 7 by omega), up3_k _ (show (25 : Nat) ≠ 18 by omega), up3_k _ (show (25 : Nat) ≠ 13 by omega)]
    have h256 : up3 (up3 (up3 S 13 v q (nI 2)) 18 v q (N 1)) 25 v 7 (-1) 25 v 6 = S 25 v 6 := by rw [up3_j _ (show (6 : Nat) ≠ 7 by omega), up3_k _ (show (25 : Nat) ≠ 18 by omega), up3_k _ (show (25 : Nat) ≠ 13 by omega)]
    unfold AP
    rw [hk 26 (by omega) (by omega) (by omega), hk 27 (by omega) (by omega) (by omega), hk 28 (by omega) (by omega) (by omega), hk 29 (by omega) (by omega) (by omega), hk 30 (by omega) (by omega) (by omega), hl 1 (by omega), hl 4 (by omega), upd_s, h255, h256]
    refine ⟨hP.1, hP.2.1, up3_s _ _ _ _ _, fun p hp => ?_⟩
    rw [ho2 p 3 (by omega) (by omega) (by omega) (by omega), ho2 p 4 (by omega) (by omega) (by omega) (by omega), ho2 p 5 (by omega) (by omega) (by omega) (by omega), ho2 p 15 (by omega) (by omega) (by omega) (by omega)]
    obtain ⟨g3, g4, g5, g15, g30⟩ := hP.2.2.2 p hp
    exact ⟨g3, g4, g5, g15, fun t w hw ht hw5 => (g30 t w hw ht hw5).trans (hl _ (by omega)).symm⟩
theorem AB.empty {S : mS} {v n p : Nat} {N : NN} (h : AB S v N n) (hp : p < 10) (h1 : ¬ fo N p 0 = nI 1) : AB (up3 (up3 (up3 (up3 (up3 S 14 v p (nI 0)) 15 v p (nI 0)) 13 v p (nI 0)) 26 v p (nI 0)) 29 v p (nI 0)) v (fEmpty N p) n := by
  have hl : ∀ j, j < 6 ∨ 206 ≤ j → (fEmpty N p) j = N j := fun j hj => by
    unfold fEmpty
    rw [fset_out hp (by omega) hj, fset_out hp (by omega) hj, fset_out hp (by omega) hj, fset_out hp (by omega) hj, fset_out hp (by omega) hj]
  have ho : ∀ r w, w < 20 → fo (fEmpty N p) r w = if r = p ∧ (w = 0 ∨ w = 1 ∨ w = 2 ∨ w = 3 ∨ w = 15) then nI 0 else fo N r w := fun r w hw => by
    unfold fEmpty
    rw [fo_set _ (by omega) hw, fo_set _ (by omega) hw, fo_set _ (by omega) hw, fo_set _ (by omega) hw, fo_set _ (by omega) hw]
    by_cases e : r = p
    · by_cases e0 : w = 0
      · simp [e, e0]
      · by_cases e1 : w = 1
        · simp [e, e1]
        · by_cases e2 : w = 2
          · simp [e, e2]
          · by_cases e3 : w = 3
            · simp [e, e3]
            · by_cases e15 : w = 15
              · simp [e, e15]
              · simp [e, e0, e1, e2, e3, e15]
    · simp [e]
  have hk : ∀ kk, kk ≠ 13 → kk ≠ 14 → kk ≠ 15 → kk ≠ 26 → kk ≠ 29 → up3 (up3 (up3 (up3 (up3 S 14 v p (nI 0)) 15 v p (nI 0)) 13 v p (nI 0)) 26 v p (nI 0)) 29 v p (nI 0) kk v = S kk v := fun kk a b c d e => by rw [up3_k _ e, up3_k _ d, up3_k _ a, up3_k _ c, up3_k _ b]
  have ho2 : ∀ r w, w < 20 → w ≠ 0 → w ≠ 1 → w ≠ 2 → w ≠ 3 → w ≠ 15 → fo (fEmpty N p) r w = fo N r w := fun r w hw a b c d e => by rw [ho r w hw, if_neg (by omega)]
  refine ⟨⟨?_, fun q hq => ?_⟩, ?_, fun r hr => ?_, ?_, ?_⟩
  · rw [hk 12 (by omega) (by omega) (by omega) (by omega) (by omega), hl 0 (by omega)]
    exact h.1.1
  · obtain ⟨a0, a1, a2, a3⟩ := h.1.2 q hq
    rw [ho q 0 (by omega), ho q 1 (by omega), ho q 2 (by omega), ho q 6 (by omega), hk 16 (by omega) (by omega) (by omega) (by omega) (by omega)]
    simp only [up3_at]
    by_cases e : q = p
    · simp [e]
      rw [← e]
      exact a3
    · simp [e]
      exact ⟨a0, a1, a2, a3⟩
  · exact (h.2.1.row (hl 3 (by omega)) (fun p w hp a b => ho2 p w (by omega) (by omega) (by omega) (by omega) (by omega) (by omega)) (fun a b ha hb => hl _ (by omega))).off (fun kk a b => hk kk (by omega) (by omega) (by omega) (by omega) (by omega))
  · rw [hk 18 (by omega) (by omega) (by omega) (by omega) (by omega), ho2 r 8 (by omega) (by omega) (by omega) (by omega) (by omega) (by omega), ho2 r 9 (by omega) (by omega) (by omega) (by omega) (by omega) (by omega), ho r 0 (by omega)]
    rcases h.2.2.1 r hr with z | ⟨z1, z2⟩
    · exact Or.inl z
    · refine Or.inr ⟨z1, ?_⟩
      by_cases e : r = p
      · subst e
        rw [if_pos (by omega)]
        exact Or.inr ⟨rfl, (z2.resolve_left h1).2⟩
      · rw [if_neg (fun z => e z.1)]
        exact z2
  · exact (h.2.2.2.1.off (fun kk a b => hk kk (by omega) (by omega) (by omega) (by omega) (by omega))).row (fun j hj => hl j (by omega))
  · have hP := h.2.2.2.2
    unfold AP
    rw [hk 25 (by omega) (by omega) (by omega) (by omega) (by omega), hk 27 (by omega) (by omega) (by omega) (by omega) (by omega), hk 28 (by omega) (by omega) (by omega) (by omega) (by omega), hk 30 (by omega) (by omega) (by omega) (by omega) (by omega), hl 1 (by omega), hl 4 (by omega), hl 2 (by omega)]
    refine ⟨hP.1, hP.2.1, hP.2.2.1, fun q hq => ?_⟩
    rw [ho2 q 4 (by omega) (by omega) (by omega) (by omega) (by omega) (by omega), ho2 q 5 (by omega) (by omega) (by omega) (by omega) (by omega) (by omega), ho q 3 (by omega), ho q 15 (by omega)]
    obtain ⟨g3, g4, g5, g15, g30⟩ := hP.2.2.2 q hq
    refine ⟨?_, g4, g5, ?_, fun t w hw ht hw5 => ?_⟩
    · rw [up3_k _ (by omega), up3_at]
      by_cases e : q = p
      · rw [if_pos ⟨rfl, rfl, e⟩, if_pos ⟨e, by omega⟩]
      · rw [if_neg (fun z => e z.2.2), if_neg (fun z => e z.1), up3_k _ (by omega), up3_k _ (by omega), up3_k _ (by omega)]
        exact g3
    · rw [up3_at]
      by_cases e : q = p
      · rw [if_pos ⟨rfl, rfl, e⟩, if_pos ⟨e, by omega⟩]
      · rw [if_neg (fun z => e z.2.2), if_neg (fun z => e z.1), up3_k _ (by omega), up3_k _ (by omega), up3_k _ (by omega), up3_k _ (by omega)]
        exact g15
    · by_cases e : q = p
      · rw [if_pos ⟨e, by omega⟩] at hw
        have := (nI_eq (by omega) (by omega)).mp hw
        omega
      · rw [if_neg (fun z => e z.1)] at hw
        exact (g30 t w hw ht hw5).trans (hl _ (by omega)).symm

def rm_X4_deliver : Room := { frames := 2, cells := 0, slots := 0, locals := 82 }
set_option maxHeartbeats 4000000 in
set_option maxRecDepth 100000 in
theorem c_X4_deliver {l : Launch} {G : mG} {ad : mA} {S : mS} {L : mL} {R : mR} {N : NN} {n v p w : Nat} {x : Int32} (hR : mlk R) (hv : v < 15) (hB : AB S v N n) (hp : p < 10) (hw : fo N p 15 = nI w) (hw5 : w ≤ 5) : Kv l yX4_deliver cX4_deliver 3 rm_X4_deliver G ad mdm [.ref (ad 25 v), .int (nI p), .int x] S L R (fun S2 L2 R2 => AB S2 v (fSend N p w x) n ∧ FP S S2 v ∧ L = L2 ∧ R = R2) := by
  refine Kv.of RX4 (by decide) rfl (Nat.le_of_ble_eq_true rfl) ?_
  intro X hXl hXG C ret
  subst hXl; subst hXG
  change Z X 3 ad mdm S L R 0 0 0 [(0, _), (1, _), (2, _)] []
  have hP := hB.2.2.2.2
  have hPp := hP.2.2.2 p (by omega)
  have hA := hB.1.2 p hp
  refine z_aload_n C 0 0 0 dX4_deliver_0 rfl rfl ?_
  refine z_getr C 1 dX4_deliver_1 gf_X4_50 rfl (by first | assumption | exact Nat.zero_lt_one | exact (show (15 : Nat) < 16 by decide) | exact Nat.lt_succ_of_lt (by assumption) | omega) (by first | exact hR _ _ _ _ rfl | exact hR2 _ _ _ _ rfl | assumption) ?_
  refine z_getr C 4 dX4_deliver_4 gf_X4_168 rfl (by first | assumption | exact Nat.zero_lt_one | exact (show (15 : Nat) < 16 by decide) | exact Nat.lt_succ_of_lt (by assumption) | omega) (by first | exact hR _ _ _ _ rfl | exact hR2 _ _ _ _ rfl | assumption) ?_
  refine z_iload_n C 7 1 1 dX4_deliver_7 rfl rfl ?_
  refine z_iald C 8 dX4_deliver_8 (by first | rfl | assumption) (by first | assumption | exact Nat.zero_lt_one | exact (show (15 : Nat) < 16 by decide) | exact Nat.lt_succ_of_lt (by assumption) | omega) (by first | rfl | assumption) (by first | decide | omega) (by first | assumption | omega) ?_
  rw [hA.1]
  refine z_iconst (v := nI 1) C 9 dX4_deliver_9 (by decide) ?_
  first | with_reducible refine z_icmp_neN C 10 22 dX4_deliver_10 (by decide) (by omega) (by omega) (fun h10 => ?_) (fun h10 => ?_) | refine z_icmp_ne C 10 22 dX4_deliver_10 (by decide) (fun h10 => ?_) (fun h10 => ?_)
  · refine z_aload_n C 22 0 0 dX4_deliver_22 rfl rfl ?_
    refine z_getr C 23 dX4_deliver_23 gf_X4_50 rfl (by first | assumption | exact Nat.zero_lt_one | exact (show (15 : Nat) < 16 by decide) | exact Nat.lt_succ_of_lt (by assumption) | omega) (by first | exact hR _ _ _ _ rfl | exact hR2 _ _ _ _ rfl | assumption) ?_
    refine z_getr C 26 dX4_deliver_26 gf_X4_168 rfl (by first | assumption | exact Nat.zero_lt_one | exact (show (15 : Nat) < 16 by decide) | exact Nat.lt_succ_of_lt (by assumption) | omega) (by first | exact hR _ _ _ _ rfl | exact hR2 _ _ _ _ rfl | assumption) ?_
    refine z_iload_n C 29 1 1 dX4_deliver_29 rfl rfl ?_
    refine z_iald C 30 dX4_deliver_30 (by first | rfl | assumption) (by first | assumption | exact Nat.zero_lt_one | exact (show (15 : Nat) < 16 by decide) | exact Nat.lt_succ_of_lt (by assumption) | omega) (by first | rfl | assumption) (by first | decide | omega) (by first | assumption | omega) ?_
    rw [hA.1]
    first | with_reducible refine z_if_eqB C 31 75 dX4_deliver_31 (by decide) (fun h31 => ?_) (fun h31 => ?_) | with_reducible refine z_if_eqN C 31 75 dX4_deliver_31 (by decide) (by omega) (fun h31 => ?_) (fun h31 => ?_) | refine z_if_eq C 31 75 dX4_deliver_31 (by decide) (fun h31 => ?_) (fun h31 => ?_)
    · exact ret 75 _ _ _ _ dX4_deliver_75 ((by unfold fSend; first | (rw [if_pos h10]; exact ⟨hB16, hF16, rfl, rfl⟩) | (rw [if_neg h10, if_pos (show fo N p 0 = nI 0 from h31)]; exact ⟨hB, FP.rf _ _, rfl, rfl⟩) | (rw [if_neg h10, if_neg (show ¬ fo N p 0 = nI 0 from h31), if_pos (show w = 5 by omega)]; exact ⟨(hB46.put hp hl46 (by omega)).1, hF46.tr (hB46.put hp hl46 (by omega)).2, rfl, rfl⟩) | (rw [if_neg h10, if_neg (show ¬ fo N p 0 = nI 0 from h31), if_neg (by omega)]; exact ⟨(hB.put hp hw (by omega)).1, (hB.put hp hw (by omega)).2, rfl, rfl⟩)))
    · refine z_aload_n C 34 0 0 dX4_deliver_34 rfl rfl ?_
      refine z_getr C 35 dX4_deliver_35 gf_X4_35 rfl (by first | assumption | exact Nat.zero_lt_one | exact (show (15 : Nat) < 16 by decide) | exact Nat.lt_succ_of_lt (by assumption) | omega) (by first | exact hR _ _ _ _ rfl | exact hR2 _ _ _ _ rfl | assumption) ?_
      refine z_iload_n C 38 1 1 dX4_deliver_38 rfl rfl ?_
      refine z_iald C 39 dX4_deliver_39 (by first | rfl | assumption) (by first | assumption | exact Nat.zero_lt_one | exact (show (15 : Nat) < 16 by decide) | exact Nat.lt_succ_of_lt (by assumption) | omega) (by first | rfl | assumption) (by first | decide | omega) (by first | assumption | omega) ?_
      rw [hPp.2.2.2.1, hw]
      refine z_iconst (v := nI 5) C 40 dX4_deliver_40 (by decide) ?_
      first | with_reducible refine z_icmp_ltN C 41 49 dX4_deliver_41 (by decide) (by omega) (by omega) (fun h41 => ?_) (fun h41 => ?_) | refine z_icmp_lt C 41 49 dX4_deliver_41 (by decide) (fun h41 => ?_) (fun h41 => ?_)
      · refine z_aload_n C 49 0 0 dX4_deliver_49 rfl rfl ?_
        refine z_getr C 50 dX4_deliver_50 gf_X4_38 rfl (by first | assumption | exact Nat.zero_lt_one | exact (show (15 : Nat) < 16 by decide) | exact Nat.lt_succ_of_lt (by assumption) | omega) (by first | exact hR _ _ _ _ rfl | exact hR2 _ _ _ _ rfl | assumption) ?_
        refine z_iload_n C 53 1 1 dX4_deliver_53 rfl rfl ?_
        refine z_iconst (v := nI 5) C 54 dX4_deliver_54 (by decide) ?_
        first | with_reducible refine z_imulN C 55 dX4_deliver_55 ?_ | refine z_imul C 55 dX4_deliver_55 ?_
        refine z_aload_n C 56 0 0 dX4_deliver_56 rfl rfl ?_
        refine z_getr C 57 dX4_deliver_57 gf_X4_35 rfl (by first | assumption | exact Nat.zero_lt_one | exact (show (15 : Nat) < 16 by decide) | exact Nat.lt_succ_of_lt (by assumption) | omega) (by first | exact hR _ _ _ _ rfl | exact hR2 _ _ _ _ rfl | assumption) ?_
        refine z_iload_n C 60 1 1 dX4_deliver_60 rfl rfl ?_
        refine z_iald C 61 dX4_deliver_61 (by first | rfl | assumption) (by first | assumption | exact Nat.zero_lt_one | exact (show (15 : Nat) < 16 by decide) | exact Nat.lt_succ_of_lt (by assumption) | omega) (by first | rfl | assumption) (by first | decide | omega) (by first | assumption | omega) ?_
        first | rw [hw46] | rw [hPp.2.2.2.1, hw]
        first | with_reducible refine z_iaddN C 62 dX4_deliver_62 ?_ | refine z_iadd C 62 dX4_deliver_62 ?_
        refine z_iload_n C 63 2 2 dX4_deliver_63 rfl rfl ?_
        refine z_iast C 64 dX4_deliver_64 (by first | rfl | assumption) (by first | assumption | exact Nat.zero_lt_one | exact (show (15 : Nat) < 16 by decide) | exact Nat.lt_succ_of_lt (by assumption) | omega)  (by first | rfl | assumption) (by first | decide | omega) (by first | assumption | omega) ?_
        refine z_aload_n C 65 0 0 dX4_deliver_65 rfl rfl ?_
        refine z_getr C 66 dX4_deliver_66 gf_X4_35 rfl (by first | assumption | exact Nat.zero_lt_one | exact (show (15 : Nat) < 16 by decide) | exact Nat.lt_succ_of_lt (by assumption) | omega) (by first | exact hR _ _ _ _ rfl | exact hR2 _ _ _ _ rfl | assumption) ?_
        refine z_iload_n C 69 1 1 dX4_deliver_69 rfl rfl ?_
        refine z_dup2 C 70 dX4_deliver_70 rfl rfl ?_
        refine z_iald C 71 dX4_deliver_71 (by first | rfl | assumption) (by first | assumption | exact Nat.zero_lt_one | exact (show (15 : Nat) < 16 by decide) | exact Nat.lt_succ_of_lt (by assumption) | omega) (by first | rfl | assumption) (by first | decide | omega) (by first | assumption | omega) ?_
        rw [up3_k _ (by decide)]
        first | rw [hw46] | rw [hPp.2.2.2.1, hw]
        refine z_iconst (v := nI 1) C 72 dX4_deliver_72 (by decide) ?_
        first | with_reducible refine z_iaddN C 73 dX4_deliver_73 ?_ | refine z_iadd C 73 dX4_deliver_73 ?_
        refine z_iast C 74 dX4_deliver_74 (by first | rfl | assumption) (by first | assumption | exact Nat.zero_lt_one | exact (show (15 : Nat) < 16 by decide) | exact Nat.lt_succ_of_lt (by assumption) | omega)  (by first | rfl | assumption) (by first | decide | omega) (by first | assumption | omega) ?_
        exact ret 75 _ _ _ _ dX4_deliver_75 ((by unfold fSend; first | (rw [if_pos h10]; exact ⟨hB16, hF16, rfl, rfl⟩) | (rw [if_neg h10, if_pos (show fo N p 0 = nI 0 from h31)]; exact ⟨hB, FP.rf _ _, rfl, rfl⟩) | (rw [if_neg h10, if_neg (show ¬ fo N p 0 = nI 0 from h31), if_pos (show w = 5 by omega)]; exact ⟨(hB46.put hp hl46 (by omega)).1, hF46.tr (hB46.put hp hl46 (by omega)).2, rfl, rfl⟩) | (rw [if_neg h10, if_neg (show ¬ fo N p 0 = nI 0 from h31), if_neg (by omega)]; exact ⟨(hB.put hp hw (by omega)).1, (hB.put hp hw (by omega)).2, rfl, rfl⟩)))
      · refine z_aload_n C 44 0 0 dX4_deliver_44 rfl rfl ?_
        refine z_iload_n C 45 1 1 dX4_deliver_45 rfl rfl ?_
        refine z_cVv0 C 46 dX4_deliver_46 cv_X4_225 (c_X4_dropFirst (N := N) (n := n) (w := 5) hR hv hB hp (by rw [hw]; exact congrArg nI (by omega)) (by omega) (by omega)) rfl ⟨by decide, rfl⟩ (by first | assumption | exact Nat.zero_lt_one | exact (show (15 : Nat) < 16 by decide) | exact Nat.lt_succ_of_lt (by assumption) | omega) rfl rfl (Nat.le_of_ble_eq_true rfl) ⟨by decide, by decide⟩ ⟨rfl, rfl⟩ ⟨by decide, by decide⟩ ?_
        intro S46 L46 R46 p46
        obtain ⟨hB46, hF46, rfl, rfl⟩ := p46
        have hl46 : fo (fLeave N p 5) p 15 = nI 4 := by unfold fLeave; rw [fLv_fo hp (by omega), fo_set_s]
        have hw46 : S46 29 v p = nI 4 := ((hB46.2.2.2.2.2.2.2 p hp).2.2.2.1).trans hl46
        refine z_aload_n C 49 0 0 dX4_deliver_49 rfl rfl ?_
        refine z_getr C 50 dX4_deliver_50 gf_X4_38 rfl (by first | assumption | exact Nat.zero_lt_one | exact (show (15 : Nat) < 16 by decide) | exact Nat.lt_succ_of_lt (by assumption) | omega) (by first | exact hR _ _ _ _ rfl | exact hR2 _ _ _ _ rfl | assumption) ?_
        refine z_iload_n C 53 1 1 dX4_deliver_53 rfl rfl ?_
        refine z_iconst (v := nI 5) C 54 dX4_deliver_54 (by decide) ?_
        first | with_reducible refine z_imulN C 55 dX4_deliver_55 ?_ | refine z_imul C 55 dX4_deliver_55 ?_
        refine z_aload_n C 56 0 0 dX4_deliver_56 rfl rfl ?_
        refine z_getr C 57 dX4_deliver_57 gf_X4_35 rfl (by first | assumption | exact Nat.zero_lt_one | exact (show (15 : Nat) < 16 by decide) | exact Nat.lt_succ_of_lt (by assumption) | omega) (by first | exact hR _ _ _ _ rfl | exact hR2 _ _ _ _ rfl | assumption) ?_
        refine z_iload_n C 60 1 1 dX4_deliver_60 rfl rfl ?_
        refine z_iald C 61 dX4_deliver_61 (by first | rfl | assumption) (by first | assumption | exact Nat.zero_lt_one | exact (show (15 : Nat) < 16 by decide) | exact Nat.lt_succ_of_lt (by assumption) | omega) (by first | rfl | assumption) (by first | decide | omega) (by first | assumption | omega) ?_
        first | rw [hw46] | rw [hPp.2.2.2.1, hw]
        first | with_reducible refine z_iaddN C 62 dX4_deliver_62 ?_ | refine z_iadd C 62 dX4_deliver_62 ?_
        refine z_iload_n C 63 2 2 dX4_deliver_63 rfl rfl ?_
        refine z_iast C 64 dX4_deliver_64 (by first | rfl | assumption) (by first | assumption | exact Nat.zero_lt_one | exact (show (15 : Nat) < 16 by decide) | exact Nat.lt_succ_of_lt (by assumption) | omega)  (by first | rfl | assumption) (by first | decide | omega) (by first | assumption | omega) ?_
        refine z_aload_n C 65 0 0 dX4_deliver_65 rfl rfl ?_
        refine z_getr C 66 dX4_deliver_66 gf_X4_35 rfl (by first | assumption | exact Nat.zero_lt_one | exact (show (15 : Nat) < 16 by decide) | exact Nat.lt_succ_of_lt (by assumption) | omega) (by first | exact hR _ _ _ _ rfl | exact hR2 _ _ _ _ rfl | assumption) ?_
        refine z_iload_n C 69 1 1 dX4_deliver_69 rfl rfl ?_
        refine z_dup2 C 70 dX4_deliver_70 rfl rfl ?_
        refine z_iald C 71 dX4_deliver_71 (by first | rfl | assumption) (by first | assumption | exact Nat.zero_lt_one | exact (show (15 : Nat) < 16 by decide) | exact Nat.lt_succ_of_lt (by assumption) | omega) (by first | rfl | assumption) (by first | decide | omega) (by first | assumption | omega) ?_
        rw [up3_k _ (by decide)]
        first | rw [hw46] | rw [hPp.2.2.2.1, hw]
        refine z_iconst (v := nI 1) C 72 dX4_deliver_72 (by decide) ?_
        first | with_reducible refine z_iaddN C 73 dX4_deliver_73 ?_ | refine z_iadd C 73 dX4_deliver_73 ?_
        refine z_iast C 74 dX4_deliver_74 (by first | rfl | assumption) (by first | assumption | exact Nat.zero_lt_one | exact (show (15 : Nat) < 16 by decide) | exact Nat.lt_succ_of_lt (by assumption) | omega)  (by first | rfl | assumption) (by first | decide | omega) (by first | assumption | omega) ?_
        exact ret 75 _ _ _ _ dX4_deliver_75 ((by unfold fSend; first | (rw [if_pos h10]; exact ⟨hB16, hF16, rfl, rfl⟩) | (rw [if_neg h10, if_pos (show fo N p 0 = nI 0 from h31)]; exact ⟨hB, FP.rf _ _, rfl, rfl⟩) | (rw [if_neg h10, if_neg (show ¬ fo N p 0 = nI 0 from h31), if_pos (show w = 5 by omega)]; exact ⟨(hB46.put hp hl46 (by omega)).1, hF46.tr (hB46.put hp hl46 (by omega)).2, rfl, rfl⟩) | (rw [if_neg h10, if_neg (show ¬ fo N p 0 = nI 0 from h31), if_neg (by omega)]; exact ⟨(hB.put hp hw (by omega)).1, (hB.put hp hw (by omega)).2, rfl, rfl⟩)))
  · refine z_aload_n C 13 0 0 dX4_deliver_13 rfl rfl ?_
    refine z_iload_n C 14 1 1 dX4_deliver_14 rfl rfl ?_
    refine z_iload_n C 15 2 2 dX4_deliver_15 rfl rfl ?_
    refine z_cVv0 C 16 dX4_deliver_16 cv_X4_222 (c_X4_takeIn (N := N) (n := n) hR hv hB hp) rfl ⟨by decide, rfl⟩ (by first | assumption | exact Nat.zero_lt_one | exact (show (15 : Nat) < 16 by decide) | exact Nat.lt_succ_of_lt (by assumption) | omega) rfl rfl (Nat.le_of_ble_eq_true rfl) ⟨by decide, by decide⟩ ⟨rfl, rfl⟩ ⟨by decide, by decide⟩ ?_
    intro S16 L16 R16 p16
    obtain ⟨hB16, hF16, rfl, rfl⟩ := p16
    refine z_goto C 19 75 dX4_deliver_19 (by decide) ?_
    exact ret 75 _ _ _ _ dX4_deliver_75 ((by unfold fSend; first | (rw [if_pos h10]; exact ⟨hB16, hF16, rfl, rfl⟩) | (rw [if_neg h10, if_pos (show fo N p 0 = nI 0 from h31)]; exact ⟨hB, FP.rf _ _, rfl, rfl⟩) | (rw [if_neg h10, if_neg (show ¬ fo N p 0 = nI 0 from h31), if_pos (show w = 5 by omega)]; exact ⟨(hB46.put hp hl46 (by omega)).1, hF46.tr (hB46.put hp hl46 (by omega)).2, rfl, rfl⟩) | (rw [if_neg h10, if_neg (show ¬ fo N p 0 = nI 0 from h31), if_neg (by omega)]; exact ⟨(hB.put hp hw (by omega)).1, (hB.put hp hw (by omega)).2, rfl, rfl⟩)))
def rm_X4_takeInFirst : Room := { frames := 2, cells := 0, slots := 0, locals := 82 }
set_option maxHeartbeats 4000000 in
set_option maxRecDepth 100000 in
theorem c_X4_takeInFirst {l : Launch} {G : mG} {ad : mA} {S : mS} {L : mL} {R : mR} {N : NN} {n v p w : Nat} (hR : mlk R) (hv : v < 15) (hB : AB S v N n) (hp : p < 10) (hw : fo N p 15 = nI w) (hw1 : 1 ≤ w) (hw5 : w ≤ 5) : Kv l yX4_takeInFirst cX4_takeInFirst 2 rm_X4_takeInFirst G ad mdm [.ref (ad 25 v), .int (nI p)] S L R (fun S2 L2 R2 => AB S2 v (fTake (fLeave N p w) p (N (388 + 5 * p))) n ∧ FP S S2 v ∧ L = L2 ∧ R = R2) := by
  refine Kv.of RX4 (by decide) rfl (Nat.le_of_ble_eq_true rfl) ?_
  intro X hXl hXG C ret
  subst hXl; subst hXG
  change Z X 2 ad mdm S L R 0 0 0 [(0, _), (1, _)] []
  have hP := hB.2.2.2.2
  have hPp := hP.2.2.2 p (by omega)
  refine z_aload_n C 0 0 0 dX4_takeInFirst_0 rfl rfl ?_
  refine z_iload_n C 1 1 1 dX4_takeInFirst_1 rfl rfl ?_
  refine z_aload_n C 2 0 0 dX4_takeInFirst_2 rfl rfl ?_
  refine z_getr C 3 dX4_takeInFirst_3 gf_X4_38 rfl (by first | assumption | exact Nat.zero_lt_one | exact (show (15 : Nat) < 16 by decide) | exact Nat.lt_succ_of_lt (by assumption) | omega) (by first | exact hR _ _ _ _ rfl | exact hR2 _ _ _ _ rfl | assumption) ?_
  refine z_iload_n C 6 1 1 dX4_takeInFirst_6 rfl rfl ?_
  refine z_iconst (v := nI 5) C 7 dX4_takeInFirst_7 (by decide) ?_
  first | with_reducible refine z_imulN C 8 dX4_takeInFirst_8 ?_ | refine z_imul C 8 dX4_takeInFirst_8 ?_
  refine z_iald C 9 dX4_takeInFirst_9 (by first | rfl | assumption) (by first | assumption | exact Nat.zero_lt_one | exact (show (15 : Nat) < 16 by decide) | exact Nat.lt_succ_of_lt (by assumption) | omega) (by first | rfl | assumption) (by first | decide | omega) (by first | assumption | omega) ?_
  rw [show S 30 v (p * 5) = N (388 + 5 * p) from hPp.2.2.2.2 0 w hw hw1 hw5]
  refine z_cVv0 C 10 dX4_takeInFirst_10 cv_X4_222 (c_X4_takeIn (N := N) (n := n) hR hv hB hp) rfl ⟨by decide, rfl⟩ (by first | assumption | exact Nat.zero_lt_one | exact (show (15 : Nat) < 16 by decide) | exact Nat.lt_succ_of_lt (by assumption) | omega) rfl rfl (Nat.le_of_ble_eq_true rfl) ⟨by decide, by decide⟩ ⟨rfl, rfl⟩ ⟨by decide, by decide⟩ ?_
  intro S10 L10 R10 p10
  obtain ⟨hB16, hF16, rfl, rfl⟩ := p10
  refine z_aload_n C 13 0 0 dX4_takeInFirst_13 rfl rfl ?_
  refine z_iload_n C 14 1 1 dX4_takeInFirst_14 rfl rfl ?_
  refine z_cVv0 C 15 dX4_takeInFirst_15 cv_X4_225 (c_X4_dropFirst (N := fTake N p (N (388 + 5 * p))) (n := n) (w := w) hR hv hB16 hp (by unfold fTake; rw [fo_set_w _ (by omega) (by omega) (by omega)]; exact hw) hw1 hw5) rfl ⟨by decide, rfl⟩ (by first | assumption | exact Nat.zero_lt_one | exact (show (15 : Nat) < 16 by decide) | exact Nat.lt_succ_of_lt (by assumption) | omega) rfl rfl (Nat.le_of_ble_eq_true rfl) ⟨by decide, by decide⟩ ⟨rfl, rfl⟩ ⟨by decide, by decide⟩ ?_
  intro S15 L15 R15 p15
  obtain ⟨hB46, hF46, rfl, rfl⟩ := p15
  exact ret 18 _ _ _ _ dX4_takeInFirst_18 (⟨fTL hp ▸ hB46, hF16.tr hF46, rfl, rfl⟩)
def rm_X4_letShownRest : Room := { frames := 0, cells := 0, slots := 0, locals := 0 }
set_option maxHeartbeats 4000000 in
set_option maxRecDepth 100000 in
theorem c_X4_letShownRest {l : Launch} {G : mG} {ad : mA} {S : mS} {L : mL} {R : mR} {N : NN} {n v t : Nat} (hR : mlk R) (hv : v < 15) (hI : rI N n) (hB : AB S v N n) (hn10 : n ≤ 10) (hW : wI N) (ht : N 1 = nI t) (htb : t < 2 ^ 31) : Kv l yX4_letShownRest cX4_letShownRest 1 rm_X4_letShownRest G ad mdm [.ref (ad 25 v)] S L R (fun S2 L2 R2 => AB S2 v (fHome N) n ∧ FP S S2 v ∧ L = L2 ∧ R = R2) := by
  refine Kv.of RX4 (by decide) rfl (Nat.le_of_ble_eq_true rfl) ?_
  intro X hXl hXG C ret
  subst hXl; subst hXG
  change Z X 1 ad mdm S L R 0 0 0 [(0, _)] []
  have hP := hB.2.2.2.2
  refine z_aload_n C 0 0 0 dX4_letShownRest_0 rfl rfl ?_
  refine z_getiv C 1 dX4_letShownRest_1 gf_X4_75 rfl (by first | assumption | exact Nat.zero_lt_one | exact (show (15 : Nat) < 16 by decide) | exact Nat.lt_succ_of_lt (by assumption) | omega) hP.2.2.1 ?_
  refine z_if_lt C 4 41 dX4_letShownRest_4 (by decide) (fun h4 => ?_) (fun h4 => ?_)
  · exact ret 41 _ _ _ _ dX4_letShownRest_41 ((by first | (rw [show fHome N = N from fHome_n (hI.1.resolve_right (fun z => by obtain ⟨q, hq, e⟩ := z; rw [e] at h4; exact nI_pos (by omega) h4))]; exact ⟨hB, FP.rf _ _, rfl, rfl⟩) | (rw [fHome_s (by omega) hqe]; exact ⟨hB.rest (by omega) ((hW q (by omega)).1 ((hI.2.2.2.1 q (by omega)).mpr hqe)) ht htb, (((FP.rf _ _).up (by omega)).up (by omega)).up (by omega), rfl, rfl⟩)))
  · obtain ⟨q, hq, hqe⟩ := hI.1.resolve_left (fun e => h4 (by rw [e]; decide))
    refine z_aload_n C 7 0 0 dX4_letShownRest_7 rfl rfl ?_
    refine z_getr C 8 dX4_letShownRest_8 gf_X4_50 rfl (by first | assumption | exact Nat.zero_lt_one | exact (show (15 : Nat) < 16 by decide) | exact Nat.lt_succ_of_lt (by assumption) | omega) (by first | exact hR _ _ _ _ rfl | exact hR2 _ _ _ _ rfl | assumption) ?_
    refine z_getr C 11 dX4_letShownRest_11 gf_X4_168 rfl (by first | assumption | exact Nat.zero_lt_one | exact (show (15 : Nat) < 16 by decide) | exact Nat.lt_succ_of_lt (by assumption) | omega) (by first | exact hR _ _ _ _ rfl | exact hR2 _ _ _ _ rfl | assumption) ?_
    refine z_aload_n C 14 0 0 dX4_letShownRest_14 rfl rfl ?_
    refine z_getiv C 15 dX4_letShownRest_15 gf_X4_75 rfl (by first | assumption | exact Nat.zero_lt_one | exact (show (15 : Nat) < 16 by decide) | exact Nat.lt_succ_of_lt (by assumption) | omega) (hP.2.2.1.trans hqe) ?_
    refine z_iconst (v := nI 2) C 18 dX4_letShownRest_18 (by decide) ?_
    refine z_iast C 19 dX4_letShownRest_19 (by first | rfl | assumption) (by first | assumption | exact Nat.zero_lt_one | exact (show (15 : Nat) < 16 by decide) | exact Nat.lt_succ_of_lt (by assumption) | omega)  (by first | rfl | assumption) (by first | decide | omega) (by first | assumption | omega) ?_
    refine z_aload_n C 20 0 0 dX4_letShownRest_20 rfl rfl ?_
    refine z_getr C 21 dX4_letShownRest_21 gf_X4_12 rfl (by first | assumption | exact Nat.zero_lt_one | exact (show (15 : Nat) < 16 by decide) | exact Nat.lt_succ_of_lt (by assumption) | omega) (by first | exact hR _ _ _ _ rfl | exact hR2 _ _ _ _ rfl | assumption) ?_
    refine z_getr C 24 dX4_letShownRest_24 gf_X4_125 rfl (by first | assumption | exact Nat.zero_lt_one | exact (show (15 : Nat) < 16 by decide) | exact Nat.lt_succ_of_lt (by assumption) | omega) (by first | exact hR _ _ _ _ rfl | exact hR2 _ _ _ _ rfl | assumption) ?_
    refine z_aload_n C 27 0 0 dX4_letShownRest_27 rfl rfl ?_
    refine z_getiv C 28 dX4_letShownRest_28 gf_X4_75 rfl (by first | assumption | exact Nat.zero_lt_one | exact (show (15 : Nat) < 16 by decide) | exact Nat.lt_succ_of_lt (by assumption) | omega) ((congrFun (congrFun (up3_k _ (by decide)) v) 7).trans (hP.2.2.1.trans hqe)) ?_
    refine z_aload_n C 31 0 0 dX4_letShownRest_31 rfl rfl ?_
    refine z_getiv C 32 dX4_letShownRest_32 gf_X4_65 rfl (by first | assumption | exact Nat.zero_lt_one | exact (show (15 : Nat) < 16 by decide) | exact Nat.lt_succ_of_lt (by assumption) | omega) ((congrFun (congrFun (up3_k _ (by decide)) v) 5).trans hP.1) ?_
    refine z_iast C 35 dX4_letShownRest_35 (by first | rfl | assumption) (by first | assumption | exact Nat.zero_lt_one | exact (show (15 : Nat) < 16 by decide) | exact Nat.lt_succ_of_lt (by assumption) | omega)  (by first | rfl | assumption) (by first | decide | omega) (by first | assumption | omega) ?_
    refine z_aload_n C 36 0 0 dX4_letShownRest_36 rfl rfl ?_
    refine z_iconst (v := (-1)) C 37 dX4_letShownRest_37 (by decide) ?_
    refine z_puti C 38 dX4_letShownRest_38 gf_X4_75 ⟨rfl, rfl⟩ rfl (by first | assumption | exact Nat.zero_lt_one | exact (show (15 : Nat) < 16 by decide) | exact Nat.lt_succ_of_lt (by assumption) | omega) ?_
    exact ret 41 _ _ _ _ dX4_letShownRest_41 ((by first | (rw [show fHome N = N from fHome_n (hI.1.resolve_right (fun z => by obtain ⟨q, hq, e⟩ := z; rw [e] at h4; exact nI_pos (by omega) h4))]; exact ⟨hB, FP.rf _ _, rfl, rfl⟩) | (rw [fHome_s (by omega) hqe]; exact ⟨hB.rest (by omega) ((hW q (by omega)).1 ((hI.2.2.2.1 q (by omega)).mpr hqe)) ht htb, (((FP.rf _ _).up (by omega)).up (by omega)).up (by omega), rfl, rfl⟩)))
def rm_X4_shut : Room := { frames := 1, cells := 0, slots := 0, locals := 21 }
set_option maxHeartbeats 4000000 in
set_option maxRecDepth 100000 in
theorem c_X4_shut {l : Launch} {G : mG} {ad : mA} {S : mS} {L : mL} {R : mR} {N : NN} {n v p t : Nat} (hR : mlk R) (hv : v < 15) (hI : rI N n) (hB : AB S v N n) (hn10 : n ≤ 10) (hW : wI N) (ht : N 1 = nI t) (htb : t < 2 ^ 31) (hp : p < 10) : Kv l yX4_shut cX4_shut 2 rm_X4_shut G ad mdm [.ref (ad 25 v), .int (nI p)] S L R (fun S2 L2 R2 => AB S2 v (fShut N p) n ∧ FP S S2 v ∧ L = L2 ∧ R = R2) := by
  refine Kv.of RX4 (by decide) rfl (Nat.le_of_ble_eq_true rfl) ?_
  intro X hXl hXG C ret
  subst hXl; subst hXG
  change Z X 2 ad mdm S L R 0 0 0 [(0, _), (1, _)] []
  have hP := hB.2.2.2.2
  refine z_iload_n C 0 1 1 dX4_shut_0 rfl rfl ?_
  refine z_aload_n C 1 0 0 dX4_shut_1 rfl rfl ?_
  refine z_getiv C 2 dX4_shut_2 gf_X4_75 rfl (by first | assumption | exact Nat.zero_lt_one | exact (show (15 : Nat) < 16 by decide) | exact Nat.lt_succ_of_lt (by assumption) | omega) hP.2.2.1 ?_
  first | with_reducible refine z_icmp_neN C 5 12 dX4_shut_5 (by decide) (by omega) (by omega) (fun h5 => ?_) (fun h5 => ?_) | refine z_icmp_ne C 5 12 dX4_shut_5 (by decide) (fun h5 => ?_) (fun h5 => ?_)
  · refine z_aload_n C 12 0 0 dX4_shut_12 rfl rfl ?_
    refine z_getr C 13 dX4_shut_13 gf_X4_50 rfl (by first | assumption | exact Nat.zero_lt_one | exact (show (15 : Nat) < 16 by decide) | exact Nat.lt_succ_of_lt (by assumption) | omega) (by first | exact hR _ _ _ _ rfl | exact hR2 _ _ _ _ rfl | assumption) ?_
    refine z_iload_n C 16 1 1 dX4_shut_16 rfl rfl ?_
    refine z_cVv0 C 17 dX4_shut_17 cv_X4_207 (c_X6_empty (r := v) hR (by omega) hp) rfl ⟨by decide, rfl⟩ (by first | assumption | exact Nat.zero_lt_one | exact (show (15 : Nat) < 16 by decide) | exact Nat.lt_succ_of_lt (by assumption) | omega) rfl rfl (Nat.le_of_ble_eq_true rfl) ⟨by decide, by decide⟩ ⟨rfl, rfl⟩ ⟨by decide, by decide⟩ ?_
    intro S17 L17 R17 p17
    obtain ⟨rfl, rfl, rfl⟩ := p17
    refine z_aload_n C 20 0 0 dX4_shut_20 rfl rfl ?_
    refine z_iload_n C 21 1 1 dX4_shut_21 rfl rfl ?_
    refine z_cVv0 C 22 dX4_shut_22 cv_X4_156 (c_X4_forgetWhatItShowed hR hv hp) rfl ⟨by decide, rfl⟩ (by first | assumption | exact Nat.zero_lt_one | exact (show (15 : Nat) < 16 by decide) | exact Nat.lt_succ_of_lt (by assumption) | omega) rfl rfl (Nat.le_of_ble_eq_true rfl) ⟨by decide, by decide⟩ ⟨rfl, rfl⟩ ⟨by decide, by decide⟩ ?_
    intro S22 L22 R22 p22
    obtain ⟨rfl, rfl, rfl⟩ := p22
    exact ret 25 _ _ _ _ dX4_shut_25 ((by unfold fShut; first | (rw [if_neg (fun z => h5 z.symm)]; exact ⟨hB.empty hp (fun z => h5 ((hI.2.2.2.1 p hp).mp z).symm), (((((FP.rf _ _).up (by omega)).up (by omega)).up (by omega)).up (by omega)).up (by omega), rfl, rfl⟩) | (rw [if_pos h5.symm, ← fHome_s (by omega) h5.symm]; exact ⟨hB9.empty hp (by rw [fHome_s (by omega) h5.symm, show fo (upd (fRest N p) 2 (-1)) p 0 = fo (fRest N p) p 0 from upd_n _ (by omega), fo_rest N (by omega), if_pos ⟨rfl, rfl⟩]; decide), (((((hF9).up (by omega)).up (by omega)).up (by omega)).up (by omega)).up (by omega), rfl, rfl⟩)))
  · refine z_aload_n C 8 0 0 dX4_shut_8 rfl rfl ?_
    refine z_cVv0 C 9 dX4_shut_9 cv_X4_192 (c_X4_letShownRest (N := N) (n := n) hR hv hI hB hn10 hW ht htb) rfl ⟨by decide, rfl⟩ (by first | assumption | exact Nat.zero_lt_one | exact (show (15 : Nat) < 16 by decide) | exact Nat.lt_succ_of_lt (by assumption) | omega) rfl rfl (Nat.le_of_ble_eq_true rfl) ⟨by decide, by decide⟩ ⟨rfl, rfl⟩ ⟨by decide, by decide⟩ ?_
    intro S9 L9 R9 p9
    obtain ⟨hB9, hF9, rfl, rfl⟩ := p9
    refine z_aload_n C 12 0 0 dX4_shut_12 rfl rfl ?_
    refine z_getr C 13 dX4_shut_13 gf_X4_50 rfl (by first | assumption | exact Nat.zero_lt_one | exact (show (15 : Nat) < 16 by decide) | exact Nat.lt_succ_of_lt (by assumption) | omega) (by first | exact hR _ _ _ _ rfl | exact hR2 _ _ _ _ rfl | assumption) ?_
    refine z_iload_n C 16 1 1 dX4_shut_16 rfl rfl ?_
    refine z_cVv0 C 17 dX4_shut_17 cv_X4_207 (c_X6_empty (r := v) hR (by omega) hp) rfl ⟨by decide, rfl⟩ (by first | assumption | exact Nat.zero_lt_one | exact (show (15 : Nat) < 16 by decide) | exact Nat.lt_succ_of_lt (by assumption) | omega) rfl rfl (Nat.le_of_ble_eq_true rfl) ⟨by decide, by decide⟩ ⟨rfl, rfl⟩ ⟨by decide, by decide⟩ ?_
    intro S17 L17 R17 p17
    obtain ⟨rfl, rfl, rfl⟩ := p17
    refine z_aload_n C 20 0 0 dX4_shut_20 rfl rfl ?_
    refine z_iload_n C 21 1 1 dX4_shut_21 rfl rfl ?_
    refine z_cVv0 C 22 dX4_shut_22 cv_X4_156 (c_X4_forgetWhatItShowed hR hv hp) rfl ⟨by decide, rfl⟩ (by first | assumption | exact Nat.zero_lt_one | exact (show (15 : Nat) < 16 by decide) | exact Nat.lt_succ_of_lt (by assumption) | omega) rfl rfl (Nat.le_of_ble_eq_true rfl) ⟨by decide, by decide⟩ ⟨rfl, rfl⟩ ⟨by decide, by decide⟩ ?_
    intro S22 L22 R22 p22
    obtain ⟨rfl, rfl, rfl⟩ := p22
    exact ret 25 _ _ _ _ dX4_shut_25 ((by unfold fShut; first | (rw [if_neg (fun z => h5 z.symm)]; exact ⟨hB.empty hp (fun z => h5 ((hI.2.2.2.1 p hp).mp z).symm), (((((FP.rf _ _).up (by omega)).up (by omega)).up (by omega)).up (by omega)).up (by omega), rfl, rfl⟩) | (rw [if_pos h5.symm, ← fHome_s (by omega) h5.symm]; exact ⟨hB9.empty hp (by rw [fHome_s (by omega) h5.symm, show fo (upd (fRest N p) 2 (-1)) p 0 = fo (fRest N p) p 0 from upd_n _ (by omega), fo_rest N (by omega), if_pos ⟨rfl, rfl⟩]; decide), (((((hF9).up (by omega)).up (by omega)).up (by omega)).up (by omega)).up (by omega), rfl, rfl⟩)))
