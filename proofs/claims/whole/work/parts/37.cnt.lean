theorem fMemF_ind {T : NN} {n : Nat} {P : NN → Prop} (hs : ∀ N p k, P N → p < n → 1 ≤ k → k ≤ 6 → fCan N p k → P (fStep N p k)) : ∀ (f : Nat) {N : NN} {q : Nat × NN}, P N → fMemF T n f N = some q → P q.2
  | 0, _, _, _, h => by cases h
  | f + 1, N, q, hI, h => by
    by_cases hm : N 0 < fAll N T n
    · cases hk : fKind N T n with
      | none => rw [fMemF_n hm hk] at h; cases h
      | some kp =>
        obtain ⟨k, p⟩ := kp
        rw [fMemF_s hm hk] at h
        obtain ⟨g1, g2, g3⟩ := fKindF_some hk
        have hI' := hs N p k hI (fVic_lt g3) g1 (by omega) (fVic_can g3)
        cases hr : fMemF T n f (fStep N p k) with
        | none => rw [hr] at h; cases h
        | some r =>
          rw [hr] at h
          cases h
          show P r.2
          exact fMemF_ind hs f hI' hr
    · rw [fMemF_0 hm] at h
      cases h
      exact hI
def gGap (S : mS) (v p g : Nat) (x : Int32) : mS := if g < 4 then up3 (up3 S 20 v (p * 4 + g) x) 19 v p (nI (g + 1)) else up3 (mcp S 20 v (p * 4 + 1) 20 v (p * 4) 3) 20 v (p * 4 + 3) x
theorem gGap_k {S : mS} {v p g kk i : Nat} {x : Int32} (h : ¬ (19 ≤ kk ∧ kk ≤ 20 ∧ i = v)) : gGap S v p g x kk i = S kk i := by
  funext j
  unfold gGap
  split
  · rw [up3_at, if_neg (by omega), up3_at, if_neg (by omega)]
  · rw [up3_at, if_neg (by omega)]
    unfold mcp
    rw [if_neg (by omega)]
theorem fGap_fo {N : NN} {p g q w : Nat} (h9 : fo N p 9 = nI 1) (hg : fo N p 10 = nI g) (hg4 : g ≤ 4) (hw : w < 20) : fo (fGap N p) q w = if q = p ∧ w = 10 then nI (if g < 4 then g + 1 else 4) else if q = p ∧ w = 11 + (if g < 4 then g else 3) then N 1 - fo N p 8 else if q = p ∧ g = 4 ∧ 11 ≤ w ∧ w < 14 then fo N p (w + 1) else fo N q w := by
  by_cases h4 : g = 4
  · subst h4
    rw [← fGap_c h9 hg]
    have e3 : gS N p 3 = fset (fset (fset N p 11 (fo N p 12)) p 12 (fo N p 13)) p 13 (fo N p 14) := rfl
    rw [e3, fo_set _ (by omega) hw, fo_set _ (by omega) hw]
    by_cases e : q = p
    · subst e
      by_cases e10 : w = 10
      · subst e10
        rw [if_pos ⟨rfl, rfl⟩, if_pos ⟨rfl, rfl⟩, fo_set_w _ (by omega) (by omega) (by omega), fo_set_s]
        rfl
      · rw [if_neg (show ¬ (q = q ∧ w = 10) from fun z => e10 z.2), if_neg (show ¬ (q = q ∧ w = 10) from fun z => e10 z.2)]
        by_cases e14 : w = 14
        · subst e14
          rw [if_pos (show q = q ∧ 14 = 11 + 3 from ⟨rfl, rfl⟩), if_pos (show q = q ∧ 14 = 11 + (if 4 < 4 then 4 else 3) from ⟨rfl, rfl⟩)]
          have a1 : fset (fset (fset (fset N q 11 (fo N q 12)) q 12 (fo N q 13)) q 13 (fo N q 14)) q 10 (nI 3) 1 = N 1 := by
            rw [fset_lo _ (by omega), fset_lo _ (by omega), fset_lo _ (by omega), fset_lo _ (by omega)]
          rw [a1, fo_set_w _ (by omega) (by omega) (by omega), fo_set_w _ (by omega) (by omega) (by omega), fo_set_w _ (by omega) (by omega) (by omega), fo_set_w _ (by omega) (by omega) (by omega)]
        · rw [if_neg (show ¬ (q = q ∧ w = 11 + 3) from fun z => e14 z.2), if_neg (show ¬ (q = q ∧ w = 11 + (if 4 < 4 then 4 else 3)) from fun z => e14 z.2), fo_set_w _ e10 (by omega) hw]
          rcases (show w = 11 ∨ w = 12 ∨ w = 13 ∨ ¬ (11 ≤ w ∧ w < 14) by omega) with rfl | rfl | rfl | hn
          · rw [fo_set_w _ (by omega) (by omega) hw, fo_set_w _ (by omega) (by omega) hw, fo_set_s, if_pos (by omega)]
          · rw [fo_set_w _ (by omega) (by omega) hw, fo_set_s, if_pos (by omega)]
          · rw [fo_set_s, if_pos (by omega)]
          · rw [fo_set_w _ (by omega) (by omega) hw, fo_set_w _ (by omega) (by omega) hw, fo_set_w _ (by omega) (by omega) hw, if_neg (fun z => hn z.2.2)]
    · rw [if_neg (fun z => e z.1), if_neg (fun z => e z.1), if_neg (fun z => e z.1), if_neg (fun z => e z.1), if_neg (fun z => e z.1), fo_set_p _ e (by omega) hw, fo_set_p _ e (by omega) hw, fo_set_p _ e (by omega) hw, fo_set_p _ e (by omega) hw]
  · have hg3 : g ≤ 3 := by omega
    rw [← fGap_b h9 (by rw [hg, nI_2e (by omega) (by omega)]; exact h4) hg hg3, fo_set _ (by omega) hw, fo_set _ (by omega) hw, if_pos (show g < 4 by omega), if_pos (show g < 4 by omega)]
    rw [fo_set_w N (show 10 ≠ 11 + g by omega) (by omega) (by omega), hg, nI_add]
    by_cases e : q = p ∧ w = 10
    · rw [if_pos e, if_pos e]
    · rw [if_neg e, if_neg e]
      by_cases e2 : q = p ∧ w = 11 + g
      · rw [if_pos e2, if_pos e2]
      · rw [if_neg e2, if_neg e2, if_neg (fun z => h4 z.2.1)]
theorem fGap_out {N : NN} {p g j : Nat} (hp : p < 10) (hg : fo N p 10 = nI g) (hg4 : g ≤ 4) (h : j < 6 ∨ 206 ≤ j) : fGap N p j = N j := by
  by_cases h9 : fo N p 9 = nI 1
  · by_cases h4 : g = 4
    · subst h4
      rw [← fGap_c h9 hg]
      have e3 : gS N p 3 = fset (fset (fset N p 11 (fo N p 12)) p 12 (fo N p 13)) p 13 (fo N p 14) := rfl
      rw [e3, fset_out hp (by omega) h, fset_out hp (by omega) h, fset_out hp (by omega) h, fset_out hp (by omega) h, fset_out hp (by omega) h, fset_out hp (by omega) h]
    · have hg3 : g ≤ 3 := by omega
      rw [← fGap_b h9 (by rw [hg, nI_2e (by omega) (by omega)]; exact h4) hg hg3, fset_out hp (by omega) h, fset_out hp (by omega) h]
  · unfold fGap
    rw [if_neg h9]
theorem AB.gap {S : mS} {v n p g : Nat} {N : NN} (h : AB S v N n) (hp : p < 10) (h9 : fo N p 9 = nI 1) (hg : fo N p 10 = nI g) (hg4 : g ≤ 4) : AB (gGap S v p g (N 1 - fo N p 8)) v (fGap N p) n := by
  have hl : ∀ j, j < 6 ∨ 206 ≤ j → (fGap N p) j = N j := fun j hj => fGap_out hp hg hg4 hj
  have ho : ∀ r w, w < 20 → w < 10 ∨ 15 ≤ w → fo (fGap N p) r w = fo N r w := fun r w hw hx => by
    rw [fGap_fo h9 hg hg4 hw, if_neg (by omega), if_neg (by split <;> omega), if_neg (by omega)]
  have hk : ∀ kk, kk ≠ 19 → kk ≠ 20 → gGap S v p g (N 1 - fo N p 8) kk v = S kk v := fun kk a b => gGap_k (by omega)
  refine ⟨(h.1.off (fun kk a b => hk kk (by omega) (by omega))).row (hl 0 (by omega)) (fun q w hq hw => ho q w (by omega) (by omega)), ?_, (h.2.2.1.off (hk 18 (by omega) (by omega))).row (fun q w hq hw => ho q w (by omega) (by omega)), (h.2.2.2.1.off (fun kk a b => hk kk (by omega) (by omega))).row (fun j hj => hl j (by omega)), (h.2.2.2.2.off (fun kk a b => hk kk (by omega) (by omega))).row (hl 1 (by omega)) (hl 4 (by omega)) (hl 2 (by omega)) (fun q w hq hw => ho q w (by omega) (by omega)) (fun j hj => hl j (by omega))⟩
  obtain ⟨b1, b2, b3, b4, b5⟩ := h.2.1
  refine ⟨by rw [hk 17 (by omega) (by omega)]; exact b1, by rw [hk 17 (by omega) (by omega), hl 3 (by omega)]; exact b2, fun q hq => ?_, fun q t g' hq hg' ht hg4' => ?_, fun a b ha hb => by rw [hk 21 (by omega) (by omega), b5 a b ha hb]; exact (hl _ (by omega)).symm⟩
  · rw [fGap_fo h9 hg hg4 (by omega)]
    unfold gGap
    by_cases g4 : g < 4
    · rw [if_pos g4, if_pos g4, up3_at]
      by_cases e : q = p
      · rw [if_pos ⟨rfl, rfl, e⟩, if_pos ⟨e, rfl⟩]
      · rw [if_neg (fun z => e z.2.2), if_neg (fun z => e z.1), if_neg (fun z => e z.1), if_neg (fun z => e z.1), up3_k _ (by omega)]
        exact b3 q hq
    · obtain rfl : g = 4 := by omega
      rw [if_neg g4, if_neg g4, up3_k _ (by omega), show mcp S 20 v (p * 4 + 1) 20 v (p * 4) 3 19 v q = S 19 v q by unfold mcp; rw [if_neg (by omega)], b3 q hq]
      by_cases e : q = p
      · subst e
        rw [if_pos ⟨rfl, rfl⟩, hg]
      · rw [if_neg (fun z => e z.1), if_neg (fun z => e z.1), if_neg (fun z => e z.1)]
  · rw [fGap_fo h9 hg hg4 (by omega)] at hg'
    rw [fGap_fo h9 hg hg4 (by omega)]
    by_cases e : q = p
    · subst e
      rw [if_pos ⟨rfl, rfl⟩] at hg'
      have hgg := (nI_eq (by split <;> omega) (by omega)).mp hg'
      rw [if_neg (by omega)]
      unfold gGap
      by_cases g4 : g < 4
      · rw [if_pos g4] at hgg ⊢
        rw [if_pos g4, up3_k _ (by omega), up3_at]
        by_cases et : t = g
        · rw [if_pos ⟨rfl, rfl, by omega⟩, if_pos ⟨rfl, by omega⟩]
        · rw [if_neg (by omega), if_neg (by omega), if_neg (by omega)]
          exact b4 q t g hq hg (by omega) hg4
      · obtain rfl : g = 4 := by omega
        rw [if_neg g4] at hgg ⊢
        rw [if_neg g4, up3_at]
        by_cases et : t = 3
        · rw [if_pos ⟨rfl, rfl, by omega⟩, if_pos ⟨rfl, by omega⟩]
        · rw [if_neg (by omega), if_neg (by omega), if_pos ⟨rfl, rfl, by omega, by omega⟩]
          unfold mcp
          rw [if_pos (by omega), show q * 4 + 1 + (q * 4 + t - q * 4) = q * 4 + (t + 1) by omega, show 11 + t + 1 = 11 + (t + 1) by omega]
          exact b4 q (t + 1) 4 hq hg (by omega) (by omega)
    · rw [if_neg (fun z => e z.1), if_neg (fun z => e z.1), if_neg (fun z => e z.1)] at hg' ⊢
      have hm : gGap S v p g (N 1 - fo N p 8) 20 v (q * 4 + t) = S 20 v (q * 4 + t) := by
        unfold gGap
        split
        · rw [up3_k _ (by omega), up3_j _ (by omega)]
        · rw [up3_j _ (by omega)]
          unfold mcp
          rw [if_neg (by omega)]
      rw [hm]
      exact b4 q t g' hq hg' ht hg4'
theorem AB.set9 {S : mS} {v n p : Nat} {N : NN} (h : AB S v N n) (hp : p < 10) (h1 : fo N p 0 = nI 1) : AB S v (fset N p 9 (nI 1)) n := by
  have ho : ∀ q w, w < 20 → w ≠ 9 → fo (fset N p 9 (nI 1)) q w = fo N q w := fun q w hw h3 => fo_set_w _ h3 (by omega) hw
  have hl : ∀ j, j < 6 ∨ 206 ≤ j → (fset N p 9 (nI 1)) j = N j := fun j hj => fset_out hp (by omega) hj
  refine ⟨h.1.row (hl 0 (by omega)) (fun q w hq hw => ho q w (by omega) (by omega)), h.2.1.row (hl 3 (by omega)) (fun q w hq a b => ho q w (by omega) (by omega)) (fun a b ha hb => hl _ (by omega)), fun q hq => ?_, h.2.2.2.1.row (fun j hj => hl j (by omega)), h.2.2.2.2.row (hl 1 (by omega)) (hl 4 (by omega)) (hl 2 (by omega)) (fun q w hq hw => ho q w (by omega) (by omega)) (fun j hj => hl j (by omega))⟩
  rw [ho q 0 (by omega) (by omega), ho q 8 (by omega) (by omega), fo_set N (by omega) (by omega)]
  by_cases e : q = p
  · subst e
    rw [if_pos ⟨rfl, rfl⟩]
    rcases h.2.2.1 q hq with z | z
    · exact Or.inl ⟨rfl, z.2⟩
    · exact Or.inr ⟨z.1, Or.inl h1⟩
  · rw [if_neg (fun z => e z.1)]
    exact h.2.2.1 q hq
theorem AB.fol {S : mS} {v n p b : Nat} {N : NN} (h : AB S v N n) (hp : p < 10) (hb : b < 10) : AB (up3 S 21 v (b * 10 + p) (S 21 v (b * 10 + p) + nI 1)) v (upd N (206 + 10 * b + p) (N (206 + 10 * b + p) + nI 1)) n := by
  have ho : ∀ q w, q < 10 → w < 20 → fo (upd N (206 + 10 * b + p) (N (206 + 10 * b + p) + nI 1)) q w = fo N q w := fun q w hq hw => upd_n N (by omega)
  have hl : ∀ j, j < 6 ∨ 306 ≤ j → (upd N (206 + 10 * b + p) (N (206 + 10 * b + p) + nI 1)) j = N j := fun j hj => upd_n N (by omega)
  have hk : ∀ kk, kk ≠ 21 → up3 S 21 v (b * 10 + p) (S 21 v (b * 10 + p) + nI 1) kk v = S kk v := fun kk a => by rw [up3_k _ a]
  refine ⟨(h.1.off (fun kk a b => hk kk (by omega))).row (hl 0 (by omega)) (fun q w hq hw => ho q w hq (by omega)), ?_, (h.2.2.1.off (hk 18 (by omega))).row (fun q w hq hw => ho q w hq (by omega)), (h.2.2.2.1.off (fun kk a b => hk kk (by omega))).row (fun j hj => hl j (by omega)), (h.2.2.2.2.off (fun kk a b => hk kk (by omega))).row (hl 1 (by omega)) (hl 4 (by omega)) (hl 2 (by omega)) (fun q w hq hw => ho q w hq (by omega)) (fun j hj => hl j (by omega))⟩
  obtain ⟨b1, b2, b3, b4, b5⟩ := h.2.1
  refine ⟨by rw [hk 17 (by omega)]; exact b1, by rw [hk 17 (by omega), hl 3 (by omega)]; exact b2, fun q hq => by rw [hk 19 (by omega), ho q 10 hq (by omega)]; exact b3 q hq, fun q t g hq hg ht hg4 => ?_, fun x y hx hy => ?_⟩
  · rw [ho q 10 hq (by omega)] at hg
    rw [hk 20 (by omega), ho q (11 + t) hq (by omega)]
    exact b4 q t g hq hg ht hg4
  · unfold fFol
    by_cases e : x = b ∧ y = p
    · obtain ⟨rfl, rfl⟩ := e
      rw [up3_s, upd_s, b5 x y hx hy]
      rfl
    · rw [up3_j _ (by omega), upd_n N (by omega)]
      exact b5 x y hx hy

def rm_X1_addGap : Room := { frames := 1, cells := 0, slots := 0, locals := 60 }
set_option maxHeartbeats 4000000 in
set_option maxRecDepth 100000 in
theorem c_X1_addGap {l : Launch} {G : mG} {ad : mA} {S : mS} {L : mL} {R : mR} {v p g : Nat} {x : Int32} (hR : mlk R) (hv : v < 15) (hp : p < 10) (hg : S 19 v p = nI g) (hg4 : g ≤ 4) : Kv l yX1_addGap cX1_addGap 4 rm_X1_addGap G ad mdm [.ref (ad 17 v), .int (nI p), .int x] S L R (fun S2 L2 R2 => gGap S v p g x = S2 ∧ (L = L2 ∧ R = R2)) := by
  refine Kv.of RX1 (by decide) rfl (Nat.le_of_ble_eq_true rfl) ?_
  intro X hXl hXG C ret
  subst hXl; subst hXG
  change Z X 4 ad mdm S L R 0 0 0 [(0, _), (1, _), (2, _)] []
  refine z_iload_n C 0 1 1 dX1_addGap_0 rfl rfl ?_
  refine z_iconst (v := nI 4) C 1 dX1_addGap_1 (by decide) ?_
  first | with_reducible refine z_imulN C 2 dX1_addGap_2 ?_ | refine z_imul C 2 dX1_addGap_2 ?_
  refine z_istore_n C 3 3 [(3, _), (0, _), (1, _), (2, _)] dX1_addGap_3 rfl (by decide) rfl ?_
  refine z_aload_n C 4 0 1 dX1_addGap_4 rfl rfl ?_
  refine z_getr C 5 dX1_addGap_5 gf_X1_15 rfl (by first | assumption | exact Nat.zero_lt_one | exact (show (15 : Nat) < 16 by decide) | exact Nat.lt_succ_of_lt (by assumption) | omega) (by first | exact hR _ _ _ _ rfl | exact hR2 _ _ _ _ rfl | assumption) ?_
  refine z_iload_n C 8 1 2 dX1_addGap_8 rfl rfl ?_
  refine z_iald C 9 dX1_addGap_9 (by first | rfl | assumption) (by first | assumption | exact Nat.zero_lt_one | exact (show (15 : Nat) < 16 by decide) | exact Nat.lt_succ_of_lt (by assumption) | omega) (by first | rfl | assumption) (by first | decide | omega) (by first | assumption | omega) ?_
  rw [hg]
  refine z_iconst (v := nI 4) C 10 dX1_addGap_10 (by decide) ?_
  first | with_reducible refine z_icmp_geN C 11 39 dX1_addGap_11 (by decide) (by omega) (by omega) (fun h11 => ?_) (fun h11 => ?_) | refine z_icmp_ge C 11 39 dX1_addGap_11 (by decide) (fun h11 => ?_) (fun h11 => ?_)
  · refine z_aload_n C 39 0 1 dX1_addGap_39 rfl rfl ?_
    refine z_getr C 40 dX1_addGap_40 gf_X1_18 rfl (by first | assumption | exact Nat.zero_lt_one | exact (show (15 : Nat) < 16 by decide) | exact Nat.lt_succ_of_lt (by assumption) | omega) (by first | exact hR _ _ _ _ rfl | exact hR2 _ _ _ _ rfl | assumption) ?_
    refine z_iload_n C 43 3 0 dX1_addGap_43 rfl rfl ?_
    refine z_iconst (v := nI 1) C 44 dX1_addGap_44 (by decide) ?_
    first | with_reducible refine z_iaddN C 45 dX1_addGap_45 ?_ | refine z_iadd C 45 dX1_addGap_45 ?_
    refine z_aload_n C 46 0 1 dX1_addGap_46 rfl rfl ?_
    refine z_getr C 47 dX1_addGap_47 gf_X1_18 rfl (by first | assumption | exact Nat.zero_lt_one | exact (show (15 : Nat) < 16 by decide) | exact Nat.lt_succ_of_lt (by assumption) | omega) (by first | exact hR _ _ _ _ rfl | exact hR2 _ _ _ _ rfl | assumption) ?_
    refine z_iload_n C 50 3 0 dX1_addGap_50 rfl rfl ?_
    refine z_iconst (v := nI 3) C 51 dX1_addGap_51 (by decide) ?_
    refine z_copy C 52 dX1_addGap_52 lj_X1_40 rfl rfl (by first | assumption | exact Nat.zero_lt_one | exact (show (15 : Nat) < 16 by decide) | exact Nat.lt_succ_of_lt (by assumption) | omega) (by first | assumption | exact Nat.zero_lt_one | exact (show (15 : Nat) < 16 by decide) | exact Nat.lt_succ_of_lt (by assumption) | omega) (by first | rfl | assumption) (by first | rfl | assumption) (by first | rfl | assumption) (by decide) (by decide) (by omega) (by omega) (Nat.le_of_ble_eq_true rfl) ⟨by decide, by decide⟩ ?_
    refine z_aload_n C 55 0 1 dX1_addGap_55 rfl rfl ?_
    refine z_getr C 56 dX1_addGap_56 gf_X1_18 rfl (by first | assumption | exact Nat.zero_lt_one | exact (show (15 : Nat) < 16 by decide) | exact Nat.lt_succ_of_lt (by assumption) | omega) (by first | exact hR _ _ _ _ rfl | exact hR2 _ _ _ _ rfl | assumption) ?_
    refine z_iload_n C 59 3 0 dX1_addGap_59 rfl rfl ?_
    refine z_iconst (v := nI 4) C 60 dX1_addGap_60 (by decide) ?_
    first | with_reducible refine z_iaddN C 61 dX1_addGap_61 ?_ | refine z_iadd C 61 dX1_addGap_61 ?_
    refine z_iconst (v := nI 1) C 62 dX1_addGap_62 (by decide) ?_
    first | with_reducible refine z_isubN C 63 dX1_addGap_63 (by omega) ?_ | refine z_isub C 63 dX1_addGap_63 ?_
    refine z_iload_n C 64 2 3 dX1_addGap_64 rfl rfl ?_
    refine z_iast C 65 dX1_addGap_65 (by first | rfl | assumption) (by first | assumption | exact Nat.zero_lt_one | exact (show (15 : Nat) < 16 by decide) | exact Nat.lt_succ_of_lt (by assumption) | omega)  (by first | rfl | assumption) (by first | decide | omega) (by first | assumption | omega) ?_
    exact ret 66 _ _ _ _ dX1_addGap_66 (⟨if_neg (by omega), rfl, rfl⟩)
  · refine z_aload_n C 14 0 1 dX1_addGap_14 rfl rfl ?_
    refine z_getr C 15 dX1_addGap_15 gf_X1_18 rfl (by first | assumption | exact Nat.zero_lt_one | exact (show (15 : Nat) < 16 by decide) | exact Nat.lt_succ_of_lt (by assumption) | omega) (by first | exact hR _ _ _ _ rfl | exact hR2 _ _ _ _ rfl | assumption) ?_
    refine z_iload_n C 18 3 0 dX1_addGap_18 rfl rfl ?_
    refine z_aload_n C 19 0 1 dX1_addGap_19 rfl rfl ?_
    refine z_getr C 20 dX1_addGap_20 gf_X1_15 rfl (by first | assumption | exact Nat.zero_lt_one | exact (show (15 : Nat) < 16 by decide) | exact Nat.lt_succ_of_lt (by assumption) | omega) (by first | exact hR _ _ _ _ rfl | exact hR2 _ _ _ _ rfl | assumption) ?_
    refine z_iload_n C 23 1 2 dX1_addGap_23 rfl rfl ?_
    refine z_iald C 24 dX1_addGap_24 (by first | rfl | assumption) (by first | assumption | exact Nat.zero_lt_one | exact (show (15 : Nat) < 16 by decide) | exact Nat.lt_succ_of_lt (by assumption) | omega) (by first | rfl | assumption) (by first | decide | omega) (by first | assumption | omega) ?_
    rw [hg]
    first | with_reducible refine z_iaddN C 25 dX1_addGap_25 ?_ | refine z_iadd C 25 dX1_addGap_25 ?_
    refine z_iload_n C 26 2 3 dX1_addGap_26 rfl rfl ?_
    refine z_iast C 27 dX1_addGap_27 (by first | rfl | assumption) (by first | assumption | exact Nat.zero_lt_one | exact (show (15 : Nat) < 16 by decide) | exact Nat.lt_succ_of_lt (by assumption) | omega)  (by first | rfl | assumption) (by first | decide | omega) (by first | assumption | omega) ?_
    refine z_aload_n C 28 0 1 dX1_addGap_28 rfl rfl ?_
    refine z_getr C 29 dX1_addGap_29 gf_X1_15 rfl (by first | assumption | exact Nat.zero_lt_one | exact (show (15 : Nat) < 16 by decide) | exact Nat.lt_succ_of_lt (by assumption) | omega) (by first | exact hR _ _ _ _ rfl | exact hR2 _ _ _ _ rfl | assumption) ?_
    refine z_iload_n C 32 1 2 dX1_addGap_32 rfl rfl ?_
    refine z_dup2 C 33 dX1_addGap_33 rfl rfl ?_
    refine z_iald C 34 dX1_addGap_34 (by first | rfl | assumption) (by first | assumption | exact Nat.zero_lt_one | exact (show (15 : Nat) < 16 by decide) | exact Nat.lt_succ_of_lt (by assumption) | omega) (by first | rfl | assumption) (by first | decide | omega) (by first | assumption | omega) ?_
    rw [show up3 S 20 v (p * 4 + g) x 19 v p = nI g from (congrFun (congrFun (up3_k _ (by decide)) v) p).trans hg]
    refine z_iconst (v := nI 1) C 35 dX1_addGap_35 (by decide) ?_
    first | with_reducible refine z_iaddN C 36 dX1_addGap_36 ?_ | refine z_iadd C 36 dX1_addGap_36 ?_
    refine z_iast C 37 dX1_addGap_37 (by first | rfl | assumption) (by first | assumption | exact Nat.zero_lt_one | exact (show (15 : Nat) < 16 by decide) | exact Nat.lt_succ_of_lt (by assumption) | omega)  (by first | rfl | assumption) (by first | decide | omega) (by first | assumption | omega) ?_
    exact ret 38 _ _ _ _ dX1_addGap_38 (⟨if_pos (by omega), rfl, rfl⟩)
def rm_X1_countShowing : Room := { frames := 2, cells := 0, slots := 0, locals := 83 }
set_option maxHeartbeats 4000000 in
set_option maxRecDepth 100000 in
theorem c_X1_countShowing {l : Launch} {G : mG} {ad : mA} {S : mS} {L : mL} {R : mR} {N : NN} {n v p g : Nat} {b : Int32} (hR : mlk R) (hv : v < 15) (hB : AB S v N n) (hn10 : n ≤ 10) (hp : p < 10) (hg : fo N p 10 = nI g) (hg4 : g ≤ 4) (h1 : fo N p 0 = nI 1) (hsu : (fo N p 9 = nI 1 ∧ S 18 v p = fo N p 8 ∧ ∃ s, s < 2 ^ 31 ∧ fo N p 8 = nI s) ∨ (S 18 v p = -1 ∧ fo N p 9 = nI 0)) (hb : b = -1 ∨ ∃ q, q < n ∧ b = nI q) : Kv l yX1_countShowing cX1_countShowing 4 rm_X1_countShowing G ad mdm [.ref (ad 17 v), .int (nI p), .int b, .int (N 1)] S L R (fun S2 L2 R2 => AB S2 v (fHab N p b) n ∧ FP S S2 v ∧ L = L2 ∧ R = R2) := by
  refine Kv.of RX1 (by decide) rfl (Nat.le_of_ble_eq_true rfl) ?_
  intro X hXl hXG C ret
  subst hXl; subst hXG
  change Z X 4 ad mdm S L R 0 0 0 [(0, _), (1, _), (2, _), (3, _)] []
  refine z_aload_n C 0 0 0 dX1_countShowing_0 rfl rfl ?_
  refine z_getr C 1 dX1_countShowing_1 gf_X1_9 rfl (by first | assumption | exact Nat.zero_lt_one | exact (show (15 : Nat) < 16 by decide) | exact Nat.lt_succ_of_lt (by assumption) | omega) (by first | exact hR _ _ _ _ rfl | exact hR2 _ _ _ _ rfl | assumption) ?_
  refine z_iload_n C 4 1 1 dX1_countShowing_4 rfl rfl ?_
  refine z_iald C 5 dX1_countShowing_5 (by first | rfl | assumption) (by first | assumption | exact Nat.zero_lt_one | exact (show (15 : Nat) < 16 by decide) | exact Nat.lt_succ_of_lt (by assumption) | omega) (by first | rfl | assumption) (by first | decide | omega) (by first | assumption | omega) ?_
  refine z_iconst (v := (-1)) C 6 dX1_countShowing_6 (by decide) ?_
  first | with_reducible refine z_icmp_eqN C 7 23 dX1_countShowing_7 (by decide) (by omega) (by omega) (fun h7 => ?_) (fun h7 => ?_) | refine z_icmp_eq C 7 23 dX1_countShowing_7 (by decide) (fun h7 => ?_) (fun h7 => ?_)
  · have h9 := (hsu.resolve_left (fun z => by obtain ⟨z1, z2, s, hs, z3⟩ := z; rw [z2, z3] at h7; exact nI_m1 hs h7)).2
    have hB9 : AB S v (fset (fGap N p) p 9 (nI 1)) n := by rw [show fGap N p = N by unfold fGap; rw [h9, if_neg (by decide)]]; exact hB.set9 hp h1
    have hF9 := FP.rf S v
    refine z_iload_n C 23 2 2 dX1_countShowing_23 rfl rfl ?_
    refine z_if_lt C 24 47 dX1_countShowing_24 (by decide) (fun h24 => ?_) (fun h24 => ?_)
    · have hbm : b = -1 := hb.resolve_right (fun z => by obtain ⟨q, hq, e⟩ := z; rw [e] at h24; exact nI_pos (by omega) h24)
      exact ret 47 _ _ _ _ dX1_countShowing_47 ((by first | (rw [fHab_n (Or.inl hbm)]; exact ⟨hB9, hF9, rfl, rfl⟩) | (rw [fHab_n (Or.inr (congrArg nI h29))]; exact ⟨hB9, hF9, rfl, rfl⟩) | (rw [fHab_y (by omega) (by omega) h29]; exact ⟨hB9.fol hp (by omega), hF9.up (by omega), rfl, rfl⟩)))
    · obtain ⟨q, hq, rfl⟩ := hb.resolve_left (fun e => h24 (by rw [e]; decide))
      refine z_iload_n C 27 2 2 dX1_countShowing_27 rfl rfl ?_
      refine z_iload_n C 28 1 1 dX1_countShowing_28 rfl rfl ?_
      first | with_reducible refine z_icmp_eqN C 29 47 dX1_countShowing_29 (by decide) (by omega) (by omega) (fun h29 => ?_) (fun h29 => ?_) | refine z_icmp_eq C 29 47 dX1_countShowing_29 (by decide) (fun h29 => ?_) (fun h29 => ?_)
      · exact ret 47 _ _ _ _ dX1_countShowing_47 ((by first | (rw [fHab_n (Or.inl hbm)]; exact ⟨hB9, hF9, rfl, rfl⟩) | (rw [fHab_n (Or.inr (congrArg nI h29))]; exact ⟨hB9, hF9, rfl, rfl⟩) | (rw [fHab_y (by omega) (by omega) h29]; exact ⟨hB9.fol hp (by omega), hF9.up (by omega), rfl, rfl⟩)))
      · refine z_aload_n C 32 0 0 dX1_countShowing_32 rfl rfl ?_
        refine z_getr C 33 dX1_countShowing_33 gf_X1_21 rfl (by first | assumption | exact Nat.zero_lt_one | exact (show (15 : Nat) < 16 by decide) | exact Nat.lt_succ_of_lt (by assumption) | omega) (by first | exact hR _ _ _ _ rfl | exact hR2 _ _ _ _ rfl | assumption) ?_
        refine z_iload_n C 36 2 2 dX1_countShowing_36 rfl rfl ?_
        refine z_bipush (v := nI 10) C 37 dX1_countShowing_37 (by decide +kernel) ?_
        first | with_reducible refine z_imulN C 39 dX1_countShowing_39 ?_ | refine z_imul C 39 dX1_countShowing_39 ?_
        refine z_iload_n C 40 1 1 dX1_countShowing_40 rfl rfl ?_
        first | with_reducible refine z_iaddN C 41 dX1_countShowing_41 ?_ | refine z_iadd C 41 dX1_countShowing_41 ?_
        refine z_dup2 C 42 dX1_countShowing_42 rfl rfl ?_
        refine z_iald C 43 dX1_countShowing_43 (by first | rfl | assumption) (by first | assumption | exact Nat.zero_lt_one | exact (show (15 : Nat) < 16 by decide) | exact Nat.lt_succ_of_lt (by assumption) | omega) (by first | rfl | assumption) (by first | decide | omega) (by first | assumption | omega) ?_
        refine z_iconst (v := nI 1) C 44 dX1_countShowing_44 (by decide) ?_
        first | with_reducible refine z_iaddN C 45 dX1_countShowing_45 ?_ | refine z_iadd C 45 dX1_countShowing_45 ?_
        refine z_iast C 46 dX1_countShowing_46 (by first | rfl | assumption) (by first | assumption | exact Nat.zero_lt_one | exact (show (15 : Nat) < 16 by decide) | exact Nat.lt_succ_of_lt (by assumption) | omega)  (by first | rfl | assumption) (by first | decide | omega) (by first | assumption | omega) ?_
        exact ret 47 _ _ _ _ dX1_countShowing_47 ((by first | (rw [fHab_n (Or.inl hbm)]; exact ⟨hB9, hF9, rfl, rfl⟩) | (rw [fHab_n (Or.inr (congrArg nI h29))]; exact ⟨hB9, hF9, rfl, rfl⟩) | (rw [fHab_y (by omega) (by omega) h29]; exact ⟨hB9.fol hp (by omega), hF9.up (by omega), rfl, rfl⟩)))
  · obtain ⟨u9, u8, -⟩ := hsu.resolve_right (fun z => h7 z.1)
    have hB9 := (hB.gap hp u9 hg hg4).set9 hp (by rw [fGap_fo u9 hg hg4 (by omega), if_neg (by omega), if_neg (by omega), if_neg (by omega)]; exact h1)
    have hF9 : FP S (gGap S v p g (N 1 - fo N p 8)) v := fun kk i hn => gGap_k (by omega)
    refine z_aload_n C 10 0 0 dX1_countShowing_10 rfl rfl ?_
    refine z_iload_n C 11 1 1 dX1_countShowing_11 rfl rfl ?_
    refine z_iload_n C 12 3 3 dX1_countShowing_12 rfl rfl ?_
    refine z_aload_n C 13 0 0 dX1_countShowing_13 rfl rfl ?_
    refine z_getr C 14 dX1_countShowing_14 gf_X1_9 rfl (by first | assumption | exact Nat.zero_lt_one | exact (show (15 : Nat) < 16 by decide) | exact Nat.lt_succ_of_lt (by assumption) | omega) (by first | exact hR _ _ _ _ rfl | exact hR2 _ _ _ _ rfl | assumption) ?_
    refine z_iload_n C 17 1 1 dX1_countShowing_17 rfl rfl ?_
    refine z_iald C 18 dX1_countShowing_18 (by first | rfl | assumption) (by first | assumption | exact Nat.zero_lt_one | exact (show (15 : Nat) < 16 by decide) | exact Nat.lt_succ_of_lt (by assumption) | omega) (by first | rfl | assumption) (by first | decide | omega) (by first | assumption | omega) ?_
    first | with_reducible refine z_isubN C 19 dX1_countShowing_19 (by omega) ?_ | refine z_isub C 19 dX1_countShowing_19 ?_
    rw [u8]
    refine z_cVv0 C 20 dX1_countShowing_20 cv_X1_63 (c_X1_addGap (g := g) hR hv hp ((hB.2.1.2.2.1 p hp).trans hg) hg4) rfl ⟨by decide, rfl⟩ (by first | assumption | exact Nat.zero_lt_one | exact (show (15 : Nat) < 16 by decide) | exact Nat.lt_succ_of_lt (by assumption) | omega) rfl rfl (Nat.le_of_ble_eq_true rfl) ⟨by decide, by decide⟩ ⟨rfl, rfl⟩ ⟨by decide, by decide⟩ ?_
    intro S20 L20 R20 p20
    obtain ⟨rfl, rfl, rfl⟩ := p20
    refine z_iload_n C 23 2 2 dX1_countShowing_23 rfl rfl ?_
    refine z_if_lt C 24 47 dX1_countShowing_24 (by decide) (fun h24 => ?_) (fun h24 => ?_)
    · have hbm : b = -1 := hb.resolve_right (fun z => by obtain ⟨q, hq, e⟩ := z; rw [e] at h24; exact nI_pos (by omega) h24)
      exact ret 47 _ _ _ _ dX1_countShowing_47 ((by first | (rw [fHab_n (Or.inl hbm)]; exact ⟨hB9, hF9, rfl, rfl⟩) | (rw [fHab_n (Or.inr (congrArg nI h29))]; exact ⟨hB9, hF9, rfl, rfl⟩) | (rw [fHab_y (by omega) (by omega) h29]; exact ⟨hB9.fol hp (by omega), hF9.up (by omega), rfl, rfl⟩)))
    · obtain ⟨q, hq, rfl⟩ := hb.resolve_left (fun e => h24 (by rw [e]; decide))
      refine z_iload_n C 27 2 2 dX1_countShowing_27 rfl rfl ?_
      refine z_iload_n C 28 1 1 dX1_countShowing_28 rfl rfl ?_
      first | with_reducible refine z_icmp_eqN C 29 47 dX1_countShowing_29 (by decide) (by omega) (by omega) (fun h29 => ?_) (fun h29 => ?_) | refine z_icmp_eq C 29 47 dX1_countShowing_29 (by decide) (fun h29 => ?_) (fun h29 => ?_)
      · exact ret 47 _ _ _ _ dX1_countShowing_47 ((by first | (rw [fHab_n (Or.inl hbm)]; exact ⟨hB9, hF9, rfl, rfl⟩) | (rw [fHab_n (Or.inr (congrArg nI h29))]; exact ⟨hB9, hF9, rfl, rfl⟩) | (rw [fHab_y (by omega) (by omega) h29]; exact ⟨hB9.fol hp (by omega), hF9.up (by omega), rfl, rfl⟩)))
      · refine z_aload_n C 32 0 0 dX1_countShowing_32 rfl rfl ?_
        refine z_getr C 33 dX1_countShowing_33 gf_X1_21 rfl (by first | assumption | exact Nat.zero_lt_one | exact (show (15 : Nat) < 16 by decide) | exact Nat.lt_succ_of_lt (by assumption) | omega) (by first | exact hR _ _ _ _ rfl | exact hR2 _ _ _ _ rfl | assumption) ?_
        refine z_iload_n C 36 2 2 dX1_countShowing_36 rfl rfl ?_
        refine z_bipush (v := nI 10) C 37 dX1_countShowing_37 (by decide +kernel) ?_
        first | with_reducible refine z_imulN C 39 dX1_countShowing_39 ?_ | refine z_imul C 39 dX1_countShowing_39 ?_
        refine z_iload_n C 40 1 1 dX1_countShowing_40 rfl rfl ?_
        first | with_reducible refine z_iaddN C 41 dX1_countShowing_41 ?_ | refine z_iadd C 41 dX1_countShowing_41 ?_
        refine z_dup2 C 42 dX1_countShowing_42 rfl rfl ?_
        refine z_iald C 43 dX1_countShowing_43 (by first | rfl | assumption) (by first | assumption | exact Nat.zero_lt_one | exact (show (15 : Nat) < 16 by decide) | exact Nat.lt_succ_of_lt (by assumption) | omega) (by first | rfl | assumption) (by first | decide | omega) (by first | assumption | omega) ?_
        refine z_iconst (v := nI 1) C 44 dX1_countShowing_44 (by decide) ?_
        first | with_reducible refine z_iaddN C 45 dX1_countShowing_45 ?_ | refine z_iadd C 45 dX1_countShowing_45 ?_
        refine z_iast C 46 dX1_countShowing_46 (by first | rfl | assumption) (by first | assumption | exact Nat.zero_lt_one | exact (show (15 : Nat) < 16 by decide) | exact Nat.lt_succ_of_lt (by assumption) | omega)  (by first | rfl | assumption) (by first | decide | omega) (by first | assumption | omega) ?_
        exact ret 47 _ _ _ _ dX1_countShowing_47 ((by first | (rw [fHab_n (Or.inl hbm)]; exact ⟨hB9, hF9, rfl, rfl⟩) | (rw [fHab_n (Or.inr (congrArg nI h29))]; exact ⟨hB9, hF9, rfl, rfl⟩) | (rw [fHab_y (by omega) (by omega) h29]; exact ⟨hB9.fol hp (by omega), hF9.up (by omega), rfl, rfl⟩)))
