theorem tok_end {un : Nat → Nat} {len p : Nat} (h : ¬ tS un len p < len) : tK un len p = 0 ∧ tE un len p = tS un len p := by
  unfold tK tE
  rw [if_pos h, if_pos h]
  exact ⟨rfl, rfl⟩
theorem tok_let {un : Nat → Nat} {len p : Nat} (h : tS un len p < len) (h2 : isLt (un (tS un len p)) = true) : tK un len p = (if 8 < sk isLt un len (tS un len p) - tS un len p then 4 else 1) ∧ tE un len p = sk isLt un len (tS un len p) := by
  unfold tK tE
  rw [if_neg (show ¬ ¬ tS un len p < len from fun z => z h), if_neg (show ¬ ¬ tS un len p < len from fun z => z h), if_pos h2, if_pos h2]
  exact ⟨rfl, rfl⟩
theorem tok_dig {un : Nat → Nat} {len p : Nat} (h : tS un len p < len) (h2 : ¬ isLt (un (tS un len p)) = true) (h3 : isDg (un (tS un len p)) = true) : tK un len p = (if 4 < sk isDg un len (tS un len p) - tS un len p then 4 else 2) ∧ tE un len p = sk isDg un len (tS un len p) := by
  unfold tK tE
  rw [if_neg (show ¬ ¬ tS un len p < len from fun z => z h), if_neg (show ¬ ¬ tS un len p < len from fun z => z h), if_neg h2, if_neg h2, if_pos h3, if_pos h3]
  exact ⟨rfl, rfl⟩
theorem tok_oth {un : Nat → Nat} {len p : Nat} (h : tS un len p < len) (h2 : ¬ isLt (un (tS un len p)) = true) (h3 : ¬ isDg (un (tS un len p)) = true) : tK un len p = (if un (tS un len p) = 59 then 3 else 4) ∧ tE un len p = tS un len p + 1 := by
  unfold tK tE
  rw [if_neg (show ¬ ¬ tS un len p < len from fun z => z h), if_neg (show ¬ ¬ tS un len p < len from fun z => z h), if_neg h2, if_neg h2, if_neg h3, if_neg h3]
  exact ⟨rfl, rfl⟩
theorem tK_le {un : Nat → Nat} {len p : Nat} : tK un len p ≤ 4 := by
  unfold tK
  repeat' split
  all_goals omega
def cB (S : mS) (un : Nat → Nat) (len f : Nat) : Prop := cT S un f ∧ S 1 0 2 = nI len ∧ len ≤ f
/-- the token behind place p has been read -/
def cLd (S : mS) (L : mL) (un : Nat → Nat) (len p : Nat) : Prop := S 1 0 3 = nI (tE un len p) ∧ S 1 0 5 = nI (tS un len p) ∧ S 1 0 4 = nI (tK un len p) ∧ (tK un len p = 2 → S 1 0 7 = nI (tV un len p)) ∧ L 1 0 6 = lN (if tK un len p = 1 then e32 (wd un len p) else 0)
def RFr (S S2 : mS) : Prop := (∀ k i, k ≠ 1 → S2 k i = S k i) ∧ ∀ j, j = 1 ∨ j = 2 ∨ 10 ≤ j → S2 1 0 j = S 1 0 j
def LFr (L L2 : mL) : Prop := ∀ k i, k ≠ 1 → L2 k i = L k i
theorem RFr.rf (S : mS) : RFr S S := ⟨fun _ _ _ => rfl, fun _ _ => rfl⟩
theorem RFr.tr {S S2 S3 : mS} (h : RFr S S2) (h2 : RFr S2 S3) : RFr S S3 := ⟨fun k i hk => (h2.1 k i hk).trans (h.1 k i hk), fun j hj => (h2.2 j hj).trans (h.2 j hj)⟩
theorem RFr.up {S S2 : mS} (h : RFr S S2) {j : Nat} {v : Int32} (hj : 3 ≤ j ∧ j < 10) : RFr S (up3 S2 1 0 j v) := ⟨fun k i hk => by rw [up3_k _ hk]; exact h.1 k i hk, fun j' hj' => by rw [up3_j _ (by omega)]; exact h.2 j' hj'⟩
theorem LFr.rf (L : mL) : LFr L L := fun _ _ _ => rfl
theorem LFr.tr {L L2 L3 : mL} (h : LFr L L2) (h2 : LFr L2 L3) : LFr L L3 := fun k i hk => (h2 k i hk).trans (h k i hk)
theorem LFr.up {L L2 : mL} (h : LFr L L2) {j : Nat} {v : Int64} : LFr L (up3 L2 1 0 j v) := fun k i hk => by rw [up3_k _ hk]; exact h k i hk
theorem cB.fr {S S2 : mS} {un : Nat → Nat} {len f : Nat} (h : cB S un len f) (hF : RFr S S2) : cB S2 un len f := ⟨h.1.off (hF.2 1 (by omega)) (hF.1 2 0 (by omega)), (hF.2 2 (by omega)).trans h.2.1, h.2.2⟩
theorem wB_0 {un : Nat → Nat} {a b : Nat} (h : wB un a b = 0) (h2 : a < b) (hl : ∀ j, a ≤ j → j < b → isLt (un j) = true) : 8 < b - a := by
  refine Classical.byContradiction fun z => ?_
  rw [wB_y z hl, show b - a = (b - a - 1) + 1 by omega, wl, e32] at h
  have := isLt_i.mp (hl (a + (b - a - 1)) (by omega) (by omega))
  omega
theorem wz {n : Nat} (h : lg_cmp (lN n) 0 = 0) (hn : n < 2 ^ 63) : n = 0 := (pk_lEQ hn (by decide)).mp (show lN n = lN 0 from lg_cmp_0 h)
theorem wB_lt {un : Nat → Nat} {a b : Nat} : wB un a b < 2 ^ 63 := by
  unfold wB
  split
  · decide
  · rename_i h
    split
    · rename_i h2
      have := e32_8 (wl_ok (m := b - a) (fun j x y => h2 j x (by omega))) (by rw [wl_len]; omega)
      omega
    · decide
theorem cLd_end {M : mS} {L1 : mL} {un : Nat → Nat} {len p : Nat} (m3 : M 1 0 3 = nI (tS un len p)) (m5 : M 1 0 5 = nI (tS un len p)) (l6 : L1 1 0 6 = lN 0) (h : ¬ tS un len p < len) : cLd (up3 M 1 0 4 (nI 0)) L1 un len p := by
  have t := tok_end h
  exact ⟨(up3_j M (by omega)).trans (by rw [m3, t.2]), (up3_j M (by omega)).trans m5, (up3_s _ _ _ _ _).trans (by rw [t.1]), fun z => by omega, by rw [l6, t.1]; rfl⟩
theorem cLd_dig {M : mS} {L1 : mL} {un : Nat → Nat} {len p : Nat} (m5 : M 1 0 5 = nI (tS un len p)) (l6 : L1 1 0 6 = lN 0) (h : tS un len p < len) (h2 : ¬ isLt (un (tS un len p)) = true) (h3 : isDg (un (tS un len p)) = true) : cLd (up3 (up3 (up3 M 1 0 7 (nI (vD un (tS un len p) (sk isDg un len (tS un len p) - tS un len p)))) 1 0 3 (nI (sk isDg un len (tS un len p)))) 1 0 4 (nI (if 4 < sk isDg un len (tS un len p) - tS un len p then 4 else 2))) L1 un len p := by
  have t := tok_dig h h2 h3
  exact ⟨by rw [up3_j _ (by omega), up3_s, t.2], by rw [up3_j _ (by omega), up3_j _ (by omega), up3_j _ (by omega)]; exact m5, by rw [up3_s, t.1], fun z => by rw [up3_j _ (by omega), up3_j _ (by omega), up3_s, tV, t.2], by rw [l6, if_neg (by rw [t.1]; split <;> omega)]⟩
theorem cLd_oth {M : mS} {L1 : mL} {un : Nat → Nat} {len p w : Nat} (m5 : M 1 0 5 = nI (tS un len p)) (l6 : L1 1 0 6 = lN 0) (h : tS un len p < len) (h2 : ¬ isLt (un (tS un len p)) = true) (h3 : ¬ isDg (un (tS un len p)) = true) (hw : w = if un (tS un len p) = 59 then 3 else 4) : cLd (up3 (up3 M 1 0 4 (nI w)) 1 0 3 (nI (tS un len p + 1))) L1 un len p := by
  have t := tok_oth h h2 h3
  exact ⟨by rw [up3_s, t.2], by rw [up3_j _ (by omega), up3_j _ (by omega)]; exact m5, by rw [up3_j _ (by omega), up3_s, t.1, hw], fun z => by rw [t.1] at z; exfalso; revert z; split <;> omega, by rw [l6, if_neg (by rw [t.1]; split <;> omega)]⟩
theorem cLd_o1 {M : mS} {L1 : mL} {un : Nat → Nat} {len p : Nat} (hl : un (tS un len p) < 256) (m5 : M 1 0 5 = nI (tS un len p)) (l6 : L1 1 0 6 = lN 0) (h : tS un len p < len) (h2 : ¬ isLt (un (tS un len p)) = true) (h3 : ¬ isDg (un (tS un len p)) = true) (h4 : sb (un (tS un len p)) = 59) : cLd (up3 (up3 M 1 0 4 3) 1 0 3 (nI (tS un len p + 1))) L1 un len p :=
  cLd_oth (w := 3) m5 l6 h h2 h3 (by rw [if_pos ((tb_59 _ hl).mp h4)])
theorem cLd_o2 {M : mS} {L1 : mL} {un : Nat → Nat} {len p : Nat} (hl : un (tS un len p) < 256) (m5 : M 1 0 5 = nI (tS un len p)) (l6 : L1 1 0 6 = lN 0) (h : tS un len p < len) (h2 : ¬ isLt (un (tS un len p)) = true) (h3 : ¬ isDg (un (tS un len p)) = true) (h4 : ¬ sb (un (tS un len p)) = 59) : cLd (up3 (up3 M 1 0 4 4) 1 0 3 (nI (tS un len p + 1))) L1 un len p :=
  cLd_oth (w := 4) m5 l6 h h2 h3 (by rw [if_neg (fun z => h4 ((tb_59 _ hl).mpr z))])
theorem cLd_l8 {M : mS} {L1 : mL} {un : Nat → Nat} {len p : Nat} (m5 : M 1 0 5 = nI (tS un len p)) (h : tS un len p < len) (h2 : isLt (un (tS un len p)) = true) (hge : tS un len p < sk isLt un len (tS un len p)) (h4 : lg_cmp (lN (wB un (tS un len p) (sk isLt un len (tS un len p)))) 0 = 0) : cLd (up3 (up3 M 1 0 3 (nI (sk isLt un len (tS un len p)))) 1 0 4 4) (up3 L1 1 0 6 (lN (wB un (tS un len p) (sk isLt un len (tS un len p))))) un len p := by
  have t := tok_let h h2
  have e8 : 8 < sk isLt un len (tS un len p) - tS un len p := wB_0 (wz h4 wB_lt) hge (fun j a b => sk_all (len := len) a b)
  exact ⟨by rw [up3_j _ (by omega), up3_s, t.2], by rw [up3_j _ (by omega), up3_j _ (by omega)]; exact m5, by rw [up3_s, t.1, if_pos e8]; rfl, fun z => by rw [t.1, if_pos e8] at z; omega, by rw [up3_s, t.1, if_pos e8, wB_8 e8, if_neg (by omega)]⟩
theorem cLd_lw {M : mS} {L1 : mL} {un : Nat → Nat} {len p : Nat} (m5 : M 1 0 5 = nI (tS un len p)) (h : tS un len p < len) (h2 : isLt (un (tS un len p)) = true) (h4 : ¬ lg_cmp (lN (wB un (tS un len p) (sk isLt un len (tS un len p)))) 0 = 0) : cLd (up3 (up3 M 1 0 3 (nI (sk isLt un len (tS un len p)))) 1 0 4 1) (up3 L1 1 0 6 (lN (wB un (tS un len p) (sk isLt un len (tS un len p))))) un len p := by
  have t := tok_let h h2
  have e8 : ¬ 8 < sk isLt un len (tS un len p) - tS un len p := fun y => h4 (by rw [wB_8 y]; rfl)
  exact ⟨by rw [up3_j _ (by omega), up3_s, t.2], by rw [up3_j _ (by omega), up3_j _ (by omega)]; exact m5, by rw [up3_s, t.1, if_neg e8]; rfl, fun z => by rw [t.1, if_neg e8] at z; omega, by rw [up3_s, t.1, if_neg e8, wB_y e8 (fun j a b => sk_all (len := len) a b), if_pos rfl, wd, t.2]⟩

def rm_X5_step : Room := { frames := 2, cells := 0, slots := 0, locals := 45 }
set_option maxHeartbeats 4000000 in
set_option maxRecDepth 100000 in
theorem c_X5_step {l : Launch} {G : mG} {ad : mA} {S : mS} {L : mL} {R : mR} {un : Nat → Nat} {len f p : Nat} (hR : mlk R) (hB : cB S un len f) (hc : S 1 0 8 = nI 0) (hp : S 1 0 3 = nI p) (hpl : p ≤ len) : Kv l yX5_step cX5_step 1 rm_X5_step G ad mdm [.ref (ad 1 0)] S L R (fun S2 L2 R2 => cLd S2 L2 un len p ∧ RFr S S2 ∧ (S2 1 0 8 = S 1 0 8 ∧ S2 1 0 9 = S 1 0 9) ∧ LFr L L2 ∧ R = R2) := by
  refine Kv.of RX5 (by decide) rfl (Nat.le_of_ble_eq_true rfl) ?_
  intro X hXl hXG C ret
  subst hXl; subst hXG
  change Z X 1 ad mdm S L R 0 0 0 [(0, _)] []
  have hT := hB.1
  have hlen := hB.2.1
  have hlf := hB.2.2
  have hf7 := hT.2.1
  have join_60 : ∀ (q : Nat), q ≤ len → tS un len p = q → Z X 1 ad mdm (up3 S 1 0 3 (nI q)) L R 0 0 60 [(0, .ref (ad 1 0))] [] := by
    intro q hq hs
    refine z_aload_n C 60 0 0 dX5_step_60 rfl rfl ?_
    refine z_aload_n C 61 0 0 dX5_step_61 rfl rfl ?_
    refine z_getiv C 62 dX5_step_62 gf_X5_32 rfl (by first | assumption | exact Nat.zero_lt_one | exact (show (15 : Nat) < 16 by decide) | exact Nat.lt_succ_of_lt (by assumption) | omega) (up3_s _ _ _ _ _) ?_
    refine z_puti C 65 dX5_step_65 gf_X5_138 ⟨rfl, rfl⟩ rfl (by first | assumption | exact Nat.zero_lt_one | exact (show (15 : Nat) < 16 by decide) | exact Nat.lt_succ_of_lt (by assumption) | omega) ?_
    refine z_aload_n C 68 0 0 dX5_step_68 rfl rfl ?_
    refine z_lconst (v := 0) C 69 dX5_step_69 (by decide) ?_
    refine z_putl C 70 dX5_step_70 gf_X5_102 ⟨rfl, rfl⟩ rfl (by first | assumption | exact Nat.zero_lt_one | exact (show (15 : Nat) < 16 by decide) | exact Nat.lt_succ_of_lt (by assumption) | omega) ?_
    refine z_aload_n C 73 0 0 dX5_step_73 rfl rfl ?_
    refine z_iconst (v := nI 0) C 74 dX5_step_74 (by decide) ?_
    refine z_puti C 75 dX5_step_75 gf_X5_141 ⟨rfl, rfl⟩ rfl (by first | assumption | exact Nat.zero_lt_one | exact (show (15 : Nat) < 16 by decide) | exact Nat.lt_succ_of_lt (by assumption) | omega) ?_
    obtain ⟨M, hM⟩ : ∃ M, M = up3 (up3 (up3 S 1 0 3 (nI q)) 1 0 5 (nI q)) 1 0 7 (nI 0) := ⟨_, rfl⟩
    rw [← hM]
    have mF : RFr S M := by rw [hM]; exact (((RFr.rf S).up (by omega)).up (by omega)).up (by omega)
    have m3 : M 1 0 3 = nI q := by rw [hM, up3_j _ (by omega), up3_j _ (by omega), up3_s]
    have m5 : M 1 0 5 = nI q := by rw [hM, up3_j _ (by omega), up3_s]
    have m7 : M 1 0 7 = nI 0 := by rw [hM, up3_s]
    have m8 : M 1 0 8 = S 1 0 8 ∧ M 1 0 9 = S 1 0 9 := by rw [hM, up3_j _ (by omega), up3_j _ (by omega), up3_j _ (by omega), up3_j _ (by omega), up3_j _ (by omega), up3_j _ (by omega)]; exact ⟨rfl, rfl⟩
    have mB := hB.fr mF
    have mT := mB.1
    have m2 := mB.2.1
    clear hM
    obtain ⟨L1, hL1⟩ : ∃ L1, L1 = up3 L 1 0 6 0 := ⟨_, rfl⟩
    rw [← hL1]
    have l6 : L1 1 0 6 = lN 0 := by rw [hL1, up3_s]; rfl
    have lF : LFr L L1 := by rw [hL1]; exact (LFr.rf L).up
    clear hL1
    refine z_aload_n C 78 0 0 dX5_step_78 rfl rfl ?_
    refine z_getiv C 79 dX5_step_79 gf_X5_32 rfl (by first | assumption | exact Nat.zero_lt_one | exact (show (15 : Nat) < 16 by decide) | exact Nat.lt_succ_of_lt (by assumption) | omega) m3 ?_
    refine z_aload_n C 82 0 0 dX5_step_82 rfl rfl ?_
    refine z_getiv C 83 dX5_step_83 gf_X5_29 rfl (by first | assumption | exact Nat.zero_lt_one | exact (show (15 : Nat) < 16 by decide) | exact Nat.lt_succ_of_lt (by assumption) | omega) m2 ?_
    first | with_reducible refine z_icmp_ltN C 86 97 dX5_step_86 (by decide) (by omega) (by omega) (fun h86 => ?_) (fun h86 => ?_) | refine z_icmp_lt C 86 97 dX5_step_86 (by decide) (fun h86 => ?_) (fun h86 => ?_)
    · refine z_aload_n C 97 0 0 dX5_step_97 rfl rfl ?_
      refine z_getr C 98 dX5_step_98 gf_X5_9 rfl (by first | assumption | exact Nat.zero_lt_one | exact (show (15 : Nat) < 16 by decide) | exact Nat.lt_succ_of_lt (by assumption) | omega) (by first | exact hR _ _ _ _ rfl | exact hR2 _ _ _ _ rfl | assumption) ?_
      refine z_aload_n C 101 0 0 dX5_step_101 rfl rfl ?_
      refine z_getiv C 102 dX5_step_102 gf_X5_32 rfl (by first | assumption | exact Nat.zero_lt_one | exact (show (15 : Nat) < 16 by decide) | exact Nat.lt_succ_of_lt (by assumption) | omega) m3 ?_
      refine z_bald C 105 dX5_step_105 rfl (by first | assumption | exact Nat.zero_lt_one | exact (show (15 : Nat) < 16 by decide) | exact Nat.lt_succ_of_lt (by assumption) | omega) (by first | rfl | assumption) (by first | decide | omega) (by first | assumption | omega) ?_
      rw [mT.2.2.2 q (by omega)]
      refine z_cSi0 C 106 dX5_step_106 cs_X5_148 (c_X5_isLetter (hT.2.2.1 _)) rfl rfl (Nat.le_of_ble_eq_true rfl) ⟨by decide, by decide⟩ ⟨rfl, rfl⟩ ⟨by decide, by decide⟩ ?_
      intro r106 S106 L106 R106 p106
      obtain ⟨rfl, rfl, rfl, rfl⟩ := p106
      first | with_reducible refine z_if_eqB C 109 153 dX5_step_109 (by decide) (fun h109 => ?_) (fun h109 => ?_) | with_reducible refine z_if_eqN C 109 153 dX5_step_109 (by decide) (by omega) (fun h109 => ?_) (fun h109 => ?_) | refine z_if_eq C 109 153 dX5_step_109 (by decide) (fun h109 => ?_) (fun h109 => ?_)
      · refine z_aload_n C 153 0 0 dX5_step_153 rfl rfl ?_
        refine z_getr C 154 dX5_step_154 gf_X5_9 rfl (by first | assumption | exact Nat.zero_lt_one | exact (show (15 : Nat) < 16 by decide) | exact Nat.lt_succ_of_lt (by assumption) | omega) (by first | exact hR _ _ _ _ rfl | exact hR2 _ _ _ _ rfl | assumption) ?_
        refine z_aload_n C 157 0 0 dX5_step_157 rfl rfl ?_
        refine z_getiv C 158 dX5_step_158 gf_X5_32 rfl (by first | assumption | exact Nat.zero_lt_one | exact (show (15 : Nat) < 16 by decide) | exact Nat.lt_succ_of_lt (by assumption) | omega) m3 ?_
        refine z_bald C 161 dX5_step_161 rfl (by first | assumption | exact Nat.zero_lt_one | exact (show (15 : Nat) < 16 by decide) | exact Nat.lt_succ_of_lt (by assumption) | omega) (by first | rfl | assumption) (by first | decide | omega) (by first | assumption | omega) ?_
        rw [mT.2.2.2 q (by omega)]
        refine z_cSi0 C 162 dX5_step_162 cs_X5_155 (c_X5_isDigit (hT.2.2.1 _)) rfl rfl (Nat.le_of_ble_eq_true rfl) ⟨by decide, by decide⟩ ⟨rfl, rfl⟩ ⟨by decide, by decide⟩ ?_
        intro r162 S162 L162 R162 p162
        obtain ⟨rfl, rfl, rfl, rfl⟩ := p162
        first | with_reducible refine z_if_eqB C 165 175 dX5_step_165 (by decide) (fun h165 => ?_) (fun h165 => ?_) | with_reducible refine z_if_eqN C 165 175 dX5_step_165 (by decide) (by omega) (fun h165 => ?_) (fun h165 => ?_) | refine z_if_eq C 165 175 dX5_step_165 (by decide) (fun h165 => ?_) (fun h165 => ?_)
        · refine z_aload_n C 175 0 0 dX5_step_175 rfl rfl ?_
          refine z_aload_n C 176 0 0 dX5_step_176 rfl rfl ?_
          refine z_getr C 177 dX5_step_177 gf_X5_9 rfl (by first | assumption | exact Nat.zero_lt_one | exact (show (15 : Nat) < 16 by decide) | exact Nat.lt_succ_of_lt (by assumption) | omega) (by first | exact hR _ _ _ _ rfl | exact hR2 _ _ _ _ rfl | assumption) ?_
          refine z_aload_n C 180 0 0 dX5_step_180 rfl rfl ?_
          refine z_getiv C 181 dX5_step_181 gf_X5_32 rfl (by first | assumption | exact Nat.zero_lt_one | exact (show (15 : Nat) < 16 by decide) | exact Nat.lt_succ_of_lt (by assumption) | omega) m3 ?_
          refine z_bald C 184 dX5_step_184 rfl (by first | assumption | exact Nat.zero_lt_one | exact (show (15 : Nat) < 16 by decide) | exact Nat.lt_succ_of_lt (by assumption) | omega) (by first | rfl | assumption) (by first | decide | omega) (by first | assumption | omega) ?_
          rw [mT.2.2.2 q (by omega)]
          refine z_bipush (v := nI 59) C 185 dX5_step_185 (by decide +kernel) ?_
          first | with_reducible refine z_icmp_neN C 187 194 dX5_step_187 (by decide) (by omega) (by omega) (fun h187 => ?_) (fun h187 => ?_) | refine z_icmp_ne C 187 194 dX5_step_187 (by decide) (fun h187 => ?_) (fun h187 => ?_)
          · refine z_iconst (v := nI 4) C 194 dX5_step_194 (by decide) ?_
            refine z_puti C 195 dX5_step_195 gf_X5_75 ⟨rfl, rfl⟩ rfl (by first | assumption | exact Nat.zero_lt_one | exact (show (15 : Nat) < 16 by decide) | exact Nat.lt_succ_of_lt (by assumption) | omega) ?_
            refine z_aload_n C 198 0 0 dX5_step_198 rfl rfl ?_
            refine z_dup C 199 dX5_step_199 rfl ?_
            refine z_getiv C 200 dX5_step_200 gf_X5_32 rfl (by first | assumption | exact Nat.zero_lt_one | exact (show (15 : Nat) < 16 by decide) | exact Nat.lt_succ_of_lt (by assumption) | omega) ((up3_j M (by omega)).trans m3) ?_
            refine z_iconst (v := nI 1) C 203 dX5_step_203 (by decide) ?_
            first | with_reducible refine z_iaddN C 204 dX5_step_204 ?_ | refine z_iadd C 204 dX5_step_204 ?_
            refine z_puti C 205 dX5_step_205 gf_X5_32 ⟨rfl, rfl⟩ rfl (by first | assumption | exact Nat.zero_lt_one | exact (show (15 : Nat) < 16 by decide) | exact Nat.lt_succ_of_lt (by assumption) | omega) ?_
            exact ret 208 _ _ _ _ dX5_step_208 (⟨(by
      subst hs
      first
      | exact cLd_end m3 m5 l6 (by omega)
      | exact cLd_dig m5 l6 h86 h109 h165
      | exact cLd_o1 (hT.2.2.1 _) m5 l6 h86 h109 h165 h187
      | exact cLd_o2 (hT.2.2.1 _) m5 l6 h86 h109 h165 h187
      | exact cLd_l8 m5 h86 h109 hge h139
      | exact cLd_lw m5 h86 h109 h139), (by first | exact mF.up (by omega) | exact (mF.up (by omega)).up (by omega) | exact ((mF.up (by omega)).up (by omega)).up (by omega)), (by first | exact ⟨(up3_j _ (by omega)).trans m8.1, (up3_j _ (by omega)).trans m8.2⟩ | exact ⟨((up3_j _ (by omega)).trans (up3_j _ (by omega))).trans m8.1, ((up3_j _ (by omega)).trans (up3_j _ (by omega))).trans m8.2⟩ | exact ⟨(((up3_j _ (by omega)).trans (up3_j _ (by omega))).trans (up3_j _ (by omega))).trans m8.1, (((up3_j _ (by omega)).trans (up3_j _ (by omega))).trans (up3_j _ (by omega))).trans m8.2⟩), (by first | exact lF | exact lF.up), rfl⟩)
          · refine z_iconst (v := nI 3) C 190 dX5_step_190 (by decide) ?_
            refine z_goto C 191 195 dX5_step_191 (by decide) ?_
            refine z_puti C 195 dX5_step_195 gf_X5_75 ⟨rfl, rfl⟩ rfl (by first | assumption | exact Nat.zero_lt_one | exact (show (15 : Nat) < 16 by decide) | exact Nat.lt_succ_of_lt (by assumption) | omega) ?_
            refine z_aload_n C 198 0 0 dX5_step_198 rfl rfl ?_
            refine z_dup C 199 dX5_step_199 rfl ?_
            refine z_getiv C 200 dX5_step_200 gf_X5_32 rfl (by first | assumption | exact Nat.zero_lt_one | exact (show (15 : Nat) < 16 by decide) | exact Nat.lt_succ_of_lt (by assumption) | omega) ((up3_j M (by omega)).trans m3) ?_
            refine z_iconst (v := nI 1) C 203 dX5_step_203 (by decide) ?_
            first | with_reducible refine z_iaddN C 204 dX5_step_204 ?_ | refine z_iadd C 204 dX5_step_204 ?_
            refine z_puti C 205 dX5_step_205 gf_X5_32 ⟨rfl, rfl⟩ rfl (by first | assumption | exact Nat.zero_lt_one | exact (show (15 : Nat) < 16 by decide) | exact Nat.lt_succ_of_lt (by assumption) | omega) ?_
            exact ret 208 _ _ _ _ dX5_step_208 (⟨(by
      subst hs
      first
      | exact cLd_end m3 m5 l6 (by omega)
      | exact cLd_dig m5 l6 h86 h109 h165
      | exact cLd_o1 (hT.2.2.1 _) m5 l6 h86 h109 h165 h187
      | exact cLd_o2 (hT.2.2.1 _) m5 l6 h86 h109 h165 h187
      | exact cLd_l8 m5 h86 h109 hge h139
      | exact cLd_lw m5 h86 h109 h139), (by first | exact mF.up (by omega) | exact (mF.up (by omega)).up (by omega) | exact ((mF.up (by omega)).up (by omega)).up (by omega)), (by first | exact ⟨(up3_j _ (by omega)).trans m8.1, (up3_j _ (by omega)).trans m8.2⟩ | exact ⟨((up3_j _ (by omega)).trans (up3_j _ (by omega))).trans m8.1, ((up3_j _ (by omega)).trans (up3_j _ (by omega))).trans m8.2⟩ | exact ⟨(((up3_j _ (by omega)).trans (up3_j _ (by omega))).trans (up3_j _ (by omega))).trans m8.1, (((up3_j _ (by omega)).trans (up3_j _ (by omega))).trans (up3_j _ (by omega))).trans m8.2⟩), (by first | exact lF | exact lF.up), rfl⟩)
        · refine z_aload_n C 168 0 0 dX5_step_168 rfl rfl ?_
          refine z_cVv0 C 169 dX5_step_169 cv_X5_158 (c_X5_stepOverNumber (un := un) (f := f) (len := len) (p := q) hR mT m2 hlf m3 hq m5 m7) rfl ⟨by decide, rfl⟩ (by first | assumption | exact Nat.zero_lt_one | exact (show (15 : Nat) < 16 by decide) | exact Nat.lt_succ_of_lt (by assumption) | omega) rfl rfl (Nat.le_of_ble_eq_true rfl) ⟨by decide, by decide⟩ ⟨rfl, rfl⟩ ⟨by decide, by decide⟩ ?_
          intro S169 L169 R169 p169
          obtain ⟨rfl, rfl, rfl⟩ := p169
          refine z_goto C 172 208 dX5_step_172 (by decide) ?_
          exact ret 208 _ _ _ _ dX5_step_208 (⟨(by
      subst hs
      first
      | exact cLd_end m3 m5 l6 (by omega)
      | exact cLd_dig m5 l6 h86 h109 h165
      | exact cLd_o1 (hT.2.2.1 _) m5 l6 h86 h109 h165 h187
      | exact cLd_o2 (hT.2.2.1 _) m5 l6 h86 h109 h165 h187
      | exact cLd_l8 m5 h86 h109 hge h139
      | exact cLd_lw m5 h86 h109 h139), (by first | exact mF.up (by omega) | exact (mF.up (by omega)).up (by omega) | exact ((mF.up (by omega)).up (by omega)).up (by omega)), (by first | exact ⟨(up3_j _ (by omega)).trans m8.1, (up3_j _ (by omega)).trans m8.2⟩ | exact ⟨((up3_j _ (by omega)).trans (up3_j _ (by omega))).trans m8.1, ((up3_j _ (by omega)).trans (up3_j _ (by omega))).trans m8.2⟩ | exact ⟨(((up3_j _ (by omega)).trans (up3_j _ (by omega))).trans (up3_j _ (by omega))).trans m8.1, (((up3_j _ (by omega)).trans (up3_j _ (by omega))).trans (up3_j _ (by omega))).trans m8.2⟩), (by first | exact lF | exact lF.up), rfl⟩)
      · refine z_aload_n C 112 0 0 dX5_step_112 rfl rfl ?_
        refine z_cVv0 C 113 dX5_step_113 cv_X5_152 (c_X5_stepOverLetters (un := un) (f := f) (len := len) (p := q) hR mT m2 hlf m3 hq) rfl ⟨by decide, rfl⟩ (by first | assumption | exact Nat.zero_lt_one | exact (show (15 : Nat) < 16 by decide) | exact Nat.lt_succ_of_lt (by assumption) | omega) rfl rfl (Nat.le_of_ble_eq_true rfl) ⟨by decide, by decide⟩ ⟨rfl, rfl⟩ ⟨by decide, by decide⟩ ?_
        intro S113 L113 R113 p113
        obtain ⟨rfl, rfl, rfl⟩ := p113
        have mT2 : cT (up3 M 1 0 3 (nI (sk isLt un len q))) un f := mT.off (up3_j _ (by omega)) (by rw [up3_k _ (by omega)])
        have hLt := h109
        refine z_aload_n C 116 0 0 dX5_step_116 rfl rfl ?_
        refine z_aload_n C 117 0 0 dX5_step_117 rfl rfl ?_
        refine z_aload_n C 118 0 0 dX5_step_118 rfl rfl ?_
        refine z_getiv C 119 dX5_step_119 gf_X5_138 rfl (by first | assumption | exact Nat.zero_lt_one | exact (show (15 : Nat) < 16 by decide) | exact Nat.lt_succ_of_lt (by assumption) | omega) ((up3_j M (by omega)).trans m5) ?_
        refine z_aload_n C 122 0 0 dX5_step_122 rfl rfl ?_
        refine z_getiv C 123 dX5_step_123 gf_X5_32 rfl (by first | assumption | exact Nat.zero_lt_one | exact (show (15 : Nat) < 16 by decide) | exact Nat.lt_succ_of_lt (by assumption) | omega) (up3_s _ _ _ _ _) ?_
        refine z_cVl0 C 126 dX5_step_126 cv_X5_19 (c_X5_wordBetween (un := un) (f := f) (a := q) (b := sk isLt un len q) hR mT2 sk_ge (Nat.le_trans (sk_le hq) hlf)) rfl ⟨by decide, rfl⟩ (by first | assumption | exact Nat.zero_lt_one | exact (show (15 : Nat) < 16 by decide) | exact Nat.lt_succ_of_lt (by assumption) | omega) rfl rfl (Nat.le_of_ble_eq_true rfl) ⟨by decide, by decide⟩ ⟨rfl, rfl⟩ ⟨by decide, by decide⟩ ?_
        intro r126 S126 L126 R126 p126
        obtain ⟨rfl, rfl, rfl, rfl⟩ := p126
        refine z_putl C 129 dX5_step_129 gf_X5_102 ⟨rfl, rfl⟩ rfl (by first | assumption | exact Nat.zero_lt_one | exact (show (15 : Nat) < 16 by decide) | exact Nat.lt_succ_of_lt (by assumption) | omega) ?_
        refine z_aload_n C 132 0 0 dX5_step_132 rfl rfl ?_
        refine z_aload_n C 133 0 0 dX5_step_133 rfl rfl ?_
        refine z_getl C 134 dX5_step_134 gf_X5_102 rfl (by first | assumption | exact Nat.zero_lt_one | exact (show (15 : Nat) < 16 by decide) | exact Nat.lt_succ_of_lt (by assumption) | omega) ?_
        rw [up3_s]
        refine z_lconst (v := 0) C 137 dX5_step_137 (by decide) ?_
        refine z_lcmp C 138 dX5_step_138 ?_
        first | with_reducible refine z_if_neB C 139 146 dX5_step_139 (by decide) (fun h139 => ?_) (fun h139 => ?_) | with_reducible refine z_if_neN C 139 146 dX5_step_139 (by decide) (by omega) (fun h139 => ?_) (fun h139 => ?_) | refine z_if_ne C 139 146 dX5_step_139 (by decide) (fun h139 => ?_) (fun h139 => ?_)
        · refine z_iconst (v := nI 1) C 146 dX5_step_146 (by decide) ?_
          have hge := sk_gt h86 h109
          refine z_puti C 147 dX5_step_147 gf_X5_75 ⟨rfl, rfl⟩ rfl (by first | assumption | exact Nat.zero_lt_one | exact (show (15 : Nat) < 16 by decide) | exact Nat.lt_succ_of_lt (by assumption) | omega) ?_
          refine z_goto C 150 208 dX5_step_150 (by decide) ?_
          exact ret 208 _ _ _ _ dX5_step_208 (⟨(by
      subst hs
      first
      | exact cLd_end m3 m5 l6 (by omega)
      | exact cLd_dig m5 l6 h86 h109 h165
      | exact cLd_o1 (hT.2.2.1 _) m5 l6 h86 h109 h165 h187
      | exact cLd_o2 (hT.2.2.1 _) m5 l6 h86 h109 h165 h187
      | exact cLd_l8 m5 h86 h109 hge h139
      | exact cLd_lw m5 h86 h109 h139), (by first | exact mF.up (by omega) | exact (mF.up (by omega)).up (by omega) | exact ((mF.up (by omega)).up (by omega)).up (by omega)), (by first | exact ⟨(up3_j _ (by omega)).trans m8.1, (up3_j _ (by omega)).trans m8.2⟩ | exact ⟨((up3_j _ (by omega)).trans (up3_j _ (by omega))).trans m8.1, ((up3_j _ (by omega)).trans (up3_j _ (by omega))).trans m8.2⟩ | exact ⟨(((up3_j _ (by omega)).trans (up3_j _ (by omega))).trans (up3_j _ (by omega))).trans m8.1, (((up3_j _ (by omega)).trans (up3_j _ (by omega))).trans (up3_j _ (by omega))).trans m8.2⟩), (by first | exact lF | exact lF.up), rfl⟩)
        · refine z_iconst (v := nI 4) C 142 dX5_step_142 (by decide) ?_
          refine z_goto C 143 147 dX5_step_143 (by decide) ?_
          have hge := sk_gt h86 h109
          refine z_puti C 147 dX5_step_147 gf_X5_75 ⟨rfl, rfl⟩ rfl (by first | assumption | exact Nat.zero_lt_one | exact (show (15 : Nat) < 16 by decide) | exact Nat.lt_succ_of_lt (by assumption) | omega) ?_
          refine z_goto C 150 208 dX5_step_150 (by decide) ?_
          exact ret 208 _ _ _ _ dX5_step_208 (⟨(by
      subst hs
      first
      | exact cLd_end m3 m5 l6 (by omega)
      | exact cLd_dig m5 l6 h86 h109 h165
      | exact cLd_o1 (hT.2.2.1 _) m5 l6 h86 h109 h165 h187
      | exact cLd_o2 (hT.2.2.1 _) m5 l6 h86 h109 h165 h187
      | exact cLd_l8 m5 h86 h109 hge h139
      | exact cLd_lw m5 h86 h109 h139), (by first | exact mF.up (by omega) | exact (mF.up (by omega)).up (by omega) | exact ((mF.up (by omega)).up (by omega)).up (by omega)), (by first | exact ⟨(up3_j _ (by omega)).trans m8.1, (up3_j _ (by omega)).trans m8.2⟩ | exact ⟨((up3_j _ (by omega)).trans (up3_j _ (by omega))).trans m8.1, ((up3_j _ (by omega)).trans (up3_j _ (by omega))).trans m8.2⟩ | exact ⟨(((up3_j _ (by omega)).trans (up3_j _ (by omega))).trans (up3_j _ (by omega))).trans m8.1, (((up3_j _ (by omega)).trans (up3_j _ (by omega))).trans (up3_j _ (by omega))).trans m8.2⟩), (by first | exact lF | exact lF.up), rfl⟩)
    · refine z_aload_n C 89 0 0 dX5_step_89 rfl rfl ?_
      refine z_iconst (v := nI 0) C 90 dX5_step_90 (by decide) ?_
      refine z_puti C 91 dX5_step_91 gf_X5_75 ⟨rfl, rfl⟩ rfl (by first | assumption | exact Nat.zero_lt_one | exact (show (15 : Nat) < 16 by decide) | exact Nat.lt_succ_of_lt (by assumption) | omega) ?_
      refine z_goto C 94 208 dX5_step_94 (by decide) ?_
      exact ret 208 _ _ _ _ dX5_step_208 (⟨(by
      subst hs
      first
      | exact cLd_end m3 m5 l6 (by omega)
      | exact cLd_dig m5 l6 h86 h109 h165
      | exact cLd_o1 (hT.2.2.1 _) m5 l6 h86 h109 h165 h187
      | exact cLd_o2 (hT.2.2.1 _) m5 l6 h86 h109 h165 h187
      | exact cLd_l8 m5 h86 h109 hge h139
      | exact cLd_lw m5 h86 h109 h139), (by first | exact mF.up (by omega) | exact (mF.up (by omega)).up (by omega) | exact ((mF.up (by omega)).up (by omega)).up (by omega)), (by first | exact ⟨(up3_j _ (by omega)).trans m8.1, (up3_j _ (by omega)).trans m8.2⟩ | exact ⟨((up3_j _ (by omega)).trans (up3_j _ (by omega))).trans m8.1, ((up3_j _ (by omega)).trans (up3_j _ (by omega))).trans m8.2⟩ | exact ⟨(((up3_j _ (by omega)).trans (up3_j _ (by omega))).trans (up3_j _ (by omega))).trans m8.1, (((up3_j _ (by omega)).trans (up3_j _ (by omega))).trans (up3_j _ (by omega))).trans m8.2⟩), (by first | exact lF | exact lF.up), rfl⟩)
  refine z_aload_n C 0 0 0 dX5_step_0 rfl rfl ?_
  refine z_getiv C 1 dX5_step_1 gf_X5_35 rfl (by first | assumption | exact Nat.zero_lt_one | exact (show (15 : Nat) < 16 by decide) | exact Nat.lt_succ_of_lt (by assumption) | omega) hc ?_
  first | with_reducible refine z_if_eqB C 4 8 dX5_step_4 (by decide) (fun h4 => ?_) (fun h4 => absurd rfl h4) | with_reducible refine z_if_eqN C 4 8 dX5_step_4 (by decide) (by omega) (fun h4 => ?_) (fun h4 => absurd rfl h4) | refine z_if_eq C 4 8 dX5_step_4 (by decide) (fun h4 => ?_) (fun h4 => absurd rfl h4)
  · have loop_8 : ∀ (n_8 : Nat) (q : Nat), q ≤ len → tS un len p = sk isWs un len q → len - q < n_8 → Z X 1 ad mdm (up3 S 1 0 3 (nI q)) L R 0 0 8 [(0, .ref (ad 1 0))] [] := by
      intro n_8
      induction n_8 with
      | zero => intro q hq hs hm8; exact absurd hm8 (Nat.not_lt_zero _)
      | succ n_8 ih8 =>
        intro q hq hs hm8
        refine z_aload_n C 8 0 0 dX5_step_8 rfl rfl ?_
        refine z_getiv C 9 dX5_step_9 gf_X5_32 rfl (by first | assumption | exact Nat.zero_lt_one | exact (show (15 : Nat) < 16 by decide) | exact Nat.lt_succ_of_lt (by assumption) | omega) (up3_s _ _ _ _ _) ?_
        refine z_aload_n C 12 0 0 dX5_step_12 rfl rfl ?_
        refine z_getiv C 13 dX5_step_13 gf_X5_29 rfl (by first | assumption | exact Nat.zero_lt_one | exact (show (15 : Nat) < 16 by decide) | exact Nat.lt_succ_of_lt (by assumption) | omega) ((up3_j S (by omega)).trans hlen) ?_
        first | with_reducible refine z_icmp_geN C 16 60 dX5_step_16 (by decide) (by omega) (by omega) (fun h16 => ?_) (fun h16 => ?_) | refine z_icmp_ge C 16 60 dX5_step_16 (by decide) (fun h16 => ?_) (fun h16 => ?_)
        · refine z_sub [(0, _)] [0] rfl ?_
          exact join_60 q (by omega) (hs.trans (sk_f (by first | (intro z; omega) | exact fun z => (isWs_i.mp z.2).elim (fun y => h30 ((tb_32 _ (hT.2.2.1 _)).mpr y)) (fun y => h44 ((tb_10 _ (hT.2.2.1 _)).mpr y)))))
        · refine z_aload_n C 19 0 0 dX5_step_19 rfl rfl ?_
          refine z_getr C 20 dX5_step_20 gf_X5_9 rfl (by first | assumption | exact Nat.zero_lt_one | exact (show (15 : Nat) < 16 by decide) | exact Nat.lt_succ_of_lt (by assumption) | omega) (by first | exact hR _ _ _ _ rfl | exact hR2 _ _ _ _ rfl | assumption) ?_
          refine z_aload_n C 23 0 0 dX5_step_23 rfl rfl ?_
          refine z_getiv C 24 dX5_step_24 gf_X5_32 rfl (by first | assumption | exact Nat.zero_lt_one | exact (show (15 : Nat) < 16 by decide) | exact Nat.lt_succ_of_lt (by assumption) | omega) (up3_s _ _ _ _ _) ?_
          refine z_bald C 27 dX5_step_27 rfl (by first | assumption | exact Nat.zero_lt_one | exact (show (15 : Nat) < 16 by decide) | exact Nat.lt_succ_of_lt (by assumption) | omega) (by first | rfl | assumption) (by first | decide | omega) (by first | assumption | omega) ?_
          rw [show (up3 S 1 0 3 (nI q)) 2 0 q = sb (un q) from (by rw [up3_k _ (by omega)]; exact hT.2.2.2 q (by omega))]
          refine z_bipush (v := nI 32) C 28 dX5_step_28 (by decide +kernel) ?_
          first | with_reducible refine z_icmp_eqN C 30 47 dX5_step_30 (by decide) (by omega) (by omega) (fun h30 => ?_) (fun h30 => ?_) | refine z_icmp_eq C 30 47 dX5_step_30 (by decide) (fun h30 => ?_) (fun h30 => ?_)
          · refine z_aload_n C 47 0 0 dX5_step_47 rfl rfl ?_
            refine z_dup C 48 dX5_step_48 rfl ?_
            refine z_getiv C 49 dX5_step_49 gf_X5_32 rfl (by first | assumption | exact Nat.zero_lt_one | exact (show (15 : Nat) < 16 by decide) | exact Nat.lt_succ_of_lt (by assumption) | omega) (up3_s _ _ _ _ _) ?_
            refine z_iconst (v := nI 1) C 52 dX5_step_52 (by decide) ?_
            first | with_reducible refine z_iaddN C 53 dX5_step_53 ?_ | refine z_iadd C 53 dX5_step_53 ?_
            refine z_puti C 54 dX5_step_54 gf_X5_32 ⟨rfl, rfl⟩ rfl (by first | assumption | exact Nat.zero_lt_one | exact (show (15 : Nat) < 16 by decide) | exact Nat.lt_succ_of_lt (by assumption) | omega) ?_
            rw [up3_up3]
            refine z_goto C 57 8 dX5_step_57 (by decide) ?_
            refine z_sub [(0, _)] [0] rfl ?_
            exact ih8 (q + 1) (by omega) (hs.trans (sk_t (by omega) (isWs_i.mpr (by first | exact Or.inl ((tb_32 _ (hT.2.2.1 _)).mp h30) | exact Or.inr ((tb_10 _ (hT.2.2.1 _)).mp h44))))) (by omega)
          · refine z_aload_n C 33 0 0 dX5_step_33 rfl rfl ?_
            refine z_getr C 34 dX5_step_34 gf_X5_9 rfl (by first | assumption | exact Nat.zero_lt_one | exact (show (15 : Nat) < 16 by decide) | exact Nat.lt_succ_of_lt (by assumption) | omega) (by first | exact hR _ _ _ _ rfl | exact hR2 _ _ _ _ rfl | assumption) ?_
            refine z_aload_n C 37 0 0 dX5_step_37 rfl rfl ?_
            refine z_getiv C 38 dX5_step_38 gf_X5_32 rfl (by first | assumption | exact Nat.zero_lt_one | exact (show (15 : Nat) < 16 by decide) | exact Nat.lt_succ_of_lt (by assumption) | omega) (up3_s _ _ _ _ _) ?_
            refine z_bald C 41 dX5_step_41 rfl (by first | assumption | exact Nat.zero_lt_one | exact (show (15 : Nat) < 16 by decide) | exact Nat.lt_succ_of_lt (by assumption) | omega) (by first | rfl | assumption) (by first | decide | omega) (by first | assumption | omega) ?_
            rw [show (up3 S 1 0 3 (nI q)) 2 0 q = sb (un q) from (by rw [up3_k _ (by omega)]; exact hT.2.2.2 q (by omega))]
            refine z_bipush (v := nI 10) C 42 dX5_step_42 (by decide +kernel) ?_
            first | with_reducible refine z_icmp_neN C 44 60 dX5_step_44 (by decide) (by omega) (by omega) (fun h44 => ?_) (fun h44 => ?_) | refine z_icmp_ne C 44 60 dX5_step_44 (by decide) (fun h44 => ?_) (fun h44 => ?_)
            · refine z_sub [(0, _)] [0] rfl ?_
              exact join_60 q (by omega) (hs.trans (sk_f (by first | (intro z; omega) | exact fun z => (isWs_i.mp z.2).elim (fun y => h30 ((tb_32 _ (hT.2.2.1 _)).mpr y)) (fun y => h44 ((tb_10 _ (hT.2.2.1 _)).mpr y)))))
            · refine z_aload_n C 47 0 0 dX5_step_47 rfl rfl ?_
              refine z_dup C 48 dX5_step_48 rfl ?_
              refine z_getiv C 49 dX5_step_49 gf_X5_32 rfl (by first | assumption | exact Nat.zero_lt_one | exact (show (15 : Nat) < 16 by decide) | exact Nat.lt_succ_of_lt (by assumption) | omega) (up3_s _ _ _ _ _) ?_
              refine z_iconst (v := nI 1) C 52 dX5_step_52 (by decide) ?_
              first | with_reducible refine z_iaddN C 53 dX5_step_53 ?_ | refine z_iadd C 53 dX5_step_53 ?_
              refine z_puti C 54 dX5_step_54 gf_X5_32 ⟨rfl, rfl⟩ rfl (by first | assumption | exact Nat.zero_lt_one | exact (show (15 : Nat) < 16 by decide) | exact Nat.lt_succ_of_lt (by assumption) | omega) ?_
              rw [up3_up3]
              refine z_goto C 57 8 dX5_step_57 (by decide) ?_
              refine z_sub [(0, _)] [0] rfl ?_
              exact ih8 (q + 1) (by omega) (hs.trans (sk_t (by omega) (isWs_i.mpr (by first | exact Or.inl ((tb_32 _ (hT.2.2.1 _)).mp h30) | exact Or.inr ((tb_10 _ (hT.2.2.1 _)).mp h44))))) (by omega)
    refine z_sub [(0, _)] [0] rfl ?_
    refine z_mem (up3 S 1 0 3 (nI p)) (up3_idd S hp).symm ?_
    exact loop_8 (len + 1) p hpl rfl (by omega)
