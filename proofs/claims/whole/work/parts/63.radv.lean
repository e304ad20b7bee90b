/-- the token behind place p has been read -/
def rLd (S : mS) (L : mL) (un : Nat → Nat) (len p : Nat) : Prop := S 40 0 9 = nI (tS un len p) ∧ S 40 0 10 = nI (tE un len p) ∧ S 40 0 11 = nI (tK un len p) ∧ (tK un len p = 2 → S 40 0 12 = nI (tV un len p)) ∧ (tK un len p = 1 → L 40 0 13 = lN (e256 (wd un len p)))
def RG (S S2 : mS) : Prop := (∀ k i, k ≠ 40 → S2 k i = S k i) ∧ ∀ j, ¬ (9 ≤ j ∧ j ≤ 12) → S2 40 0 j = S 40 0 j
def LG (L L2 : mL) : Prop := ∀ k i, k ≠ 40 → L2 k i = L k i
theorem RG.rf (S : mS) : RG S S := ⟨fun _ _ _ => rfl, fun _ _ => rfl⟩
theorem RG.tr {S S2 S3 : mS} (h : RG S S2) (h2 : RG S2 S3) : RG S S3 := ⟨fun k i hk => (h2.1 k i hk).trans (h.1 k i hk), fun j hj => (h2.2 j hj).trans (h.2 j hj)⟩
theorem RG.up {S S2 : mS} (h : RG S S2) {j : Nat} {v : Int32} (hj : 9 ≤ j ∧ j ≤ 12) : RG S (up3 S2 40 0 j v) := ⟨fun k i hk => by rw [up3_k _ hk]; exact h.1 k i hk, fun j' hj' => by rw [up3_j _ (by omega)]; exact h.2 j' hj'⟩
theorem LG.rf (L : mL) : LG L L := fun _ _ _ => rfl
theorem LG.tr {L L2 L3 : mL} (h : LG L L2) (h2 : LG L2 L3) : LG L L3 := fun k i hk => (h2 k i hk).trans (h k i hk)
theorem LG.up {L L2 : mL} (h : LG L L2) {j : Nat} {v : Int64} : LG L (up3 L2 40 0 j v) := fun k i hk => by rw [up3_k _ hk]; exact h k i hk
theorem rU.rg {S S2 : mS} {un : Nat → Nat} {len : Nat} (h : rU S un len) (hF : RG S S2) : rU S2 un len := ⟨(hF.2 8 (by omega)).trans h.1, h.2.1, h.2.2.1, fun j hj => by rw [hF.1 45 0 (by omega)]; exact h.2.2.2 j hj⟩
theorem rLd_end {M : mS} {L1 : mL} {un : Nat → Nat} {len p : Nat} (m9 : M 40 0 9 = nI (tS un len p)) (m10 : M 40 0 10 = nI (tS un len p)) (h : ¬ tS un len p < len) : rLd (up3 M 40 0 11 (nI 0)) L1 un len p := by
  have t := tok_end h
  exact ⟨(up3_j M (by omega)).trans m9, (up3_j M (by omega)).trans (by rw [m10, t.2]), (up3_s _ _ _ _ _).trans (by rw [t.1]), fun z => by omega, fun z => by omega⟩
theorem wl8_w {un : Nat → Nat} {len p : Nat} (h : tS un len p < len) (h2 : isLt (un (tS un len p)) = true) (hk : tK un len p = 1) : wl8 un (tS un len p) (sk isLt un len (tS un len p)) = wd un len p := by
  have t := tok_let h h2
  have t2 := wd_1 hk
  unfold wl8 wd
  rw [← t.2]
  congr 1
  split <;> omega
theorem rLd_let {M : mS} {L1 : mL} {un : Nat → Nat} {len p w : Nat} (m9 : M 40 0 9 = nI (tS un len p)) (h : tS un len p < len) (h2 : isLt (un (tS un len p)) = true) (hw : w = if 8 < sk isLt un len (tS un len p) - tS un len p then 4 else 1) : rLd (up3 (up3 M 40 0 10 (nI (sk isLt un len (tS un len p)))) 40 0 11 (nI w)) (up3 L1 40 0 13 (lN (e256 (wl8 un (tS un len p) (sk isLt un len (tS un len p)))))) un len p := by
  have t := tok_let h h2
  exact ⟨by rw [up3_j _ (by omega), up3_j _ (by omega)]; exact m9, by rw [up3_j _ (by omega), up3_s, t.2], by rw [up3_s, t.1, hw], fun z => by rw [t.1] at z; exfalso; revert z; split <;> omega, fun z => by rw [up3_s, wl8_w h h2 z]⟩
theorem vD4_w {un : Nat → Nat} {len p : Nat} (h : tS un len p < len) (h1 : ¬ isLt (un (tS un len p)) = true) (h2 : isDg (un (tS un len p)) = true) (hk : tK un len p = 2) : vD4 un (tS un len p) (sk isDg un len (tS un len p)) = tV un len p := by
  have t := tok_dig h h1 h2
  have t2 := tV_2 hk
  unfold vD4 tV
  rw [← t.2]
  congr 1
  split <;> omega
theorem rLd_dig {M : mS} {L1 : mL} {un : Nat → Nat} {len p w : Nat} (m9 : M 40 0 9 = nI (tS un len p)) (h : tS un len p < len) (h1 : ¬ isLt (un (tS un len p)) = true) (h2 : isDg (un (tS un len p)) = true) (hw : w = if 4 < sk isDg un len (tS un len p) - tS un len p then 4 else 2) : rLd (up3 (up3 (up3 M 40 0 12 (nI (vD4 un (tS un len p) (sk isDg un len (tS un len p))))) 40 0 10 (nI (sk isDg un len (tS un len p)))) 40 0 11 (nI w)) L1 un len p := by
  have t := tok_dig h h1 h2
  exact ⟨by rw [up3_j _ (by omega), up3_j _ (by omega), up3_j _ (by omega)]; exact m9, by rw [up3_j _ (by omega), up3_s, t.2], by rw [up3_s, t.1, hw], fun z => by rw [up3_j _ (by omega), up3_j _ (by omega), up3_s, vD4_w h h1 h2 z], fun z => by rw [t.1] at z; exfalso; revert z; split <;> omega⟩
theorem rLd_oth {M : mS} {L1 : mL} {un : Nat → Nat} {len p w : Nat} (m9 : M 40 0 9 = nI (tS un len p)) (h : tS un len p < len) (h1 : ¬ isLt (un (tS un len p)) = true) (h2 : ¬ isDg (un (tS un len p)) = true) (hw : w = if un (tS un len p) = 59 then 3 else 4) : rLd (up3 (up3 M 40 0 10 (nI (tS un len p + 1))) 40 0 11 (nI w)) L1 un len p := by
  have t := tok_oth h h1 h2
  exact ⟨by rw [up3_j _ (by omega), up3_j _ (by omega)]; exact m9, by rw [up3_j _ (by omega), up3_s, t.2], by rw [up3_s, t.1, hw], fun z => by rw [t.1] at z; exfalso; revert z; split <;> omega, fun z => by rw [t.1] at z; exfalso; revert z; split <;> omega⟩

def rm_X9_advance : Room := { frames := 2, cells := 0, slots := 0, locals := 42 }
set_option maxHeartbeats 4000000 in
set_option maxRecDepth 100000 in
theorem c_X9_advance {l : Launch} {G : mG} {ad : mA} {S : mS} {L : mL} {R : mR} {un : Nat → Nat} {len p : Nat} (hR : mlk R) (hU : rU S un len) (hn : S 40 0 10 = nI p) (hpl : p ≤ len) : Kv l yX9_advance cX9_advance 2 rm_X9_advance G ad mdm [.ref (ad 40 0)] S L R (fun S2 L2 R2 => rLd S2 L2 un len p ∧ RG S S2 ∧ LG L L2 ∧ R = R2) := by
  refine Kv.of RX9 (by decide) rfl (Nat.le_of_ble_eq_true rfl) ?_
  intro X hXl hXG C ret
  subst hXl; subst hXG
  change Z X 2 ad mdm S L R 0 0 0 [(0, _)] []
  have hl7 := hU.2.1
  have hu := hU.2.2.1
  have hUq : ∀ q, rU (up3 S 40 0 10 (nI q)) un len := fun q => hU.rg ((RG.rf S).up (by omega))
  have loop_0 : ∀ (n_0 : Nat) (q : Nat), q ≤ len → tS un len p = sk isWs un len q → len - q < n_0 → Z X 2 ad mdm (up3 S 40 0 10 (nI q)) L R 0 0 0 [(0, .ref (ad 40 0))] [] := by
    intro n_0
    induction n_0 with
    | zero => intro q hq hs hm0; exact absurd hm0 (Nat.not_lt_zero _)
    | succ n_0 ih0 =>
      intro q hq hs hm0
      refine z_aload_n C 0 0 0 dX9_advance_0 rfl rfl ?_
      refine z_aload_n C 1 0 0 dX9_advance_1 rfl rfl ?_
      refine z_getiv C 2 dX9_advance_2 gf_X9_82 rfl (by first | assumption | exact Nat.zero_lt_one | exact (show (15 : Nat) < 16 by decide) | exact Nat.lt_succ_of_lt (by assumption) | omega) (up3_s _ _ _ _ _) ?_
      refine z_cVi0 C 5 dX9_advance_5 cv_X9_85 (c_X9_byteAt (un := un) (len := len) (q := q) hR (hUq q) (by omega)) rfl ⟨by decide, rfl⟩ (by first | assumption | exact Nat.zero_lt_one | exact (show (15 : Nat) < 16 by decide) | exact Nat.lt_succ_of_lt (by assumption) | omega) rfl rfl (Nat.le_of_ble_eq_true rfl) ⟨by decide, by decide⟩ ⟨rfl, rfl⟩ ⟨by decide, by decide⟩ ?_
      intro r5 S5 L5 R5 p5
      obtain ⟨rfl, rfl, rfl, rfl⟩ := p5
      refine z_bipush (v := nI 32) C 8 dX9_advance_8 (by decide +kernel) ?_
      first | with_reducible refine z_icmp_eqN C 10 26 dX9_advance_10 (by decide) (by omega) (by omega) (fun h10 => ?_) (fun h10 => ?_) | refine z_icmp_eq C 10 26 dX9_advance_10 (by decide) (fun h10 => ?_) (fun h10 => ?_)
      · refine z_aload_n C 26 0 0 dX9_advance_26 rfl rfl ?_
        refine z_dup C 27 dX9_advance_27 rfl ?_
        refine z_getiv C 28 dX9_advance_28 gf_X9_82 rfl (by first | assumption | exact Nat.zero_lt_one | exact (show (15 : Nat) < 16 by decide) | exact Nat.lt_succ_of_lt (by assumption) | omega) (up3_s _ _ _ _ _) ?_
        refine z_iconst (v := nI 1) C 31 dX9_advance_31 (by decide) ?_
        first | with_reducible refine z_iaddN C 32 dX9_advance_32 ?_ | refine z_iadd C 32 dX9_advance_32 ?_
        refine z_puti C 33 dX9_advance_33 gf_X9_82 ⟨rfl, rfl⟩ rfl (by first | assumption | exact Nat.zero_lt_one | exact (show (15 : Nat) < 16 by decide) | exact Nat.lt_succ_of_lt (by assumption) | omega) ?_
        rw [up3_up3]
        refine z_goto C 36 0 dX9_advance_36 (by decide) ?_
        refine z_sub [(0, _)] [0] rfl ?_
        (have hw := bAt_ws hu (by first | exact Or.inl h10 | exact Or.inr h23)); exact ih0 (q + 1) (by omega) (hs.trans (sk_t hw.1 hw.2)) (by omega)
      · refine z_aload_n C 13 0 0 dX9_advance_13 rfl rfl ?_
        refine z_aload_n C 14 0 0 dX9_advance_14 rfl rfl ?_
        refine z_getiv C 15 dX9_advance_15 gf_X9_82 rfl (by first | assumption | exact Nat.zero_lt_one | exact (show (15 : Nat) < 16 by decide) | exact Nat.lt_succ_of_lt (by assumption) | omega) (up3_s _ _ _ _ _) ?_
        refine z_cVi0 C 18 dX9_advance_18 cv_X9_85 (c_X9_byteAt (un := un) (len := len) (q := q) hR (hUq q) (by omega)) rfl ⟨by decide, rfl⟩ (by first | assumption | exact Nat.zero_lt_one | exact (show (15 : Nat) < 16 by decide) | exact Nat.lt_succ_of_lt (by assumption) | omega) rfl rfl (Nat.le_of_ble_eq_true rfl) ⟨by decide, by decide⟩ ⟨rfl, rfl⟩ ⟨by decide, by decide⟩ ?_
        intro r18 S18 L18 R18 p18
        obtain ⟨rfl, rfl, rfl, rfl⟩ := p18
        refine z_bipush (v := nI 10) C 21 dX9_advance_21 (by decide +kernel) ?_
        first | with_reducible refine z_icmp_neN C 23 39 dX9_advance_23 (by decide) (by omega) (by omega) (fun h23 => ?_) (fun h23 => ?_) | refine z_icmp_ne C 23 39 dX9_advance_23 (by decide) (fun h23 => ?_) (fun h23 => ?_)
        · refine z_aload_n C 39 0 0 dX9_advance_39 rfl rfl ?_
          refine z_aload_n C 40 0 0 dX9_advance_40 rfl rfl ?_
          refine z_getiv C 41 dX9_advance_41 gf_X9_82 rfl (by first | assumption | exact Nat.zero_lt_one | exact (show (15 : Nat) < 16 by decide) | exact Nat.lt_succ_of_lt (by assumption) | omega) (up3_s _ _ _ _ _) ?_
          refine z_puti C 44 dX9_advance_44 gf_X9_93 ⟨rfl, rfl⟩ rfl (by first | assumption | exact Nat.zero_lt_one | exact (show (15 : Nat) < 16 by decide) | exact Nat.lt_succ_of_lt (by assumption) | omega) ?_
          refine z_aload_n C 47 0 0 dX9_advance_47 rfl rfl ?_
          refine z_iconst (v := nI 0) C 48 dX9_advance_48 (by decide) ?_
          refine z_puti C 49 dX9_advance_49 gf_X9_96 ⟨rfl, rfl⟩ rfl (by first | assumption | exact Nat.zero_lt_one | exact (show (15 : Nat) < 16 by decide) | exact Nat.lt_succ_of_lt (by assumption) | omega) ?_
          have hts : tS un len p = q := hs.trans (sk_f (bAt_wn hu h10 h23))
          subst hts
          obtain ⟨M, hM⟩ : ∃ M, M = up3 (up3 (up3 S 40 0 10 (nI (tS un len p))) 40 0 9 (nI (tS un len p))) 40 0 12 (nI 0) := ⟨_, rfl⟩
          rw [← hM]
          have mF : RG S M := by rw [hM]; exact (((RG.rf S).up (by omega)).up (by omega)).up (by omega)
          have m9 : M 40 0 9 = nI (tS un len p) := by rw [hM, up3_j _ (by omega), up3_s]
          have m10 : M 40 0 10 = nI (tS un len p) := by rw [hM, up3_j _ (by omega), up3_j _ (by omega), up3_s]
          have m12 : M 40 0 12 = nI 0 := by rw [hM, up3_s]
          have mU := hU.rg mF
          have htl : tS un len p ≤ len := tS_le hpl
          have mUq : ∀ q, rU (up3 (up3 M 40 0 12 (nI (vD4 un (tS un len p) q))) 40 0 10 (nI q)) un len := fun q => mU.rg (((RG.rf M).up (by omega)).up (by omega))
          clear hM
          refine z_aload_n C 52 0 0 dX9_advance_52 rfl rfl ?_
          refine z_aload_n C 53 0 0 dX9_advance_53 rfl rfl ?_
          refine z_getiv C 54 dX9_advance_54 gf_X9_82 rfl (by first | assumption | exact Nat.zero_lt_one | exact (show (15 : Nat) < 16 by decide) | exact Nat.lt_succ_of_lt (by assumption) | omega) m10 ?_
          refine z_cVi0 C 57 dX9_advance_57 cv_X9_85 (c_X9_byteAt (un := un) (len := len) (q := tS un len p) hR mU (by omega)) rfl ⟨by decide, rfl⟩ (by first | assumption | exact Nat.zero_lt_one | exact (show (15 : Nat) < 16 by decide) | exact Nat.lt_succ_of_lt (by assumption) | omega) rfl rfl (Nat.le_of_ble_eq_true rfl) ⟨by decide, by decide⟩ ⟨rfl, rfl⟩ ⟨by decide, by decide⟩ ?_
          intro r57 S57 L57 R57 p57
          obtain ⟨rfl, rfl, rfl, rfl⟩ := p57
          refine z_istore_n C 60 1 [(1, _), (0, _)] dX9_advance_60 rfl (by decide) rfl ?_
          refine z_iload_n C 61 1 0 dX9_advance_61 rfl rfl ?_
          refine z_iconst (v := (-1)) C 62 dX9_advance_62 (by decide) ?_
          first | with_reducible refine z_icmp_neN C 63 74 dX9_advance_63 (by decide) (by omega) (by omega) (fun h63 => ?_) (fun h63 => ?_) | refine z_icmp_ne C 63 74 dX9_advance_63 (by decide) (fun h63 => ?_) (fun h63 => ?_)
          · have hlt : tS un len p < len := Classical.byContradiction fun z => h63 ((bAt_m hu).mpr z)
            refine z_iload_n C 74 1 0 dX9_advance_74 rfl rfl ?_
            refine z_bipush (v := nI 97) C 75 dX9_advance_75 (by decide +kernel) ?_
            refine z_bipush (v := nI 122) C 77 dX9_advance_77 (by decide +kernel) ?_
            refine z_cSi0 C 79 dX9_advance_79 cs_X9_89 (c_X9_within ) rfl rfl (Nat.le_of_ble_eq_true rfl) ⟨by decide, by decide⟩ ⟨rfl, rfl⟩ ⟨by decide, by decide⟩ ?_
            intro r79 S79 L79 R79 p79
            obtain ⟨rfl, rfl, rfl, rfl⟩ := p79
            first | with_reducible refine z_if_eqB C 82 115 dX9_advance_82 (by decide) (fun h82 => ?_) (fun h82 => ?_) | with_reducible refine z_if_eqN C 82 115 dX9_advance_82 (by decide) (by omega) (fun h82 => ?_) (fun h82 => ?_) | refine z_if_eq C 82 115 dX9_advance_82 (by decide) (fun h82 => ?_) (fun h82 => ?_)
            · have hL : ¬ isLt (un (tS un len p)) = true := fun z => h82 ((bAt_lt hu).mpr ⟨hlt, z⟩)
              refine z_iload_n C 115 1 0 dX9_advance_115 rfl rfl ?_
              refine z_bipush (v := nI 48) C 116 dX9_advance_116 (by decide +kernel) ?_
              refine z_bipush (v := nI 57) C 118 dX9_advance_118 (by decide +kernel) ?_
              refine z_cSi0 C 120 dX9_advance_120 cs_X9_89 (c_X9_within ) rfl rfl (Nat.le_of_ble_eq_true rfl) ⟨by decide, by decide⟩ ⟨rfl, rfl⟩ ⟨by decide, by decide⟩ ?_
              intro r120 S120 L120 R120 p120
              obtain ⟨rfl, rfl, rfl, rfl⟩ := p120
              first | with_reducible refine z_if_eqB C 123 225 dX9_advance_123 (by decide) (fun h123 => ?_) (fun h123 => ?_) | with_reducible refine z_if_eqN C 123 225 dX9_advance_123 (by decide) (by omega) (fun h123 => ?_) (fun h123 => ?_) | refine z_if_eq C 123 225 dX9_advance_123 (by decide) (fun h123 => ?_) (fun h123 => ?_)
              · have hDg : ¬ isDg (un (tS un len p)) = true := fun z => h123 ((bAt_dg hu).mpr ⟨hlt, z⟩)
                refine z_aload_n C 225 0 1 dX9_advance_225 rfl rfl ?_
                refine z_dup C 226 dX9_advance_226 rfl ?_
                refine z_getiv C 227 dX9_advance_227 gf_X9_82 rfl (by first | assumption | exact Nat.zero_lt_one | exact (show (15 : Nat) < 16 by decide) | exact Nat.lt_succ_of_lt (by assumption) | omega) m10 ?_
                refine z_iconst (v := nI 1) C 230 dX9_advance_230 (by decide) ?_
                first | with_reducible refine z_iaddN C 231 dX9_advance_231 ?_ | refine z_iadd C 231 dX9_advance_231 ?_
                refine z_puti C 232 dX9_advance_232 gf_X9_82 ⟨rfl, rfl⟩ rfl (by first | assumption | exact Nat.zero_lt_one | exact (show (15 : Nat) < 16 by decide) | exact Nat.lt_succ_of_lt (by assumption) | omega) ?_
                refine z_aload_n C 235 0 1 dX9_advance_235 rfl rfl ?_
                refine z_iload_n C 236 1 0 dX9_advance_236 rfl rfl ?_
                refine z_bipush (v := nI 59) C 237 dX9_advance_237 (by decide +kernel) ?_
                first | with_reducible refine z_icmp_neN C 239 246 dX9_advance_239 (by decide) (by omega) (by omega) (fun h239 => ?_) (fun h239 => ?_) | refine z_icmp_ne C 239 246 dX9_advance_239 (by decide) (fun h239 => ?_) (fun h239 => ?_)
                · have hc : ¬ un (tS un len p) = 59 := fun z => h239 ((bAt_c hu (by omega)).mpr ⟨hlt, z⟩)
                  refine z_iconst (v := nI 4) C 246 dX9_advance_246 (by decide) ?_
                  refine z_puti C 247 dX9_advance_247 gf_X9_99 ⟨rfl, rfl⟩ rfl (by first | assumption | exact Nat.zero_lt_one | exact (show (15 : Nat) < 16 by decide) | exact Nat.lt_succ_of_lt (by assumption) | omega) ?_
                  exact ret 250 _ _ _ _ dX9_advance_250 ((by
    first
    | exact ⟨rLd_end m9 m10 hlt, mF.up (by omega), LG.rf _, rfl⟩
    | exact ⟨rLd_let (w := 4) m9 hlt hL (by rw [if_pos (by omega)]), (mF.up (by omega)).up (by omega), (LG.rf _).up, rfl⟩
    | exact ⟨rLd_let (w := 1) m9 hlt hL (by rw [if_neg (by omega)]), (mF.up (by omega)).up (by omega), (LG.rf _).up, rfl⟩
    | exact ⟨rLd_dig (w := 4) m9 hlt hL hDg (by rw [if_pos (by omega)]), ((mF.up (by omega)).up (by omega)).up (by omega), LG.rf _, rfl⟩
    | exact ⟨rLd_dig (w := 2) m9 hlt hL hDg (by rw [if_neg (by omega)]), ((mF.up (by omega)).up (by omega)).up (by omega), LG.rf _, rfl⟩
    | exact ⟨rLd_oth (w := 3) m9 hlt hL hDg (by rw [if_pos hc]), (mF.up (by omega)).up (by omega), LG.rf _, rfl⟩
    | exact ⟨rLd_oth (w := 4) m9 hlt hL hDg (by rw [if_neg hc]), (mF.up (by omega)).up (by omega), LG.rf _, rfl⟩))
                · have hc : un (tS un len p) = 59 := ((bAt_c hu (by omega)).mp h239).2
                  refine z_iconst (v := nI 3) C 242 dX9_advance_242 (by decide) ?_
                  refine z_goto C 243 247 dX9_advance_243 (by decide) ?_
                  refine z_puti C 247 dX9_advance_247 gf_X9_99 ⟨rfl, rfl⟩ rfl (by first | assumption | exact Nat.zero_lt_one | exact (show (15 : Nat) < 16 by decide) | exact Nat.lt_succ_of_lt (by assumption) | omega) ?_
                  exact ret 250 _ _ _ _ dX9_advance_250 ((by
    first
    | exact ⟨rLd_end m9 m10 hlt, mF.up (by omega), LG.rf _, rfl⟩
    | exact ⟨rLd_let (w := 4) m9 hlt hL (by rw [if_pos (by omega)]), (mF.up (by omega)).up (by omega), (LG.rf _).up, rfl⟩
    | exact ⟨rLd_let (w := 1) m9 hlt hL (by rw [if_neg (by omega)]), (mF.up (by omega)).up (by omega), (LG.rf _).up, rfl⟩
    | exact ⟨rLd_dig (w := 4) m9 hlt hL hDg (by rw [if_pos (by omega)]), ((mF.up (by omega)).up (by omega)).up (by omega), LG.rf _, rfl⟩
    | exact ⟨rLd_dig (w := 2) m9 hlt hL hDg (by rw [if_neg (by omega)]), ((mF.up (by omega)).up (by omega)).up (by omega), LG.rf _, rfl⟩
    | exact ⟨rLd_oth (w := 3) m9 hlt hL hDg (by rw [if_pos hc]), (mF.up (by omega)).up (by omega), LG.rf _, rfl⟩
    | exact ⟨rLd_oth (w := 4) m9 hlt hL hDg (by rw [if_neg hc]), (mF.up (by omega)).up (by omega), LG.rf _, rfl⟩))
              · have hDg := ((bAt_dg hu).mp h123).2
                have loop_126 : ∀ (n_126 : Nat) (q : Nat), tS un len p ≤ q → q ≤ len → sk isDg un len (tS un len p) = sk isDg un len q → len - q < n_126 → Z X 2 ad mdm (up3 (up3 M 40 0 12 (nI (vD4 un (tS un len p) q))) 40 0 10 (nI q)) L R 0 0 126 [(0, .ref (ad 40 0)), (1, .int (bAt un len (tS un len p)))] [] := by
                  intro n_126
                  induction n_126 with
                  | zero => intro q hq1 hq he hm126; exact absurd hm126 (Nat.not_lt_zero _)
                  | succ n_126 ih126 =>
                    intro q hq1 hq he hm126
                    refine z_aload_n C 126 0 0 dX9_advance_126 rfl rfl ?_
                    refine z_aload_n C 127 0 0 dX9_advance_127 rfl rfl ?_
                    refine z_getiv C 128 dX9_advance_128 gf_X9_82 rfl (by first | assumption | exact Nat.zero_lt_one | exact (show (15 : Nat) < 16 by decide) | exact Nat.lt_succ_of_lt (by assumption) | omega) (up3_s _ _ _ _ _) ?_
                    refine z_cVi0 C 131 dX9_advance_131 cv_X9_85 (c_X9_byteAt (un := un) (len := len) (q := q) hR (mUq q) (by omega)) rfl ⟨by decide, rfl⟩ (by first | assumption | exact Nat.zero_lt_one | exact (show (15 : Nat) < 16 by decide) | exact Nat.lt_succ_of_lt (by assumption) | omega) rfl rfl (Nat.le_of_ble_eq_true rfl) ⟨by decide, by decide⟩ ⟨rfl, rfl⟩ ⟨by decide, by decide⟩ ?_
                    intro r131 S131 L131 R131 p131
                    obtain ⟨rfl, rfl, rfl, rfl⟩ := p131
                    refine z_bipush (v := nI 48) C 134 dX9_advance_134 (by decide +kernel) ?_
                    refine z_bipush (v := nI 57) C 136 dX9_advance_136 (by decide +kernel) ?_
                    refine z_cSi0 C 138 dX9_advance_138 cs_X9_89 (c_X9_within ) rfl rfl (Nat.le_of_ble_eq_true rfl) ⟨by decide, by decide⟩ ⟨rfl, rfl⟩ ⟨by decide, by decide⟩ ?_
                    intro r138 S138 L138 R138 p138
                    obtain ⟨rfl, rfl, rfl, rfl⟩ := p138
                    first | with_reducible refine z_if_eqB C 141 200 dX9_advance_141 (by decide) (fun h141 => ?_) (fun h141 => ?_) | with_reducible refine z_if_eqN C 141 200 dX9_advance_141 (by decide) (by omega) (fun h141 => ?_) (fun h141 => ?_) | refine z_if_eq C 141 200 dX9_advance_141 (by decide) (fun h141 => ?_) (fun h141 => ?_)
                    · have hqe : sk isDg un len (tS un len p) = q := he.trans (sk_f (fun z => h141 ((bAt_dg hu).mpr z)))
                      subst hqe
                      refine z_aload_n C 200 0 0 dX9_advance_200 rfl rfl ?_
                      refine z_aload_n C 201 0 0 dX9_advance_201 rfl rfl ?_
                      refine z_getiv C 202 dX9_advance_202 gf_X9_82 rfl (by first | assumption | exact Nat.zero_lt_one | exact (show (15 : Nat) < 16 by decide) | exact Nat.lt_succ_of_lt (by assumption) | omega) (up3_s _ _ _ _ _) ?_
                      refine z_aload_n C 205 0 0 dX9_advance_205 rfl rfl ?_
                      refine z_getiv C 206 dX9_advance_206 gf_X9_93 rfl (by first | assumption | exact Nat.zero_lt_one | exact (show (15 : Nat) < 16 by decide) | exact Nat.lt_succ_of_lt (by assumption) | omega) (show (up3 (up3 M 40 0 12 (nI (vD4 un (tS un len p) (sk isDg un len (tS un len p))))) 40 0 10 (nI (sk isDg un len (tS un len p)))) 40 0 9 = nI (tS un len p) from (by rw [up3_j _ (by omega), up3_j _ (by omega)]; exact m9)) ?_
                      first | with_reducible refine z_isubN C 209 dX9_advance_209 (by omega) ?_ | refine z_isub C 209 dX9_advance_209 ?_
                      refine z_iconst (v := nI 4) C 210 dX9_advance_210 (by decide) ?_
                      first | with_reducible refine z_icmp_leN C 211 218 dX9_advance_211 (by decide) (by omega) (by omega) (fun h211 => ?_) (fun h211 => ?_) | refine z_icmp_le C 211 218 dX9_advance_211 (by decide) (fun h211 => ?_) (fun h211 => ?_)
                      · refine z_iconst (v := nI 2) C 218 dX9_advance_218 (by decide) ?_
                        refine z_puti C 219 dX9_advance_219 gf_X9_99 ⟨rfl, rfl⟩ rfl (by first | assumption | exact Nat.zero_lt_one | exact (show (15 : Nat) < 16 by decide) | exact Nat.lt_succ_of_lt (by assumption) | omega) ?_
                        refine z_goto C 222 250 dX9_advance_222 (by decide) ?_
                        exact ret 250 _ _ _ _ dX9_advance_250 ((by
    first
    | exact ⟨rLd_end m9 m10 hlt, mF.up (by omega), LG.rf _, rfl⟩
    | exact ⟨rLd_let (w := 4) m9 hlt hL (by rw [if_pos (by omega)]), (mF.up (by omega)).up (by omega), (LG.rf _).up, rfl⟩
    | exact ⟨rLd_let (w := 1) m9 hlt hL (by rw [if_neg (by omega)]), (mF.up (by omega)).up (by omega), (LG.rf _).up, rfl⟩
    | exact ⟨rLd_dig (w := 4) m9 hlt hL hDg (by rw [if_pos (by omega)]), ((mF.up (by omega)).up (by omega)).up (by omega), LG.rf _, rfl⟩
    | exact ⟨rLd_dig (w := 2) m9 hlt hL hDg (by rw [if_neg (by omega)]), ((mF.up (by omega)).up (by omega)).up (by omega), LG.rf _, rfl⟩
    | exact ⟨rLd_oth (w := 3) m9 hlt hL hDg (by rw [if_pos hc]), (mF.up (by omega)).up (by omega), LG.rf _, rfl⟩
    | exact ⟨rLd_oth (w := 4) m9 hlt hL hDg (by rw [if_neg hc]), (mF.up (by omega)).up (by omega), LG.rf _, rfl⟩))
                      · refine z_iconst (v := nI 4) C 214 dX9_advance_214 (by decide) ?_
                        refine z_goto C 215 219 dX9_advance_215 (by decide) ?_
                        refine z_puti C 219 dX9_advance_219 gf_X9_99 ⟨rfl, rfl⟩ rfl (by first | assumption | exact Nat.zero_lt_one | exact (show (15 : Nat) < 16 by decide) | exact Nat.lt_succ_of_lt (by assumption) | omega) ?_
                        refine z_goto C 222 250 dX9_advance_222 (by decide) ?_
                        exact ret 250 _ _ _ _ dX9_advance_250 ((by
    first
    | exact ⟨rLd_end m9 m10 hlt, mF.up (by omega), LG.rf _, rfl⟩
    | exact ⟨rLd_let (w := 4) m9 hlt hL (by rw [if_pos (by omega)]), (mF.up (by omega)).up (by omega), (LG.rf _).up, rfl⟩
    | exact ⟨rLd_let (w := 1) m9 hlt hL (by rw [if_neg (by omega)]), (mF.up (by omega)).up (by omega), (LG.rf _).up, rfl⟩
    | exact ⟨rLd_dig (w := 4) m9 hlt hL hDg (by rw [if_pos (by omega)]), ((mF.up (by omega)).up (by omega)).up (by omega), LG.rf _, rfl⟩
    | exact ⟨rLd_dig (w := 2) m9 hlt hL hDg (by rw [if_neg (by omega)]), ((mF.up (by omega)).up (by omega)).up (by omega), LG.rf _, rfl⟩
    | exact ⟨rLd_oth (w := 3) m9 hlt hL hDg (by rw [if_pos hc]), (mF.up (by omega)).up (by omega), LG.rf _, rfl⟩
    | exact ⟨rLd_oth (w := 4) m9 hlt hL hDg (by rw [if_neg hc]), (mF.up (by omega)).up (by omega), LG.rf _, rfl⟩))
                    · have hq2 := (bAt_dg hu).mp h141
                      refine z_aload_n C 144 0 0 dX9_advance_144 rfl rfl ?_
                      refine z_aload_n C 145 0 0 dX9_advance_145 rfl rfl ?_
                      refine z_getiv C 146 dX9_advance_146 gf_X9_82 rfl (by first | assumption | exact Nat.zero_lt_one | exact (show (15 : Nat) < 16 by decide) | exact Nat.lt_succ_of_lt (by assumption) | omega) (up3_s _ _ _ _ _) ?_
                      refine z_aload_n C 149 0 0 dX9_advance_149 rfl rfl ?_
                      refine z_getiv C 150 dX9_advance_150 gf_X9_93 rfl (by first | assumption | exact Nat.zero_lt_one | exact (show (15 : Nat) < 16 by decide) | exact Nat.lt_succ_of_lt (by assumption) | omega) (show (up3 (up3 M 40 0 12 (nI (vD4 un (tS un len p) q))) 40 0 10 (nI q)) 40 0 9 = nI (tS un len p) from (by rw [up3_j _ (by omega), up3_j _ (by omega)]; exact m9)) ?_
                      first | with_reducible refine z_isubN C 153 dX9_advance_153 (by omega) ?_ | refine z_isub C 153 dX9_advance_153 ?_
                      refine z_iconst (v := nI 4) C 154 dX9_advance_154 (by decide) ?_
                      first | with_reducible refine z_icmp_geN C 155 180 dX9_advance_155 (by decide) (by omega) (by omega) (fun h155 => ?_) (fun h155 => ?_) | refine z_icmp_ge C 155 180 dX9_advance_155 (by decide) (fun h155 => ?_) (fun h155 => ?_)
                      · refine z_aload_n C 180 0 0 dX9_advance_180 rfl rfl ?_
                        refine z_getiv C 181 dX9_advance_181 gf_X9_96 rfl (by first | assumption | exact Nat.zero_lt_one | exact (show (15 : Nat) < 16 by decide) | exact Nat.lt_succ_of_lt (by assumption) | omega) (show (up3 (up3 M 40 0 12 (nI (vD4 un (tS un len p) q))) 40 0 10 (nI q)) 40 0 12 = nI (vD4 un (tS un len p) q) from (by rw [up3_j _ (by omega), up3_s])) ?_
                        refine z_puti C 184 dX9_advance_184 gf_X9_96 ⟨rfl, rfl⟩ rfl (by first | assumption | exact Nat.zero_lt_one | exact (show (15 : Nat) < 16 by decide) | exact Nat.lt_succ_of_lt (by assumption) | omega) ?_
                        refine z_aload_n C 187 0 0 dX9_advance_187 rfl rfl ?_
                        refine z_dup C 188 dX9_advance_188 rfl ?_
                        refine z_getiv C 189 dX9_advance_189 gf_X9_82 rfl (by first | assumption | exact Nat.zero_lt_one | exact (show (15 : Nat) < 16 by decide) | exact Nat.lt_succ_of_lt (by assumption) | omega) (show up3 (up3 (up3 M 40 0 12 (nI (vD4 un (tS un len p) q))) 40 0 10 (nI q)) 40 0 12 _ 40 0 10 = nI q from (by rw [up3_j _ (by omega), up3_s])) ?_
                        refine z_iconst (v := nI 1) C 192 dX9_advance_192 (by decide) ?_
                        first | with_reducible refine z_iaddN C 193 dX9_advance_193 ?_ | refine z_iadd C 193 dX9_advance_193 ?_
                        refine z_puti C 194 dX9_advance_194 gf_X9_82 ⟨rfl, rfl⟩ rfl (by first | assumption | exact Nat.zero_lt_one | exact (show (15 : Nat) < 16 by decide) | exact Nat.lt_succ_of_lt (by assumption) | omega) ?_
                        refine z_goto C 197 126 dX9_advance_197 (by decide) ?_
                        refine z_sub [(0, _), (1, _)] [0, 1] rfl ?_
                        first
                          | (refine z_mem (up3 (up3 M 40 0 12 (nI (vD4 un (tS un len p) (q + 1)))) 40 0 10 (nI (q + 1))) (by rw [m4012, vD4_s (by omega) hq1, show 10 * vD4 un (tS un len p) q + un q - 48 = 10 * vD4 un (tS un len p) q + (un q - 48) by omega]) ?_
                             exact ih126 (q + 1) (by omega) (by omega) (he.trans (sk_t hq2.1 hq2.2)) (by omega))
                          | (refine z_mem (up3 (up3 M 40 0 12 (nI (vD4 un (tS un len p) (q + 1)))) 40 0 10 (nI (q + 1))) (by rw [m4012, vD4_e (by omega) hq1]) ?_
                             exact ih126 (q + 1) (by omega) (by omega) (he.trans (sk_t hq2.1 hq2.2)) (by omega))
                      · refine z_bipush (v := nI 10) C 158 dX9_advance_158 (by decide +kernel) ?_
                        refine z_aload_n C 160 0 0 dX9_advance_160 rfl rfl ?_
                        refine z_getiv C 161 dX9_advance_161 gf_X9_96 rfl (by first | assumption | exact Nat.zero_lt_one | exact (show (15 : Nat) < 16 by decide) | exact Nat.lt_succ_of_lt (by assumption) | omega) (show (up3 (up3 M 40 0 12 (nI (vD4 un (tS un len p) q))) 40 0 10 (nI q)) 40 0 12 = nI (vD4 un (tS un len p) q) from (by rw [up3_j _ (by omega), up3_s])) ?_
                        first | with_reducible refine z_imulN C 164 dX9_advance_164 ?_ | refine z_imul C 164 dX9_advance_164 ?_
                        refine z_aload_n C 165 0 0 dX9_advance_165 rfl rfl ?_
                        refine z_aload_n C 166 0 0 dX9_advance_166 rfl rfl ?_
                        refine z_getiv C 167 dX9_advance_167 gf_X9_82 rfl (by first | assumption | exact Nat.zero_lt_one | exact (show (15 : Nat) < 16 by decide) | exact Nat.lt_succ_of_lt (by assumption) | omega) (up3_s _ _ _ _ _) ?_
                        refine z_cVi0 C 170 dX9_advance_170 cv_X9_85 (c_X9_byteAt (un := un) (len := len) (q := q) hR (mUq q) (by omega)) rfl ⟨by decide, rfl⟩ (by first | assumption | exact Nat.zero_lt_one | exact (show (15 : Nat) < 16 by decide) | exact Nat.lt_succ_of_lt (by assumption) | omega) rfl rfl (Nat.le_of_ble_eq_true rfl) ⟨by decide, by decide⟩ ⟨rfl, rfl⟩ ⟨by decide, by decide⟩ ?_
                        intro r170 S170 L170 R170 p170
                        obtain ⟨rfl, rfl, rfl, rfl⟩ := p170
                        have hdg := isDg_i.mp hq2.2
                        rw [bAt_y hq2.1]
                        first | with_reducible refine z_iaddN C 173 dX9_advance_173 ?_ | refine z_iadd C 173 dX9_advance_173 ?_
                        refine z_bipush (v := nI 48) C 174 dX9_advance_174 (by decide +kernel) ?_
                        first | with_reducible refine z_isubN C 176 dX9_advance_176 (by omega) ?_ | refine z_isub C 176 dX9_advance_176 ?_
                        refine z_goto C 177 184 dX9_advance_177 (by decide) ?_
                        refine z_puti C 184 dX9_advance_184 gf_X9_96 ⟨rfl, rfl⟩ rfl (by first | assumption | exact Nat.zero_lt_one | exact (show (15 : Nat) < 16 by decide) | exact Nat.lt_succ_of_lt (by assumption) | omega) ?_
                        refine z_aload_n C 187 0 0 dX9_advance_187 rfl rfl ?_
                        refine z_dup C 188 dX9_advance_188 rfl ?_
                        refine z_getiv C 189 dX9_advance_189 gf_X9_82 rfl (by first | assumption | exact Nat.zero_lt_one | exact (show (15 : Nat) < 16 by decide) | exact Nat.lt_succ_of_lt (by assumption) | omega) (show up3 (up3 (up3 M 40 0 12 (nI (vD4 un (tS un len p) q))) 40 0 10 (nI q)) 40 0 12 _ 40 0 10 = nI q from (by rw [up3_j _ (by omega), up3_s])) ?_
                        refine z_iconst (v := nI 1) C 192 dX9_advance_192 (by decide) ?_
                        first | with_reducible refine z_iaddN C 193 dX9_advance_193 ?_ | refine z_iadd C 193 dX9_advance_193 ?_
                        refine z_puti C 194 dX9_advance_194 gf_X9_82 ⟨rfl, rfl⟩ rfl (by first | assumption | exact Nat.zero_lt_one | exact (show (15 : Nat) < 16 by decide) | exact Nat.lt_succ_of_lt (by assumption) | omega) ?_
                        refine z_goto C 197 126 dX9_advance_197 (by decide) ?_
                        refine z_sub [(0, _), (1, _)] [0, 1] rfl ?_
                        first
                          | (refine z_mem (up3 (up3 M 40 0 12 (nI (vD4 un (tS un len p) (q + 1)))) 40 0 10 (nI (q + 1))) (by rw [m4012, vD4_s (by omega) hq1, show 10 * vD4 un (tS un len p) q + un q - 48 = 10 * vD4 un (tS un len p) q + (un q - 48) by omega]) ?_
                             exact ih126 (q + 1) (by omega) (by omega) (he.trans (sk_t hq2.1 hq2.2)) (by omega))
                          | (refine z_mem (up3 (up3 M 40 0 12 (nI (vD4 un (tS un len p) (q + 1)))) 40 0 10 (nI (q + 1))) (by rw [m4012, vD4_e (by omega) hq1]) ?_
                             exact ih126 (q + 1) (by omega) (by omega) (he.trans (sk_t hq2.1 hq2.2)) (by omega))
                refine z_sub [(0, _), (1, _)] [1, 0] rfl ?_
                refine z_mem (up3 (up3 M 40 0 12 (nI (vD4 un (tS un len p) (tS un len p)))) 40 0 10 (nI (tS un len p))) (by rw [up3_idd M (by rw [m12]; unfold vD4; rw [Nat.sub_self]; rfl), up3_idd M m10]) ?_
                exact loop_126 (len + 1) (tS un len p) (Nat.le_refl _) htl rfl (by omega)
            · have hL := ((bAt_lt hu).mp h82).2
              refine z_aload_n C 85 0 1 dX9_advance_85 rfl rfl ?_
              refine z_cVv0 C 86 dX9_advance_86 cv_X9_102 (c_X9_takesLetters (un := un) (len := len) (s := tS un len p) hR mU m9 m10 htl) rfl ⟨by decide, rfl⟩ (by first | assumption | exact Nat.zero_lt_one | exact (show (15 : Nat) < 16 by decide) | exact Nat.lt_succ_of_lt (by assumption) | omega) rfl rfl (Nat.le_of_ble_eq_true rfl) ⟨by decide, by decide⟩ ⟨rfl, rfl⟩ ⟨by decide, by decide⟩ ?_
              intro S86 L86 R86 p86
              obtain ⟨rfl, rfl, rfl⟩ := p86
              refine z_aload_n C 89 0 1 dX9_advance_89 rfl rfl ?_
              refine z_aload_n C 90 0 1 dX9_advance_90 rfl rfl ?_
              refine z_getiv C 91 dX9_advance_91 gf_X9_82 rfl (by first | assumption | exact Nat.zero_lt_one | exact (show (15 : Nat) < 16 by decide) | exact Nat.lt_succ_of_lt (by assumption) | omega) (up3_s _ _ _ _ _) ?_
              refine z_aload_n C 94 0 1 dX9_advance_94 rfl rfl ?_
              refine z_getiv C 95 dX9_advance_95 gf_X9_93 rfl (by first | assumption | exact Nat.zero_lt_one | exact (show (15 : Nat) < 16 by decide) | exact Nat.lt_succ_of_lt (by assumption) | omega) ((up3_j M (by omega)).trans m9) ?_
              have hge : tS un len p ≤ sk isLt un len (tS un len p) := sk_ge
              have hle : sk isLt un len (tS un len p) ≤ len := sk_le htl
              first | with_reducible refine z_isubN C 98 dX9_advance_98 (by omega) ?_ | refine z_isub C 98 dX9_advance_98 ?_
              refine z_bipush (v := nI 8) C 99 dX9_advance_99 (by decide +kernel) ?_
              first | with_reducible refine z_icmp_leN C 101 108 dX9_advance_101 (by decide) (by omega) (by omega) (fun h101 => ?_) (fun h101 => ?_) | refine z_icmp_le C 101 108 dX9_advance_101 (by decide) (fun h101 => ?_) (fun h101 => ?_)
              · refine z_iconst (v := nI 1) C 108 dX9_advance_108 (by decide) ?_
                refine z_puti C 109 dX9_advance_109 gf_X9_99 ⟨rfl, rfl⟩ rfl (by first | assumption | exact Nat.zero_lt_one | exact (show (15 : Nat) < 16 by decide) | exact Nat.lt_succ_of_lt (by assumption) | omega) ?_
                refine z_goto C 112 250 dX9_advance_112 (by decide) ?_
                exact ret 250 _ _ _ _ dX9_advance_250 ((by
    first
    | exact ⟨rLd_end m9 m10 hlt, mF.up (by omega), LG.rf _, rfl⟩
    | exact ⟨rLd_let (w := 4) m9 hlt hL (by rw [if_pos (by omega)]), (mF.up (by omega)).up (by omega), (LG.rf _).up, rfl⟩
    | exact ⟨rLd_let (w := 1) m9 hlt hL (by rw [if_neg (by omega)]), (mF.up (by omega)).up (by omega), (LG.rf _).up, rfl⟩
    | exact ⟨rLd_dig (w := 4) m9 hlt hL hDg (by rw [if_pos (by omega)]), ((mF.up (by omega)).up (by omega)).up (by omega), LG.rf _, rfl⟩
    | exact ⟨rLd_dig (w := 2) m9 hlt hL hDg (by rw [if_neg (by omega)]), ((mF.up (by omega)).up (by omega)).up (by omega), LG.rf _, rfl⟩
    | exact ⟨rLd_oth (w := 3) m9 hlt hL hDg (by rw [if_pos hc]), (mF.up (by omega)).up (by omega), LG.rf _, rfl⟩
    | exact ⟨rLd_oth (w := 4) m9 hlt hL hDg (by rw [if_neg hc]), (mF.up (by omega)).up (by omega), LG.rf _, rfl⟩))
              · refine z_iconst (v := nI 4) C 104 dX9_advance_104 (by decide) ?_
                refine z_goto C 105 109 dX9_advance_105 (by decide) ?_
                refine z_puti C 109 dX9_advance_109 gf_X9_99 ⟨rfl, rfl⟩ rfl (by first | assumption | exact Nat.zero_lt_one | exact (show (15 : Nat) < 16 by decide) | exact Nat.lt_succ_of_lt (by assumption) | omega) ?_
                refine z_goto C 112 250 dX9_advance_112 (by decide) ?_
                exact ret 250 _ _ _ _ dX9_advance_250 ((by
    first
    | exact ⟨rLd_end m9 m10 hlt, mF.up (by omega), LG.rf _, rfl⟩
    | exact ⟨rLd_let (w := 4) m9 hlt hL (by rw [if_pos (by omega)]), (mF.up (by omega)).up (by omega), (LG.rf _).up, rfl⟩
    | exact ⟨rLd_let (w := 1) m9 hlt hL (by rw [if_neg (by omega)]), (mF.up (by omega)).up (by omega), (LG.rf _).up, rfl⟩
    | exact ⟨rLd_dig (w := 4) m9 hlt hL hDg (by rw [if_pos (by omega)]), ((mF.up (by omega)).up (by omega)).up (by omega), LG.rf _, rfl⟩
    | exact ⟨rLd_dig (w := 2) m9 hlt hL hDg (by rw [if_neg (by omega)]), ((mF.up (by omega)).up (by omega)).up (by omega), LG.rf _, rfl⟩
    | exact ⟨rLd_oth (w := 3) m9 hlt hL hDg (by rw [if_pos hc]), (mF.up (by omega)).up (by omega), LG.rf _, rfl⟩
    | exact ⟨rLd_oth (w := 4) m9 hlt hL hDg (by rw [if_neg hc]), (mF.up (by omega)).up (by omega), LG.rf _, rfl⟩))
          · have hlt : ¬ tS un len p < len := (bAt_m hu).mp h63
            refine z_aload_n C 66 0 1 dX9_advance_66 rfl rfl ?_
            refine z_iconst (v := nI 0) C 67 dX9_advance_67 (by decide) ?_
            refine z_puti C 68 dX9_advance_68 gf_X9_99 ⟨rfl, rfl⟩ rfl (by first | assumption | exact Nat.zero_lt_one | exact (show (15 : Nat) < 16 by decide) | exact Nat.lt_succ_of_lt (by assumption) | omega) ?_
            refine z_goto C 71 250 dX9_advance_71 (by decide) ?_
            exact ret 250 _ _ _ _ dX9_advance_250 ((by
    first
    | exact ⟨rLd_end m9 m10 hlt, mF.up (by omega), LG.rf _, rfl⟩
    | exact ⟨rLd_let (w := 4) m9 hlt hL (by rw [if_pos (by omega)]), (mF.up (by omega)).up (by omega), (LG.rf _).up, rfl⟩
    | exact ⟨rLd_let (w := 1) m9 hlt hL (by rw [if_neg (by omega)]), (mF.up (by omega)).up (by omega), (LG.rf _).up, rfl⟩
    | exact ⟨rLd_dig (w := 4) m9 hlt hL hDg (by rw [if_pos (by omega)]), ((mF.up (by omega)).up (by omega)).up (by omega), LG.rf _, rfl⟩
    | exact ⟨rLd_dig (w := 2) m9 hlt hL hDg (by rw [if_neg (by omega)]), ((mF.up (by omega)).up (by omega)).up (by omega), LG.rf _, rfl⟩
    | exact ⟨rLd_oth (w := 3) m9 hlt hL hDg (by rw [if_pos hc]), (mF.up (by omega)).up (by omega), LG.rf _, rfl⟩
    | exact ⟨rLd_oth (w := 4) m9 hlt hL hDg (by rw [if_neg hc]), (mF.up (by omega)).up (by omega), LG.rf _, rfl⟩))
        · refine z_aload_n C 26 0 0 dX9_advance_26 rfl rfl ?_
          refine z_dup C 27 dX9_advance_27 rfl ?_
          refine z_getiv C 28 dX9_advance_28 gf_X9_82 rfl (by first | assumption | exact Nat.zero_lt_one | exact (show (15 : Nat) < 16 by decide) | exact Nat.lt_succ_of_lt (by assumption) | omega) (up3_s _ _ _ _ _) ?_
          refine z_iconst (v := nI 1) C 31 dX9_advance_31 (by decide) ?_
          first | with_reducible refine z_iaddN C 32 dX9_advance_32 ?_ | refine z_iadd C 32 dX9_advance_32 ?_
          refine z_puti C 33 dX9_advance_33 gf_X9_82 ⟨rfl, rfl⟩ rfl (by first | assumption | exact Nat.zero_lt_one | exact (show (15 : Nat) < 16 by decide) | exact Nat.lt_succ_of_lt (by assumption) | omega) ?_
          rw [up3_up3]
          refine z_goto C 36 0 dX9_advance_36 (by decide) ?_
          refine z_sub [(0, _)] [0] rfl ?_
          (have hw := bAt_ws hu (by first | exact Or.inl h10 | exact Or.inr h23)); exact ih0 (q + 1) (by omega) (hs.trans (sk_t hw.1 hw.2)) (by omega)
  refine z_sub [(0, _)] [0] rfl ?_
  refine z_mem (up3 S 40 0 10 (nI p)) (up3_idd S hn).symm ?_
  exact loop_0 (len + 1) p hpl rfl (by omega)
