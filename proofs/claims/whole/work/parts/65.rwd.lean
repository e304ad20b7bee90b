theorem tb_neg : ∀ n, n < 256 → 128 ≤ n → sb n < 0 := by decide +kernel
theorem sb_c {n c : Nat} (hn : n < 256) (hc : c < 128) : sb n = nI c ↔ n = c := by
  by_cases h : n < 128
  · rw [tb_pos n h, nI_eq (by omega) (by omega)]
  · refine ⟨fun z => ?_, fun z => by omega⟩
    have h1 := tb_neg n hn (by omega)
    rw [z] at h1
    exact absurd (nI_pos' (show c < 2 ^ 31 by omega)) (Int32.not_le.mpr h1)
/-- a keyword's letter -/
def kwL (i j : Nat) : Nat := ((kwb i).getD j 0).toNatClampNeg
theorem kwL_s {i j : Nat} (hi : i < 8) (hj : j < (kwb i).length) : kwp i (j + 1) = kwL i j :: kwp i j ∧ 97 ≤ kwL i j ∧ kwL i j ≤ 122 ∧ (kwb i).getD j 0 = nI (kwL i j) := kwp_s i hi j hj
theorem wl_kw {un : Nat → Nat} {s i : Nat} (hi : i < 8) : ∀ {m : Nat}, m ≤ (kwb i).length → (wl un s m = kwp i m ↔ ∀ j, j < m → un (s + j) = kwL i j)
  | 0, _ => ⟨fun _ j hj => absurd hj (Nat.not_lt_zero _), fun _ => rfl⟩
  | m + 1, h => by
    rw [wl, (kwL_s hi (j := m) (by omega)).1, List.cons.injEq, wl_kw hi (by omega)]
    exact ⟨fun z j hj => by
      by_cases e : j = m
      · rw [e]; exact z.1
      · exact z.2 j (by omega), fun z => ⟨z m (by omega), fun j hj => z j (by omega)⟩⟩
theorem isW_c {un : Nat → Nat} {len p i : Nat} (hi : i < 8) : isW un len p i ↔ ((tK un len p = 1 ∧ tE un len p - tS un len p = (kwb i).length) ∧ ∀ j, j < (kwb i).length → un (tS un len p + j) = kwL i j) := by
  unfold isW wd
  constructor
  · rintro ⟨h1, h2⟩
    have h3 : tE un len p - tS un len p = (kwb i).length := by
      rw [← (kwr_ok i hi).2.1, ← h2, wl_len]
    refine ⟨⟨h1, h3⟩, (wl_kw hi (Nat.le_refl _)).mp ?_⟩
    rw [← h3, h2, h3, (kwp_l i hi).1]
  · rintro ⟨⟨h1, h2⟩, h3⟩
    refine ⟨h1, ?_⟩
    rw [h2, ← (kwp_l i hi).1]
    exact (wl_kw hi (Nat.le_refl _)).mpr h3
def pW (un : Nat → Nat) (len p i k : Nat) : Prop := (tK un len p = 1 ∧ tE un len p - tS un len p = (kwb i).length) ∧ ∀ j, j < k → un (tS un len p + j) = kwL i j
theorem pW_0 {un : Nat → Nat} {len p i : Nat} : (tK un len p = 1 ∧ tE un len p - tS un len p = (kwb i).length) ↔ pW un len p i 0 := ⟨fun z => ⟨z, fun j hj => absurd hj (Nat.not_lt_zero _)⟩, fun z => z.1⟩
theorem pW_s {un : Nat → Nat} {len p i k : Nat} (h : pW un len p i k) (e : un (tS un len p + k) = kwL i k) : pW un len p i (k + 1) := ⟨h.1, fun j hj => by
  by_cases z : j = k
  · rw [z]; exact e
  · exact h.2 j (by omega)⟩

def rm_X9_isWord : Room := { frames := 4, cells := 0, slots := 0, locals := 140 }
set_option maxHeartbeats 4000000 in
set_option maxRecDepth 100000 in
theorem c_X9_isWord {l : Launch} {G : mG} {ad : mA} {S : mS} {L : mL} {R : mR} {un : Nat → Nat} {len p i : Nat} (hR : mlk R) (hi : i < 8) (hU : rU S un len) (hL : rLd S L un len p) (hpl : p ≤ len) : Ki l yX9_isWord cX9_isWord 4 .boolean rm_X9_isWord G ad mdm [.ref (ad 40 0), .ref (G.2 (100 + i))] S L R (fun r_ S2 L2 R2 => r_ = bI (isW un len p i) ∧ S = S2 ∧ L = L2 ∧ R = R2) := by
  refine Ki.of RX9 (by decide) rfl (Nat.le_of_ble_eq_true rfl) ?_
  intro X hXl hXG C ret
  subst hXl; subst hXG
  change Z X 4 ad mdm S L R 0 0 0 [(0, _), (1, _)] []
  have hl7 := hU.2.1
  have hk4 := tK_le (un := un) (len := len) (p := p)
  have hse := tE_ge (un := un) (len := len) (p := p)
  have hel := tE_le (un := un) hpl
  have hk8 := (kwp_l i hi).2
  have join_30 : ∀ (b : Int32), b = bI (tK un len p = 1 ∧ tE un len p - tS un len p = (kwb i).length) → Z X 4 ad mdm S L R 0 0 30 [(2, .int b), (0, .ref (ad 40 0)), (1, .ref (X.2.2.2.2.2.2.2.2.2.2.2.1.2 (100 + i)))] [] := by
    intro b hb
    refine z_iconst (v := nI 0) C 30 dX9_isWord_30 (by decide) ?_
    refine z_istore_n C 31 3 [(3, _), (2, _), (0, _), (1, _)] dX9_isWord_31 rfl (by decide) rfl ?_
    have loop_32 : ∀ (n_32 : Nat) (k : Nat) (b : Int32), k ≤ (kwb i).length → b = bI (pW un len p i k) → (kwb i).length - k < n_32 → Z X 4 ad mdm S L R 0 0 32 [(3, .int (nI k)), (2, .int b), (0, .ref (ad 40 0)), (1, .ref (X.2.2.2.2.2.2.2.2.2.2.2.1.2 (100 + i)))] [] := by
      intro n_32
      induction n_32 with
      | zero => intro k b hk hb hm32; exact absurd hm32 (Nat.not_lt_zero _)
      | succ n_32 ih32 =>
        intro k b hk hb hm32
        subst hb
        refine z_iload_n C 32 3 0 dX9_isWord_32 rfl rfl ?_
        refine z_aload_n C 33 1 3 dX9_isWord_33 rfl rfl ?_
        refine z_sVi0 C 34 dX9_isWord_34 cv_X9_105 (c_J0_length hi) rfl hi rfl rfl (Nat.le_of_ble_eq_true rfl) ⟨by decide, by decide⟩ ⟨rfl, rfl⟩ ⟨by decide, by decide⟩ ?_
        intro r34 S34 L34 R34 p34
        obtain ⟨rfl, rfl, rfl, rfl⟩ := p34
        first | with_reducible refine z_icmp_geN C 37 75 dX9_isWord_37 (by decide) (by omega) (by omega) (fun h37 => ?_) (fun h37 => ?_) | refine z_icmp_ge C 37 75 dX9_isWord_37 (by decide) (fun h37 => ?_) (fun h37 => ?_)
        · refine z_iload_n C 75 2 1 dX9_isWord_75 rfl rfl ?_
          exact ret 76 _ _ _ _ _ dX9_isWord_76 (by first | rfl | exact bI_n | decide) (⟨(by
      first
      | (have e : k = (kwb i).length := (by omega); subst e; exact (bI_c (isW_c hi)).symm)
      | exact (bI_f h41).trans (bI_f (fun z => h41 ⟨((isW_c hi).mp z).1, fun j hj => ((isW_c hi).mp z).2 j (by omega)⟩)).symm), rfl, rfl, rfl⟩)
        · refine z_iload_n C 40 2 1 dX9_isWord_40 rfl rfl ?_
          first | with_reducible refine z_if_eqB C 41 75 dX9_isWord_41 (by decide) (fun h41 => ?_) (fun h41 => ?_) | with_reducible refine z_if_eqN C 41 75 dX9_isWord_41 (by decide) (by omega) (fun h41 => ?_) (fun h41 => ?_) | refine z_if_eq C 41 75 dX9_isWord_41 (by decide) (fun h41 => ?_) (fun h41 => ?_)
          · refine z_iload_n C 75 2 1 dX9_isWord_75 rfl rfl ?_
            exact ret 76 _ _ _ _ _ dX9_isWord_76 (by first | rfl | exact bI_n | decide) (⟨(by
      first
      | (have e : k = (kwb i).length := (by omega); subst e; exact (bI_c (isW_c hi)).symm)
      | exact (bI_f h41).trans (bI_f (fun z => h41 ⟨((isW_c hi).mp z).1, fun j hj => ((isW_c hi).mp z).2 j (by omega)⟩)).symm), rfl, rfl, rfl⟩)
          · have hq1 := h41.1.2
            refine z_aload_n C 44 0 2 dX9_isWord_44 rfl rfl ?_
            refine z_getr C 45 dX9_isWord_45 gf_X9_23 rfl (by first | assumption | exact Nat.zero_lt_one | exact (show (15 : Nat) < 16 by decide) | exact Nat.lt_succ_of_lt (by assumption) | omega) (by first | exact hR _ _ _ _ rfl | exact hR2 _ _ _ _ rfl | assumption) ?_
            refine z_aload_n C 48 0 2 dX9_isWord_48 rfl rfl ?_
            refine z_getiv C 49 dX9_isWord_49 gf_X9_93 rfl (by first | assumption | exact Nat.zero_lt_one | exact (show (15 : Nat) < 16 by decide) | exact Nat.lt_succ_of_lt (by assumption) | omega) hL.1 ?_
            refine z_iload_n C 52 3 0 dX9_isWord_52 rfl rfl ?_
            first | with_reducible refine z_iaddN C 53 dX9_isWord_53 ?_ | refine z_iadd C 53 dX9_isWord_53 ?_
            refine z_bald C 54 dX9_isWord_54 rfl (by first | assumption | exact Nat.zero_lt_one | exact (show (15 : Nat) < 16 by decide) | exact Nat.lt_succ_of_lt (by assumption) | omega) (by first | rfl | assumption) (by first | decide | omega) (by first | assumption | omega) ?_
            refine z_aload_n C 55 1 3 dX9_isWord_55 rfl rfl ?_
            refine z_iload_n C 56 3 0 dX9_isWord_56 rfl rfl ?_
            refine z_sVi0 C 57 dX9_isWord_57 cv_X9_110 (c_J0_charAt hi (by omega)) rfl hi rfl rfl (Nat.le_of_ble_eq_true rfl) ⟨by decide, by decide⟩ ⟨rfl, rfl⟩ ⟨by decide, by decide⟩ ?_
            intro r57 S57 L57 R57 p57
            obtain ⟨rfl, rfl, rfl, rfl⟩ := p57
            obtain ⟨k1, k2, k3, k4⟩ := kwL_s hi (j := k) (by omega)
            rw [hU.2.2.2 (tS un len p + k) (by omega), k4]
            first | with_reducible refine z_icmp_neN C 60 67 dX9_isWord_60 (by decide) (by omega) (by omega) (fun h60 => ?_) (fun h60 => ?_) | refine z_icmp_ne C 60 67 dX9_isWord_60 (by decide) (fun h60 => ?_) (fun h60 => ?_)
            · have hne : ¬ un (tS un len p + k) = kwL i k := fun z => h60 ((sb_c (hU.2.2.1 _) (by omega)).mpr z)
              refine z_iconst (v := nI 0) C 67 dX9_isWord_67 (by decide) ?_
              refine z_istore_n C 68 2 [(2, _), (3, _), (0, _), (1, _)] dX9_isWord_68 rfl (by decide) rfl ?_
              refine z_iinc C 69 3 1 [(3, _), (2, _), (0, _), (1, _)] dX9_isWord_69 rfl (by first | exact nI_1 _ | rfl) (by decide) rfl ?_
              refine z_goto C 72 32 dX9_isWord_72 (by decide) ?_
              refine z_sub [(3, _), (2, _), (0, _), (1, _)] [0, 1, 2, 3] rfl ?_
              first
                | exact ih32 (k + 1) _ (by omega) (bI_1 (pW_s h41 heq)) (by omega)
                | exact ih32 (k + 1) _ (by omega) (bI_0 (fun z => hne (z.2 k (by omega)))) (by omega)
            · have heq : un (tS un len p + k) = kwL i k := (sb_c (hU.2.2.1 _) (by omega)).mp h60
              refine z_iconst (v := nI 1) C 63 dX9_isWord_63 (by decide) ?_
              refine z_goto C 64 68 dX9_isWord_64 (by decide) ?_
              refine z_istore_n C 68 2 [(2, _), (3, _), (0, _), (1, _)] dX9_isWord_68 rfl (by decide) rfl ?_
              refine z_iinc C 69 3 1 [(3, _), (2, _), (0, _), (1, _)] dX9_isWord_69 rfl (by first | exact nI_1 _ | rfl) (by decide) rfl ?_
              refine z_goto C 72 32 dX9_isWord_72 (by decide) ?_
              refine z_sub [(3, _), (2, _), (0, _), (1, _)] [0, 1, 2, 3] rfl ?_
              first
                | exact ih32 (k + 1) _ (by omega) (bI_1 (pW_s h41 heq)) (by omega)
                | exact ih32 (k + 1) _ (by omega) (bI_0 (fun z => hne (z.2 k (by omega)))) (by omega)
    refine z_sub [(3, _), (2, _), (0, _), (1, _)] [0, 1, 2, 3] rfl ?_
    exact loop_32 ((kwb i).length + 1) 0 _ (Nat.zero_le _) (by rw [hb]; exact bI_c pW_0) (by omega)
  refine z_aload_n C 0 0 0 dX9_isWord_0 rfl rfl ?_
  refine z_getiv C 1 dX9_isWord_1 gf_X9_99 rfl (by first | assumption | exact Nat.zero_lt_one | exact (show (15 : Nat) < 16 by decide) | exact Nat.lt_succ_of_lt (by assumption) | omega) hL.2.2.1 ?_
  refine z_iconst (v := nI 1) C 4 dX9_isWord_4 (by decide) ?_
  first | with_reducible refine z_icmp_neN C 5 28 dX9_isWord_5 (by decide) (by omega) (by omega) (fun h5 => ?_) (fun h5 => ?_) | refine z_icmp_ne C 5 28 dX9_isWord_5 (by decide) (fun h5 => ?_) (fun h5 => ?_)
  · refine z_iconst (v := nI 0) C 28 dX9_isWord_28 (by decide) ?_
    refine z_istore_n C 29 2 [(2, _), (0, _), (1, _)] dX9_isWord_29 rfl (by decide) rfl ?_
    refine z_sub [(2, _), (0, _), (1, _)] [0, 1, 2] rfl ?_
    first
      | exact join_30 _ (bI_1 ⟨by omega, by omega⟩)
      | exact join_30 _ (bI_0 (fun z => by omega))
  · refine z_aload_n C 8 0 0 dX9_isWord_8 rfl rfl ?_
    refine z_getiv C 9 dX9_isWord_9 gf_X9_82 rfl (by first | assumption | exact Nat.zero_lt_one | exact (show (15 : Nat) < 16 by decide) | exact Nat.lt_succ_of_lt (by assumption) | omega) hL.2.1 ?_
    refine z_aload_n C 12 0 0 dX9_isWord_12 rfl rfl ?_
    refine z_getiv C 13 dX9_isWord_13 gf_X9_93 rfl (by first | assumption | exact Nat.zero_lt_one | exact (show (15 : Nat) < 16 by decide) | exact Nat.lt_succ_of_lt (by assumption) | omega) hL.1 ?_
    first | with_reducible refine z_isubN C 16 dX9_isWord_16 (by omega) ?_ | refine z_isub C 16 dX9_isWord_16 ?_
    refine z_aload_n C 17 1 1 dX9_isWord_17 rfl rfl ?_
    refine z_sVi0 C 18 dX9_isWord_18 cv_X9_105 (c_J0_length hi) rfl hi rfl rfl (Nat.le_of_ble_eq_true rfl) ⟨by decide, by decide⟩ ⟨rfl, rfl⟩ ⟨by decide, by decide⟩ ?_
    intro r18 S18 L18 R18 p18
    obtain ⟨rfl, rfl, rfl, rfl⟩ := p18
    first | with_reducible refine z_icmp_neN C 21 28 dX9_isWord_21 (by decide) (by omega) (by omega) (fun h21 => ?_) (fun h21 => ?_) | refine z_icmp_ne C 21 28 dX9_isWord_21 (by decide) (fun h21 => ?_) (fun h21 => ?_)
    · refine z_iconst (v := nI 0) C 28 dX9_isWord_28 (by decide) ?_
      refine z_istore_n C 29 2 [(2, _), (0, _), (1, _)] dX9_isWord_29 rfl (by decide) rfl ?_
      refine z_sub [(2, _), (0, _), (1, _)] [0, 1, 2] rfl ?_
      first
        | exact join_30 _ (bI_1 ⟨by omega, by omega⟩)
        | exact join_30 _ (bI_0 (fun z => by omega))
    · refine z_iconst (v := nI 1) C 24 dX9_isWord_24 (by decide) ?_
      refine z_goto C 25 29 dX9_isWord_25 (by decide) ?_
      refine z_istore_n C 29 2 [(2, _), (0, _), (1, _)] dX9_isWord_29 rfl (by decide) rfl ?_
      refine z_sub [(2, _), (0, _), (1, _)] [0, 1, 2] rfl ?_
      first
        | exact join_30 _ (bI_1 ⟨by omega, by omega⟩)
        | exact join_30 _ (bI_0 (fun z => by omega))
def rm_X9_lays : Room := { frames := 4, cells := 0, slots := 0, locals := 85 }
set_option maxHeartbeats 4000000 in
set_option maxRecDepth 100000 in
theorem c_X9_lays {l : Launch} {G : mG} {ad : mA} {S : mS} {L : mL} {R : mR} {un : Nat → Nat} {len a b t : Nat} {q : mQ} (hR : mlk R) (hU : rU S un len) (hq : rSt S L un len q) (h0 : q.1 = 0) (ha : a < 2 ^ 31) (hb : b < 2 ^ 31) (ht : t < 80) : Ki l yX9_lays cX9_lays 5 .boolean rm_X9_lays G ad mdm [.ref (ad 40 0), .ref (ad 46 0), .int (nI t), .int (nI a), .int (nI b)] S L R (fun r_ S2 L2 R2 => r_ = bI ((yN un len q a b).1 = 0) ∧ rSt S2 L2 un len (yN un len q a b) ∧ ((yN un len q a b).1 = 0 → ∃ M, RE S M ∧ up3 M 46 0 t (nI (tV un len q.2.2)) = S2) ∧ (¬ (yN un len q a b).1 = 0 → RE S S2) ∧ LG L L2 ∧ R = R2) := by
  refine Ki.of RX9 (by decide) rfl (Nat.le_of_ble_eq_true rfl) ?_
  intro X hXl hXG C ret
  subst hXl; subst hXG
  change Z X 5 ad mdm S L R 0 0 0 [(0, _), (1, _), (2, _), (3, _), (4, _)] []
  refine z_aload_n C 0 0 0 dX9_lays_0 rfl rfl ?_
  refine z_iload_n C 1 3 3 dX9_lays_1 rfl rfl ?_
  refine z_iload C 2 4 4 dX9_lays_2 rfl ?_
  refine z_cVi0 C 4 dX9_lays_4 cv_X9_127 (c_X9_takes (un := un) (len := len) (q := q) hR hU hq h0 ha hb) rfl ⟨by decide, rfl⟩ (by first | assumption | exact Nat.zero_lt_one | exact (show (15 : Nat) < 16 by decide) | exact Nat.lt_succ_of_lt (by assumption) | omega) rfl rfl (Nat.le_of_ble_eq_true rfl) ⟨by decide, by decide⟩ ⟨rfl, rfl⟩ ⟨by decide, by decide⟩ ?_
  intro r4 S4 L4 R4 p4
  obtain ⟨rfl, t4, v4, F4, G4, rfl⟩ := p4
  first | with_reducible refine z_if_neB C 7 12 dX9_lays_7 (by decide) (fun h7 => ?_) (fun h7 => ?_) | with_reducible refine z_if_neN C 7 12 dX9_lays_7 (by decide) (by omega) (fun h7 => ?_) (fun h7 => ?_) | refine z_if_ne C 7 12 dX9_lays_7 (by decide) (fun h7 => ?_) (fun h7 => ?_)
  · refine z_aload_n C 12 1 1 dX9_lays_12 rfl rfl ?_
    refine z_iload_n C 13 2 2 dX9_lays_13 rfl rfl ?_
    refine z_aload_n C 14 0 0 dX9_lays_14 rfl rfl ?_
    refine z_getiv C 15 dX9_lays_15 gf_X9_124 rfl (by first | assumption | exact Nat.zero_lt_one | exact (show (15 : Nat) < 16 by decide) | exact Nat.lt_succ_of_lt (by assumption) | omega) (v4 h7) ?_
    refine z_iast C 18 dX9_lays_18 (by first | rfl | assumption) (by first | assumption | exact Nat.zero_lt_one | exact (show (15 : Nat) < 16 by decide) | exact Nat.lt_succ_of_lt (by assumption) | omega)  (by first | rfl | assumption) (by first | decide | omega) (by first | assumption | omega) ?_
    refine z_iconst (v := nI 1) C 19 dX9_lays_19 (by decide) ?_
    exact ret 20 _ _ _ _ _ dX9_lays_20 (by first | rfl | exact bI_n | decide) (⟨bI_1 h7, ⟨(by rw [up3_k _ (by omega)]; exact t4.1), t4.2.1, (by rw [up3_k _ (by omega)]; exact t4.2.2.1), fun z => ⟨by have t := (t4.2.2.2 z).1; unfold rLd at t ⊢; rw [up3_k _ (by omega)]; exact t, (t4.2.2.2 z).2⟩⟩, fun _ => ⟨_, F4, rfl⟩, fun z => absurd h7 z, G4, rfl⟩)
  · refine z_iconst (v := nI 0) C 10 dX9_lays_10 (by decide) ?_
    exact ret 11 _ _ _ _ _ dX9_lays_11 (by first | rfl | exact bI_n | decide) (⟨bI_0 h7, t4, fun z => absurd z h7, fun _ => F4, G4, rfl⟩)

set_option maxHeartbeats 4000000 in
set_option maxRecDepth 100000 in
theorem c_X9_lays_48 {l : Launch} {G : mG} {ad : mA} {S : mS} {L : mL} {R : mR} {un : Nat → Nat} {len a b t : Nat} {q : mQ} (hR : mlk R) (hU : rU S un len) (hq : rSt S L un len q) (h0 : q.1 = 0) (ha : a < 2 ^ 31) (hb : b < 2 ^ 31) (ht : t < 4) : Ki l yX9_lays cX9_lays 5 .boolean rm_X9_lays G ad mdm [.ref (ad 40 0), .ref (ad 48 0), .int (nI t), .int (nI a), .int (nI b)] S L R (fun r_ S2 L2 R2 => r_ = bI ((yN un len q a b).1 = 0) ∧ rSt S2 L2 un len (yN un len q a b) ∧ ((yN un len q a b).1 = 0 → ∃ M, RE S M ∧ up3 M 48 0 t (nI (tV un len q.2.2)) = S2) ∧ (¬ (yN un len q a b).1 = 0 → RE S S2) ∧ LG L L2 ∧ R = R2) := by
  refine Ki.of RX9 (by decide) rfl (Nat.le_of_ble_eq_true rfl) ?_
  intro X hXl hXG C ret
  subst hXl; subst hXG
  change Z X 5 ad mdm S L R 0 0 0 [(0, _), (1, _), (2, _), (3, _), (4, _)] []
  refine z_aload_n C 0 0 0 dX9_lays_0 rfl rfl ?_
  refine z_iload_n C 1 3 3 dX9_lays_1 rfl rfl ?_
  refine z_iload C 2 4 4 dX9_lays_2 rfl ?_
  refine z_cVi0 C 4 dX9_lays_4 cv_X9_127 (c_X9_takes (un := un) (len := len) (q := q) hR hU hq h0 ha hb) rfl ⟨by decide, rfl⟩ (by first | assumption | exact Nat.zero_lt_one | exact (show (15 : Nat) < 16 by decide) | exact Nat.lt_succ_of_lt (by assumption) | omega) rfl rfl (Nat.le_of_ble_eq_true rfl) ⟨by decide, by decide⟩ ⟨rfl, rfl⟩ ⟨by decide, by decide⟩ ?_
  intro r4 S4 L4 R4 p4
  obtain ⟨rfl, t4, v4, F4, G4, rfl⟩ := p4
  first | with_reducible refine z_if_neB C 7 12 dX9_lays_7 (by decide) (fun h7 => ?_) (fun h7 => ?_) | with_reducible refine z_if_neN C 7 12 dX9_lays_7 (by decide) (by omega) (fun h7 => ?_) (fun h7 => ?_) | refine z_if_ne C 7 12 dX9_lays_7 (by decide) (fun h7 => ?_) (fun h7 => ?_)
  · refine z_aload_n C 12 1 1 dX9_lays_12 rfl rfl ?_
    refine z_iload_n C 13 2 2 dX9_lays_13 rfl rfl ?_
    refine z_aload_n C 14 0 0 dX9_lays_14 rfl rfl ?_
    refine z_getiv C 15 dX9_lays_15 gf_X9_124 rfl (by first | assumption | exact Nat.zero_lt_one | exact (show (15 : Nat) < 16 by decide) | exact Nat.lt_succ_of_lt (by assumption) | omega) (v4 h7) ?_
    refine z_iast C 18 dX9_lays_18 (by first | rfl | assumption) (by first | assumption | exact Nat.zero_lt_one | exact (show (15 : Nat) < 16 by decide) | exact Nat.lt_succ_of_lt (by assumption) | omega)  (by first | rfl | assumption) (by first | decide | omega) (by first | assumption | omega) ?_
    refine z_iconst (v := nI 1) C 19 dX9_lays_19 (by decide) ?_
    exact ret 20 _ _ _ _ _ dX9_lays_20 (by first | rfl | exact bI_n | decide) (⟨bI_1 h7, ⟨(by rw [up3_k _ (by omega)]; exact t4.1), t4.2.1, (by rw [up3_k _ (by omega)]; exact t4.2.2.1), fun z => ⟨by have t := (t4.2.2.2 z).1; unfold rLd at t ⊢; rw [up3_k _ (by omega)]; exact t, (t4.2.2.2 z).2⟩⟩, fun _ => ⟨_, F4, rfl⟩, fun z => absurd h7 z, G4, rfl⟩)
  · refine z_iconst (v := nI 0) C 10 dX9_lays_10 (by decide) ?_
    exact ret 11 _ _ _ _ _ dX9_lays_11 (by first | rfl | exact bI_n | decide) (⟨bI_0 h7, t4, fun z => absurd z h7, fun _ => F4, G4, rfl⟩)
def rm_X9_named : Room := { frames := 0, cells := 0, slots := 0, locals := 0 }
set_option maxHeartbeats 4000000 in
set_option maxRecDepth 100000 in
theorem c_X9_named {l : Launch} {G : mG} {ad : mA} {S : mS} {L : mL} {R : mR} {n : Nat} {x : Int64} (hR : mlk R) (hn10 : n ≤ 10) : Ki l yX9_named cX9_named 5 .int rm_X9_named G ad mdm [.ref (ad 47 0), .int (nI n), .long x] S L R (fun r_ S2 L2 R2 => r_ = oI (nmU (L 47 0) x n 0) ∧ S = S2 ∧ L = L2 ∧ R = R2) := by
  refine Ki.of RX9 (by decide) rfl (Nat.le_of_ble_eq_true rfl) ?_
  intro X hXl hXG C ret
  subst hXl; subst hXG
  change Z X 5 ad mdm S L R 0 0 0 [(0, _), (1, _), (2, _)] []
  refine z_iconst (v := nI 0) C 0 dX9_named_0 (by decide) ?_
  refine z_istore C 1 4 [(4, _), (0, _), (1, _), (2, _)] dX9_named_1 (by decide) rfl ?_
  have loop_3 : ∀ (n_3 : Nat) (i : Nat), i ≤ n → nmU (L 47 0) x n 0 = nmU (L 47 0) x (n - i) i → n - i < n_3 → Z X 5 ad mdm S L R 0 0 3 [(4, .int (nI i)), (0, .ref (ad 47 0)), (1, .int (nI n)), (2, .long x)] [] := by
    intro n_3
    induction n_3 with
    | zero => intro i hi hx hm3; exact absurd hm3 (Nat.not_lt_zero _)
    | succ n_3 ih3 =>
      intro i hi hx hm3
      refine z_iload C 3 4 0 dX9_named_3 rfl ?_
      refine z_iload_n C 5 1 2 dX9_named_5 rfl rfl ?_
      first | with_reducible refine z_icmp_geN C 6 27 dX9_named_6 (by decide) (by omega) (by omega) (fun h6 => ?_) (fun h6 => ?_) | refine z_icmp_ge C 6 27 dX9_named_6 (by decide) (fun h6 => ?_) (fun h6 => ?_)
      · refine z_iconst (v := (-1)) C 27 dX9_named_27 (by decide) ?_
        exact ret 28 _ _ _ _ _ dX9_named_28 (by first | rfl | exact bI_n | decide) (⟨(by rw [hx, show n - i = 0 by omega]; rfl), rfl, rfl, rfl⟩)
      · refine z_aload_n C 9 0 1 dX9_named_9 rfl rfl ?_
        refine z_iload C 10 4 0 dX9_named_10 rfl ?_
        refine z_lald C 12 dX9_named_12 rfl (by first | assumption | exact Nat.zero_lt_one | exact (show (15 : Nat) < 16 by decide) | exact Nat.lt_succ_of_lt (by assumption) | omega) (by first | rfl | assumption) (by first | decide | omega) (by first | assumption | omega) ?_
        refine z_lload_n C 13 2 3 dX9_named_13 rfl rfl ?_
        refine z_lcmp C 14 dX9_named_14 ?_
        first | with_reducible refine z_if_neB C 15 21 dX9_named_15 (by decide) (fun h15 => ?_) (fun h15 => ?_) | with_reducible refine z_if_neN C 15 21 dX9_named_15 (by decide) (by omega) (fun h15 => ?_) (fun h15 => ?_) | refine z_if_ne C 15 21 dX9_named_15 (by decide) (fun h15 => ?_) (fun h15 => ?_)
        · refine z_iinc C 21 4 0 [(4, _), (0, _), (1, _), (2, _)] dX9_named_21 rfl (by first | exact nI_1 _ | rfl) (by decide) rfl ?_
          refine z_goto C 24 3 dX9_named_24 (by decide) ?_
          refine z_sub [(4, _), (0, _), (1, _), (2, _)] [0, 1, 2, 3] rfl ?_
          exact ih3 (i + 1) (by omega) (by rw [hx, show n - i = (n - (i + 1)) + 1 by omega, nmU_f (fun z => h15 (lg_cmp0 z))]) (by omega)
        · refine z_iload C 18 4 0 dX9_named_18 rfl ?_
          exact ret 20 _ _ _ _ _ dX9_named_20 (by first | rfl | exact bI_n | decide) (⟨(by rw [hx, show n - i = (n - (i + 1)) + 1 by omega, nmU_t (lg_cmp_0 h15)]; rfl), rfl, rfl, rfl⟩)
  refine z_sub [(4, _), (0, _), (1, _), (2, _)] [0, 1, 2, 3] rfl ?_
  exact loop_3 (n + 1) 0 (Nat.zero_le _) (by rw [Nat.sub_zero]) (by omega)

set_option maxHeartbeats 4000000 in
set_option maxRecDepth 100000 in
theorem c_X9_named_42 {l : Launch} {G : mG} {ad : mA} {S : mS} {L : mL} {R : mR} {n : Nat} {x : Int64} (hR : mlk R) (hn10 : n ≤ 10) : Ki l yX9_named cX9_named 5 .int rm_X9_named G ad mdm [.ref (ad 42 0), .int (nI n), .long x] S L R (fun r_ S2 L2 R2 => r_ = oI (nmU (L 42 0) x n 0) ∧ S = S2 ∧ L = L2 ∧ R = R2) := by
  refine Ki.of RX9 (by decide) rfl (Nat.le_of_ble_eq_true rfl) ?_
  intro X hXl hXG C ret
  subst hXl; subst hXG
  change Z X 5 ad mdm S L R 0 0 0 [(0, _), (1, _), (2, _)] []
  refine z_iconst (v := nI 0) C 0 dX9_named_0 (by decide) ?_
  refine z_istore C 1 4 [(4, _), (0, _), (1, _), (2, _)] dX9_named_1 (by decide) rfl ?_
  have loop_3 : ∀ (n_3 : Nat) (i : Nat), i ≤ n → nmU (L 42 0) x n 0 = nmU (L 42 0) x (n - i) i → n - i < n_3 → Z X 5 ad mdm S L R 0 0 3 [(4, .int (nI i)), (0, .ref (ad 42 0)), (1, .int (nI n)), (2, .long x)] [] := by
    intro n_3
    induction n_3 with
    | zero => intro i hi hx hm3; exact absurd hm3 (Nat.not_lt_zero _)
    | succ n_3 ih3 =>
      intro i hi hx hm3
      refine z_iload C 3 4 0 dX9_named_3 rfl ?_
      refine z_iload_n C 5 1 2 dX9_named_5 rfl rfl ?_
      first | with_reducible refine z_icmp_geN C 6 27 dX9_named_6 (by decide) (by omega) (by omega) (fun h6 => ?_) (fun h6 => ?_) | refine z_icmp_ge C 6 27 dX9_named_6 (by decide) (fun h6 => ?_) (fun h6 => ?_)
      · refine z_iconst (v := (-1)) C 27 dX9_named_27 (by decide) ?_
        exact ret 28 _ _ _ _ _ dX9_named_28 (by first | rfl | exact bI_n | decide) (⟨(by rw [hx, show n - i = 0 by omega]; rfl), rfl, rfl, rfl⟩)
      · refine z_aload_n C 9 0 1 dX9_named_9 rfl rfl ?_
        refine z_iload C 10 4 0 dX9_named_10 rfl ?_
        refine z_lald C 12 dX9_named_12 rfl (by first | assumption | exact Nat.zero_lt_one | exact (show (15 : Nat) < 16 by decide) | exact Nat.lt_succ_of_lt (by assumption) | omega) (by first | rfl | assumption) (by first | decide | omega) (by first | assumption | omega) ?_
        refine z_lload_n C 13 2 3 dX9_named_13 rfl rfl ?_
        refine z_lcmp C 14 dX9_named_14 ?_
        first | with_reducible refine z_if_neB C 15 21 dX9_named_15 (by decide) (fun h15 => ?_) (fun h15 => ?_) | with_reducible refine z_if_neN C 15 21 dX9_named_15 (by decide) (by omega) (fun h15 => ?_) (fun h15 => ?_) | refine z_if_ne C 15 21 dX9_named_15 (by decide) (fun h15 => ?_) (fun h15 => ?_)
        · refine z_iinc C 21 4 0 [(4, _), (0, _), (1, _), (2, _)] dX9_named_21 rfl (by first | exact nI_1 _ | rfl) (by decide) rfl ?_
          refine z_goto C 24 3 dX9_named_24 (by decide) ?_
          refine z_sub [(4, _), (0, _), (1, _), (2, _)] [0, 1, 2, 3] rfl ?_
          exact ih3 (i + 1) (by omega) (by rw [hx, show n - i = (n - (i + 1)) + 1 by omega, nmU_f (fun z => h15 (lg_cmp0 z))]) (by omega)
        · refine z_iload C 18 4 0 dX9_named_18 rfl ?_
          exact ret 20 _ _ _ _ _ dX9_named_20 (by first | rfl | exact bI_n | decide) (⟨(by rw [hx, show n - i = (n - (i + 1)) + 1 by omega, nmU_t (lg_cmp_0 h15)]; rfl), rfl, rfl, rfl⟩)
  refine z_sub [(4, _), (0, _), (1, _), (2, _)] [0, 1, 2, 3] rfl ?_
  exact loop_3 (n + 1) 0 (Nat.zero_le _) (by rw [Nat.sub_zero]) (by omega)
