theorem fVicF_lt {N T : NN} {n k : Nat} : ∀ {i o : Nat}, fVicF N T n k i = some o → o < i
  | 0, o, h => by cases h
  | i + 1, o, h => by
    unfold fVicF at h
    split at h
    · cases h; exact Nat.lt_succ_self _
    · exact Nat.lt_succ_of_lt (fVicF_lt h)
theorem fVicF_can {N T : NN} {n k : Nat} : ∀ {i o : Nat}, fVicF N T n k i = some o → fCan N o k
  | 0, o, h => by cases h
  | i + 1, o, h => by
    unfold fVicF at h
    split at h
    · rename_i hc; cases h; exact hc.1
    · exact fVicF_can h
theorem fVicF_t {N T : NN} {n k i : Nat} (h : fCan N i k) (h2 : ∀ o, fVicF N T n k i = some o → fAhead N T n i o k) : fVicF N T n k (i + 1) = some i := by
  rw [fVicF]
  exact if_pos ⟨h, h2⟩
theorem fVicF_f {N T : NN} {n k i : Nat} (h : ¬ (fCan N i k ∧ ∀ o, fVicF N T n k i = some o → fAhead N T n i o k)) : fVicF N T n k (i + 1) = fVicF N T n k i := by
  rw [fVicF]
  exact if_neg h
theorem oI_some {b : Option Nat} (h : ¬ oI b = -1) : ∃ o, b = some o := by
  cases b with
  | none => exact absurd rfl h
  | some o => exact ⟨o, rfl⟩
theorem oI_none {b : Option Nat} (hb : ∀ o, b = some o → o < 2 ^ 31) (h : oI b = -1) : b = none := by
  cases b with
  | none => rfl
  | some o => exact absurd h (nI_m1 (hb o rfl))
theorem fSh_end (N : NN) (j : Nat) : fSh N 0 0 j = if 309 ≤ j ∧ j < 378 then N (j - 3) else N j := by
  unfold fSh
  by_cases h : 309 ≤ j ∧ j < 378
  · rw [if_pos h, if_pos (Or.inr h)]
  · rw [if_neg h, if_neg (by omega)]
theorem wr_e1 (N : NN) (a b : Int32) : upd (upd (fSh N 0 0) 306 a) 307 b 1 = N 1 := by simp [upd, fSh_end]
theorem wr_e5 (N : NN) (a b c : Int32) : upd (upd (upd (fSh N 0 0) 306 a) 307 b) 308 c 5 = N 5 := by simp [upd, fSh_end]
theorem wr_e8 (N : NN) (k : Nat) (a b c d : Int32) : upd (upd (upd (upd (fSh N 0 0) 306 a) 307 b) 308 c) 5 d (378 + k) = N (378 + k) := by
  unfold upd
  rw [if_neg (by omega), if_neg (by omega), if_neg (by omega), if_neg (by omega), fSh_end, if_neg (by omega)]
theorem wr_fin (N : NN) (k p : Nat) (hk : k ≤ 9) (y : Int32) (hy : y = if N 5 < nI 24 then nI 1 else nI 0) : upd (upd (upd (upd (upd (fSh N 0 0) 306 (nI k)) 307 (nI p)) 308 (N 1)) 5 (N 5 + y)) (378 + k) (N (378 + k) + nI 1) = fWr N k p := by
  funext j
  unfold fWr upd
  rw [fSh_end, ← hy]
  by_cases h1 : 309 ≤ j ∧ j < 378
  · rw [if_pos h1, if_neg (by omega), if_neg (by omega), if_neg (by omega), if_neg (by omega), if_neg (by omega), if_pos h1]
  · rw [if_neg h1]
    by_cases h8 : j = 378 + k
    · subst h8
      rw [if_pos rfl, if_neg (by omega), if_neg (by omega), if_neg (by omega), if_neg (by omega), if_neg (by omega), if_pos rfl]
    · rw [if_neg h8]
      by_cases h5 : j = 5
      · subst h5
        rw [if_pos rfl, if_neg (by omega), if_neg (by omega), if_neg (by omega), if_neg (by omega), if_pos rfl]
      · rw [if_neg h5]
        by_cases h4 : j = 308
        · subst h4
          rw [if_pos rfl, if_neg (by omega), if_neg (by omega), if_neg (by omega), if_pos rfl]
        · rw [if_neg h4]
          by_cases h3 : j = 307
          · subst h3
            rw [if_pos rfl, if_neg (by omega), if_neg (by omega), if_pos rfl]
          · rw [if_neg h3]
            by_cases h2 : j = 306
            · rw [if_pos h2, if_neg h1, if_pos h2]
            · rw [if_neg h2, if_neg h1, if_neg h2, if_neg h3, if_neg h4, if_neg h5, if_neg h8]

def rm_X9_victimOf : Room := { frames := 5, cells := 0, slots := 0, locals := 113 }
set_option maxHeartbeats 4000000 in
set_option maxRecDepth 100000 in
theorem c_X9_victimOf {l : Launch} {G : mG} {ad : mA} {S : mS} {L : mL} {R : mR} {n k : Nat} (hR : mlk R) (hn : S 40 0 1 = nI n) (hn10 : n ≤ 10) (hI : rI (S 44 0) n) (hk : 1 ≤ k) (hk6 : k ≤ 6) : Ki l yX9_victimOf cX9_victimOf 4 .int rm_X9_victimOf G ad mdm [.ref (ad 40 0), .int (nI k)] S L R (fun r_ S2 L2 R2 => r_ = oI (fVic (S 44 0) (S 41 0) n k) ∧ S = S2 ∧ L = L2 ∧ R = R2) := by
  refine Ki.of RX9 (by decide) rfl (Nat.le_of_ble_eq_true rfl) ?_
  intro X hXl hXG C ret
  subst hXl; subst hXG
  change Z X 4 ad mdm S L R 0 0 0 [(0, _), (1, _)] []
  refine z_iconst (v := (-1)) C 0 dX9_victimOf_0 (by decide) ?_
  refine z_istore_n C 1 2 [(2, _), (0, _), (1, _)] dX9_victimOf_1 rfl (by decide) rfl ?_
  refine z_iconst (v := nI 0) C 2 dX9_victimOf_2 (by decide) ?_
  refine z_istore_n C 3 3 [(3, _), (2, _), (0, _), (1, _)] dX9_victimOf_3 rfl (by decide) rfl ?_
  have loop_4 : ∀ (n_4 : Nat) (i : Nat) (b : Option Nat), i ≤ n → fVicF (S 44 0) (S 41 0) n k i = b → n - i < n_4 → Z X 4 ad mdm S L R 0 0 4 [(0, .ref (ad 40 0)), (1, .int (nI k)), (2, .int (oI b)), (3, .int (nI i))] [] := by
    intro n_4
    induction n_4 with
    | zero => intro i b hi hb hm4; exact absurd hm4 (Nat.not_lt_zero _)
    | succ n_4 ih4 =>
      intro i b hi hb hm4
      refine z_iload_n C 4 3 3 dX9_victimOf_4 rfl rfl ?_
      refine z_aload_n C 5 0 0 dX9_victimOf_5 rfl rfl ?_
      refine z_getiv C 6 dX9_victimOf_6 gf_X9_197 rfl (by first | assumption | exact Nat.zero_lt_one | omega) hn ?_
      first | with_reducible refine z_icmp_geN C 9 48 dX9_victimOf_9 (by decide) (by omega) (by omega) (fun h9 => ?_) (fun h9 => ?_) | refine z_icmp_ge C 9 48 dX9_victimOf_9 (by decide) (fun h9 => ?_) (fun h9 => ?_)
      · refine z_iload_n C 48 2 2 dX9_victimOf_48 rfl rfl ?_
        exact ret 49 _ _ _ _ _ dX9_victimOf_49 (by first | rfl | exact bI_n | decide) (⟨(by rw [← hb, show i = n by omega]; rfl), rfl, rfl, rfl⟩)
      · refine z_aload_n C 12 0 0 dX9_victimOf_12 rfl rfl ?_
        refine z_iload_n C 13 3 3 dX9_victimOf_13 rfl rfl ?_
        refine z_iload_n C 14 1 1 dX9_victimOf_14 rfl rfl ?_
        refine z_cVi0 C 15 dX9_victimOf_15 cv_X9_234 (c_X9_canHave hR (by first | assumption | omega) (by first | assumption | omega) (by first | assumption | omega)) rfl ⟨by decide, rfl⟩ (by first | assumption | exact Nat.zero_lt_one | omega) rfl rfl (Nat.le_of_ble_eq_true rfl) ⟨by decide, by decide⟩ ⟨rfl, rfl⟩ ⟨by decide, by decide⟩ ?_
        intro r15 S15 L15 R15 p15
        obtain ⟨rfl, rfl, rfl, rfl⟩ := p15
        first | with_reducible refine z_if_eqB C 18 40 dX9_victimOf_18 (by decide) (fun h18 => ?_) (fun h18 => ?_) | with_reducible refine z_if_eqN C 18 40 dX9_victimOf_18 (by decide) (by omega) (fun h18 => ?_) (fun h18 => ?_) | refine z_if_eq C 18 40 dX9_victimOf_18 (by decide) (fun h18 => ?_) (fun h18 => ?_)
        · have hnx := (fVicF_f (T := S 41 0) (n := n) (fun z => h18 z.1)).trans hb
          refine z_iload_n C 40 2 2 dX9_victimOf_40 rfl rfl ?_
          refine z_istore_n C 41 2 [(2, _), (0, _), (1, _), (3, _)] dX9_victimOf_41 rfl (by decide) rfl ?_
          refine z_iinc C 42 3 3 [(3, _), (2, _), (0, _), (1, _)] dX9_victimOf_42 rfl (by first | exact nI_1 _ | rfl) (by decide) rfl ?_
          refine z_goto C 45 4 dX9_victimOf_45 (by decide) ?_
          refine z_sub [(0, _), (1, _), (2, _), (3, _)] [2, 3, 1, 0] rfl ?_
          exact ih4 (i + 1) _ (by omega) hnx (by omega)
        · refine z_iload_n C 21 2 2 dX9_victimOf_21 rfl rfl ?_
          refine z_iconst (v := (-1)) C 22 dX9_victimOf_22 (by decide) ?_
          first | with_reducible refine z_icmp_eqN C 23 36 dX9_victimOf_23 (by decide) (by omega) (by omega) (fun h23 => ?_) (fun h23 => ?_) | refine z_icmp_eq C 23 36 dX9_victimOf_23 (by decide) (fun h23 => ?_) (fun h23 => ?_)
          · obtain rfl := oI_none (fun o ho => by have := fVicF_lt (hb.trans ho); omega) h23
            have hnx := fVicF_t (T := S 41 0) (n := n) h18 (fun o ho => by rw [hb] at ho; cases ho)
            refine z_iload_n C 36 3 3 dX9_victimOf_36 rfl rfl ?_
            refine z_goto C 37 41 dX9_victimOf_37 (by decide) ?_
            refine z_istore_n C 41 2 [(2, _), (0, _), (1, _), (3, _)] dX9_victimOf_41 rfl (by decide) rfl ?_
            refine z_iinc C 42 3 3 [(3, _), (2, _), (0, _), (1, _)] dX9_victimOf_42 rfl (by first | exact nI_1 _ | rfl) (by decide) rfl ?_
            refine z_goto C 45 4 dX9_victimOf_45 (by decide) ?_
            refine z_sub [(0, _), (1, _), (2, _), (3, _)] [2, 3, 1, 0] rfl ?_
            exact ih4 (i + 1) _ (by omega) hnx (by omega)
          · obtain ⟨o, rfl⟩ := oI_some h23
            have ho := fVicF_lt hb
            refine z_aload_n C 26 0 0 dX9_victimOf_26 rfl rfl ?_
            refine z_iload_n C 27 3 3 dX9_victimOf_27 rfl rfl ?_
            refine z_iload_n C 28 2 2 dX9_victimOf_28 rfl rfl ?_
            refine z_iload_n C 29 1 1 dX9_victimOf_29 rfl rfl ?_
            refine z_cVi0 C 30 dX9_victimOf_30 cv_X9_237 (c_X9_comesAhead hR hn hn10 hI (by first | assumption | omega) (by first | assumption | omega) (by first | assumption | omega)) rfl ⟨by decide, rfl⟩ (by first | assumption | exact Nat.zero_lt_one | omega) rfl rfl (Nat.le_of_ble_eq_true rfl) ⟨by decide, by decide⟩ ⟨rfl, rfl⟩ ⟨by decide, by decide⟩ ?_
            intro r30 S30 L30 R30 p30
            obtain ⟨rfl, rfl, rfl, rfl⟩ := p30
            first | with_reducible refine z_if_eqB C 33 40 dX9_victimOf_33 (by decide) (fun h33 => ?_) (fun h33 => ?_) | with_reducible refine z_if_eqN C 33 40 dX9_victimOf_33 (by decide) (by omega) (fun h33 => ?_) (fun h33 => ?_) | refine z_if_eq C 33 40 dX9_victimOf_33 (by decide) (fun h33 => ?_) (fun h33 => ?_)
            · have hnx := (fVicF_f (T := S 41 0) (n := n) (fun z => h33 (z.2 o hb))).trans hb
              refine z_iload_n C 40 2 2 dX9_victimOf_40 rfl rfl ?_
              refine z_istore_n C 41 2 [(2, _), (0, _), (1, _), (3, _)] dX9_victimOf_41 rfl (by decide) rfl ?_
              refine z_iinc C 42 3 3 [(3, _), (2, _), (0, _), (1, _)] dX9_victimOf_42 rfl (by first | exact nI_1 _ | rfl) (by decide) rfl ?_
              refine z_goto C 45 4 dX9_victimOf_45 (by decide) ?_
              refine z_sub [(0, _), (1, _), (2, _), (3, _)] [2, 3, 1, 0] rfl ?_
              exact ih4 (i + 1) _ (by omega) hnx (by omega)
            · have hnx := fVicF_t (T := S 41 0) (n := n) h18 (fun o' ho' => by rw [hb] at ho'; cases ho'; exact h33)
              refine z_iload_n C 36 3 3 dX9_victimOf_36 rfl rfl ?_
              refine z_goto C 37 41 dX9_victimOf_37 (by decide) ?_
              refine z_istore_n C 41 2 [(2, _), (0, _), (1, _), (3, _)] dX9_victimOf_41 rfl (by decide) rfl ?_
              refine z_iinc C 42 3 3 [(3, _), (2, _), (0, _), (1, _)] dX9_victimOf_42 rfl (by first | exact nI_1 _ | rfl) (by decide) rfl ?_
              refine z_goto C 45 4 dX9_victimOf_45 (by decide) ?_
              refine z_sub [(0, _), (1, _), (2, _), (3, _)] [2, 3, 1, 0] rfl ?_
              exact ih4 (i + 1) _ (by omega) hnx (by omega)
  refine z_sub [(0, _), (1, _), (2, _), (3, _)] [2, 3, 1, 0] rfl ?_
  exact loop_4 (n + 1) 0 none (Nat.zero_le _) rfl (by omega)
def rm_X9_writes : Room := { frames := 0, cells := 0, slots := 0, locals := 0 }
set_option maxHeartbeats 4000000 in
set_option maxRecDepth 100000 in
theorem c_X9_writes {l : Launch} {G : mG} {ad : mA} {S : mS} {L : mL} {R : mR} {k p : Nat} (hR : mlk R) (hp : p < 10) (hk : k ≤ 9) : Kv l yX9_writes cX9_writes 5 rm_X9_writes G ad mdm [.ref (ad 40 0), .int (nI k), .int (nI p)] S L R (fun S2 L2 R2 => sA S 44 (fWr (S 44 0) k p) = S2 ∧ L = L2 ∧ R = R2) := by
  refine Kv.of RX9 (by decide) rfl (Nat.le_of_ble_eq_true rfl) ?_
  intro X hXl hXG C ret
  subst hXl; subst hXG
  change Z X 5 ad mdm S L R 0 0 0 [(0, _), (1, _), (2, _)] []
  rw [show S = sA S 44 (fSh (S 44 0) 23 0) by rw [fSh_0, sA_id]]
  refine z_bipush (v := nI 23) C 0 dX9_writes_0 (by decide +kernel) ?_
  refine z_istore_n C 2 3 [(3, _), (0, _), (1, _), (2, _)] dX9_writes_2 rfl (by decide) rfl ?_
  have loop_3 : ∀ (n_3 : Nat) (j : Nat), j ≤ 23 → j < n_3 → Z X 5 ad mdm (sA S 44 (fSh (S 44 0) j 0)) L R 0 0 3 [(0, .ref (ad 40 0)), (1, .int (nI k)), (2, .int (nI p)), (3, .int (nI j))] [] := by
    intro n_3
    induction n_3 with
    | zero => intro j hj hm3; exact absurd hm3 (Nat.not_lt_zero _)
    | succ n_3 ih3 =>
      intro j hj hm3
      refine z_iload_n C 3 3 3 dX9_writes_3 rfl rfl ?_
      first | with_reducible refine z_if_leN C 4 60 dX9_writes_4 (by decide) (by omega) (fun h4 => ?_) (fun h4 => ?_) | refine z_if_le C 4 60 dX9_writes_4 (by decide) (fun h4 => ?_) (fun h4 => ?_)
      · subst h4
        refine z_aload_n C 60 0 0 dX9_writes_60 rfl rfl ?_
        refine z_getr C 61 dX9_writes_61 gf_X9_20 rfl (by first | assumption | exact Nat.zero_lt_one | omega) (by first | exact hR _ _ _ _ rfl | assumption) ?_
        refine z_sipush (v := nI 306) C 64 dX9_writes_64 (by decide +kernel) ?_
        refine z_iload_n C 67 1 1 dX9_writes_67 rfl rfl ?_
        refine z_iast C 68 dX9_writes_68 rfl (by first | assumption | exact Nat.zero_lt_one | omega)  (by first | rfl | assumption) (by decide) (by first | assumption | omega) ?_
        refine z_aload_n C 69 0 0 dX9_writes_69 rfl rfl ?_
        refine z_getr C 70 dX9_writes_70 gf_X9_20 rfl (by first | assumption | exact Nat.zero_lt_one | omega) (by first | exact hR _ _ _ _ rfl | assumption) ?_
        refine z_sipush (v := nI 307) C 73 dX9_writes_73 (by decide +kernel) ?_
        refine z_iload_n C 76 2 2 dX9_writes_76 rfl rfl ?_
        refine z_iast C 77 dX9_writes_77 rfl (by first | assumption | exact Nat.zero_lt_one | omega)  (by first | rfl | assumption) (by decide) (by first | assumption | omega) ?_
        refine z_aload_n C 78 0 0 dX9_writes_78 rfl rfl ?_
        refine z_getr C 79 dX9_writes_79 gf_X9_20 rfl (by first | assumption | exact Nat.zero_lt_one | omega) (by first | exact hR _ _ _ _ rfl | assumption) ?_
        refine z_sipush (v := nI 308) C 82 dX9_writes_82 (by decide +kernel) ?_
        refine z_aload_n C 85 0 0 dX9_writes_85 rfl rfl ?_
        refine z_getr C 86 dX9_writes_86 gf_X9_20 rfl (by first | assumption | exact Nat.zero_lt_one | omega) (by first | exact hR _ _ _ _ rfl | assumption) ?_
        refine z_iconst (v := nI 1) C 89 dX9_writes_89 (by decide) ?_
        refine z_iald C 90 dX9_writes_90 rfl (by first | assumption | exact Nat.zero_lt_one | omega) (by first | rfl | assumption) (by decide) (by first | assumption | omega) ?_
        refine z_iast C 91 dX9_writes_91 rfl (by first | assumption | exact Nat.zero_lt_one | omega)  (by first | rfl | assumption) (by decide) (by first | assumption | omega) ?_
        refine z_aload_n C 92 0 0 dX9_writes_92 rfl rfl ?_
        refine z_getr C 93 dX9_writes_93 gf_X9_20 rfl (by first | assumption | exact Nat.zero_lt_one | omega) (by first | exact hR _ _ _ _ rfl | assumption) ?_
        refine z_iconst (v := nI 5) C 96 dX9_writes_96 (by decide) ?_
        refine z_dup2 C 97 dX9_writes_97 rfl rfl ?_
        refine z_iald C 98 dX9_writes_98 rfl (by first | assumption | exact Nat.zero_lt_one | omega) (by first | rfl | assumption) (by decide) (by first | assumption | omega) ?_
        refine z_aload_n C 99 0 0 dX9_writes_99 rfl rfl ?_
        refine z_getr C 100 dX9_writes_100 gf_X9_20 rfl (by first | assumption | exact Nat.zero_lt_one | omega) (by first | exact hR _ _ _ _ rfl | assumption) ?_
        refine z_iconst (v := nI 5) C 103 dX9_writes_103 (by decide) ?_
        refine z_iald C 104 dX9_writes_104 rfl (by first | assumption | exact Nat.zero_lt_one | omega) (by first | rfl | assumption) (by decide) (by first | assumption | omega) ?_
        refine z_bipush (v := nI 24) C 105 dX9_writes_105 (by decide +kernel) ?_
        first | with_reducible refine z_icmp_geN C 107 114 dX9_writes_107 (by decide) (by omega) (by omega) (fun h107 => ?_) (fun h107 => ?_) | refine z_icmp_ge C 107 114 dX9_writes_107 (by decide) (fun h107 => ?_) (fun h107 => ?_)
        · have h107' := h107
          simp only [sA_up, sA_sA, sA_s, wr_e5] at h107'
          refine z_iconst (v := nI 0) C 114 dX9_writes_114 (by decide) ?_
          first | with_reducible refine z_iaddN C 115 dX9_writes_115 ?_ | refine z_iadd C 115 dX9_writes_115 ?_
          refine z_iast C 116 dX9_writes_116 rfl (by first | assumption | exact Nat.zero_lt_one | omega)  (by first | rfl | assumption) (by decide) (by first | assumption | omega) ?_
          refine z_aload_n C 117 0 0 dX9_writes_117 rfl rfl ?_
          refine z_getr C 118 dX9_writes_118 gf_X9_20 rfl (by first | assumption | exact Nat.zero_lt_one | omega) (by first | exact hR _ _ _ _ rfl | assumption) ?_
          refine z_sipush (v := nI 378) C 121 dX9_writes_121 (by decide +kernel) ?_
          refine z_iload_n C 124 1 1 dX9_writes_124 rfl rfl ?_
          first | with_reducible refine z_iaddN C 125 dX9_writes_125 ?_ | refine z_iadd C 125 dX9_writes_125 ?_
          refine z_dup2 C 126 dX9_writes_126 rfl rfl ?_
          refine z_iald C 127 dX9_writes_127 rfl (by first | assumption | exact Nat.zero_lt_one | omega) (by first | rfl | assumption) (by decide) (by first | assumption | omega) ?_
          refine z_iconst (v := nI 1) C 128 dX9_writes_128 (by decide) ?_
          first | with_reducible refine z_iaddN C 129 dX9_writes_129 ?_ | refine z_iadd C 129 dX9_writes_129 ?_
          refine z_iast C 130 dX9_writes_130 rfl (by first | assumption | exact Nat.zero_lt_one | omega)  (by first | rfl | assumption) (by decide) (by first | assumption | omega) ?_
          exact ret 131 _ _ _ _ dX9_writes_131 (⟨(by simp only [sA_up, sA_sA, sA_s, wr_e1, wr_e5, wr_e8]; rw [wr_fin _ k p hk _ (by first | exact (if_neg (Int32.not_lt.mpr h107')).symm | exact (if_pos (Int32.not_le.mp h107')).symm)]), rfl, rfl⟩)
        · have h107' := h107
          simp only [sA_up, sA_sA, sA_s, wr_e5] at h107'
          refine z_iconst (v := nI 1) C 110 dX9_writes_110 (by decide) ?_
          refine z_goto C 111 115 dX9_writes_111 (by decide) ?_
          first | with_reducible refine z_iaddN C 115 dX9_writes_115 ?_ | refine z_iadd C 115 dX9_writes_115 ?_
          refine z_iast C 116 dX9_writes_116 rfl (by first | assumption | exact Nat.zero_lt_one | omega)  (by first | rfl | assumption) (by decide) (by first | assumption | omega) ?_
          refine z_aload_n C 117 0 0 dX9_writes_117 rfl rfl ?_
          refine z_getr C 118 dX9_writes_118 gf_X9_20 rfl (by first | assumption | exact Nat.zero_lt_one | omega) (by first | exact hR _ _ _ _ rfl | assumption) ?_
          refine z_sipush (v := nI 378) C 121 dX9_writes_121 (by decide +kernel) ?_
          refine z_iload_n C 124 1 1 dX9_writes_124 rfl rfl ?_
          first | with_reducible refine z_iaddN C 125 dX9_writes_125 ?_ | refine z_iadd C 125 dX9_writes_125 ?_
          refine z_dup2 C 126 dX9_writes_126 rfl rfl ?_
          refine z_iald C 127 dX9_writes_127 rfl (by first | assumption | exact Nat.zero_lt_one | omega) (by first | rfl | assumption) (by decide) (by first | assumption | omega) ?_
          refine z_iconst (v := nI 1) C 128 dX9_writes_128 (by decide) ?_
          first | with_reducible refine z_iaddN C 129 dX9_writes_129 ?_ | refine z_iadd C 129 dX9_writes_129 ?_
          refine z_iast C 130 dX9_writes_130 rfl (by first | assumption | exact Nat.zero_lt_one | omega)  (by first | rfl | assumption) (by decide) (by first | assumption | omega) ?_
          exact ret 131 _ _ _ _ dX9_writes_131 (⟨(by simp only [sA_up, sA_sA, sA_s, wr_e1, wr_e5, wr_e8]; rw [wr_fin _ k p hk _ (by first | exact (if_neg (Int32.not_lt.mpr h107')).symm | exact (if_pos (Int32.not_le.mp h107')).symm)]), rfl, rfl⟩)
      · obtain ⟨j', rfl⟩ : ∃ j', j = j' + 1 := ⟨j - 1, by omega⟩
        refine z_iconst (v := nI 0) C 7 dX9_writes_7 (by decide) ?_
        refine z_istore C 8 4 [(4, _), (0, _), (1, _), (2, _), (3, _)] dX9_writes_8 (by decide) rfl ?_
        have loop_10 : ∀ (n_10 : Nat) (i : Nat), i ≤ 3 → 3 - i < n_10 → Z X 5 ad mdm (sA S 44 (fSh (S 44 0) (j' + 1) i)) L R 0 0 10 [(0, .ref (ad 40 0)), (1, .int (nI k)), (2, .int (nI p)), (3, .int (nI (j' + 1))), (4, .int (nI i))] [] := by
          intro n_10
          induction n_10 with
          | zero => intro i hi hm10; exact absurd hm10 (Nat.not_lt_zero _)
          | succ n_10 ih10 =>
            intro i hi hm10
            refine z_iload C 10 4 4 dX9_writes_10 rfl ?_
            refine z_iconst (v := nI 3) C 12 dX9_writes_12 (by decide) ?_
            first | with_reducible refine z_icmp_geN C 13 54 dX9_writes_13 (by decide) (by omega) (by omega) (fun h13 => ?_) (fun h13 => ?_) | refine z_icmp_ge C 13 54 dX9_writes_13 (by decide) (fun h13 => ?_) (fun h13 => ?_)
            · obtain rfl : i = 3 := by omega
              refine z_iinc C 54 3 3 [(3, _), (0, _), (1, _), (2, _), (4, _)] dX9_writes_54 rfl (by exact pk_m1 _) (by decide) rfl ?_
              refine z_goto C 57 3 dX9_writes_57 (by decide) ?_
              refine z_sub [(0, _), (1, _), (2, _), (3, _)] [1, 2, 3, 0] rfl ?_
              rw [fSh_3 _ (by omega)]
              exact ih3 j' (by omega) (by omega)
            · refine z_aload_n C 16 0 0 dX9_writes_16 rfl rfl ?_
              refine z_getr C 17 dX9_writes_17 gf_X9_20 rfl (by first | assumption | exact Nat.zero_lt_one | omega) (by first | exact hR _ _ _ _ rfl | assumption) ?_
              refine z_sipush (v := nI 306) C 20 dX9_writes_20 (by decide +kernel) ?_
              refine z_iconst (v := nI 3) C 23 dX9_writes_23 (by decide) ?_
              refine z_iload_n C 24 3 3 dX9_writes_24 rfl rfl ?_
              first | with_reducible refine z_imulN C 25 dX9_writes_25 ?_ | refine z_imul C 25 dX9_writes_25 ?_
              first | with_reducible refine z_iaddN C 26 dX9_writes_26 ?_ | refine z_iadd C 26 dX9_writes_26 ?_
              refine z_iload C 27 4 4 dX9_writes_27 rfl ?_
              first | with_reducible refine z_iaddN C 29 dX9_writes_29 ?_ | refine z_iadd C 29 dX9_writes_29 ?_
              refine z_aload_n C 30 0 0 dX9_writes_30 rfl rfl ?_
              refine z_getr C 31 dX9_writes_31 gf_X9_20 rfl (by first | assumption | exact Nat.zero_lt_one | omega) (by first | exact hR _ _ _ _ rfl | assumption) ?_
              refine z_sipush (v := nI 306) C 34 dX9_writes_34 (by decide +kernel) ?_
              refine z_iconst (v := nI 3) C 37 dX9_writes_37 (by decide) ?_
              refine z_iload_n C 38 3 3 dX9_writes_38 rfl rfl ?_
              first | with_reducible refine z_imulN C 39 dX9_writes_39 ?_ | refine z_imul C 39 dX9_writes_39 ?_
              first | with_reducible refine z_iaddN C 40 dX9_writes_40 ?_ | refine z_iadd C 40 dX9_writes_40 ?_
              refine z_iconst (v := nI 3) C 41 dX9_writes_41 (by decide) ?_
              first | with_reducible refine z_isubN C 42 dX9_writes_42 (by omega) ?_ | refine z_isub C 42 dX9_writes_42 ?_
              refine z_iload C 43 4 4 dX9_writes_43 rfl ?_
              first | with_reducible refine z_iaddN C 45 dX9_writes_45 ?_ | refine z_iadd C 45 dX9_writes_45 ?_
              refine z_iald C 46 dX9_writes_46 rfl (by first | assumption | exact Nat.zero_lt_one | omega) (by first | rfl | assumption) (by decide) (by first | assumption | omega) ?_
              refine z_iast C 47 dX9_writes_47 rfl (by first | assumption | exact Nat.zero_lt_one | omega)  (by first | rfl | assumption) (by decide) (by first | assumption | omega) ?_
              rw [sA_up, sA_sA, show upd (sA S 44 (fSh (S 44 0) (j' + 1) i) 44 0) (306 + 3 * (j' + 1) + i) (sA S 44 (fSh (S 44 0) (j' + 1) i) 44 0 (306 + 3 * (j' + 1) - 3 + i)) = fSh (S 44 0) (j' + 1) (i + 1) by rw [sA_s]; exact fSh_up _ (by omega) (by omega)]
              refine z_iinc C 48 4 4 [(4, _), (0, _), (1, _), (2, _), (3, _)] dX9_writes_48 rfl (by first | exact nI_1 _ | rfl) (by decide) rfl ?_
              refine z_goto C 51 10 dX9_writes_51 (by decide) ?_
              refine z_sub [(0, _), (1, _), (2, _), (3, _), (4, _)] [1, 2, 3, 4, 0] rfl ?_
              exact ih10 (i + 1) (by omega) (by omega)
        refine z_sub [(0, _), (1, _), (2, _), (3, _), (4, _)] [1, 2, 3, 4, 0] rfl ?_
        exact loop_10 4 0 (by omega) (by omega)
  refine z_sub [(0, _), (1, _), (2, _), (3, _)] [1, 2, 3, 0] rfl ?_
  exact loop_3 24 23 (by omega) (by omega)
def rm_X9_empties : Room := { frames := 1, cells := 0, slots := 0, locals := 23 }
set_option maxHeartbeats 4000000 in
set_option maxRecDepth 100000 in
theorem c_X9_empties {l : Launch} {G : mG} {ad : mA} {S : mS} {L : mL} {R : mR} {p : Nat} (hR : mlk R) (hp : p < 10) : Kv l yX9_empties cX9_empties 2 rm_X9_empties G ad mdm [.ref (ad 40 0), .int (nI p)] S L R (fun S2 L2 R2 => sA S 44 (fEmpty (S 44 0) p) = S2 ∧ L = L2 ∧ R = R2) := by
  refine Kv.of RX9 (by decide) rfl (Nat.le_of_ble_eq_true rfl) ?_
  intro X hXl hXG C ret
  subst hXl; subst hXG
  change Z X 2 ad mdm S L R 0 0 0 [(0, _), (1, _)] []
  refine z_aload_n C 0 0 0 dX9_empties_0 rfl rfl ?_
  refine z_iload_n C 1 1 1 dX9_empties_1 rfl rfl ?_
  refine z_iconst (v := nI 0) C 2 dX9_empties_2 (by decide) ?_
  refine z_iconst (v := nI 0) C 3 dX9_empties_3 (by decide) ?_
  refine z_cVv0 C 4 dX9_empties_4 cv_X9_240 (c_X9_sets hR (by first | assumption | omega) (by omega)) rfl ⟨by decide, rfl⟩ (by first | assumption | exact Nat.zero_lt_one | omega) rfl rfl (Nat.le_of_ble_eq_true rfl) ⟨by decide, by decide⟩ ⟨rfl, rfl⟩ ⟨by decide, by decide⟩ ?_
  intro S4 L4 R4 p4
  obtain ⟨rfl, rfl, rfl⟩ := p4
  refine z_aload_n C 7 0 0 dX9_empties_7 rfl rfl ?_
  refine z_iload_n C 8 1 1 dX9_empties_8 rfl rfl ?_
  refine z_iconst (v := nI 1) C 9 dX9_empties_9 (by decide) ?_
  refine z_iconst (v := nI 0) C 10 dX9_empties_10 (by decide) ?_
  refine z_cVv0 C 11 dX9_empties_11 cv_X9_240 (c_X9_sets hR (by first | assumption | omega) (by omega)) rfl ⟨by decide, rfl⟩ (by first | assumption | exact Nat.zero_lt_one | omega) rfl rfl (Nat.le_of_ble_eq_true rfl) ⟨by decide, by decide⟩ ⟨rfl, rfl⟩ ⟨by decide, by decide⟩ ?_
  intro S11 L11 R11 p11
  obtain ⟨rfl, rfl, rfl⟩ := p11
  refine z_aload_n C 14 0 0 dX9_empties_14 rfl rfl ?_
  refine z_iload_n C 15 1 1 dX9_empties_15 rfl rfl ?_
  refine z_iconst (v := nI 2) C 16 dX9_empties_16 (by decide) ?_
  refine z_iconst (v := nI 0) C 17 dX9_empties_17 (by decide) ?_
  refine z_cVv0 C 18 dX9_empties_18 cv_X9_240 (c_X9_sets hR (by first | assumption | omega) (by omega)) rfl ⟨by decide, rfl⟩ (by first | assumption | exact Nat.zero_lt_one | omega) rfl rfl (Nat.le_of_ble_eq_true rfl) ⟨by decide, by decide⟩ ⟨rfl, rfl⟩ ⟨by decide, by decide⟩ ?_
  intro S18 L18 R18 p18
  obtain ⟨rfl, rfl, rfl⟩ := p18
  refine z_aload_n C 21 0 0 dX9_empties_21 rfl rfl ?_
  refine z_iload_n C 22 1 1 dX9_empties_22 rfl rfl ?_
  refine z_iconst (v := nI 3) C 23 dX9_empties_23 (by decide) ?_
  refine z_iconst (v := nI 0) C 24 dX9_empties_24 (by decide) ?_
  refine z_cVv0 C 25 dX9_empties_25 cv_X9_240 (c_X9_sets hR (by first | assumption | omega) (by omega)) rfl ⟨by decide, rfl⟩ (by first | assumption | exact Nat.zero_lt_one | omega) rfl rfl (Nat.le_of_ble_eq_true rfl) ⟨by decide, by decide⟩ ⟨rfl, rfl⟩ ⟨by decide, by decide⟩ ?_
  intro S25 L25 R25 p25
  obtain ⟨rfl, rfl, rfl⟩ := p25
  refine z_aload_n C 28 0 0 dX9_empties_28 rfl rfl ?_
  refine z_iload_n C 29 1 1 dX9_empties_29 rfl rfl ?_
  refine z_bipush (v := nI 15) C 30 dX9_empties_30 (by decide +kernel) ?_
  refine z_iconst (v := nI 0) C 32 dX9_empties_32 (by decide) ?_
  refine z_cVv0 C 33 dX9_empties_33 cv_X9_240 (c_X9_sets hR (by first | assumption | omega) (by omega)) rfl ⟨by decide, rfl⟩ (by first | assumption | exact Nat.zero_lt_one | omega) rfl rfl (Nat.le_of_ble_eq_true rfl) ⟨by decide, by decide⟩ ⟨rfl, rfl⟩ ⟨by decide, by decide⟩ ?_
  intro S33 L33 R33 p33
  obtain ⟨rfl, rfl, rfl⟩ := p33
  exact ret 36 _ _ _ _ dX9_empties_36 (⟨(by simp only [sA_sA, sA_s]; rfl), rfl, rfl⟩)
def rm_X9_rests : Room := { frames := 1, cells := 0, slots := 0, locals := 23 }
set_option maxHeartbeats 4000000 in
set_option maxRecDepth 100000 in
theorem c_X9_rests {l : Launch} {G : mG} {ad : mA} {S : mS} {L : mL} {R : mR} {p : Nat} (hR : mlk R) (hp : p < 10) : Kv l yX9_rests cX9_rests 2 rm_X9_rests G ad mdm [.ref (ad 40 0), .int (nI p)] S L R (fun S2 L2 R2 => sA S 44 (fRest (S 44 0) p) = S2 ∧ L = L2 ∧ R = R2) := by
  refine Kv.of RX9 (by decide) rfl (Nat.le_of_ble_eq_true rfl) ?_
  intro X hXl hXG C ret
  subst hXl; subst hXG
  change Z X 2 ad mdm S L R 0 0 0 [(0, _), (1, _)] []
  refine z_aload_n C 0 0 0 dX9_rests_0 rfl rfl ?_
  refine z_iload_n C 1 1 1 dX9_rests_1 rfl rfl ?_
  refine z_iconst (v := nI 0) C 2 dX9_rests_2 (by decide) ?_
  refine z_iconst (v := nI 2) C 3 dX9_rests_3 (by decide) ?_
  refine z_cVv0 C 4 dX9_rests_4 cv_X9_240 (c_X9_sets hR (by first | assumption | omega) (by omega)) rfl ⟨by decide, rfl⟩ (by first | assumption | exact Nat.zero_lt_one | omega) rfl rfl (Nat.le_of_ble_eq_true rfl) ⟨by decide, by decide⟩ ⟨rfl, rfl⟩ ⟨by decide, by decide⟩ ?_
  intro S4 L4 R4 p4
  obtain ⟨rfl, rfl, rfl⟩ := p4
  refine z_aload_n C 7 0 0 dX9_rests_7 rfl rfl ?_
  refine z_iload_n C 8 1 1 dX9_rests_8 rfl rfl ?_
  refine z_bipush (v := nI 7) C 9 dX9_rests_9 (by decide +kernel) ?_
  refine z_aload_n C 11 0 0 dX9_rests_11 rfl rfl ?_
  refine z_getr C 12 dX9_rests_12 gf_X9_20 rfl (by first | assumption | exact Nat.zero_lt_one | omega) (by first | exact hR _ _ _ _ rfl | assumption) ?_
  refine z_iconst (v := nI 1) C 15 dX9_rests_15 (by decide) ?_
  refine z_iald C 16 dX9_rests_16 rfl (by first | assumption | exact Nat.zero_lt_one | omega) (by first | rfl | assumption) (by decide) (by first | assumption | omega) ?_
  refine z_cVv0 C 17 dX9_rests_17 cv_X9_240 (c_X9_sets hR (by first | assumption | omega) (by omega)) rfl ⟨by decide, rfl⟩ (by first | assumption | exact Nat.zero_lt_one | omega) rfl rfl (Nat.le_of_ble_eq_true rfl) ⟨by decide, by decide⟩ ⟨rfl, rfl⟩ ⟨by decide, by decide⟩ ?_
  intro S17 L17 R17 p17
  obtain ⟨rfl, rfl, rfl⟩ := p17
  refine z_aload_n C 20 0 0 dX9_rests_20 rfl rfl ?_
  refine z_iload_n C 21 1 1 dX9_rests_21 rfl rfl ?_
  refine z_bipush (v := nI 8) C 22 dX9_rests_22 (by decide +kernel) ?_
  refine z_aload_n C 24 0 0 dX9_rests_24 rfl rfl ?_
  refine z_getr C 25 dX9_rests_25 gf_X9_20 rfl (by first | assumption | exact Nat.zero_lt_one | omega) (by first | exact hR _ _ _ _ rfl | assumption) ?_
  refine z_iconst (v := nI 1) C 28 dX9_rests_28 (by decide) ?_
  refine z_iald C 29 dX9_rests_29 rfl (by first | assumption | exact Nat.zero_lt_one | omega) (by first | rfl | assumption) (by decide) (by first | assumption | omega) ?_
  refine z_cVv0 C 30 dX9_rests_30 cv_X9_240 (c_X9_sets hR (by first | assumption | omega) (by omega)) rfl ⟨by decide, rfl⟩ (by first | assumption | exact Nat.zero_lt_one | omega) rfl rfl (Nat.le_of_ble_eq_true rfl) ⟨by decide, by decide⟩ ⟨rfl, rfl⟩ ⟨by decide, by decide⟩ ?_
  intro S30 L30 R30 p30
  obtain ⟨rfl, rfl, rfl⟩ := p30
  exact ret 33 _ _ _ _ dX9_rests_33 (⟨(by simp only [sA_sA, sA_s]; unfold fRest; rw [fset_lo (fset _ _ _ _) (by omega), fset_lo _ (by omega)]), rfl, rfl⟩)
def rm_X9_steps : Room := { frames := 2, cells := 0, slots := 0, locals := 44 }
set_option maxHeartbeats 4000000 in
set_option maxRecDepth 100000 in
theorem c_X9_steps {l : Launch} {G : mG} {ad : mA} {S : mS} {L : mL} {R : mR} {p k : Nat} (hR : mlk R) (hp : p < 10) (hk : 1 ≤ k) (hk6 : k ≤ 6) : Kv l yX9_steps cX9_steps 3 rm_X9_steps G ad mdm [.ref (ad 40 0), .int (nI p), .int (nI k)] S L R (fun S2 L2 R2 => sA S 44 (fStep (S 44 0) p k) = S2 ∧ L = L2 ∧ R = R2) := by
  refine Kv.of RX9 (by decide) rfl (Nat.le_of_ble_eq_true rfl) ?_
  intro X hXl hXG C ret
  subst hXl; subst hXG
  change Z X 3 ad mdm S L R 0 0 0 [(0, _), (1, _), (2, _)] []
  refine z_iload_n C 0 2 2 dX9_steps_0 rfl rfl ?_
  refine z_iconst (v := nI 5) C 1 dX9_steps_1 (by decide) ?_
  first | with_reducible refine z_icmp_neN C 2 13 dX9_steps_2 (by decide) (by omega) (by omega) (fun h2 => ?_) (fun h2 => ?_) | refine z_icmp_ne C 2 13 dX9_steps_2 (by decide) (fun h2 => ?_) (fun h2 => ?_)
  · refine z_iload_n C 13 2 2 dX9_steps_13 rfl rfl ?_
    refine z_iconst (v := nI 3) C 14 dX9_steps_14 (by decide) ?_
    first | with_reducible refine z_icmp_neN C 15 28 dX9_steps_15 (by decide) (by omega) (by omega) (fun h15 => ?_) (fun h15 => ?_) | refine z_icmp_ne C 15 28 dX9_steps_15 (by decide) (fun h15 => ?_) (fun h15 => ?_)
    · refine z_aload_n C 28 0 0 dX9_steps_28 rfl rfl ?_
      refine z_iload_n C 29 1 1 dX9_steps_29 rfl rfl ?_
      refine z_iconst (v := nI 2) C 30 dX9_steps_30 (by decide) ?_
      refine z_iconst (v := nI 0) C 31 dX9_steps_31 (by decide) ?_
      refine z_cVv0 C 32 dX9_steps_32 cv_X9_240 (c_X9_sets hR (by first | assumption | omega) (by omega)) rfl ⟨by decide, rfl⟩ (by first | assumption | exact Nat.zero_lt_one | omega) rfl rfl (Nat.le_of_ble_eq_true rfl) ⟨by decide, by decide⟩ ⟨rfl, rfl⟩ ⟨by decide, by decide⟩ ?_
      intro S32 L32 R32 p32
      obtain ⟨rfl, rfl, rfl⟩ := p32
      refine z_aload_n C 35 0 0 dX9_steps_35 rfl rfl ?_
      refine z_iload_n C 36 1 1 dX9_steps_36 rfl rfl ?_
      refine z_iconst (v := nI 0) C 37 dX9_steps_37 (by decide) ?_
      refine z_iload_n C 38 2 2 dX9_steps_38 rfl rfl ?_
      refine z_iconst (v := nI 2) C 39 dX9_steps_39 (by decide) ?_
      first | with_reducible refine z_icmp_neN C 40 47 dX9_steps_40 (by decide) (by omega) (by omega) (fun h40 => ?_) (fun h40 => ?_) | refine z_icmp_ne C 40 47 dX9_steps_40 (by decide) (fun h40 => ?_) (fun h40 => ?_)
      · refine z_iload_n C 47 2 2 dX9_steps_47 rfl rfl ?_
        refine z_iconst (v := nI 4) C 48 dX9_steps_48 (by decide) ?_
        first | with_reducible refine z_icmp_neN C 49 56 dX9_steps_49 (by decide) (by omega) (by omega) (fun h49 => ?_) (fun h49 => ?_) | refine z_icmp_ne C 49 56 dX9_steps_49 (by decide) (fun h49 => ?_) (fun h49 => ?_)
        · refine z_aload_n C 56 0 0 dX9_steps_56 rfl rfl ?_
          refine z_iload_n C 57 1 1 dX9_steps_57 rfl rfl ?_
          refine z_iconst (v := nI 0) C 58 dX9_steps_58 (by decide) ?_
          refine z_cVi0 C 59 dX9_steps_59 cv_X9_203 (c_X9_of hR (by first | assumption | omega) (by omega)) rfl ⟨by decide, rfl⟩ (by first | assumption | exact Nat.zero_lt_one | omega) rfl rfl (Nat.le_of_ble_eq_true rfl) ⟨by decide, by decide⟩ ⟨rfl, rfl⟩ ⟨by decide, by decide⟩ ?_
          intro r59 S59 L59 R59 p59
          obtain ⟨rfl, rfl, rfl, rfl⟩ := p59
          refine z_cVv0 C 62 dX9_steps_62 cv_X9_240 (c_X9_sets hR (by first | assumption | omega) (by omega)) rfl ⟨by decide, rfl⟩ (by first | assumption | exact Nat.zero_lt_one | omega) rfl rfl (Nat.le_of_ble_eq_true rfl) ⟨by decide, by decide⟩ ⟨rfl, rfl⟩ ⟨by decide, by decide⟩ ?_
          intro S62 L62 R62 p62
          obtain ⟨rfl, rfl, rfl⟩ := p62
          refine z_aload_n C 65 0 0 dX9_steps_65 rfl rfl ?_
          refine z_iload_n C 66 1 1 dX9_steps_66 rfl rfl ?_
          refine z_iconst (v := nI 1) C 67 dX9_steps_67 (by decide) ?_
          refine z_iload_n C 68 2 2 dX9_steps_68 rfl rfl ?_
          refine z_iconst (v := nI 4) C 69 dX9_steps_69 (by decide) ?_
          first | with_reducible refine z_icmp_neN C 70 77 dX9_steps_70 (by decide) (by omega) (by omega) (fun h70 => ?_) (fun h70 => ?_) | refine z_icmp_ne C 70 77 dX9_steps_70 (by decide) (fun h70 => ?_) (fun h70 => ?_)
          · refine z_aload_n C 77 0 0 dX9_steps_77 rfl rfl ?_
            refine z_iload_n C 78 1 1 dX9_steps_78 rfl rfl ?_
            refine z_iconst (v := nI 1) C 79 dX9_steps_79 (by decide) ?_
            refine z_cVi0 C 80 dX9_steps_80 cv_X9_203 (c_X9_of hR (by first | assumption | omega) (by omega)) rfl ⟨by decide, rfl⟩ (by first | assumption | exact Nat.zero_lt_one | omega) rfl rfl (Nat.le_of_ble_eq_true rfl) ⟨by decide, by decide⟩ ⟨rfl, rfl⟩ ⟨by decide, by decide⟩ ?_
            intro r80 S80 L80 R80 p80
            obtain ⟨rfl, rfl, rfl, rfl⟩ := p80
            refine z_cVv0 C 83 dX9_steps_83 cv_X9_240 (c_X9_sets hR (by first | assumption | omega) (by omega)) rfl ⟨by decide, rfl⟩ (by first | assumption | exact Nat.zero_lt_one | omega) rfl rfl (Nat.le_of_ble_eq_true rfl) ⟨by decide, by decide⟩ ⟨rfl, rfl⟩ ⟨by decide, by decide⟩ ?_
            intro S83 L83 R83 p83
            obtain ⟨rfl, rfl, rfl⟩ := p83
            refine z_aload_n C 86 0 0 dX9_steps_86 rfl rfl ?_
            refine z_iload_n C 87 2 2 dX9_steps_87 rfl rfl ?_
            refine z_iload_n C 88 1 1 dX9_steps_88 rfl rfl ?_
            refine z_cVv0 C 89 dX9_steps_89 cv_X9_247 (c_X9_writes hR (by first | assumption | omega) (by first | assumption | omega)) rfl ⟨by decide, rfl⟩ (by first | assumption | exact Nat.zero_lt_one | omega) rfl rfl (Nat.le_of_ble_eq_true rfl) ⟨by decide, by decide⟩ ⟨rfl, rfl⟩ ⟨by decide, by decide⟩ ?_
            intro S89 L89 R89 p89
            obtain ⟨rfl, rfl, rfl⟩ := p89
            exact ret 92 _ _ _ _ dX9_steps_92 (⟨(by first | (exfalso; omega) | (simp only [sA_sA, sA_s]; unfold fStep fStep0; simp [*, fo_set_w, nI_0])), rfl, rfl⟩)
          · refine z_iconst (v := nI 0) C 73 dX9_steps_73 (by decide) ?_
            refine z_goto C 74 83 dX9_steps_74 (by decide) ?_
            refine z_cVv0 C 83 dX9_steps_83 cv_X9_240 (c_X9_sets hR (by first | assumption | omega) (by omega)) rfl ⟨by decide, rfl⟩ (by first | assumption | exact Nat.zero_lt_one | omega) rfl rfl (Nat.le_of_ble_eq_true rfl) ⟨by decide, by decide⟩ ⟨rfl, rfl⟩ ⟨by decide, by decide⟩ ?_
            intro S83 L83 R83 p83
            obtain ⟨rfl, rfl, rfl⟩ := p83
            refine z_aload_n C 86 0 0 dX9_steps_86 rfl rfl ?_
            refine z_iload_n C 87 2 2 dX9_steps_87 rfl rfl ?_
            refine z_iload_n C 88 1 1 dX9_steps_88 rfl rfl ?_
            refine z_cVv0 C 89 dX9_steps_89 cv_X9_247 (c_X9_writes hR (by first | assumption | omega) (by first | assumption | omega)) rfl ⟨by decide, rfl⟩ (by first | assumption | exact Nat.zero_lt_one | omega) rfl rfl (Nat.le_of_ble_eq_true rfl) ⟨by decide, by decide⟩ ⟨rfl, rfl⟩ ⟨by decide, by decide⟩ ?_
            intro S89 L89 R89 p89
            obtain ⟨rfl, rfl, rfl⟩ := p89
            exact ret 92 _ _ _ _ dX9_steps_92 (⟨(by first | (exfalso; omega) | (simp only [sA_sA, sA_s]; unfold fStep fStep0; simp [*, fo_set_w, nI_0])), rfl, rfl⟩)
        · refine z_iconst (v := nI 5) C 52 dX9_steps_52 (by decide) ?_
          refine z_goto C 53 62 dX9_steps_53 (by decide) ?_
          refine z_cVv0 C 62 dX9_steps_62 cv_X9_240 (c_X9_sets hR (by first | assumption | omega) (by omega)) rfl ⟨by decide, rfl⟩ (by first | assumption | exact Nat.zero_lt_one | omega) rfl rfl (Nat.le_of_ble_eq_true rfl) ⟨by decide, by decide⟩ ⟨rfl, rfl⟩ ⟨by decide, by decide⟩ ?_
          intro S62 L62 R62 p62
          obtain ⟨rfl, rfl, rfl⟩ := p62
          refine z_aload_n C 65 0 0 dX9_steps_65 rfl rfl ?_
          refine z_iload_n C 66 1 1 dX9_steps_66 rfl rfl ?_
          refine z_iconst (v := nI 1) C 67 dX9_steps_67 (by decide) ?_
          refine z_iload_n C 68 2 2 dX9_steps_68 rfl rfl ?_
          refine z_iconst (v := nI 4) C 69 dX9_steps_69 (by decide) ?_
          first | with_reducible refine z_icmp_neN C 70 77 dX9_steps_70 (by decide) (by omega) (by omega) (fun h70 => ?_) (fun h70 => ?_) | refine z_icmp_ne C 70 77 dX9_steps_70 (by decide) (fun h70 => ?_) (fun h70 => ?_)
          · refine z_aload_n C 77 0 0 dX9_steps_77 rfl rfl ?_
            refine z_iload_n C 78 1 1 dX9_steps_78 rfl rfl ?_
            refine z_iconst (v := nI 1) C 79 dX9_steps_79 (by decide) ?_
            refine z_cVi0 C 80 dX9_steps_80 cv_X9_203 (c_X9_of hR (by first | assumption | omega) (by omega)) rfl ⟨by decide, rfl⟩ (by first | assumption | exact Nat.zero_lt_one | omega) rfl rfl (Nat.le_of_ble_eq_true rfl) ⟨by decide, by decide⟩ ⟨rfl, rfl⟩ ⟨by decide, by decide⟩ ?_
            intro r80 S80 L80 R80 p80
            obtain ⟨rfl, rfl, rfl, rfl⟩ := p80
            refine z_cVv0 C 83 dX9_steps_83 cv_X9_240 (c_X9_sets hR (by first | assumption | omega) (by omega)) rfl ⟨by decide, rfl⟩ (by first | assumption | exact Nat.zero_lt_one | omega) rfl rfl (Nat.le_of_ble_eq_true rfl) ⟨by decide, by decide⟩ ⟨rfl, rfl⟩ ⟨by decide, by decide⟩ ?_
            intro S83 L83 R83 p83
            obtain ⟨rfl, rfl, rfl⟩ := p83
            refine z_aload_n C 86 0 0 dX9_steps_86 rfl rfl ?_
            refine z_iload_n C 87 2 2 dX9_steps_87 rfl rfl ?_
            refine z_iload_n C 88 1 1 dX9_steps_88 rfl rfl ?_
            refine z_cVv0 C 89 dX9_steps_89 cv_X9_247 (c_X9_writes hR (by first | assumption | omega) (by first | assumption | omega)) rfl ⟨by decide, rfl⟩ (by first | assumption | exact Nat.zero_lt_one | omega) rfl rfl (Nat.le_of_ble_eq_true rfl) ⟨by decide, by decide⟩ ⟨rfl, rfl⟩ ⟨by decide, by decide⟩ ?_
            intro S89 L89 R89 p89
            obtain ⟨rfl, rfl, rfl⟩ := p89
            exact ret 92 _ _ _ _ dX9_steps_92 (⟨(by first | (exfalso; omega) | (simp only [sA_sA, sA_s]; unfold fStep fStep0; simp [*, fo_set_w, nI_0])), rfl, rfl⟩)
          · refine z_iconst (v := nI 0) C 73 dX9_steps_73 (by decide) ?_
            refine z_goto C 74 83 dX9_steps_74 (by decide) ?_
            refine z_cVv0 C 83 dX9_steps_83 cv_X9_240 (c_X9_sets hR (by first | assumption | omega) (by omega)) rfl ⟨by decide, rfl⟩ (by first | assumption | exact Nat.zero_lt_one | omega) rfl rfl (Nat.le_of_ble_eq_true rfl) ⟨by decide, by decide⟩ ⟨rfl, rfl⟩ ⟨by decide, by decide⟩ ?_
            intro S83 L83 R83 p83
            obtain ⟨rfl, rfl, rfl⟩ := p83
            refine z_aload_n C 86 0 0 dX9_steps_86 rfl rfl ?_
            refine z_iload_n C 87 2 2 dX9_steps_87 rfl rfl ?_
            refine z_iload_n C 88 1 1 dX9_steps_88 rfl rfl ?_
            refine z_cVv0 C 89 dX9_steps_89 cv_X9_247 (c_X9_writes hR (by first | assumption | omega) (by first | assumption | omega)) rfl ⟨by decide, rfl⟩ (by first | assumption | exact Nat.zero_lt_one | omega) rfl rfl (Nat.le_of_ble_eq_true rfl) ⟨by decide, by decide⟩ ⟨rfl, rfl⟩ ⟨by decide, by decide⟩ ?_
            intro S89 L89 R89 p89
            obtain ⟨rfl, rfl, rfl⟩ := p89
            exact ret 92 _ _ _ _ dX9_steps_92 (⟨(by first | (exfalso; omega) | (simp only [sA_sA, sA_s]; unfold fStep fStep0; simp [*, fo_set_w, nI_0])), rfl, rfl⟩)
      · refine z_iconst (v := nI 4) C 43 dX9_steps_43 (by decide) ?_
        refine z_goto C 44 62 dX9_steps_44 (by decide) ?_
        refine z_cVv0 C 62 dX9_steps_62 cv_X9_240 (c_X9_sets hR (by first | assumption | omega) (by omega)) rfl ⟨by decide, rfl⟩ (by first | assumption | exact Nat.zero_lt_one | omega) rfl rfl (Nat.le_of_ble_eq_true rfl) ⟨by decide, by decide⟩ ⟨rfl, rfl⟩ ⟨by decide, by decide⟩ ?_
        intro S62 L62 R62 p62
        obtain ⟨rfl, rfl, rfl⟩ := p62
        refine z_aload_n C 65 0 0 dX9_steps_65 rfl rfl ?_
        refine z_iload_n C 66 1 1 dX9_steps_66 rfl rfl ?_
        refine z_iconst (v := nI 1) C 67 dX9_steps_67 (by decide) ?_
        refine z_iload_n C 68 2 2 dX9_steps_68 rfl rfl ?_
        refine z_iconst (v := nI 4) C 69 dX9_steps_69 (by decide) ?_
        first | with_reducible refine z_icmp_neN C 70 77 dX9_steps_70 (by decide) (by omega) (by omega) (fun h70 => ?_) (fun h70 => ?_) | refine z_icmp_ne C 70 77 dX9_steps_70 (by decide) (fun h70 => ?_) (fun h70 => ?_)
        · refine z_aload_n C 77 0 0 dX9_steps_77 rfl rfl ?_
          refine z_iload_n C 78 1 1 dX9_steps_78 rfl rfl ?_
          refine z_iconst (v := nI 1) C 79 dX9_steps_79 (by decide) ?_
          refine z_cVi0 C 80 dX9_steps_80 cv_X9_203 (c_X9_of hR (by first | assumption | omega) (by omega)) rfl ⟨by decide, rfl⟩ (by first | assumption | exact Nat.zero_lt_one | omega) rfl rfl (Nat.le_of_ble_eq_true rfl) ⟨by decide, by decide⟩ ⟨rfl, rfl⟩ ⟨by decide, by decide⟩ ?_
          intro r80 S80 L80 R80 p80
          obtain ⟨rfl, rfl, rfl, rfl⟩ := p80
          refine z_cVv0 C 83 dX9_steps_83 cv_X9_240 (c_X9_sets hR (by first | assumption | omega) (by omega)) rfl ⟨by decide, rfl⟩ (by first | assumption | exact Nat.zero_lt_one | omega) rfl rfl (Nat.le_of_ble_eq_true rfl) ⟨by decide, by decide⟩ ⟨rfl, rfl⟩ ⟨by decide, by decide⟩ ?_
          intro S83 L83 R83 p83
          obtain ⟨rfl, rfl, rfl⟩ := p83
          refine z_aload_n C 86 0 0 dX9_steps_86 rfl rfl ?_
          refine z_iload_n C 87 2 2 dX9_steps_87 rfl rfl ?_
          refine z_iload_n C 88 1 1 dX9_steps_88 rfl rfl ?_
          refine z_cVv0 C 89 dX9_steps_89 cv_X9_247 (c_X9_writes hR (by first | assumption | omega) (by first | assumption | omega)) rfl ⟨by decide, rfl⟩ (by first | assumption | exact Nat.zero_lt_one | omega) rfl rfl (Nat.le_of_ble_eq_true rfl) ⟨by decide, by decide⟩ ⟨rfl, rfl⟩ ⟨by decide, by decide⟩ ?_
          intro S89 L89 R89 p89
          obtain ⟨rfl, rfl, rfl⟩ := p89
          exact ret 92 _ _ _ _ dX9_steps_92 (⟨(by first | (exfalso; omega) | (simp only [sA_sA, sA_s]; unfold fStep fStep0; simp [*, fo_set_w, nI_0])), rfl, rfl⟩)
        · refine z_iconst (v := nI 0) C 73 dX9_steps_73 (by decide) ?_
          refine z_goto C 74 83 dX9_steps_74 (by decide) ?_
          refine z_cVv0 C 83 dX9_steps_83 cv_X9_240 (c_X9_sets hR (by first | assumption | omega) (by omega)) rfl ⟨by decide, rfl⟩ (by first | assumption | exact Nat.zero_lt_one | omega) rfl rfl (Nat.le_of_ble_eq_true rfl) ⟨by decide, by decide⟩ ⟨rfl, rfl⟩ ⟨by decide, by decide⟩ ?_
          intro S83 L83 R83 p83
          obtain ⟨rfl, rfl, rfl⟩ := p83
          refine z_aload_n C 86 0 0 dX9_steps_86 rfl rfl ?_
          refine z_iload_n C 87 2 2 dX9_steps_87 rfl rfl ?_
          refine z_iload_n C 88 1 1 dX9_steps_88 rfl rfl ?_
          refine z_cVv0 C 89 dX9_steps_89 cv_X9_247 (c_X9_writes hR (by first | assumption | omega) (by first | assumption | omega)) rfl ⟨by decide, rfl⟩ (by first | assumption | exact Nat.zero_lt_one | omega) rfl rfl (Nat.le_of_ble_eq_true rfl) ⟨by decide, by decide⟩ ⟨rfl, rfl⟩ ⟨by decide, by decide⟩ ?_
          intro S89 L89 R89 p89
          obtain ⟨rfl, rfl, rfl⟩ := p89
          exact ret 92 _ _ _ _ dX9_steps_92 (⟨(by first | (exfalso; omega) | (simp only [sA_sA, sA_s]; unfold fStep fStep0; simp [*, fo_set_w, nI_0])), rfl, rfl⟩)
    · refine z_aload_n C 18 0 0 dX9_steps_18 rfl rfl ?_
      refine z_iload_n C 19 1 1 dX9_steps_19 rfl rfl ?_
      refine z_iconst (v := nI 0) C 20 dX9_steps_20 (by decide) ?_
      refine z_iconst (v := nI 3) C 21 dX9_steps_21 (by decide) ?_
      refine z_cVv0 C 22 dX9_steps_22 cv_X9_240 (c_X9_sets hR (by first | assumption | omega) (by omega)) rfl ⟨by decide, rfl⟩ (by first | assumption | exact Nat.zero_lt_one | omega) rfl rfl (Nat.le_of_ble_eq_true rfl) ⟨by decide, by decide⟩ ⟨rfl, rfl⟩ ⟨by decide, by decide⟩ ?_
      intro S22 L22 R22 p22
      obtain ⟨rfl, rfl, rfl⟩ := p22
      refine z_goto C 25 86 dX9_steps_25 (by decide) ?_
      refine z_aload_n C 86 0 0 dX9_steps_86 rfl rfl ?_
      refine z_iload_n C 87 2 2 dX9_steps_87 rfl rfl ?_
      refine z_iload_n C 88 1 1 dX9_steps_88 rfl rfl ?_
      refine z_cVv0 C 89 dX9_steps_89 cv_X9_247 (c_X9_writes hR (by first | assumption | omega) (by first | assumption | omega)) rfl ⟨by decide, rfl⟩ (by first | assumption | exact Nat.zero_lt_one | omega) rfl rfl (Nat.le_of_ble_eq_true rfl) ⟨by decide, by decide⟩ ⟨rfl, rfl⟩ ⟨by decide, by decide⟩ ?_
      intro S89 L89 R89 p89
      obtain ⟨rfl, rfl, rfl⟩ := p89
      exact ret 92 _ _ _ _ dX9_steps_92 (⟨(by first | (exfalso; omega) | (simp only [sA_sA, sA_s]; unfold fStep fStep0; simp [*, fo_set_w, nI_0])), rfl, rfl⟩)
  · refine z_aload_n C 5 0 0 dX9_steps_5 rfl rfl ?_
    refine z_iload_n C 6 1 1 dX9_steps_6 rfl rfl ?_
    refine z_cVv0 C 7 dX9_steps_7 cv_X9_244 (c_X9_empties hR (by first | assumption | omega)) rfl ⟨by decide, rfl⟩ (by first | assumption | exact Nat.zero_lt_one | omega) rfl rfl (Nat.le_of_ble_eq_true rfl) ⟨by decide, by decide⟩ ⟨rfl, rfl⟩ ⟨by decide, by decide⟩ ?_
    intro S7 L7 R7 p7
    obtain ⟨rfl, rfl, rfl⟩ := p7
    refine z_goto C 10 86 dX9_steps_10 (by decide) ?_
    refine z_aload_n C 86 0 0 dX9_steps_86 rfl rfl ?_
    refine z_iload_n C 87 2 2 dX9_steps_87 rfl rfl ?_
    refine z_iload_n C 88 1 1 dX9_steps_88 rfl rfl ?_
    refine z_cVv0 C 89 dX9_steps_89 cv_X9_247 (c_X9_writes hR (by first | assumption | omega) (by first | assumption | omega)) rfl ⟨by decide, rfl⟩ (by first | assumption | exact Nat.zero_lt_one | omega) rfl rfl (Nat.le_of_ble_eq_true rfl) ⟨by decide, by decide⟩ ⟨rfl, rfl⟩ ⟨by decide, by decide⟩ ?_
    intro S89 L89 R89 p89
    obtain ⟨rfl, rfl, rfl⟩ := p89
    exact ret 92 _ _ _ _ dX9_steps_92 (⟨(by first | (exfalso; omega) | (simp only [sA_sA, sA_s]; unfold fStep fStep0; simp [*, fo_set_w, nI_0])), rfl, rfl⟩)
def rm_X9_waitFor : Room := { frames := 1, cells := 0, slots := 0, locals := 22 }
set_option maxHeartbeats 4000000 in
set_option maxRecDepth 100000 in
theorem c_X9_waitFor {l : Launch} {G : mG} {ad : mA} {S : mS} {L : mL} {R : mR} {n p : Nat} (hR : mlk R) (hI : rI (S 44 0) n) (hp : p < 10) : Ki l yX9_waitFor cX9_waitFor 2 .int rm_X9_waitFor G ad mdm [.ref (ad 40 0), .int (nI p)] S L R (fun r_ S2 L2 R2 => r_ = fWait (S 44 0) (S 41 0) (S 43 0) p ∧ S = S2 ∧ L = L2 ∧ R = R2) := by
  refine Ki.of RX9 (by decide) rfl (Nat.le_of_ble_eq_true rfl) ?_
  intro X hXl hXG C ret
  subst hXl; subst hXG
  change Z X 2 ad mdm S L R 0 0 0 [(0, _), (1, _)] []
  refine z_aload_n C 0 0 0 dX9_waitFor_0 rfl rfl ?_
  refine z_iload_n C 1 1 1 dX9_waitFor_1 rfl rfl ?_
  refine z_iconst (v := nI 0) C 2 dX9_waitFor_2 (by decide) ?_
  refine z_cVi0 C 3 dX9_waitFor_3 cv_X9_203 (c_X9_of hR (by first | assumption | omega) (by omega)) rfl ⟨by decide, rfl⟩ (by first | assumption | exact Nat.zero_lt_one | omega) rfl rfl (Nat.le_of_ble_eq_true rfl) ⟨by decide, by decide⟩ ⟨rfl, rfl⟩ ⟨by decide, by decide⟩ ?_
  intro r3 S3 L3 R3 p3
  obtain ⟨rfl, rfl, rfl, rfl⟩ := p3
  refine z_tab C 6 0 5 95 (fun n => [44, 58, 95, 95, 60, 81].getD (n - 0) 0) dX9_waitFor_6 (by decide) (by decide) (by decide) (fun n6 g6 k6 h6 => ?_) (fun h6 => ?_)
  · rcases (show n6 = 0 ∨ n6 = 1 ∨ n6 = 2 ∨ n6 = 3 ∨ n6 = 4 ∨ n6 = 5 by omega) with rfl | rfl | rfl | rfl | rfl | rfl
    · refine z_aload_n C 44 0 0 dX9_waitFor_44 rfl rfl ?_
      refine z_getr C 45 dX9_waitFor_45 gf_X9_17 rfl (by first | assumption | exact Nat.zero_lt_one | omega) (by first | exact hR _ _ _ _ rfl | assumption) ?_
      refine z_iconst (v := nI 0) C 48 dX9_waitFor_48 (by decide) ?_
      refine z_iald C 49 dX9_waitFor_49 rfl (by first | assumption | exact Nat.zero_lt_one | omega) (by first | rfl | assumption) (by decide) (by first | assumption | omega) ?_
      refine z_aload_n C 50 0 0 dX9_waitFor_50 rfl rfl ?_
      refine z_iload_n C 51 1 1 dX9_waitFor_51 rfl rfl ?_
      refine z_iconst (v := nI 0) C 52 dX9_waitFor_52 (by decide) ?_
      refine z_cVi0 C 53 dX9_waitFor_53 cv_X9_207 (c_X9_toldOf hR (by first | assumption | omega) (by omega)) rfl ⟨by decide, rfl⟩ (by first | assumption | exact Nat.zero_lt_one | omega) rfl rfl (Nat.le_of_ble_eq_true rfl) ⟨by decide, by decide⟩ ⟨rfl, rfl⟩ ⟨by decide, by decide⟩ ?_
      intro r53 S53 L53 R53 p53
      obtain ⟨rfl, rfl, rfl, rfl⟩ := p53
      first | with_reducible refine z_imulN C 56 dX9_waitFor_56 ?_ | refine z_imul C 56 dX9_waitFor_56 ?_
      exact ret 57 _ _ _ _ _ dX9_waitFor_57 (by first | rfl | exact bI_n | decide) (⟨(by unfold fWait; rw [h6]; rfl), rfl, rfl, rfl⟩)
    · refine z_iconst (v := nI 0) C 58 dX9_waitFor_58 (by decide) ?_
      exact ret 59 _ _ _ _ _ dX9_waitFor_59 (by first | rfl | exact bI_n | decide) (⟨(by unfold fWait; rw [h6]; rfl), rfl, rfl, rfl⟩)
    · refine z_aload_n C 95 0 0 dX9_waitFor_95 rfl rfl ?_
      refine z_getr C 96 dX9_waitFor_96 gf_X9_17 rfl (by first | assumption | exact Nat.zero_lt_one | omega) (by first | exact hR _ _ _ _ rfl | assumption) ?_
      refine z_iconst (v := nI 3) C 99 dX9_waitFor_99 (by decide) ?_
      refine z_iald C 100 dX9_waitFor_100 rfl (by first | assumption | exact Nat.zero_lt_one | omega) (by first | rfl | assumption) (by decide) (by first | assumption | omega) ?_
      exact ret 101 _ _ _ _ _ dX9_waitFor_101 (by first | rfl | exact bI_n | decide) (⟨(by unfold fWait; first | (rw [h6]; rfl) | (obtain ⟨s, hs, es⟩ := hI.2.2.1 p hp; exact absurd es (h6 s (Nat.zero_le _) hs))), rfl, rfl, rfl⟩)
    · refine z_aload_n C 95 0 0 dX9_waitFor_95 rfl rfl ?_
      refine z_getr C 96 dX9_waitFor_96 gf_X9_17 rfl (by first | assumption | exact Nat.zero_lt_one | omega) (by first | exact hR _ _ _ _ rfl | assumption) ?_
      refine z_iconst (v := nI 3) C 99 dX9_waitFor_99 (by decide) ?_
      refine z_iald C 100 dX9_waitFor_100 rfl (by first | assumption | exact Nat.zero_lt_one | omega) (by first | rfl | assumption) (by decide) (by first | assumption | omega) ?_
      exact ret 101 _ _ _ _ _ dX9_waitFor_101 (by first | rfl | exact bI_n | decide) (⟨(by unfold fWait; first | (rw [h6]; rfl) | (obtain ⟨s, hs, es⟩ := hI.2.2.1 p hp; exact absurd es (h6 s (Nat.zero_le _) hs))), rfl, rfl, rfl⟩)
    · refine z_aload_n C 60 0 0 dX9_waitFor_60 rfl rfl ?_
      refine z_getr C 61 dX9_waitFor_61 gf_X9_17 rfl (by first | assumption | exact Nat.zero_lt_one | omega) (by first | exact hR _ _ _ _ rfl | assumption) ?_
      refine z_iconst (v := nI 3) C 64 dX9_waitFor_64 (by decide) ?_
      refine z_iald C 65 dX9_waitFor_65 rfl (by first | assumption | exact Nat.zero_lt_one | omega) (by first | rfl | assumption) (by decide) (by first | assumption | omega) ?_
      refine z_aload_n C 66 0 0 dX9_waitFor_66 rfl rfl ?_
      refine z_getr C 67 dX9_waitFor_67 gf_X9_17 rfl (by first | assumption | exact Nat.zero_lt_one | omega) (by first | exact hR _ _ _ _ rfl | assumption) ?_
      refine z_iconst (v := nI 1) C 70 dX9_waitFor_70 (by decide) ?_
      refine z_iald C 71 dX9_waitFor_71 rfl (by first | assumption | exact Nat.zero_lt_one | omega) (by first | rfl | assumption) (by decide) (by first | assumption | omega) ?_
      refine z_aload_n C 72 0 0 dX9_waitFor_72 rfl rfl ?_
      refine z_iload_n C 73 1 1 dX9_waitFor_73 rfl rfl ?_
      refine z_iconst (v := nI 1) C 74 dX9_waitFor_74 (by decide) ?_
      refine z_cVi0 C 75 dX9_waitFor_75 cv_X9_203 (c_X9_of hR (by first | assumption | omega) (by omega)) rfl ⟨by decide, rfl⟩ (by first | assumption | exact Nat.zero_lt_one | omega) rfl rfl (Nat.le_of_ble_eq_true rfl) ⟨by decide, by decide⟩ ⟨rfl, rfl⟩ ⟨by decide, by decide⟩ ?_
      intro r75 S75 L75 R75 p75
      obtain ⟨rfl, rfl, rfl, rfl⟩ := p75
      first | with_reducible refine z_imulN C 78 dX9_waitFor_78 ?_ | refine z_imul C 78 dX9_waitFor_78 ?_
      first | with_reducible refine z_iaddN C 79 dX9_waitFor_79 ?_ | refine z_iadd C 79 dX9_waitFor_79 ?_
      exact ret 80 _ _ _ _ _ dX9_waitFor_80 (by first | rfl | exact bI_n | decide) (⟨(by unfold fWait; rw [h6]; rfl), rfl, rfl, rfl⟩)
    · refine z_aload_n C 81 0 0 dX9_waitFor_81 rfl rfl ?_
      refine z_getr C 82 dX9_waitFor_82 gf_X9_17 rfl (by first | assumption | exact Nat.zero_lt_one | omega) (by first | exact hR _ _ _ _ rfl | assumption) ?_
      refine z_iconst (v := nI 2) C 85 dX9_waitFor_85 (by decide) ?_
      refine z_iald C 86 dX9_waitFor_86 rfl (by first | assumption | exact Nat.zero_lt_one | omega) (by first | rfl | assumption) (by decide) (by first | assumption | omega) ?_
      refine z_aload_n C 87 0 0 dX9_waitFor_87 rfl rfl ?_
      refine z_iload_n C 88 1 1 dX9_waitFor_88 rfl rfl ?_
      refine z_iconst (v := nI 0) C 89 dX9_waitFor_89 (by decide) ?_
      refine z_cVi0 C 90 dX9_waitFor_90 cv_X9_207 (c_X9_toldOf hR (by first | assumption | omega) (by omega)) rfl ⟨by decide, rfl⟩ (by first | assumption | exact Nat.zero_lt_one | omega) rfl rfl (Nat.le_of_ble_eq_true rfl) ⟨by decide, by decide⟩ ⟨rfl, rfl⟩ ⟨by decide, by decide⟩ ?_
      intro r90 S90 L90 R90 p90
      obtain ⟨rfl, rfl, rfl, rfl⟩ := p90
      first | with_reducible refine z_imulN C 93 dX9_waitFor_93 ?_ | refine z_imul C 93 dX9_waitFor_93 ?_
      exact ret 94 _ _ _ _ _ dX9_waitFor_94 (by first | rfl | exact bI_n | decide) (⟨(by unfold fWait; rw [h6]; rfl), rfl, rfl, rfl⟩)
  · refine z_aload_n C 95 0 0 dX9_waitFor_95 rfl rfl ?_
    refine z_getr C 96 dX9_waitFor_96 gf_X9_17 rfl (by first | assumption | exact Nat.zero_lt_one | omega) (by first | exact hR _ _ _ _ rfl | assumption) ?_
    refine z_iconst (v := nI 3) C 99 dX9_waitFor_99 (by decide) ?_
    refine z_iald C 100 dX9_waitFor_100 rfl (by first | assumption | exact Nat.zero_lt_one | omega) (by first | rfl | assumption) (by decide) (by first | assumption | omega) ?_
    exact ret 101 _ _ _ _ _ dX9_waitFor_101 (by first | rfl | exact bI_n | decide) (⟨(by unfold fWait; first | (rw [h6]; rfl) | (obtain ⟨s, hs, es⟩ := hI.2.2.1 p hp; exact absurd es (h6 s (Nat.zero_le _) hs))), rfl, rfl, rfl⟩)
