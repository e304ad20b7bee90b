/-- behind a query: thrown is t, and nothing has changed but what is scratch -/
def rQ (S S2 : mS) (t : Nat) : Prop := S2 40 0 0 = nI t ∧ ∀ k i j, ¬ (k = 49 ∨ k = 50 ∨ (k = 40 ∧ (j = 0 ∨ j = 26))) → S2 k i j = S k i j
theorem rQ_t (S : mS) (t : Nat) : rQ S (up3 S 40 0 0 (nI t)) t := ⟨up3_s _ _ _ _ _, fun k i j h => by
  simp only [up3]
  rw [if_neg (fun q => h (Or.inr (Or.inr ⟨q.1, Or.inl q.2.2⟩)))]⟩
theorem rQ.up26 {S S2 : mS} {t : Nat} (h : rQ S S2 t) {v : Int32} : rQ S (up3 S2 40 0 26 v) t := ⟨by rw [up3_j _ (by decide)]; exact h.1, fun k i j hn => by
  simp only [up3]
  rw [if_neg (fun q => hn (Or.inr (Or.inr ⟨q.1, Or.inr q.2.2⟩)))]
  exact h.2 k i j hn⟩
theorem rQ.s49 {S S2 : mS} {t : Nat} (h : rQ S S2 t) {A : NN} : rQ S (sA S2 49 A) t := ⟨by rw [sA_n _ _ (by decide)]; exact h.1, fun k i j hn => by
  simp only [sA]
  rw [if_neg (fun q => hn (Or.inl q.1))]
  exact h.2 k i j hn⟩
theorem rQ.s50 {S S2 : mS} {t : Nat} (h : rQ S S2 t) {A : NN} : rQ S (sA S2 50 A) t := ⟨by rw [sA_n _ _ (by decide)]; exact h.1, fun k i j hn => by
  simp only [sA]
  rw [if_neg (fun q => hn (Or.inr (Or.inl q.1)))]
  exact h.2 k i j hn⟩
theorem rQ.s44 {S S2 : mS} {t : Nat} (h : rQ S S2 t) {A : NN} (hA : A = S 44 0) : rQ S (sA S2 44 A) t := ⟨by rw [sA_n _ _ (by decide)]; exact h.1, fun k i j hn => by
  simp only [sA]
  by_cases q : k = 44 ∧ i = 0
  · rw [if_pos q, hA, q.1, q.2]
  · rw [if_neg q]
    exact h.2 k i j hn⟩
noncomputable def qSize (S : mS) (n w : Nat) : Int32 := match w with
  | 0 => nI n
  | 1 => S 44 0 0
  | 2 => fAll (S 44 0) (S 41 0) n
  | 3 => S 44 0 1
  | 4 => S 44 0 2
  | 5 => S 44 0 3
  | 6 => S 44 0 4
  | 7 => smI (fun k => fo (S 44 0) k 4) n
  | _ => S 40 0 27
noncomputable def qProg (N T : NN) (p w : Nat) : Int32 := match w with
  | 0 => fo N p 0
  | 1 => fo N p 1
  | 2 => fo N p 2
  | 3 => fUses N T p
  | 4 => fo N p 4
  | 5 => fo N p 15
  | 6 => fo N p 6
  | _ => bI (fPrec N p)
/-- the follower that followed most often among the first programs -/
def fLikF (N : NN) (p : Nat) : Nat → Option Nat
  | 0 => none
  | o + 1 => if (match fLikF N p o with | none => nI 0 | some q => fFol N p q) < fFol N p o then some o else fLikF N p o
theorem fLikF_0 {N : NN} {p i : Nat} (hb : fLikF N p i = none) : fLikF N p (i + 1) = if nI 0 < fFol N p i then some i else none := by rw [fLikF, hb]
theorem fLikF_1 {N : NN} {p i o : Nat} (hb : fLikF N p i = some o) : fLikF N p (i + 1) = if fFol N p o < fFol N p i then some i else some o := by rw [fLikF, hb]
theorem fLikF_lt {N : NN} {p : Nat} : ∀ {i o : Nat}, fLikF N p i = some o → o < i
  | 0, o, h => by cases h
  | i + 1, o, h => by
    cases hb : fLikF N p i with
    | none =>
      rw [fLikF_0 hb] at h
      split at h
      · cases h; exact Nat.lt_succ_self _
      · cases h
    | some q =>
      rw [fLikF_1 hb] at h
      have hq := fLikF_lt hb
      split at h
      · cases h; exact Nat.lt_succ_self _
      · cases h; exact Nat.lt_succ_of_lt hq
noncomputable def qFreed (N T : NN) (n k : Nat) : Int32 := match fVic N T n k with
  | none => 0
  | some p => fAll N T n - fAll (fStep N p k) T n
def fPgs (N T : NN) (p : Nat) : Int32 := if fo N p 0 = nI 0 ∨ fo N p 0 = nI 5 then T (8 * p) else fo N p 1
noncomputable def qWhy (N T c : NN) (n p : Nat) : Int32 := if fo N p 0 = nI 1 then nI 0 else if N 0 < fPgs N T p then nI 1 else if (fShowR N T c n p).1 = -1 then nI 2 else nI 0
noncomputable def qTrims (N T c : NN) (n p : Nat) : Int32 := if (fShowR N T c n p).1 = -1 then -1 else (fShowR N T c n p).2.1
noncomputable def qState (N T c : NN) (n s p : Nat) : Int32 := if (fShowR N T c n s).1 = -1 then -1 else fo (fShowR N T c n s).2.2 p 0
noncomputable def qW1 (N T c : NN) (n p : Nat) : Int32 := if (fShowR N T c n p).1 = -1 then nI 0 else (fShowR N T c n p).1
noncomputable def qWaits (N T c : NN) (n : Nat) (pol : Int32) (a b d : Nat) : Int32 :=
  let N0 := upd N 4 pol
  let N1 := (fShowR N0 T c n a).2.2
  let N2 := (fShowR N1 T c n b).2.2
  qW1 N0 T c n a + qW1 N1 T c n b + qW1 N2 T c n d

def rm_X9_errorPosition : Room := { frames := 0, cells := 0, slots := 0, locals := 0 }
set_option maxHeartbeats 4000000 in
set_option maxRecDepth 100000 in
theorem c_X9_errorPosition {l : Launch} {G : mG} {ad : mA} {S : mS} {L : mL} {R : mR}  (hR : mlk R)  : Ki l yX9_errorPosition cX9_errorPosition 1 .int rm_X9_errorPosition G ad mdm [.ref (ad 40 0)] S L R (fun r_ S2 L2 R2 => rQ S S2 0 ∧ r_ = S 40 0 15 ∧ L = L2 ∧ R = R2) := by
  refine Ki.of RX9 (by decide) rfl (Nat.le_of_ble_eq_true rfl) ?_
  intro X hXl hXG C ret
  subst hXl; subst hXG
  change Z X 1 ad mdm S L R 0 0 0 [(0, _)] []
  refine z_aload_n C 0 0 0 dX9_errorPosition_0 rfl rfl ?_
  refine z_iconst (v := nI 0) C 1 dX9_errorPosition_1 (by decide) ?_
  refine z_puti C 2 dX9_errorPosition_2 gf_X9_65 ⟨rfl, rfl⟩ rfl (by first | assumption | exact Nat.zero_lt_one | omega) ?_
  refine z_aload_n C 5 0 0 dX9_errorPosition_5 rfl rfl ?_
  refine z_geti C 6 dX9_errorPosition_6 gf_X9_27 rfl (by first | assumption | exact Nat.zero_lt_one | omega) ?_
  exact ret 9 _ _ _ _ _ dX9_errorPosition_9 (by first | rfl | exact bI_n | decide) (⟨(rQ_t _ _), rfl, rfl, rfl⟩)
def rm_X9_size : Room := { frames := 3, cells := 0, slots := 0, locals := 65 }
set_option maxHeartbeats 4000000 in
set_option maxRecDepth 100000 in
theorem c_X9_size {l : Launch} {G : mG} {ad : mA} {S : mS} {L : mL} {R : mR} {n w : Nat} (hR : mlk R) (hn : S 40 0 1 = nI n) (hn10 : n ≤ 10) (hI : rI (S 44 0) n) (hw : w ≤ 8) : Ki l yX9_size cX9_size 2 .int rm_X9_size G ad mdm [.ref (ad 40 0), .int (nI w)] S L R (fun r_ S2 L2 R2 => rQ S S2 0 ∧ r_ = qSize S n w ∧ L = L2 ∧ R = R2) := by
  refine Ki.of RX9 (by decide) rfl (Nat.le_of_ble_eq_true rfl) ?_
  intro X hXl hXG C ret
  subst hXl; subst hXG
  change Z X 2 ad mdm S L R 0 0 0 [(0, _), (1, _)] []
  refine z_aload_n C 0 0 0 dX9_size_0 rfl rfl ?_
  refine z_iconst (v := nI 0) C 1 dX9_size_1 (by decide) ?_
  refine z_puti C 2 dX9_size_2 gf_X9_65 ⟨rfl, rfl⟩ rfl (by first | assumption | exact Nat.zero_lt_one | omega) ?_
  refine z_aload_n C 5 0 0 dX9_size_5 rfl rfl ?_
  refine z_iload_n C 6 1 1 dX9_size_6 rfl rfl ?_
  refine z_iconst (v := nI 0) C 7 dX9_size_7 (by decide) ?_
  refine z_bipush (v := nI 8) C 8 dX9_size_8 (by decide +kernel) ?_
  refine z_cSi0 C 10 dX9_size_10 cs_X9_89 (c_X9_within_1 (by omega) (by omega) (by first | decide | omega)) rfl rfl (Nat.le_of_ble_eq_true rfl) ⟨by decide, by decide⟩ ⟨rfl, rfl⟩ ⟨by decide, by decide⟩ ?_
  intro r10 S10 L10 R10 p10
  obtain ⟨rfl, rfl, rfl, rfl⟩ := p10
  first | with_reducible refine z_if_neB C 13 20 dX9_size_13 (by decide) (fun h13 => ?_) (fun h13 => by omega) | with_reducible refine z_if_neN C 13 20 dX9_size_13 (by decide) (by omega) (fun h13 => ?_) (fun h13 => by omega) | refine z_if_ne C 13 20 dX9_size_13 (by decide) (fun h13 => ?_) (fun h13 => by omega)
  · refine z_iconst (v := nI 0) C 20 dX9_size_20 (by decide) ?_
    refine z_iconst (v := nI 1) C 21 dX9_size_21 (by decide) ?_
    refine z_cVi0 C 22 dX9_size_22 cv_X9_185 (c_X9_throwsIf_0 hR (by first | assumption | rfl)) rfl ⟨by decide, rfl⟩ (by first | assumption | exact Nat.zero_lt_one | omega) rfl rfl (Nat.le_of_ble_eq_true rfl) ⟨by decide, by decide⟩ ⟨rfl, rfl⟩ ⟨by decide, by decide⟩ ?_
    intro r22 S22 L22 R22 p22
    obtain ⟨rfl, rfl, rfl, rfl⟩ := p22
    first | with_reducible refine z_if_eqB C 25 30 dX9_size_25 (by decide) (fun h25 => ?_) (fun h25 => by omega) | with_reducible refine z_if_eqN C 25 30 dX9_size_25 (by decide) (by omega) (fun h25 => ?_) (fun h25 => by omega) | refine z_if_eq C 25 30 dX9_size_25 (by decide) (fun h25 => ?_) (fun h25 => by omega)
    · refine z_iload_n C 30 1 1 dX9_size_30 rfl rfl ?_
      refine z_tab C 31 0 7 126 (fun n => [76, 81, 88, 93, 100, 107, 114, 121].getD (n - 0) 0) dX9_size_31 (by decide) (by decide) (by decide) (fun n31 g31 k31 h31 => ?_) (fun h31 => ?_)
      · rcases (show n31 = 0 ∨ n31 = 1 ∨ n31 = 2 ∨ n31 = 3 ∨ n31 = 4 ∨ n31 = 5 ∨ n31 = 6 ∨ n31 = 7 by omega) with rfl | rfl | rfl | rfl | rfl | rfl | rfl | rfl
        · obtain rfl : w = 0 := (nI_eq (by omega) (by decide)).mp h31
          refine z_aload_n C 76 0 0 dX9_size_76 rfl rfl ?_
          refine z_getiv C 77 dX9_size_77 gf_X9_197 rfl (by first | assumption | exact Nat.zero_lt_one | omega) hn ?_
          exact ret 80 _ _ _ _ _ dX9_size_80 (by first | rfl | exact bI_n | decide) (⟨(rQ_t _ _), rfl, rfl, rfl⟩)
        · obtain rfl : w = 1 := (nI_eq (by omega) (by decide)).mp h31
          refine z_aload_n C 81 0 0 dX9_size_81 rfl rfl ?_
          refine z_getr C 82 dX9_size_82 gf_X9_20 rfl (by first | assumption | exact Nat.zero_lt_one | omega) (by first | exact hR _ _ _ _ rfl | assumption) ?_
          refine z_iconst (v := nI 0) C 85 dX9_size_85 (by decide) ?_
          refine z_iald C 86 dX9_size_86 (by first | rfl | assumption) (by first | assumption | exact Nat.zero_lt_one | omega) (by first | rfl | assumption) (by first | decide | omega) (by first | assumption | omega) ?_
          exact ret 87 _ _ _ _ _ dX9_size_87 (by first | rfl | exact bI_n | decide) (⟨(rQ_t _ _), rfl, rfl, rfl⟩)
        · obtain rfl : w = 2 := (nI_eq (by omega) (by decide)).mp h31
          refine z_aload_n C 88 0 0 dX9_size_88 rfl rfl ?_
          refine z_cVi0 C 89 dX9_size_89 cv_X9_251 (c_X9_usesAll hR hn hn10) rfl ⟨by decide, rfl⟩ (by first | assumption | exact Nat.zero_lt_one | omega) rfl rfl (Nat.le_of_ble_eq_true rfl) ⟨by decide, by decide⟩ ⟨rfl, rfl⟩ ⟨by decide, by decide⟩ ?_
          intro r89 S89 L89 R89 p89
          obtain ⟨rfl, rfl, rfl, rfl⟩ := p89
          exact ret 92 _ _ _ _ _ dX9_size_92 (by first | rfl | exact bI_n | decide) (⟨(rQ_t _ _), rfl, rfl, rfl⟩)
        · obtain rfl : w = 3 := (nI_eq (by omega) (by decide)).mp h31
          refine z_aload_n C 93 0 0 dX9_size_93 rfl rfl ?_
          refine z_getr C 94 dX9_size_94 gf_X9_20 rfl (by first | assumption | exact Nat.zero_lt_one | omega) (by first | exact hR _ _ _ _ rfl | assumption) ?_
          refine z_iconst (v := nI 1) C 97 dX9_size_97 (by decide) ?_
          refine z_iald C 98 dX9_size_98 (by first | rfl | assumption) (by first | assumption | exact Nat.zero_lt_one | omega) (by first | rfl | assumption) (by first | decide | omega) (by first | assumption | omega) ?_
          exact ret 99 _ _ _ _ _ dX9_size_99 (by first | rfl | exact bI_n | decide) (⟨(rQ_t _ _), rfl, rfl, rfl⟩)
        · obtain rfl : w = 4 := (nI_eq (by omega) (by decide)).mp h31
          refine z_aload_n C 100 0 0 dX9_size_100 rfl rfl ?_
          refine z_getr C 101 dX9_size_101 gf_X9_20 rfl (by first | assumption | exact Nat.zero_lt_one | omega) (by first | exact hR _ _ _ _ rfl | assumption) ?_
          refine z_iconst (v := nI 2) C 104 dX9_size_104 (by decide) ?_
          refine z_iald C 105 dX9_size_105 (by first | rfl | assumption) (by first | assumption | exact Nat.zero_lt_one | omega) (by first | rfl | assumption) (by first | decide | omega) (by first | assumption | omega) ?_
          exact ret 106 _ _ _ _ _ dX9_size_106 (by first | rfl | exact bI_n | decide) (⟨(rQ_t _ _), rfl, rfl, rfl⟩)
        · obtain rfl : w = 5 := (nI_eq (by omega) (by decide)).mp h31
          refine z_aload_n C 107 0 0 dX9_size_107 rfl rfl ?_
          refine z_getr C 108 dX9_size_108 gf_X9_20 rfl (by first | assumption | exact Nat.zero_lt_one | omega) (by first | exact hR _ _ _ _ rfl | assumption) ?_
          refine z_iconst (v := nI 3) C 111 dX9_size_111 (by decide) ?_
          refine z_iald C 112 dX9_size_112 (by first | rfl | assumption) (by first | assumption | exact Nat.zero_lt_one | omega) (by first | rfl | assumption) (by first | decide | omega) (by first | assumption | omega) ?_
          exact ret 113 _ _ _ _ _ dX9_size_113 (by first | rfl | exact bI_n | decide) (⟨(rQ_t _ _), rfl, rfl, rfl⟩)
        · obtain rfl : w = 6 := (nI_eq (by omega) (by decide)).mp h31
          refine z_aload_n C 114 0 0 dX9_size_114 rfl rfl ?_
          refine z_getr C 115 dX9_size_115 gf_X9_20 rfl (by first | assumption | exact Nat.zero_lt_one | omega) (by first | exact hR _ _ _ _ rfl | assumption) ?_
          refine z_iconst (v := nI 4) C 118 dX9_size_118 (by decide) ?_
          refine z_iald C 119 dX9_size_119 (by first | rfl | assumption) (by first | assumption | exact Nat.zero_lt_one | omega) (by first | rfl | assumption) (by first | decide | omega) (by first | assumption | omega) ?_
          exact ret 120 _ _ _ _ _ dX9_size_120 (by first | rfl | exact bI_n | decide) (⟨(rQ_t _ _), rfl, rfl, rfl⟩)
        · obtain rfl : w = 7 := (nI_eq (by omega) (by decide)).mp h31
          refine z_aload_n C 121 0 0 dX9_size_121 rfl rfl ?_
          refine z_cVi0 C 122 dX9_size_122 cv_X9_285 (c_X9_complaints hR hn hn10) rfl ⟨by decide, rfl⟩ (by first | assumption | exact Nat.zero_lt_one | omega) rfl rfl (Nat.le_of_ble_eq_true rfl) ⟨by decide, by decide⟩ ⟨rfl, rfl⟩ ⟨by decide, by decide⟩ ?_
          intro r122 S122 L122 R122 p122
          obtain ⟨rfl, rfl, rfl, rfl⟩ := p122
          exact ret 125 _ _ _ _ _ dX9_size_125 (by first | rfl | exact bI_n | decide) (⟨(rQ_t _ _), rfl, rfl, rfl⟩)
      · obtain rfl : w = 8 := by
          rcases (show w < 8 ∨ w = 8 by omega) with h | h
          · exact absurd rfl (h31 w (Nat.zero_le _) (by omega))
          · exact h
        refine z_aload_n C 126 0 0 dX9_size_126 rfl rfl ?_
        refine z_geti C 127 dX9_size_127 gf_X9_200 rfl (by first | assumption | exact Nat.zero_lt_one | omega) ?_
        exact ret 130 _ _ _ _ _ dX9_size_130 (by first | rfl | exact bI_n | decide) (⟨(rQ_t _ _), rfl, rfl, rfl⟩)

set_option maxHeartbeats 4000000 in
set_option maxRecDepth 100000 in
theorem c_X9_size_1 {l : Launch} {G : mG} {ad : mA} {S : mS} {L : mL} {R : mR} {x : Int32} (hR : mlk R) (hx : ¬ isR 0 8 x) : Ki l yX9_size cX9_size 2 .int rm_X9_size G ad mdm [.ref (ad 40 0), .int x] S L R (fun r_ S2 L2 R2 => rQ S S2 1 ∧ L = L2 ∧ R = R2) := by
  refine Ki.of RX9 (by decide) rfl (Nat.le_of_ble_eq_true rfl) ?_
  intro X hXl hXG C ret
  subst hXl; subst hXG
  change Z X 2 ad mdm S L R 0 0 0 [(0, _), (1, _)] []
  refine z_aload_n C 0 0 0 dX9_size_0 rfl rfl ?_
  refine z_iconst (v := nI 0) C 1 dX9_size_1 (by decide) ?_
  refine z_puti C 2 dX9_size_2 gf_X9_65 ⟨rfl, rfl⟩ rfl (by first | assumption | exact Nat.zero_lt_one | omega) ?_
  refine z_aload_n C 5 0 0 dX9_size_5 rfl rfl ?_
  refine z_iload_n C 6 1 1 dX9_size_6 rfl rfl ?_
  refine z_iconst (v := nI 0) C 7 dX9_size_7 (by decide) ?_
  refine z_bipush (v := nI 8) C 8 dX9_size_8 (by decide +kernel) ?_
  refine z_cSi0 C 10 dX9_size_10 cs_X9_89 (c_X9_within_0 hx (by decide) (by decide)) rfl rfl (Nat.le_of_ble_eq_true rfl) ⟨by decide, by decide⟩ ⟨rfl, rfl⟩ ⟨by decide, by decide⟩ ?_
  intro r10 S10 L10 R10 p10
  obtain ⟨rfl, rfl, rfl, rfl⟩ := p10
  first | with_reducible refine z_if_neB C 13 20 dX9_size_13 (by decide) (fun h13 => by omega) (fun h13 => ?_) | with_reducible refine z_if_neN C 13 20 dX9_size_13 (by decide) (by omega) (fun h13 => by omega) (fun h13 => ?_) | refine z_if_ne C 13 20 dX9_size_13 (by decide) (fun h13 => by omega) (fun h13 => ?_)
  · refine z_iconst (v := nI 1) C 16 dX9_size_16 (by decide) ?_
    refine z_goto C 17 21 dX9_size_17 (by decide) ?_
    refine z_iconst (v := nI 1) C 21 dX9_size_21 (by decide) ?_
    refine z_cVi0 C 22 dX9_size_22 cv_X9_185 (c_X9_throwsIf_1 hR (by first | assumption | rfl) (by decide) (by decide)) rfl ⟨by decide, rfl⟩ (by first | assumption | exact Nat.zero_lt_one | omega) rfl rfl (Nat.le_of_ble_eq_true rfl) ⟨by decide, by decide⟩ ⟨rfl, rfl⟩ ⟨by decide, by decide⟩ ?_
    intro r22 S22 L22 R22 p22
    obtain ⟨rfl, rfl, rfl, rfl⟩ := p22
    first | with_reducible refine z_if_eqB C 25 30 dX9_size_25 (by decide) (fun h25 => by omega) (fun h25 => ?_) | with_reducible refine z_if_eqN C 25 30 dX9_size_25 (by decide) (by omega) (fun h25 => by omega) (fun h25 => ?_) | refine z_if_eq C 25 30 dX9_size_25 (by decide) (fun h25 => by omega) (fun h25 => ?_)
    · refine z_iconst (v := nI 0) C 28 dX9_size_28 (by decide) ?_
      exact ret 29 _ _ _ _ _ dX9_size_29 (by first | rfl | exact bI_n | decide) (⟨(by first | exact rQ_t _ _ | (simp only [up3_up3]; exact rQ_t _ _)), rfl, rfl⟩)
def rm_X9_program : Room := { frames := 3, cells := 0, slots := 0, locals := 65 }
set_option maxHeartbeats 4000000 in
set_option maxRecDepth 100000 in
theorem c_X9_program {l : Launch} {G : mG} {ad : mA} {S : mS} {L : mL} {R : mR} {n p w : Nat} (hR : mlk R) (hn : S 40 0 1 = nI n) (hn10 : n ≤ 10) (hI : rI (S 44 0) n) (hp : p < n) (hw : w ≤ 7) : Ki l yX9_program cX9_program 3 .int rm_X9_program G ad mdm [.ref (ad 40 0), .int (nI p), .int (nI w)] S L R (fun r_ S2 L2 R2 => rQ S S2 0 ∧ r_ = qProg (S 44 0) (S 41 0) p w ∧ L = L2 ∧ R = R2) := by
  refine Ki.of RX9 (by decide) rfl (Nat.le_of_ble_eq_true rfl) ?_
  intro X hXl hXG C ret
  subst hXl; subst hXG
  change Z X 3 ad mdm S L R 0 0 0 [(0, _), (1, _), (2, _)] []
  refine z_aload_n C 0 0 0 dX9_program_0 rfl rfl ?_
  refine z_iload_n C 1 1 1 dX9_program_1 rfl rfl ?_
  refine z_cVi0 C 2 dX9_program_2 cv_X9_291 (c_X9_noProgram hR hn hn10 (by assumption)) rfl ⟨by decide, rfl⟩ (by first | assumption | exact Nat.zero_lt_one | omega) rfl rfl (Nat.le_of_ble_eq_true rfl) ⟨by decide, by decide⟩ ⟨rfl, rfl⟩ ⟨by decide, by decide⟩ ?_
  intro r2 S2 L2 R2 p2
  obtain ⟨rfl, rfl, rfl, rfl⟩ := p2
  first | with_reducible refine z_if_neB C 5 31 dX9_program_5 (by decide) (fun h5 => by omega) (fun h5 => ?_) | with_reducible refine z_if_neN C 5 31 dX9_program_5 (by decide) (by omega) (fun h5 => by omega) (fun h5 => ?_) | refine z_if_ne C 5 31 dX9_program_5 (by decide) (fun h5 => by omega) (fun h5 => ?_)
  · refine z_aload_n C 8 0 0 dX9_program_8 rfl rfl ?_
    refine z_iload_n C 9 2 2 dX9_program_9 rfl rfl ?_
    refine z_iconst (v := nI 0) C 10 dX9_program_10 (by decide) ?_
    refine z_bipush (v := nI 7) C 11 dX9_program_11 (by decide +kernel) ?_
    refine z_cSi0 C 13 dX9_program_13 cs_X9_89 (c_X9_within_1 (by omega) (by omega) (by first | decide | omega)) rfl rfl (Nat.le_of_ble_eq_true rfl) ⟨by decide, by decide⟩ ⟨rfl, rfl⟩ ⟨by decide, by decide⟩ ?_
    intro r13 S13 L13 R13 p13
    obtain ⟨rfl, rfl, rfl, rfl⟩ := p13
    first | with_reducible refine z_if_neB C 16 23 dX9_program_16 (by decide) (fun h16 => ?_) (fun h16 => by omega) | with_reducible refine z_if_neN C 16 23 dX9_program_16 (by decide) (by omega) (fun h16 => ?_) (fun h16 => by omega) | refine z_if_ne C 16 23 dX9_program_16 (by decide) (fun h16 => ?_) (fun h16 => by omega)
    · refine z_iconst (v := nI 0) C 23 dX9_program_23 (by decide) ?_
      refine z_iconst (v := nI 2) C 24 dX9_program_24 (by decide) ?_
      refine z_cVi0 C 25 dX9_program_25 cv_X9_185 (c_X9_throwsIf_0 hR (by first | assumption | rfl)) rfl ⟨by decide, rfl⟩ (by first | assumption | exact Nat.zero_lt_one | omega) rfl rfl (Nat.le_of_ble_eq_true rfl) ⟨by decide, by decide⟩ ⟨rfl, rfl⟩ ⟨by decide, by decide⟩ ?_
      intro r25 S25 L25 R25 p25
      obtain ⟨rfl, rfl, rfl, rfl⟩ := p25
      first | with_reducible refine z_if_eqB C 28 33 dX9_program_28 (by decide) (fun h28 => ?_) (fun h28 => by omega) | with_reducible refine z_if_eqN C 28 33 dX9_program_28 (by decide) (by omega) (fun h28 => ?_) (fun h28 => by omega) | refine z_if_eq C 28 33 dX9_program_28 (by decide) (fun h28 => ?_) (fun h28 => by omega)
      · refine z_iload_n C 33 2 2 dX9_program_33 rfl rfl ?_
        refine z_tab C 34 0 6 126 (fun n => [76, 83, 90, 97, 103, 110, 118].getD (n - 0) 0) dX9_program_34 (by decide) (by decide) (by decide) (fun n34 g34 k34 h34 => ?_) (fun h34 => ?_)
        · rcases (show n34 = 0 ∨ n34 = 1 ∨ n34 = 2 ∨ n34 = 3 ∨ n34 = 4 ∨ n34 = 5 ∨ n34 = 6 by omega) with rfl | rfl | rfl | rfl | rfl | rfl | rfl
          · obtain rfl : w = 0 := (nI_eq (by omega) (by decide)).mp h34
            refine z_aload_n C 76 0 0 dX9_program_76 rfl rfl ?_
            refine z_iload_n C 77 1 1 dX9_program_77 rfl rfl ?_
            refine z_iconst (v := nI 0) C 78 dX9_program_78 (by decide) ?_
            refine z_cVi0 C 79 dX9_program_79 cv_X9_203 (c_X9_of hR (by first | assumption | omega) (by omega)) rfl ⟨by decide, rfl⟩ (by first | assumption | exact Nat.zero_lt_one | omega) rfl rfl (Nat.le_of_ble_eq_true rfl) ⟨by decide, by decide⟩ ⟨rfl, rfl⟩ ⟨by decide, by decide⟩ ?_
            intro r79 S79 L79 R79 p79
            obtain ⟨rfl, rfl, rfl, rfl⟩ := p79
            exact ret 82 _ _ _ _ _ dX9_program_82 (by first | rfl | exact bI_n | decide) (⟨(rQ_t _ _), rfl, rfl, rfl⟩)
          · obtain rfl : w = 1 := (nI_eq (by omega) (by decide)).mp h34
            refine z_aload_n C 83 0 0 dX9_program_83 rfl rfl ?_
            refine z_iload_n C 84 1 1 dX9_program_84 rfl rfl ?_
            refine z_iconst (v := nI 1) C 85 dX9_program_85 (by decide) ?_
            refine z_cVi0 C 86 dX9_program_86 cv_X9_203 (c_X9_of hR (by first | assumption | omega) (by omega)) rfl ⟨by decide, rfl⟩ (by first | assumption | exact Nat.zero_lt_one | omega) rfl rfl (Nat.le_of_ble_eq_true rfl) ⟨by decide, by decide⟩ ⟨rfl, rfl⟩ ⟨by decide, by decide⟩ ?_
            intro r86 S86 L86 R86 p86
            obtain ⟨rfl, rfl, rfl, rfl⟩ := p86
            exact ret 89 _ _ _ _ _ dX9_program_89 (by first | rfl | exact bI_n | decide) (⟨(rQ_t _ _), rfl, rfl, rfl⟩)
          · obtain rfl : w = 2 := (nI_eq (by omega) (by decide)).mp h34
            refine z_aload_n C 90 0 0 dX9_program_90 rfl rfl ?_
            refine z_iload_n C 91 1 1 dX9_program_91 rfl rfl ?_
            refine z_iconst (v := nI 2) C 92 dX9_program_92 (by decide) ?_
            refine z_cVi0 C 93 dX9_program_93 cv_X9_203 (c_X9_of hR (by first | assumption | omega) (by omega)) rfl ⟨by decide, rfl⟩ (by first | assumption | exact Nat.zero_lt_one | omega) rfl rfl (Nat.le_of_ble_eq_true rfl) ⟨by decide, by decide⟩ ⟨rfl, rfl⟩ ⟨by decide, by decide⟩ ?_
            intro r93 S93 L93 R93 p93
            obtain ⟨rfl, rfl, rfl, rfl⟩ := p93
            exact ret 96 _ _ _ _ _ dX9_program_96 (by first | rfl | exact bI_n | decide) (⟨(rQ_t _ _), rfl, rfl, rfl⟩)
          · obtain rfl : w = 3 := (nI_eq (by omega) (by decide)).mp h34
            refine z_aload_n C 97 0 0 dX9_program_97 rfl rfl ?_
            refine z_iload_n C 98 1 1 dX9_program_98 rfl rfl ?_
            refine z_cVi0 C 99 dX9_program_99 cv_X9_210 (c_X9_uses hR (by first | assumption | omega)) rfl ⟨by decide, rfl⟩ (by first | assumption | exact Nat.zero_lt_one | omega) rfl rfl (Nat.le_of_ble_eq_true rfl) ⟨by decide, by decide⟩ ⟨rfl, rfl⟩ ⟨by decide, by decide⟩ ?_
            intro r99 S99 L99 R99 p99
            obtain ⟨rfl, rfl, rfl, rfl⟩ := p99
            exact ret 102 _ _ _ _ _ dX9_program_102 (by first | rfl | exact bI_n | decide) (⟨(rQ_t _ _), rfl, rfl, rfl⟩)
          · obtain rfl : w = 4 := (nI_eq (by omega) (by decide)).mp h34
            refine z_aload_n C 103 0 0 dX9_program_103 rfl rfl ?_
            refine z_iload_n C 104 1 1 dX9_program_104 rfl rfl ?_
            refine z_iconst (v := nI 4) C 105 dX9_program_105 (by decide) ?_
            refine z_cVi0 C 106 dX9_program_106 cv_X9_203 (c_X9_of hR (by first | assumption | omega) (by omega)) rfl ⟨by decide, rfl⟩ (by first | assumption | exact Nat.zero_lt_one | omega) rfl rfl (Nat.le_of_ble_eq_true rfl) ⟨by decide, by decide⟩ ⟨rfl, rfl⟩ ⟨by decide, by decide⟩ ?_
            intro r106 S106 L106 R106 p106
            obtain ⟨rfl, rfl, rfl, rfl⟩ := p106
            exact ret 109 _ _ _ _ _ dX9_program_109 (by first | rfl | exact bI_n | decide) (⟨(rQ_t _ _), rfl, rfl, rfl⟩)
          · obtain rfl : w = 5 := (nI_eq (by omega) (by decide)).mp h34
            refine z_aload_n C 110 0 0 dX9_program_110 rfl rfl ?_
            refine z_iload_n C 111 1 1 dX9_program_111 rfl rfl ?_
            refine z_bipush (v := nI 15) C 112 dX9_program_112 (by decide +kernel) ?_
            refine z_cVi0 C 114 dX9_program_114 cv_X9_203 (c_X9_of hR (by first | assumption | omega) (by omega)) rfl ⟨by decide, rfl⟩ (by first | assumption | exact Nat.zero_lt_one | omega) rfl rfl (Nat.le_of_ble_eq_true rfl) ⟨by decide, by decide⟩ ⟨rfl, rfl⟩ ⟨by decide, by decide⟩ ?_
            intro r114 S114 L114 R114 p114
            obtain ⟨rfl, rfl, rfl, rfl⟩ := p114
            exact ret 117 _ _ _ _ _ dX9_program_117 (by first | rfl | exact bI_n | decide) (⟨(rQ_t _ _), rfl, rfl, rfl⟩)
          · obtain rfl : w = 6 := (nI_eq (by omega) (by decide)).mp h34
            refine z_aload_n C 118 0 0 dX9_program_118 rfl rfl ?_
            refine z_iload_n C 119 1 1 dX9_program_119 rfl rfl ?_
            refine z_bipush (v := nI 6) C 120 dX9_program_120 (by decide +kernel) ?_
            refine z_cVi0 C 122 dX9_program_122 cv_X9_203 (c_X9_of hR (by first | assumption | omega) (by omega)) rfl ⟨by decide, rfl⟩ (by first | assumption | exact Nat.zero_lt_one | omega) rfl rfl (Nat.le_of_ble_eq_true rfl) ⟨by decide, by decide⟩ ⟨rfl, rfl⟩ ⟨by decide, by decide⟩ ?_
            intro r122 S122 L122 R122 p122
            obtain ⟨rfl, rfl, rfl, rfl⟩ := p122
            exact ret 125 _ _ _ _ _ dX9_program_125 (by first | rfl | exact bI_n | decide) (⟨(rQ_t _ _), rfl, rfl, rfl⟩)
        · obtain rfl : w = 7 := by
            rcases (show w < 7 ∨ w = 7 by omega) with h | h
            · exact absurd rfl (h34 w (Nat.zero_le _) (by omega))
            · exact h
          refine z_aload_n C 126 0 0 dX9_program_126 rfl rfl ?_
          refine z_iload_n C 127 1 1 dX9_program_127 rfl rfl ?_
          refine z_cVi0 C 128 dX9_program_128 cv_X9_228 (c_X9_isPrecious hR (by first | assumption | omega)) rfl ⟨by decide, rfl⟩ (by first | assumption | exact Nat.zero_lt_one | omega) rfl rfl (Nat.le_of_ble_eq_true rfl) ⟨by decide, by decide⟩ ⟨rfl, rfl⟩ ⟨by decide, by decide⟩ ?_
          intro r128 S128 L128 R128 p128
          obtain ⟨rfl, rfl, rfl, rfl⟩ := p128
          first | with_reducible refine z_if_eqB C 131 138 dX9_program_131 (by decide) (fun h131 => ?_) (fun h131 => ?_) | with_reducible refine z_if_eqN C 131 138 dX9_program_131 (by decide) (by omega) (fun h131 => ?_) (fun h131 => ?_) | refine z_if_eq C 131 138 dX9_program_131 (by decide) (fun h131 => ?_) (fun h131 => ?_)
          · refine z_iconst (v := nI 0) C 138 dX9_program_138 (by decide) ?_
            exact ret 139 _ _ _ _ _ dX9_program_139 (by first | rfl | exact bI_n | decide) (⟨(rQ_t _ _), (by first | exact bI_1 h131 | exact bI_0 h131), rfl, rfl⟩)
          · refine z_iconst (v := nI 1) C 134 dX9_program_134 (by decide) ?_
            refine z_goto C 135 139 dX9_program_135 (by decide) ?_
            exact ret 139 _ _ _ _ _ dX9_program_139 (by first | rfl | exact bI_n | decide) (⟨(rQ_t _ _), (by first | exact bI_1 h131 | exact bI_0 h131), rfl, rfl⟩)

set_option maxHeartbeats 4000000 in
set_option maxRecDepth 100000 in
theorem c_X9_program_1 {l : Launch} {G : mG} {ad : mA} {S : mS} {L : mL} {R : mR} {n : Nat} {x y : Int32} (hR : mlk R) (hn : S 40 0 1 = nI n) (hn10 : n ≤ 10) (hx : ¬ isP n x) : Ki l yX9_program cX9_program 3 .int rm_X9_program G ad mdm [.ref (ad 40 0), .int x, .int y] S L R (fun r_ S2 L2 R2 => rQ S S2 1 ∧ L = L2 ∧ R = R2) := by
  refine Ki.of RX9 (by decide) rfl (Nat.le_of_ble_eq_true rfl) ?_
  intro X hXl hXG C ret
  subst hXl; subst hXG
  change Z X 3 ad mdm S L R 0 0 0 [(0, _), (1, _), (2, _)] []
  refine z_aload_n C 0 0 0 dX9_program_0 rfl rfl ?_
  refine z_iload_n C 1 1 1 dX9_program_1 rfl rfl ?_
  refine z_cVi0 C 2 dX9_program_2 cv_X9_291 (c_X9_noProgram_1 hR hn hn10 hx) rfl ⟨by decide, rfl⟩ (by first | assumption | exact Nat.zero_lt_one | omega) rfl rfl (Nat.le_of_ble_eq_true rfl) ⟨by decide, by decide⟩ ⟨rfl, rfl⟩ ⟨by decide, by decide⟩ ?_
  intro r2 S2 L2 R2 p2
  obtain ⟨rfl, rfl, rfl, rfl⟩ := p2
  first | with_reducible refine z_if_neB C 5 31 dX9_program_5 (by decide) (fun h5 => ?_) (fun h5 => by omega) | with_reducible refine z_if_neN C 5 31 dX9_program_5 (by decide) (by omega) (fun h5 => ?_) (fun h5 => by omega) | refine z_if_ne C 5 31 dX9_program_5 (by decide) (fun h5 => ?_) (fun h5 => by omega)
  · refine z_iconst (v := nI 0) C 31 dX9_program_31 (by decide) ?_
    exact ret 32 _ _ _ _ _ dX9_program_32 (by first | rfl | exact bI_n | decide) (⟨(by first | exact rQ_t _ _ | (simp only [up3_up3]; exact rQ_t _ _)), rfl, rfl⟩)

set_option maxHeartbeats 4000000 in
set_option maxRecDepth 100000 in
theorem c_X9_program_2 {l : Launch} {G : mG} {ad : mA} {S : mS} {L : mL} {R : mR} {n p : Nat} {x : Int32} (hR : mlk R) (hn : S 40 0 1 = nI n) (hn10 : n ≤ 10) (hp : p < n) (hx : ¬ isR 0 7 x) : Ki l yX9_program cX9_program 3 .int rm_X9_program G ad mdm [.ref (ad 40 0), .int (nI p), .int x] S L R (fun r_ S2 L2 R2 => rQ S S2 2 ∧ L = L2 ∧ R = R2) := by
  refine Ki.of RX9 (by decide) rfl (Nat.le_of_ble_eq_true rfl) ?_
  intro X hXl hXG C ret
  subst hXl; subst hXG
  change Z X 3 ad mdm S L R 0 0 0 [(0, _), (1, _), (2, _)] []
  refine z_aload_n C 0 0 0 dX9_program_0 rfl rfl ?_
  refine z_iload_n C 1 1 1 dX9_program_1 rfl rfl ?_
  refine z_cVi0 C 2 dX9_program_2 cv_X9_291 (c_X9_noProgram hR hn hn10 (by assumption)) rfl ⟨by decide, rfl⟩ (by first | assumption | exact Nat.zero_lt_one | omega) rfl rfl (Nat.le_of_ble_eq_true rfl) ⟨by decide, by decide⟩ ⟨rfl, rfl⟩ ⟨by decide, by decide⟩ ?_
  intro r2 S2 L2 R2 p2
  obtain ⟨rfl, rfl, rfl, rfl⟩ := p2
  first | with_reducible refine z_if_neB C 5 31 dX9_program_5 (by decide) (fun h5 => by omega) (fun h5 => ?_) | with_reducible refine z_if_neN C 5 31 dX9_program_5 (by decide) (by omega) (fun h5 => by omega) (fun h5 => ?_) | refine z_if_ne C 5 31 dX9_program_5 (by decide) (fun h5 => by omega) (fun h5 => ?_)
  · refine z_aload_n C 8 0 0 dX9_program_8 rfl rfl ?_
    refine z_iload_n C 9 2 2 dX9_program_9 rfl rfl ?_
    refine z_iconst (v := nI 0) C 10 dX9_program_10 (by decide) ?_
    refine z_bipush (v := nI 7) C 11 dX9_program_11 (by decide +kernel) ?_
    refine z_cSi0 C 13 dX9_program_13 cs_X9_89 (c_X9_within_0 hx (by decide) (by decide)) rfl rfl (Nat.le_of_ble_eq_true rfl) ⟨by decide, by decide⟩ ⟨rfl, rfl⟩ ⟨by decide, by decide⟩ ?_
    intro r13 S13 L13 R13 p13
    obtain ⟨rfl, rfl, rfl, rfl⟩ := p13
    first | with_reducible refine z_if_neB C 16 23 dX9_program_16 (by decide) (fun h16 => by omega) (fun h16 => ?_) | with_reducible refine z_if_neN C 16 23 dX9_program_16 (by decide) (by omega) (fun h16 => by omega) (fun h16 => ?_) | refine z_if_ne C 16 23 dX9_program_16 (by decide) (fun h16 => by omega) (fun h16 => ?_)
    · refine z_iconst (v := nI 1) C 19 dX9_program_19 (by decide) ?_
      refine z_goto C 20 24 dX9_program_20 (by decide) ?_
      refine z_iconst (v := nI 2) C 24 dX9_program_24 (by decide) ?_
      refine z_cVi0 C 25 dX9_program_25 cv_X9_185 (c_X9_throwsIf_1 hR (by first | assumption | rfl) (by decide) (by decide)) rfl ⟨by decide, rfl⟩ (by first | assumption | exact Nat.zero_lt_one | omega) rfl rfl (Nat.le_of_ble_eq_true rfl) ⟨by decide, by decide⟩ ⟨rfl, rfl⟩ ⟨by decide, by decide⟩ ?_
      intro r25 S25 L25 R25 p25
      obtain ⟨rfl, rfl, rfl, rfl⟩ := p25
      first | with_reducible refine z_if_eqB C 28 33 dX9_program_28 (by decide) (fun h28 => by omega) (fun h28 => ?_) | with_reducible refine z_if_eqN C 28 33 dX9_program_28 (by decide) (by omega) (fun h28 => by omega) (fun h28 => ?_) | refine z_if_eq C 28 33 dX9_program_28 (by decide) (fun h28 => by omega) (fun h28 => ?_)
      · refine z_iconst (v := nI 0) C 31 dX9_program_31 (by decide) ?_
        exact ret 32 _ _ _ _ _ dX9_program_32 (by first | rfl | exact bI_n | decide) (⟨(by first | exact rQ_t _ _ | (simp only [up3_up3]; exact rQ_t _ _)), rfl, rfl⟩)
def rm_X9_told : Room := { frames := 3, cells := 0, slots := 0, locals := 65 }
set_option maxHeartbeats 4000000 in
set_option maxRecDepth 100000 in
theorem c_X9_told {l : Launch} {G : mG} {ad : mA} {S : mS} {L : mL} {R : mR} {n p w : Nat} (hR : mlk R) (hn : S 40 0 1 = nI n) (hn10 : n ≤ 10) (hp : p < n) (hw : w ≤ 7) : Ki l yX9_told cX9_told 3 .int rm_X9_told G ad mdm [.ref (ad 40 0), .int (nI p), .int (nI w)] S L R (fun r_ S2 L2 R2 => rQ S S2 0 ∧ r_ = S 41 0 (8 * p + w) ∧ L = L2 ∧ R = R2) := by
  refine Ki.of RX9 (by decide) rfl (Nat.le_of_ble_eq_true rfl) ?_
  intro X hXl hXG C ret
  subst hXl; subst hXG
  change Z X 3 ad mdm S L R 0 0 0 [(0, _), (1, _), (2, _)] []
  refine z_aload_n C 0 0 0 dX9_told_0 rfl rfl ?_
  refine z_iload_n C 1 1 1 dX9_told_1 rfl rfl ?_
  refine z_cVi0 C 2 dX9_told_2 cv_X9_291 (c_X9_noProgram hR hn hn10 (by assumption)) rfl ⟨by decide, rfl⟩ (by first | assumption | exact Nat.zero_lt_one | omega) rfl rfl (Nat.le_of_ble_eq_true rfl) ⟨by decide, by decide⟩ ⟨rfl, rfl⟩ ⟨by decide, by decide⟩ ?_
  intro r2 S2 L2 R2 p2
  obtain ⟨rfl, rfl, rfl, rfl⟩ := p2
  first | with_reducible refine z_if_neB C 5 31 dX9_told_5 (by decide) (fun h5 => by omega) (fun h5 => ?_) | with_reducible refine z_if_neN C 5 31 dX9_told_5 (by decide) (by omega) (fun h5 => by omega) (fun h5 => ?_) | refine z_if_ne C 5 31 dX9_told_5 (by decide) (fun h5 => by omega) (fun h5 => ?_)
  · refine z_aload_n C 8 0 0 dX9_told_8 rfl rfl ?_
    refine z_iload_n C 9 2 2 dX9_told_9 rfl rfl ?_
    refine z_iconst (v := nI 0) C 10 dX9_told_10 (by decide) ?_
    refine z_bipush (v := nI 7) C 11 dX9_told_11 (by decide +kernel) ?_
    refine z_cSi0 C 13 dX9_told_13 cs_X9_89 (c_X9_within_1 (by omega) (by omega) (by first | decide | omega)) rfl rfl (Nat.le_of_ble_eq_true rfl) ⟨by decide, by decide⟩ ⟨rfl, rfl⟩ ⟨by decide, by decide⟩ ?_
    intro r13 S13 L13 R13 p13
    obtain ⟨rfl, rfl, rfl, rfl⟩ := p13
    first | with_reducible refine z_if_neB C 16 23 dX9_told_16 (by decide) (fun h16 => ?_) (fun h16 => by omega) | with_reducible refine z_if_neN C 16 23 dX9_told_16 (by decide) (by omega) (fun h16 => ?_) (fun h16 => by omega) | refine z_if_ne C 16 23 dX9_told_16 (by decide) (fun h16 => ?_) (fun h16 => by omega)
    · refine z_iconst (v := nI 0) C 23 dX9_told_23 (by decide) ?_
      refine z_iconst (v := nI 2) C 24 dX9_told_24 (by decide) ?_
      refine z_cVi0 C 25 dX9_told_25 cv_X9_185 (c_X9_throwsIf_0 hR (by first | assumption | rfl)) rfl ⟨by decide, rfl⟩ (by first | assumption | exact Nat.zero_lt_one | omega) rfl rfl (Nat.le_of_ble_eq_true rfl) ⟨by decide, by decide⟩ ⟨rfl, rfl⟩ ⟨by decide, by decide⟩ ?_
      intro r25 S25 L25 R25 p25
      obtain ⟨rfl, rfl, rfl, rfl⟩ := p25
      first | with_reducible refine z_if_eqB C 28 35 dX9_told_28 (by decide) (fun h28 => ?_) (fun h28 => by omega) | with_reducible refine z_if_eqN C 28 35 dX9_told_28 (by decide) (by omega) (fun h28 => ?_) (fun h28 => by omega) | refine z_if_eq C 28 35 dX9_told_28 (by decide) (fun h28 => ?_) (fun h28 => by omega)
      · refine z_aload_n C 35 0 0 dX9_told_35 rfl rfl ?_
        refine z_iload_n C 36 1 1 dX9_told_36 rfl rfl ?_
        refine z_iload_n C 37 2 2 dX9_told_37 rfl rfl ?_
        refine z_cVi0 C 38 dX9_told_38 cv_X9_207 (c_X9_toldOf hR (by first | assumption | omega) (by omega)) rfl ⟨by decide, rfl⟩ (by first | assumption | exact Nat.zero_lt_one | omega) rfl rfl (Nat.le_of_ble_eq_true rfl) ⟨by decide, by decide⟩ ⟨rfl, rfl⟩ ⟨by decide, by decide⟩ ?_
        intro r38 S38 L38 R38 p38
        obtain ⟨rfl, rfl, rfl, rfl⟩ := p38
        exact ret 41 _ _ _ _ _ dX9_told_41 (by first | rfl | exact bI_n | decide) (⟨(rQ_t _ _), rfl, rfl, rfl⟩)

set_option maxHeartbeats 4000000 in
set_option maxRecDepth 100000 in
theorem c_X9_told_1 {l : Launch} {G : mG} {ad : mA} {S : mS} {L : mL} {R : mR} {n : Nat} {x y : Int32} (hR : mlk R) (hn : S 40 0 1 = nI n) (hn10 : n ≤ 10) (hx : ¬ isP n x) : Ki l yX9_told cX9_told 3 .int rm_X9_told G ad mdm [.ref (ad 40 0), .int x, .int y] S L R (fun r_ S2 L2 R2 => rQ S S2 1 ∧ L = L2 ∧ R = R2) := by
  refine Ki.of RX9 (by decide) rfl (Nat.le_of_ble_eq_true rfl) ?_
  intro X hXl hXG C ret
  subst hXl; subst hXG
  change Z X 3 ad mdm S L R 0 0 0 [(0, _), (1, _), (2, _)] []
  refine z_aload_n C 0 0 0 dX9_told_0 rfl rfl ?_
  refine z_iload_n C 1 1 1 dX9_told_1 rfl rfl ?_
  refine z_cVi0 C 2 dX9_told_2 cv_X9_291 (c_X9_noProgram_1 hR hn hn10 hx) rfl ⟨by decide, rfl⟩ (by first | assumption | exact Nat.zero_lt_one | omega) rfl rfl (Nat.le_of_ble_eq_true rfl) ⟨by decide, by decide⟩ ⟨rfl, rfl⟩ ⟨by decide, by decide⟩ ?_
  intro r2 S2 L2 R2 p2
  obtain ⟨rfl, rfl, rfl, rfl⟩ := p2
  first | with_reducible refine z_if_neB C 5 31 dX9_told_5 (by decide) (fun h5 => ?_) (fun h5 => by omega) | with_reducible refine z_if_neN C 5 31 dX9_told_5 (by decide) (by omega) (fun h5 => ?_) (fun h5 => by omega) | refine z_if_ne C 5 31 dX9_told_5 (by decide) (fun h5 => ?_) (fun h5 => by omega)
  · refine z_iconst (v := nI 0) C 31 dX9_told_31 (by decide) ?_
    refine z_goto C 32 41 dX9_told_32 (by decide) ?_
    exact ret 41 _ _ _ _ _ dX9_told_41 (by first | rfl | exact bI_n | decide) (⟨(by first | exact rQ_t _ _ | (simp only [up3_up3]; exact rQ_t _ _)), rfl, rfl⟩)

set_option maxHeartbeats 4000000 in
set_option maxRecDepth 100000 in
theorem c_X9_told_2 {l : Launch} {G : mG} {ad : mA} {S : mS} {L : mL} {R : mR} {n p : Nat} {x : Int32} (hR : mlk R) (hn : S 40 0 1 = nI n) (hn10 : n ≤ 10) (hp : p < n) (hx : ¬ isR 0 7 x) : Ki l yX9_told cX9_told 3 .int rm_X9_told G ad mdm [.ref (ad 40 0), .int (nI p), .int x] S L R (fun r_ S2 L2 R2 => rQ S S2 2 ∧ L = L2 ∧ R = R2) := by
  refine Ki.of RX9 (by decide) rfl (Nat.le_of_ble_eq_true rfl) ?_
  intro X hXl hXG C ret
  subst hXl; subst hXG
  change Z X 3 ad mdm S L R 0 0 0 [(0, _), (1, _), (2, _)] []
  refine z_aload_n C 0 0 0 dX9_told_0 rfl rfl ?_
  refine z_iload_n C 1 1 1 dX9_told_1 rfl rfl ?_
  refine z_cVi0 C 2 dX9_told_2 cv_X9_291 (c_X9_noProgram hR hn hn10 (by assumption)) rfl ⟨by decide, rfl⟩ (by first | assumption | exact Nat.zero_lt_one | omega) rfl rfl (Nat.le_of_ble_eq_true rfl) ⟨by decide, by decide⟩ ⟨rfl, rfl⟩ ⟨by decide, by decide⟩ ?_
  intro r2 S2 L2 R2 p2
  obtain ⟨rfl, rfl, rfl, rfl⟩ := p2
  first | with_reducible refine z_if_neB C 5 31 dX9_told_5 (by decide) (fun h5 => by omega) (fun h5 => ?_) | with_reducible refine z_if_neN C 5 31 dX9_told_5 (by decide) (by omega) (fun h5 => by omega) (fun h5 => ?_) | refine z_if_ne C 5 31 dX9_told_5 (by decide) (fun h5 => by omega) (fun h5 => ?_)
  · refine z_aload_n C 8 0 0 dX9_told_8 rfl rfl ?_
    refine z_iload_n C 9 2 2 dX9_told_9 rfl rfl ?_
    refine z_iconst (v := nI 0) C 10 dX9_told_10 (by decide) ?_
    refine z_bipush (v := nI 7) C 11 dX9_told_11 (by decide +kernel) ?_
    refine z_cSi0 C 13 dX9_told_13 cs_X9_89 (c_X9_within_0 hx (by decide) (by decide)) rfl rfl (Nat.le_of_ble_eq_true rfl) ⟨by decide, by decide⟩ ⟨rfl, rfl⟩ ⟨by decide, by decide⟩ ?_
    intro r13 S13 L13 R13 p13
    obtain ⟨rfl, rfl, rfl, rfl⟩ := p13
    first | with_reducible refine z_if_neB C 16 23 dX9_told_16 (by decide) (fun h16 => by omega) (fun h16 => ?_) | with_reducible refine z_if_neN C 16 23 dX9_told_16 (by decide) (by omega) (fun h16 => by omega) (fun h16 => ?_) | refine z_if_ne C 16 23 dX9_told_16 (by decide) (fun h16 => by omega) (fun h16 => ?_)
    · refine z_iconst (v := nI 1) C 19 dX9_told_19 (by decide) ?_
      refine z_goto C 20 24 dX9_told_20 (by decide) ?_
      refine z_iconst (v := nI 2) C 24 dX9_told_24 (by decide) ?_
      refine z_cVi0 C 25 dX9_told_25 cv_X9_185 (c_X9_throwsIf_1 hR (by first | assumption | rfl) (by decide) (by decide)) rfl ⟨by decide, rfl⟩ (by first | assumption | exact Nat.zero_lt_one | omega) rfl rfl (Nat.le_of_ble_eq_true rfl) ⟨by decide, by decide⟩ ⟨rfl, rfl⟩ ⟨by decide, by decide⟩ ?_
      intro r25 S25 L25 R25 p25
      obtain ⟨rfl, rfl, rfl, rfl⟩ := p25
      first | with_reducible refine z_if_eqB C 28 35 dX9_told_28 (by decide) (fun h28 => by omega) (fun h28 => ?_) | with_reducible refine z_if_eqN C 28 35 dX9_told_28 (by decide) (by omega) (fun h28 => by omega) (fun h28 => ?_) | refine z_if_eq C 28 35 dX9_told_28 (by decide) (fun h28 => by omega) (fun h28 => ?_)
      · refine z_iconst (v := nI 0) C 31 dX9_told_31 (by decide) ?_
        refine z_goto C 32 41 dX9_told_32 (by decide) ?_
        exact ret 41 _ _ _ _ _ dX9_told_41 (by first | rfl | exact bI_n | decide) (⟨(by first | exact rQ_t _ _ | (simp only [up3_up3]; exact rQ_t _ _)), rfl, rfl⟩)
def rm_X9_picture : Room := { frames := 3, cells := 0, slots := 0, locals := 65 }
set_option maxHeartbeats 4000000 in
set_option maxRecDepth 100000 in
theorem c_X9_picture {l : Launch} {G : mG} {ad : mA} {S : mS} {L : mL} {R : mR} {n p : Nat} (hR : mlk R) (hn : S 40 0 1 = nI n) (hn10 : n ≤ 10) (hI : rI (S 44 0) n) (hp : p < n) : Ki l yX9_picture cX9_picture 2 .int rm_X9_picture G ad mdm [.ref (ad 40 0), .int (nI p)] S L R (fun r_ S2 L2 R2 => rQ S S2 0 ∧ r_ = fo (S 44 0) p 3 ∧ L = L2 ∧ R = R2) := by
  refine Ki.of RX9 (by decide) rfl (Nat.le_of_ble_eq_true rfl) ?_
  intro X hXl hXG C ret
  subst hXl; subst hXG
  change Z X 2 ad mdm S L R 0 0 0 [(0, _), (1, _)] []
  obtain ⟨g, hg4, hg⟩ := hI.2.2.2.2.1 p (by omega)
  refine z_aload_n C 0 0 0 dX9_picture_0 rfl rfl ?_
  refine z_iload_n C 1 1 1 dX9_picture_1 rfl rfl ?_
  refine z_cVi0 C 2 dX9_picture_2 cv_X9_291 (c_X9_noProgram hR hn hn10 (by assumption)) rfl ⟨by decide, rfl⟩ (by first | assumption | exact Nat.zero_lt_one | omega) rfl rfl (Nat.le_of_ble_eq_true rfl) ⟨by decide, by decide⟩ ⟨rfl, rfl⟩ ⟨by decide, by decide⟩ ?_
  intro r2 S2 L2 R2 p2
  obtain ⟨rfl, rfl, rfl, rfl⟩ := p2
  first | with_reducible refine z_if_eqB C 5 12 dX9_picture_5 (by decide) (fun h5 => ?_) (fun h5 => by omega) | with_reducible refine z_if_eqN C 5 12 dX9_picture_5 (by decide) (by omega) (fun h5 => ?_) (fun h5 => by omega) | refine z_if_eq C 5 12 dX9_picture_5 (by decide) (fun h5 => ?_) (fun h5 => by omega)
  · refine z_aload_n C 12 0 0 dX9_picture_12 rfl rfl ?_
    refine z_iload_n C 13 1 1 dX9_picture_13 rfl rfl ?_
    refine z_iconst (v := nI 3) C 14 dX9_picture_14 (by decide) ?_
    refine z_cVi0 C 15 dX9_picture_15 cv_X9_203 (c_X9_of hR (by first | assumption | omega) (by omega)) rfl ⟨by decide, rfl⟩ (by first | assumption | exact Nat.zero_lt_one | omega) rfl rfl (Nat.le_of_ble_eq_true rfl) ⟨by decide, by decide⟩ ⟨rfl, rfl⟩ ⟨by decide, by decide⟩ ?_
    intro r15 S15 L15 R15 p15
    obtain ⟨rfl, rfl, rfl, rfl⟩ := p15
    exact ret 18 _ _ _ _ _ dX9_picture_18 (by first | rfl | exact bI_n | decide) (⟨(rQ_t _ _), rfl, rfl, rfl⟩)

set_option maxHeartbeats 4000000 in
set_option maxRecDepth 100000 in
theorem c_X9_picture_1 {l : Launch} {G : mG} {ad : mA} {S : mS} {L : mL} {R : mR} {n : Nat} {x : Int32} (hR : mlk R) (hn : S 40 0 1 = nI n) (hn10 : n ≤ 10) (hx : ¬ isP n x) : Ki l yX9_picture cX9_picture 2 .int rm_X9_picture G ad mdm [.ref (ad 40 0), .int x] S L R (fun r_ S2 L2 R2 => rQ S S2 1 ∧ L = L2 ∧ R = R2) := by
  refine Ki.of RX9 (by decide) rfl (Nat.le_of_ble_eq_true rfl) ?_
  intro X hXl hXG C ret
  subst hXl; subst hXG
  change Z X 2 ad mdm S L R 0 0 0 [(0, _), (1, _)] []
  refine z_aload_n C 0 0 0 dX9_picture_0 rfl rfl ?_
  refine z_iload_n C 1 1 1 dX9_picture_1 rfl rfl ?_
  refine z_cVi0 C 2 dX9_picture_2 cv_X9_291 (c_X9_noProgram_1 hR hn hn10 hx) rfl ⟨by decide, rfl⟩ (by first | assumption | exact Nat.zero_lt_one | omega) rfl rfl (Nat.le_of_ble_eq_true rfl) ⟨by decide, by decide⟩ ⟨rfl, rfl⟩ ⟨by decide, by decide⟩ ?_
  intro r2 S2 L2 R2 p2
  obtain ⟨rfl, rfl, rfl, rfl⟩ := p2
  first | with_reducible refine z_if_eqB C 5 12 dX9_picture_5 (by decide) (fun h5 => by omega) (fun h5 => ?_) | with_reducible refine z_if_eqN C 5 12 dX9_picture_5 (by decide) (by omega) (fun h5 => by omega) (fun h5 => ?_) | refine z_if_eq C 5 12 dX9_picture_5 (by decide) (fun h5 => by omega) (fun h5 => ?_)
  · refine z_iconst (v := nI 0) C 8 dX9_picture_8 (by decide) ?_
    refine z_goto C 9 18 dX9_picture_9 (by decide) ?_
    exact ret 18 _ _ _ _ _ dX9_picture_18 (by first | rfl | exact bI_n | decide) (⟨(by first | exact rQ_t _ _ | (simp only [up3_up3]; exact rQ_t _ _)), rfl, rfl⟩)
def rm_X9_habit : Room := { frames := 3, cells := 0, slots := 0, locals := 65 }
set_option maxHeartbeats 4000000 in
set_option maxRecDepth 100000 in
theorem c_X9_habit {l : Launch} {G : mG} {ad : mA} {S : mS} {L : mL} {R : mR} {n p : Nat} (hR : mlk R) (hn : S 40 0 1 = nI n) (hn10 : n ≤ 10) (hI : rI (S 44 0) n) (hp : p < n) : Ki l yX9_habit cX9_habit 2 .int rm_X9_habit G ad mdm [.ref (ad 40 0), .int (nI p)] S L R (fun r_ S2 L2 R2 => rQ S S2 0 ∧ r_ = fHabit (S 44 0) p ∧ L = L2 ∧ R = R2) := by
  refine Ki.of RX9 (by decide) rfl (Nat.le_of_ble_eq_true rfl) ?_
  intro X hXl hXG C ret
  subst hXl; subst hXG
  change Z X 2 ad mdm S L R 0 0 0 [(0, _), (1, _)] []
  obtain ⟨g, hg4, hg⟩ := hI.2.2.2.2.1 p (by omega)
  refine z_aload_n C 0 0 0 dX9_habit_0 rfl rfl ?_
  refine z_iload_n C 1 1 1 dX9_habit_1 rfl rfl ?_
  refine z_cVi0 C 2 dX9_habit_2 cv_X9_291 (c_X9_noProgram hR hn hn10 (by assumption)) rfl ⟨by decide, rfl⟩ (by first | assumption | exact Nat.zero_lt_one | omega) rfl rfl (Nat.le_of_ble_eq_true rfl) ⟨by decide, by decide⟩ ⟨rfl, rfl⟩ ⟨by decide, by decide⟩ ?_
  intro r2 S2 L2 R2 p2
  obtain ⟨rfl, rfl, rfl, rfl⟩ := p2
  first | with_reducible refine z_if_eqB C 5 12 dX9_habit_5 (by decide) (fun h5 => ?_) (fun h5 => by omega) | with_reducible refine z_if_eqN C 5 12 dX9_habit_5 (by decide) (by omega) (fun h5 => ?_) (fun h5 => by omega) | refine z_if_eq C 5 12 dX9_habit_5 (by decide) (fun h5 => ?_) (fun h5 => by omega)
  · refine z_aload_n C 12 0 0 dX9_habit_12 rfl rfl ?_
    refine z_iload_n C 13 1 1 dX9_habit_13 rfl rfl ?_
    refine z_cVi0 C 14 dX9_habit_14 cv_X9_219 (c_X9_habitOf hR (by omega) hg hg4) rfl ⟨by decide, rfl⟩ (by first | assumption | exact Nat.zero_lt_one | omega) rfl rfl (Nat.le_of_ble_eq_true rfl) ⟨by decide, by decide⟩ ⟨rfl, rfl⟩ ⟨by decide, by decide⟩ ?_
    intro r14 S14 L14 R14 p14
    obtain ⟨rfl, rfl, rfl, rfl⟩ := p14
    exact ret 17 _ _ _ _ _ dX9_habit_17 (by first | rfl | exact bI_n | decide) (⟨(rQ_t _ _), rfl, rfl, rfl⟩)

set_option maxHeartbeats 4000000 in
set_option maxRecDepth 100000 in
theorem c_X9_habit_1 {l : Launch} {G : mG} {ad : mA} {S : mS} {L : mL} {R : mR} {n : Nat} {x : Int32} (hR : mlk R) (hn : S 40 0 1 = nI n) (hn10 : n ≤ 10) (hx : ¬ isP n x) : Ki l yX9_habit cX9_habit 2 .int rm_X9_habit G ad mdm [.ref (ad 40 0), .int x] S L R (fun r_ S2 L2 R2 => rQ S S2 1 ∧ L = L2 ∧ R = R2) := by
  refine Ki.of RX9 (by decide) rfl (Nat.le_of_ble_eq_true rfl) ?_
  intro X hXl hXG C ret
  subst hXl; subst hXG
  change Z X 2 ad mdm S L R 0 0 0 [(0, _), (1, _)] []
  refine z_aload_n C 0 0 0 dX9_habit_0 rfl rfl ?_
  refine z_iload_n C 1 1 1 dX9_habit_1 rfl rfl ?_
  refine z_cVi0 C 2 dX9_habit_2 cv_X9_291 (c_X9_noProgram_1 hR hn hn10 hx) rfl ⟨by decide, rfl⟩ (by first | assumption | exact Nat.zero_lt_one | omega) rfl rfl (Nat.le_of_ble_eq_true rfl) ⟨by decide, by decide⟩ ⟨rfl, rfl⟩ ⟨by decide, by decide⟩ ?_
  intro r2 S2 L2 R2 p2
  obtain ⟨rfl, rfl, rfl, rfl⟩ := p2
  first | with_reducible refine z_if_eqB C 5 12 dX9_habit_5 (by decide) (fun h5 => by omega) (fun h5 => ?_) | with_reducible refine z_if_eqN C 5 12 dX9_habit_5 (by decide) (by omega) (fun h5 => by omega) (fun h5 => ?_) | refine z_if_eq C 5 12 dX9_habit_5 (by decide) (fun h5 => by omega) (fun h5 => ?_)
  · refine z_iconst (v := nI 0) C 8 dX9_habit_8 (by decide) ?_
    refine z_goto C 9 17 dX9_habit_9 (by decide) ?_
    exact ret 17 _ _ _ _ _ dX9_habit_17 (by first | rfl | exact bI_n | decide) (⟨(by first | exact rQ_t _ _ | (simp only [up3_up3]; exact rQ_t _ _)), rfl, rfl⟩)
def rm_X9_promise : Room := { frames := 3, cells := 0, slots := 0, locals := 68 }
set_option maxHeartbeats 4000000 in
set_option maxRecDepth 100000 in
theorem c_X9_promise {l : Launch} {G : mG} {ad : mA} {S : mS} {L : mL} {R : mR} {n p : Nat} (hR : mlk R) (hn : S 40 0 1 = nI n) (hn10 : n ≤ 10) (hI : rI (S 44 0) n) (hp : p < n) : Ki l yX9_promise cX9_promise 2 .int rm_X9_promise G ad mdm [.ref (ad 40 0), .int (nI p)] S L R (fun r_ S2 L2 R2 => rQ S S2 0 ∧ r_ = fProm (S 44 0) n p ∧ L = L2 ∧ R = R2) := by
  refine Ki.of RX9 (by decide) rfl (Nat.le_of_ble_eq_true rfl) ?_
  intro X hXl hXG C ret
  subst hXl; subst hXG
  change Z X 2 ad mdm S L R 0 0 0 [(0, _), (1, _)] []
  obtain ⟨g, hg4, hg⟩ := hI.2.2.2.2.1 p (by omega)
  refine z_aload_n C 0 0 0 dX9_promise_0 rfl rfl ?_
  refine z_iload_n C 1 1 1 dX9_promise_1 rfl rfl ?_
  refine z_cVi0 C 2 dX9_promise_2 cv_X9_291 (c_X9_noProgram hR hn hn10 (by assumption)) rfl ⟨by decide, rfl⟩ (by first | assumption | exact Nat.zero_lt_one | omega) rfl rfl (Nat.le_of_ble_eq_true rfl) ⟨by decide, by decide⟩ ⟨rfl, rfl⟩ ⟨by decide, by decide⟩ ?_
  intro r2 S2 L2 R2 p2
  obtain ⟨rfl, rfl, rfl, rfl⟩ := p2
  first | with_reducible refine z_if_eqB C 5 12 dX9_promise_5 (by decide) (fun h5 => ?_) (fun h5 => by omega) | with_reducible refine z_if_eqN C 5 12 dX9_promise_5 (by decide) (by omega) (fun h5 => ?_) (fun h5 => by omega) | refine z_if_eq C 5 12 dX9_promise_5 (by decide) (fun h5 => ?_) (fun h5 => by omega)
  · refine z_aload_n C 12 0 0 dX9_promise_12 rfl rfl ?_
    refine z_iload_n C 13 1 1 dX9_promise_13 rfl rfl ?_
    refine z_cVi0 C 14 dX9_promise_14 cv_X9_225 (c_X9_promiseOf (n := n) hR hn hn10 hI (by omega)) rfl ⟨by decide, rfl⟩ (by first | assumption | exact Nat.zero_lt_one | omega) rfl rfl (Nat.le_of_ble_eq_true rfl) ⟨by decide, by decide⟩ ⟨rfl, rfl⟩ ⟨by decide, by decide⟩ ?_
    intro r14 S14 L14 R14 p14
    obtain ⟨rfl, rfl, rfl, rfl⟩ := p14
    exact ret 17 _ _ _ _ _ dX9_promise_17 (by first | rfl | exact bI_n | decide) (⟨(rQ_t _ _), rfl, rfl, rfl⟩)

set_option maxHeartbeats 4000000 in
set_option maxRecDepth 100000 in
theorem c_X9_promise_1 {l : Launch} {G : mG} {ad : mA} {S : mS} {L : mL} {R : mR} {n : Nat} {x : Int32} (hR : mlk R) (hn : S 40 0 1 = nI n) (hn10 : n ≤ 10) (hx : ¬ isP n x) : Ki l yX9_promise cX9_promise 2 .int rm_X9_promise G ad mdm [.ref (ad 40 0), .int x] S L R (fun r_ S2 L2 R2 => rQ S S2 1 ∧ L = L2 ∧ R = R2) := by
  refine Ki.of RX9 (by decide) rfl (Nat.le_of_ble_eq_true rfl) ?_
  intro X hXl hXG C ret
  subst hXl; subst hXG
  change Z X 2 ad mdm S L R 0 0 0 [(0, _), (1, _)] []
  refine z_aload_n C 0 0 0 dX9_promise_0 rfl rfl ?_
  refine z_iload_n C 1 1 1 dX9_promise_1 rfl rfl ?_
  refine z_cVi0 C 2 dX9_promise_2 cv_X9_291 (c_X9_noProgram_1 hR hn hn10 hx) rfl ⟨by decide, rfl⟩ (by first | assumption | exact Nat.zero_lt_one | omega) rfl rfl (Nat.le_of_ble_eq_true rfl) ⟨by decide, by decide⟩ ⟨rfl, rfl⟩ ⟨by decide, by decide⟩ ?_
  intro r2 S2 L2 R2 p2
  obtain ⟨rfl, rfl, rfl, rfl⟩ := p2
  first | with_reducible refine z_if_eqB C 5 12 dX9_promise_5 (by decide) (fun h5 => by omega) (fun h5 => ?_) | with_reducible refine z_if_eqN C 5 12 dX9_promise_5 (by decide) (by omega) (fun h5 => by omega) (fun h5 => ?_) | refine z_if_eq C 5 12 dX9_promise_5 (by decide) (fun h5 => by omega) (fun h5 => ?_)
  · refine z_iconst (v := nI 0) C 8 dX9_promise_8 (by decide) ?_
    refine z_goto C 9 17 dX9_promise_9 (by decide) ?_
    exact ret 17 _ _ _ _ _ dX9_promise_17 (by first | rfl | exact bI_n | decide) (⟨(by first | exact rQ_t _ _ | (simp only [up3_up3]; exact rQ_t _ _)), rfl, rfl⟩)
def rm_X9_waitOf : Room := { frames := 3, cells := 0, slots := 0, locals := 65 }
set_option maxHeartbeats 4000000 in
set_option maxRecDepth 100000 in
theorem c_X9_waitOf {l : Launch} {G : mG} {ad : mA} {S : mS} {L : mL} {R : mR} {n p : Nat} (hR : mlk R) (hn : S 40 0 1 = nI n) (hn10 : n ≤ 10) (hI : rI (S 44 0) n) (hp : p < n) : Ki l yX9_waitOf cX9_waitOf 2 .int rm_X9_waitOf G ad mdm [.ref (ad 40 0), .int (nI p)] S L R (fun r_ S2 L2 R2 => rQ S S2 0 ∧ r_ = fWait (S 44 0) (S 41 0) (S 43 0) p ∧ L = L2 ∧ R = R2) := by
  refine Ki.of RX9 (by decide) rfl (Nat.le_of_ble_eq_true rfl) ?_
  intro X hXl hXG C ret
  subst hXl; subst hXG
  change Z X 2 ad mdm S L R 0 0 0 [(0, _), (1, _)] []
  obtain ⟨g, hg4, hg⟩ := hI.2.2.2.2.1 p (by omega)
  refine z_aload_n C 0 0 0 dX9_waitOf_0 rfl rfl ?_
  refine z_iload_n C 1 1 1 dX9_waitOf_1 rfl rfl ?_
  refine z_cVi0 C 2 dX9_waitOf_2 cv_X9_291 (c_X9_noProgram hR hn hn10 (by assumption)) rfl ⟨by decide, rfl⟩ (by first | assumption | exact Nat.zero_lt_one | omega) rfl rfl (Nat.le_of_ble_eq_true rfl) ⟨by decide, by decide⟩ ⟨rfl, rfl⟩ ⟨by decide, by decide⟩ ?_
  intro r2 S2 L2 R2 p2
  obtain ⟨rfl, rfl, rfl, rfl⟩ := p2
  first | with_reducible refine z_if_eqB C 5 12 dX9_waitOf_5 (by decide) (fun h5 => ?_) (fun h5 => by omega) | with_reducible refine z_if_eqN C 5 12 dX9_waitOf_5 (by decide) (by omega) (fun h5 => ?_) (fun h5 => by omega) | refine z_if_eq C 5 12 dX9_waitOf_5 (by decide) (fun h5 => ?_) (fun h5 => by omega)
  · refine z_aload_n C 12 0 0 dX9_waitOf_12 rfl rfl ?_
    refine z_iload_n C 13 1 1 dX9_waitOf_13 rfl rfl ?_
    refine z_cVi0 C 14 dX9_waitOf_14 cv_X9_266 (c_X9_waitFor (n := n) hR hI (by omega)) rfl ⟨by decide, rfl⟩ (by first | assumption | exact Nat.zero_lt_one | omega) rfl rfl (Nat.le_of_ble_eq_true rfl) ⟨by decide, by decide⟩ ⟨rfl, rfl⟩ ⟨by decide, by decide⟩ ?_
    intro r14 S14 L14 R14 p14
    obtain ⟨rfl, rfl, rfl, rfl⟩ := p14
    exact ret 17 _ _ _ _ _ dX9_waitOf_17 (by first | rfl | exact bI_n | decide) (⟨(rQ_t _ _), rfl, rfl, rfl⟩)

set_option maxHeartbeats 4000000 in
set_option maxRecDepth 100000 in
theorem c_X9_waitOf_1 {l : Launch} {G : mG} {ad : mA} {S : mS} {L : mL} {R : mR} {n : Nat} {x : Int32} (hR : mlk R) (hn : S 40 0 1 = nI n) (hn10 : n ≤ 10) (hx : ¬ isP n x) : Ki l yX9_waitOf cX9_waitOf 2 .int rm_X9_waitOf G ad mdm [.ref (ad 40 0), .int x] S L R (fun r_ S2 L2 R2 => rQ S S2 1 ∧ L = L2 ∧ R = R2) := by
  refine Ki.of RX9 (by decide) rfl (Nat.le_of_ble_eq_true rfl) ?_
  intro X hXl hXG C ret
  subst hXl; subst hXG
  change Z X 2 ad mdm S L R 0 0 0 [(0, _), (1, _)] []
  refine z_aload_n C 0 0 0 dX9_waitOf_0 rfl rfl ?_
  refine z_iload_n C 1 1 1 dX9_waitOf_1 rfl rfl ?_
  refine z_cVi0 C 2 dX9_waitOf_2 cv_X9_291 (c_X9_noProgram_1 hR hn hn10 hx) rfl ⟨by decide, rfl⟩ (by first | assumption | exact Nat.zero_lt_one | omega) rfl rfl (Nat.le_of_ble_eq_true rfl) ⟨by decide, by decide⟩ ⟨rfl, rfl⟩ ⟨by decide, by decide⟩ ?_
  intro r2 S2 L2 R2 p2
  obtain ⟨rfl, rfl, rfl, rfl⟩ := p2
  first | with_reducible refine z_if_eqB C 5 12 dX9_waitOf_5 (by decide) (fun h5 => by omega) (fun h5 => ?_) | with_reducible refine z_if_eqN C 5 12 dX9_waitOf_5 (by decide) (by omega) (fun h5 => by omega) (fun h5 => ?_) | refine z_if_eq C 5 12 dX9_waitOf_5 (by decide) (fun h5 => by omega) (fun h5 => ?_)
  · refine z_iconst (v := nI 0) C 8 dX9_waitOf_8 (by decide) ?_
    refine z_goto C 9 17 dX9_waitOf_9 (by decide) ?_
    exact ret 17 _ _ _ _ _ dX9_waitOf_17 (by first | rfl | exact bI_n | decide) (⟨(by first | exact rQ_t _ _ | (simp only [up3_up3]; exact rQ_t _ _)), rfl, rfl⟩)
def rm_X9_notice : Room := { frames := 3, cells := 0, slots := 0, locals := 65 }
set_option maxHeartbeats 4000000 in
set_option maxRecDepth 100000 in
theorem c_X9_notice {l : Launch} {G : mG} {ad : mA} {S : mS} {L : mL} {R : mR} {n p w : Nat} {k : Int32} (hR : mlk R) (hn : S 40 0 1 = nI n) (hn10 : n ≤ 10) (hp : p < n) (hw : fo (S 44 0) p 15 = nI w) (hw5 : w ≤ 5) : Ki l yX9_notice cX9_notice 3 .int rm_X9_notice G ad mdm [.ref (ad 40 0), .int (nI p), .int k] S L R (fun r_ S2 L2 R2 => rQ S S2 0 ∧ (∀ j, j < w → k = nI j → r_ = (S 44 0) (388 + 5 * p + j)) ∧ (¬ isP w k → r_ = -1) ∧ L = L2 ∧ R = R2) := by
  refine Ki.of RX9 (by decide) rfl (Nat.le_of_ble_eq_true rfl) ?_
  intro X hXl hXG C ret
  subst hXl; subst hXG
  change Z X 3 ad mdm S L R 0 0 0 [(0, _), (1, _), (2, _)] []
  refine z_aload_n C 0 0 0 dX9_notice_0 rfl rfl ?_
  refine z_iload_n C 1 1 1 dX9_notice_1 rfl rfl ?_
  refine z_cVi0 C 2 dX9_notice_2 cv_X9_291 (c_X9_noProgram hR hn hn10 (by assumption)) rfl ⟨by decide, rfl⟩ (by first | assumption | exact Nat.zero_lt_one | omega) rfl rfl (Nat.le_of_ble_eq_true rfl) ⟨by decide, by decide⟩ ⟨rfl, rfl⟩ ⟨by decide, by decide⟩ ?_
  intro r2 S2 L2 R2 p2
  obtain ⟨rfl, rfl, rfl, rfl⟩ := p2
  first | with_reducible refine z_if_eqB C 5 10 dX9_notice_5 (by decide) (fun h5 => ?_) (fun h5 => by omega) | with_reducible refine z_if_eqN C 5 10 dX9_notice_5 (by decide) (by omega) (fun h5 => ?_) (fun h5 => by omega) | refine z_if_eq C 5 10 dX9_notice_5 (by decide) (fun h5 => ?_) (fun h5 => by omega)
  · refine z_iload_n C 10 2 2 dX9_notice_10 rfl rfl ?_
    refine z_iconst (v := nI 0) C 11 dX9_notice_11 (by decide) ?_
    refine z_aload_n C 12 0 0 dX9_notice_12 rfl rfl ?_
    refine z_iload_n C 13 1 1 dX9_notice_13 rfl rfl ?_
    refine z_bipush (v := nI 15) C 14 dX9_notice_14 (by decide +kernel) ?_
    refine z_cVi0 C 16 dX9_notice_16 cv_X9_203 (c_X9_of hR (by first | assumption | omega) (by omega)) rfl ⟨by decide, rfl⟩ (by first | assumption | exact Nat.zero_lt_one | omega) rfl rfl (Nat.le_of_ble_eq_true rfl) ⟨by decide, by decide⟩ ⟨rfl, rfl⟩ ⟨by decide, by decide⟩ ?_
    intro r16 S16 L16 R16 p16
    obtain ⟨rfl, rfl, rfl, rfl⟩ := p16
    rw [show fo (up3 S 40 0 0 (nI 0) 44 0) p 15 = nI w from hw]
    refine z_iconst (v := nI 1) C 19 dX9_notice_19 (by decide) ?_
    refine z_isub C 20 dX9_notice_20 ?_
    refine z_cSi0 C 21 dX9_notice_21 cs_X9_89 (c_X9_within ) rfl rfl (Nat.le_of_ble_eq_true rfl) ⟨by decide, by decide⟩ ⟨rfl, rfl⟩ ⟨by decide, by decide⟩ ?_
    intro r21 S21 L21 R21 p21
    obtain ⟨rfl, rfl, rfl, rfl⟩ := p21
    first | with_reducible refine z_if_eqB C 24 44 dX9_notice_24 (by decide) (fun h24 => ?_) (fun h24 => ?_) | with_reducible refine z_if_eqN C 24 44 dX9_notice_24 (by decide) (by omega) (fun h24 => ?_) (fun h24 => ?_) | refine z_if_eq C 24 44 dX9_notice_24 (by decide) (fun h24 => ?_) (fun h24 => ?_)
    · have hk : ¬ isP w k := fun z => h24 ((isP_iff (by omega)).mpr z)
      refine z_iconst (v := (-1)) C 44 dX9_notice_44 (by decide) ?_
      exact ret 45 _ _ _ _ _ dX9_notice_45 (by first | rfl | exact bI_n | decide) (⟨(rQ_t _ _), (by first | exact fun j hj e => absurd ⟨j, hj, e⟩ hk | exact fun j2 hj2 e => by rw [(nI_eq (show j < 2 ^ 31 by omega) (show j2 < 2 ^ 31 by omega)).mp e]; rfl), (by first | exact fun _ => rfl | exact fun z => absurd ⟨j, hj, rfl⟩ z), rfl, rfl⟩)
    · obtain ⟨j, hj, rfl⟩ := (isP_iff (by omega)).mp h24
      refine z_aload_n C 27 0 0 dX9_notice_27 rfl rfl ?_
      refine z_getr C 28 dX9_notice_28 gf_X9_20 rfl (by first | assumption | exact Nat.zero_lt_one | omega) (by first | exact hR _ _ _ _ rfl | assumption) ?_
      refine z_sipush (v := nI 388) C 31 dX9_notice_31 (by decide +kernel) ?_
      refine z_iconst (v := nI 5) C 34 dX9_notice_34 (by decide) ?_
      refine z_iload_n C 35 1 1 dX9_notice_35 rfl rfl ?_
      first | with_reducible refine z_imulN C 36 dX9_notice_36 ?_ | refine z_imul C 36 dX9_notice_36 ?_
      first | with_reducible refine z_iaddN C 37 dX9_notice_37 ?_ | refine z_iadd C 37 dX9_notice_37 ?_
      refine z_iload_n C 38 2 2 dX9_notice_38 rfl rfl ?_
      first | with_reducible refine z_iaddN C 39 dX9_notice_39 ?_ | refine z_iadd C 39 dX9_notice_39 ?_
      refine z_iald C 40 dX9_notice_40 (by first | rfl | assumption) (by first | assumption | exact Nat.zero_lt_one | omega) (by first | rfl | assumption) (by first | decide | omega) (by first | assumption | omega) ?_
      refine z_goto C 41 45 dX9_notice_41 (by decide) ?_
      exact ret 45 _ _ _ _ _ dX9_notice_45 (by first | rfl | exact bI_n | decide) (⟨(rQ_t _ _), (by first | exact fun j hj e => absurd ⟨j, hj, e⟩ hk | exact fun j2 hj2 e => by rw [(nI_eq (show j < 2 ^ 31 by omega) (show j2 < 2 ^ 31 by omega)).mp e]; rfl), (by first | exact fun _ => rfl | exact fun z => absurd ⟨j, hj, rfl⟩ z), rfl, rfl⟩)

set_option maxHeartbeats 4000000 in
set_option maxRecDepth 100000 in
theorem c_X9_notice_1 {l : Launch} {G : mG} {ad : mA} {S : mS} {L : mL} {R : mR} {n : Nat} {x y : Int32} (hR : mlk R) (hn : S 40 0 1 = nI n) (hn10 : n ≤ 10) (hx : ¬ isP n x) : Ki l yX9_notice cX9_notice 3 .int rm_X9_notice G ad mdm [.ref (ad 40 0), .int x, .int y] S L R (fun r_ S2 L2 R2 => rQ S S2 1 ∧ L = L2 ∧ R = R2) := by
  refine Ki.of RX9 (by decide) rfl (Nat.le_of_ble_eq_true rfl) ?_
  intro X hXl hXG C ret
  subst hXl; subst hXG
  change Z X 3 ad mdm S L R 0 0 0 [(0, _), (1, _), (2, _)] []
  refine z_aload_n C 0 0 0 dX9_notice_0 rfl rfl ?_
  refine z_iload_n C 1 1 1 dX9_notice_1 rfl rfl ?_
  refine z_cVi0 C 2 dX9_notice_2 cv_X9_291 (c_X9_noProgram_1 hR hn hn10 hx) rfl ⟨by decide, rfl⟩ (by first | assumption | exact Nat.zero_lt_one | omega) rfl rfl (Nat.le_of_ble_eq_true rfl) ⟨by decide, by decide⟩ ⟨rfl, rfl⟩ ⟨by decide, by decide⟩ ?_
  intro r2 S2 L2 R2 p2
  obtain ⟨rfl, rfl, rfl, rfl⟩ := p2
  first | with_reducible refine z_if_eqB C 5 10 dX9_notice_5 (by decide) (fun h5 => by omega) (fun h5 => ?_) | with_reducible refine z_if_eqN C 5 10 dX9_notice_5 (by decide) (by omega) (fun h5 => by omega) (fun h5 => ?_) | refine z_if_eq C 5 10 dX9_notice_5 (by decide) (fun h5 => by omega) (fun h5 => ?_)
  · refine z_iconst (v := nI 0) C 8 dX9_notice_8 (by decide) ?_
    exact ret 9 _ _ _ _ _ dX9_notice_9 (by first | rfl | exact bI_n | decide) (⟨(by first | exact rQ_t _ _ | (simp only [up3_up3]; exact rQ_t _ _)), rfl, rfl⟩)
def rm_X9_followed : Room := { frames := 3, cells := 0, slots := 0, locals := 65 }
set_option maxHeartbeats 4000000 in
set_option maxRecDepth 100000 in
theorem c_X9_followed {l : Launch} {G : mG} {ad : mA} {S : mS} {L : mL} {R : mR} {n p q : Nat} (hR : mlk R) (hn : S 40 0 1 = nI n) (hn10 : n ≤ 10) (hp : p < n) (hq : q < n) : Ki l yX9_followed cX9_followed 3 .int rm_X9_followed G ad mdm [.ref (ad 40 0), .int (nI p), .int (nI q)] S L R (fun r_ S2 L2 R2 => rQ S S2 0 ∧ r_ = fFol (S 44 0) p q ∧ L = L2 ∧ R = R2) := by
  refine Ki.of RX9 (by decide) rfl (Nat.le_of_ble_eq_true rfl) ?_
  intro X hXl hXG C ret
  subst hXl; subst hXG
  change Z X 3 ad mdm S L R 0 0 0 [(0, _), (1, _), (2, _)] []
  refine z_aload_n C 0 0 0 dX9_followed_0 rfl rfl ?_
  refine z_iload_n C 1 1 1 dX9_followed_1 rfl rfl ?_
  refine z_cVi0 C 2 dX9_followed_2 cv_X9_291 (c_X9_noProgram hR hn hn10 (by assumption)) rfl ⟨by decide, rfl⟩ (by first | assumption | exact Nat.zero_lt_one | omega) rfl rfl (Nat.le_of_ble_eq_true rfl) ⟨by decide, by decide⟩ ⟨rfl, rfl⟩ ⟨by decide, by decide⟩ ?_
  intro r2 S2 L2 R2 p2
  obtain ⟨rfl, rfl, rfl, rfl⟩ := p2
  first | with_reducible refine z_if_neB C 5 20 dX9_followed_5 (by decide) (fun h5 => by omega) (fun h5 => ?_) | with_reducible refine z_if_neN C 5 20 dX9_followed_5 (by decide) (by omega) (fun h5 => by omega) (fun h5 => ?_) | refine z_if_ne C 5 20 dX9_followed_5 (by decide) (fun h5 => by omega) (fun h5 => ?_)
  · refine z_aload_n C 8 0 0 dX9_followed_8 rfl rfl ?_
    refine z_iload_n C 9 2 2 dX9_followed_9 rfl rfl ?_
    refine z_aload_n C 10 0 0 dX9_followed_10 rfl rfl ?_
    refine z_getiv C 11 dX9_followed_11 gf_X9_197 rfl (by first | assumption | exact Nat.zero_lt_one | omega) hn ?_
    refine z_cVi0 C 14 dX9_followed_14 cv_X9_288 (c_X9_no_0 hR (by rfl) (by assumption) hn10) rfl ⟨by decide, rfl⟩ (by first | assumption | exact Nat.zero_lt_one | omega) rfl rfl (Nat.le_of_ble_eq_true rfl) ⟨by decide, by decide⟩ ⟨rfl, rfl⟩ ⟨by decide, by decide⟩ ?_
    intro r14 S14 L14 R14 p14
    obtain ⟨rfl, rfl, rfl, rfl⟩ := p14
    first | with_reducible refine z_if_eqB C 17 24 dX9_followed_17 (by decide) (fun h17 => ?_) (fun h17 => by omega) | with_reducible refine z_if_eqN C 17 24 dX9_followed_17 (by decide) (by omega) (fun h17 => ?_) (fun h17 => by omega) | refine z_if_eq C 17 24 dX9_followed_17 (by decide) (fun h17 => ?_) (fun h17 => by omega)
    · refine z_aload_n C 24 0 0 dX9_followed_24 rfl rfl ?_
      refine z_iload_n C 25 1 1 dX9_followed_25 rfl rfl ?_
      refine z_iload_n C 26 2 2 dX9_followed_26 rfl rfl ?_
      refine z_cVi0 C 27 dX9_followed_27 cv_X9_213 (c_X9_followers hR (by first | assumption | omega) (by first | assumption | omega)) rfl ⟨by decide, rfl⟩ (by first | assumption | exact Nat.zero_lt_one | omega) rfl rfl (Nat.le_of_ble_eq_true rfl) ⟨by decide, by decide⟩ ⟨rfl, rfl⟩ ⟨by decide, by decide⟩ ?_
      intro r27 S27 L27 R27 p27
      obtain ⟨rfl, rfl, rfl, rfl⟩ := p27
      exact ret 30 _ _ _ _ _ dX9_followed_30 (by first | rfl | exact bI_n | decide) (⟨(rQ_t _ _), rfl, rfl, rfl⟩)

set_option maxHeartbeats 4000000 in
set_option maxRecDepth 100000 in
theorem c_X9_followed_1 {l : Launch} {G : mG} {ad : mA} {S : mS} {L : mL} {R : mR} {n : Nat} {x y : Int32} (hR : mlk R) (hn : S 40 0 1 = nI n) (hn10 : n ≤ 10) (hx : ¬ isP n x) : Ki l yX9_followed cX9_followed 3 .int rm_X9_followed G ad mdm [.ref (ad 40 0), .int x, .int y] S L R (fun r_ S2 L2 R2 => rQ S S2 1 ∧ L = L2 ∧ R = R2) := by
  refine Ki.of RX9 (by decide) rfl (Nat.le_of_ble_eq_true rfl) ?_
  intro X hXl hXG C ret
  subst hXl; subst hXG
  change Z X 3 ad mdm S L R 0 0 0 [(0, _), (1, _), (2, _)] []
  refine z_aload_n C 0 0 0 dX9_followed_0 rfl rfl ?_
  refine z_iload_n C 1 1 1 dX9_followed_1 rfl rfl ?_
  refine z_cVi0 C 2 dX9_followed_2 cv_X9_291 (c_X9_noProgram_1 hR hn hn10 hx) rfl ⟨by decide, rfl⟩ (by first | assumption | exact Nat.zero_lt_one | omega) rfl rfl (Nat.le_of_ble_eq_true rfl) ⟨by decide, by decide⟩ ⟨rfl, rfl⟩ ⟨by decide, by decide⟩ ?_
  intro r2 S2 L2 R2 p2
  obtain ⟨rfl, rfl, rfl, rfl⟩ := p2
  first | with_reducible refine z_if_neB C 5 20 dX9_followed_5 (by decide) (fun h5 => ?_) (fun h5 => by omega) | with_reducible refine z_if_neN C 5 20 dX9_followed_5 (by decide) (by omega) (fun h5 => ?_) (fun h5 => by omega) | refine z_if_ne C 5 20 dX9_followed_5 (by decide) (fun h5 => ?_) (fun h5 => by omega)
  · refine z_iconst (v := nI 0) C 20 dX9_followed_20 (by decide) ?_
    refine z_goto C 21 30 dX9_followed_21 (by decide) ?_
    exact ret 30 _ _ _ _ _ dX9_followed_30 (by first | rfl | exact bI_n | decide) (⟨(by first | exact rQ_t _ _ | (simp only [up3_up3]; exact rQ_t _ _)), rfl, rfl⟩)

set_option maxHeartbeats 4000000 in
set_option maxRecDepth 100000 in
theorem c_X9_followed_2 {l : Launch} {G : mG} {ad : mA} {S : mS} {L : mL} {R : mR} {n p : Nat} {x : Int32} (hR : mlk R) (hn : S 40 0 1 = nI n) (hn10 : n ≤ 10) (hp : p < n) (hx : ¬ isP n x) : Ki l yX9_followed cX9_followed 3 .int rm_X9_followed G ad mdm [.ref (ad 40 0), .int (nI p), .int x] S L R (fun r_ S2 L2 R2 => rQ S S2 1 ∧ L = L2 ∧ R = R2) := by
  refine Ki.of RX9 (by decide) rfl (Nat.le_of_ble_eq_true rfl) ?_
  intro X hXl hXG C ret
  subst hXl; subst hXG
  change Z X 3 ad mdm S L R 0 0 0 [(0, _), (1, _), (2, _)] []
  refine z_aload_n C 0 0 0 dX9_followed_0 rfl rfl ?_
  refine z_iload_n C 1 1 1 dX9_followed_1 rfl rfl ?_
  refine z_cVi0 C 2 dX9_followed_2 cv_X9_291 (c_X9_noProgram hR hn hn10 (by assumption)) rfl ⟨by decide, rfl⟩ (by first | assumption | exact Nat.zero_lt_one | omega) rfl rfl (Nat.le_of_ble_eq_true rfl) ⟨by decide, by decide⟩ ⟨rfl, rfl⟩ ⟨by decide, by decide⟩ ?_
  intro r2 S2 L2 R2 p2
  obtain ⟨rfl, rfl, rfl, rfl⟩ := p2
  first | with_reducible refine z_if_neB C 5 20 dX9_followed_5 (by decide) (fun h5 => by omega) (fun h5 => ?_) | with_reducible refine z_if_neN C 5 20 dX9_followed_5 (by decide) (by omega) (fun h5 => by omega) (fun h5 => ?_) | refine z_if_ne C 5 20 dX9_followed_5 (by decide) (fun h5 => by omega) (fun h5 => ?_)
  · refine z_aload_n C 8 0 0 dX9_followed_8 rfl rfl ?_
    refine z_iload_n C 9 2 2 dX9_followed_9 rfl rfl ?_
    refine z_aload_n C 10 0 0 dX9_followed_10 rfl rfl ?_
    refine z_getiv C 11 dX9_followed_11 gf_X9_197 rfl (by first | assumption | exact Nat.zero_lt_one | omega) hn ?_
    refine z_cVi0 C 14 dX9_followed_14 cv_X9_288 (c_X9_no_1 hR (by rfl) hx hn10) rfl ⟨by decide, rfl⟩ (by first | assumption | exact Nat.zero_lt_one | omega) rfl rfl (Nat.le_of_ble_eq_true rfl) ⟨by decide, by decide⟩ ⟨rfl, rfl⟩ ⟨by decide, by decide⟩ ?_
    intro r14 S14 L14 R14 p14
    obtain ⟨rfl, rfl, rfl, rfl⟩ := p14
    first | with_reducible refine z_if_eqB C 17 24 dX9_followed_17 (by decide) (fun h17 => by omega) (fun h17 => ?_) | with_reducible refine z_if_eqN C 17 24 dX9_followed_17 (by decide) (by omega) (fun h17 => by omega) (fun h17 => ?_) | refine z_if_eq C 17 24 dX9_followed_17 (by decide) (fun h17 => by omega) (fun h17 => ?_)
    · refine z_iconst (v := nI 0) C 20 dX9_followed_20 (by decide) ?_
      refine z_goto C 21 30 dX9_followed_21 (by decide) ?_
      exact ret 30 _ _ _ _ _ dX9_followed_30 (by first | rfl | exact bI_n | decide) (⟨(by first | exact rQ_t _ _ | (simp only [up3_up3]; exact rQ_t _ _)), rfl, rfl⟩)
def rm_X9_likeliest : Room := { frames := 3, cells := 0, slots := 0, locals := 65 }
set_option maxHeartbeats 4000000 in
set_option maxRecDepth 100000 in
theorem c_X9_likeliest {l : Launch} {G : mG} {ad : mA} {S : mS} {L : mL} {R : mR} {n p : Nat} (hR : mlk R) (hn : S 40 0 1 = nI n) (hn10 : n ≤ 10) (hp : p < n) : Ki l yX9_likeliest cX9_likeliest 5 .int rm_X9_likeliest G ad mdm [.ref (ad 40 0), .int (nI p)] S L R (fun r_ S2 L2 R2 => rQ S S2 0 ∧ r_ = oI (fLikF (S 44 0) p n) ∧ L = L2 ∧ R = R2) := by
  refine Ki.of RX9 (by decide) rfl (Nat.le_of_ble_eq_true rfl) ?_
  intro X hXl hXG C ret
  subst hXl; subst hXG
  change Z X 5 ad mdm S L R 0 0 0 [(0, _), (1, _)] []
  refine z_aload_n C 0 0 0 dX9_likeliest_0 rfl rfl ?_
  refine z_iload_n C 1 1 1 dX9_likeliest_1 rfl rfl ?_
  refine z_cVi0 C 2 dX9_likeliest_2 cv_X9_291 (c_X9_noProgram hR hn hn10 (by assumption)) rfl ⟨by decide, rfl⟩ (by first | assumption | exact Nat.zero_lt_one | omega) rfl rfl (Nat.le_of_ble_eq_true rfl) ⟨by decide, by decide⟩ ⟨rfl, rfl⟩ ⟨by decide, by decide⟩ ?_
  intro r2 S2 L2 R2 p2
  obtain ⟨rfl, rfl, rfl, rfl⟩ := p2
  first | with_reducible refine z_if_eqB C 5 10 dX9_likeliest_5 (by decide) (fun h5 => ?_) (fun h5 => by omega) | with_reducible refine z_if_eqN C 5 10 dX9_likeliest_5 (by decide) (by omega) (fun h5 => ?_) (fun h5 => by omega) | refine z_if_eq C 5 10 dX9_likeliest_5 (by decide) (fun h5 => ?_) (fun h5 => by omega)
  · refine z_iconst (v := (-1)) C 10 dX9_likeliest_10 (by decide) ?_
    refine z_istore_n C 11 2 [(2, _), (0, _), (1, _)] dX9_likeliest_11 rfl (by decide) rfl ?_
    refine z_iconst (v := nI 0) C 12 dX9_likeliest_12 (by decide) ?_
    refine z_istore_n C 13 3 [(3, _), (2, _), (0, _), (1, _)] dX9_likeliest_13 rfl (by decide) rfl ?_
    have loop_14 : ∀ (n_14 : Nat) (i : Nat) (b : Option Nat), i ≤ n → fLikF (S 44 0) p i = b → n - i < n_14 → Z X 5 ad mdm (up3 S 40 0 0 (nI 0)) L R 0 0 14 [(0, .ref (ad 40 0)), (1, .int (nI p)), (2, .int (oI b)), (3, .int (nI i))] [] := by
      intro n_14
      induction n_14 with
      | zero => intro i b hi hb hm14; exact absurd hm14 (Nat.not_lt_zero _)
      | succ n_14 ih14 =>
        intro i b hi hb hm14
        refine z_iload_n C 14 3 3 dX9_likeliest_14 rfl rfl ?_
        refine z_aload_n C 15 0 0 dX9_likeliest_15 rfl rfl ?_
        refine z_getiv C 16 dX9_likeliest_16 gf_X9_197 rfl (by first | assumption | exact Nat.zero_lt_one | omega) hn ?_
        first | with_reducible refine z_icmp_geN C 19 62 dX9_likeliest_19 (by decide) (by omega) (by omega) (fun h19 => ?_) (fun h19 => ?_) | refine z_icmp_ge C 19 62 dX9_likeliest_19 (by decide) (fun h19 => ?_) (fun h19 => ?_)
        · refine z_iload_n C 62 2 2 dX9_likeliest_62 rfl rfl ?_
          exact ret 63 _ _ _ _ _ dX9_likeliest_63 (by first | rfl | exact bI_n | decide) (⟨(rQ_t _ _), (by rw [← hb, show i = n by omega]), rfl, rfl⟩)
        · refine z_iload_n C 22 2 2 dX9_likeliest_22 rfl rfl ?_
          refine z_iconst (v := (-1)) C 23 dX9_likeliest_23 (by decide) ?_
          first | with_reducible refine z_icmp_neN C 24 31 dX9_likeliest_24 (by decide) (by omega) (by omega) (fun h24 => ?_) (fun h24 => ?_) | refine z_icmp_ne C 24 31 dX9_likeliest_24 (by decide) (fun h24 => ?_) (fun h24 => ?_)
          · obtain ⟨o, rfl⟩ := oI_some h24
            have ho := fLikF_lt hb
            have hst := fLikF_1 hb
            refine z_aload_n C 31 0 0 dX9_likeliest_31 rfl rfl ?_
            refine z_iload_n C 32 1 1 dX9_likeliest_32 rfl rfl ?_
            refine z_iload_n C 33 2 2 dX9_likeliest_33 rfl rfl ?_
            refine z_cVi0 C 34 dX9_likeliest_34 cv_X9_213 (c_X9_followers hR (by first | assumption | omega) (by first | assumption | omega)) rfl ⟨by decide, rfl⟩ (by first | assumption | exact Nat.zero_lt_one | omega) rfl rfl (Nat.le_of_ble_eq_true rfl) ⟨by decide, by decide⟩ ⟨rfl, rfl⟩ ⟨by decide, by decide⟩ ?_
            intro r34 S34 L34 R34 p34
            obtain ⟨rfl, rfl, rfl, rfl⟩ := p34
            refine z_istore C 37 4 [(4, _), (0, _), (1, _), (2, _), (3, _)] dX9_likeliest_37 (by decide) rfl ?_
            refine z_aload_n C 39 0 1 dX9_likeliest_39 rfl rfl ?_
            refine z_iload_n C 40 1 2 dX9_likeliest_40 rfl rfl ?_
            refine z_iload_n C 41 3 4 dX9_likeliest_41 rfl rfl ?_
            refine z_cVi0 C 42 dX9_likeliest_42 cv_X9_213 (c_X9_followers hR (by first | assumption | omega) (by first | assumption | omega)) rfl ⟨by decide, rfl⟩ (by first | assumption | exact Nat.zero_lt_one | omega) rfl rfl (Nat.le_of_ble_eq_true rfl) ⟨by decide, by decide⟩ ⟨rfl, rfl⟩ ⟨by decide, by decide⟩ ?_
            intro r42 S42 L42 R42 p42
            obtain ⟨rfl, rfl, rfl, rfl⟩ := p42
            refine z_iload C 45 4 0 dX9_likeliest_45 rfl ?_
            first | with_reducible refine z_icmp_leN C 47 54 dX9_likeliest_47 (by decide) (by omega) (by omega) (fun h47 => ?_) (fun h47 => ?_) | refine z_icmp_le C 47 54 dX9_likeliest_47 (by decide) (fun h47 => ?_) (fun h47 => ?_)
            · have hnx := hst.trans (if_neg (Int32.not_lt.mpr h47))
              refine z_iload_n C 54 2 3 dX9_likeliest_54 rfl rfl ?_
              refine z_istore_n C 55 2 [(2, _), (4, _), (0, _), (1, _), (3, _)] dX9_likeliest_55 rfl (by decide) rfl ?_
              refine z_iinc C 56 3 4 [(3, _), (2, _), (4, _), (0, _), (1, _)] dX9_likeliest_56 rfl (by first | exact nI_1 _ | rfl) (by decide) rfl ?_
              refine z_goto C 59 14 dX9_likeliest_59 (by decide) ?_
              refine z_sub [(0, _), (1, _), (2, _), (3, _)] [3, 4, 1, 0] rfl ?_
              exact ih14 (i + 1) _ (by omega) hnx (by omega)
            · have hnx := hst.trans (if_pos (Int32.not_le.mp h47))
              refine z_iload_n C 50 3 4 dX9_likeliest_50 rfl rfl ?_
              refine z_goto C 51 55 dX9_likeliest_51 (by decide) ?_
              refine z_istore_n C 55 2 [(2, _), (4, _), (0, _), (1, _), (3, _)] dX9_likeliest_55 rfl (by decide) rfl ?_
              refine z_iinc C 56 3 4 [(3, _), (2, _), (4, _), (0, _), (1, _)] dX9_likeliest_56 rfl (by first | exact nI_1 _ | rfl) (by decide) rfl ?_
              refine z_goto C 59 14 dX9_likeliest_59 (by decide) ?_
              refine z_sub [(0, _), (1, _), (2, _), (3, _)] [3, 4, 1, 0] rfl ?_
              exact ih14 (i + 1) _ (by omega) hnx (by omega)
          · obtain rfl := oI_none (fun o ho => by have := fLikF_lt (hb.trans ho); omega) h24
            have hst := fLikF_0 hb
            refine z_iconst (v := nI 0) C 27 dX9_likeliest_27 (by decide) ?_
            refine z_goto C 28 37 dX9_likeliest_28 (by decide) ?_
            refine z_istore C 37 4 [(4, _), (0, _), (1, _), (2, _), (3, _)] dX9_likeliest_37 (by decide) rfl ?_
            refine z_aload_n C 39 0 1 dX9_likeliest_39 rfl rfl ?_
            refine z_iload_n C 40 1 2 dX9_likeliest_40 rfl rfl ?_
            refine z_iload_n C 41 3 4 dX9_likeliest_41 rfl rfl ?_
            refine z_cVi0 C 42 dX9_likeliest_42 cv_X9_213 (c_X9_followers hR (by first | assumption | omega) (by first | assumption | omega)) rfl ⟨by decide, rfl⟩ (by first | assumption | exact Nat.zero_lt_one | omega) rfl rfl (Nat.le_of_ble_eq_true rfl) ⟨by decide, by decide⟩ ⟨rfl, rfl⟩ ⟨by decide, by decide⟩ ?_
            intro r42 S42 L42 R42 p42
            obtain ⟨rfl, rfl, rfl, rfl⟩ := p42
            refine z_iload C 45 4 0 dX9_likeliest_45 rfl ?_
            first | with_reducible refine z_icmp_leN C 47 54 dX9_likeliest_47 (by decide) (by omega) (by omega) (fun h47 => ?_) (fun h47 => ?_) | refine z_icmp_le C 47 54 dX9_likeliest_47 (by decide) (fun h47 => ?_) (fun h47 => ?_)
            · have hnx := hst.trans (if_neg (Int32.not_lt.mpr h47))
              refine z_iload_n C 54 2 3 dX9_likeliest_54 rfl rfl ?_
              refine z_istore_n C 55 2 [(2, _), (4, _), (0, _), (1, _), (3, _)] dX9_likeliest_55 rfl (by decide) rfl ?_
              refine z_iinc C 56 3 4 [(3, _), (2, _), (4, _), (0, _), (1, _)] dX9_likeliest_56 rfl (by first | exact nI_1 _ | rfl) (by decide) rfl ?_
              refine z_goto C 59 14 dX9_likeliest_59 (by decide) ?_
              refine z_sub [(0, _), (1, _), (2, _), (3, _)] [3, 4, 1, 0] rfl ?_
              exact ih14 (i + 1) _ (by omega) hnx (by omega)
            · have hnx := hst.trans (if_pos (Int32.not_le.mp h47))
              refine z_iload_n C 50 3 4 dX9_likeliest_50 rfl rfl ?_
              refine z_goto C 51 55 dX9_likeliest_51 (by decide) ?_
              refine z_istore_n C 55 2 [(2, _), (4, _), (0, _), (1, _), (3, _)] dX9_likeliest_55 rfl (by decide) rfl ?_
              refine z_iinc C 56 3 4 [(3, _), (2, _), (4, _), (0, _), (1, _)] dX9_likeliest_56 rfl (by first | exact nI_1 _ | rfl) (by decide) rfl ?_
              refine z_goto C 59 14 dX9_likeliest_59 (by decide) ?_
              refine z_sub [(0, _), (1, _), (2, _), (3, _)] [3, 4, 1, 0] rfl ?_
              exact ih14 (i + 1) _ (by omega) hnx (by omega)
    refine z_sub [(0, _), (1, _), (2, _), (3, _)] [2, 3, 1, 0] rfl ?_
    exact loop_14 (n + 1) 0 none (Nat.zero_le _) rfl (by omega)

set_option maxHeartbeats 4000000 in
set_option maxRecDepth 100000 in
theorem c_X9_likeliest_1 {l : Launch} {G : mG} {ad : mA} {S : mS} {L : mL} {R : mR} {n : Nat} {x : Int32} (hR : mlk R) (hn : S 40 0 1 = nI n) (hn10 : n ≤ 10) (hx : ¬ isP n x) : Ki l yX9_likeliest cX9_likeliest 5 .int rm_X9_likeliest G ad mdm [.ref (ad 40 0), .int x] S L R (fun r_ S2 L2 R2 => rQ S S2 1 ∧ L = L2 ∧ R = R2) := by
  refine Ki.of RX9 (by decide) rfl (Nat.le_of_ble_eq_true rfl) ?_
  intro X hXl hXG C ret
  subst hXl; subst hXG
  change Z X 5 ad mdm S L R 0 0 0 [(0, _), (1, _)] []
  refine z_aload_n C 0 0 0 dX9_likeliest_0 rfl rfl ?_
  refine z_iload_n C 1 1 1 dX9_likeliest_1 rfl rfl ?_
  refine z_cVi0 C 2 dX9_likeliest_2 cv_X9_291 (c_X9_noProgram_1 hR hn hn10 hx) rfl ⟨by decide, rfl⟩ (by first | assumption | exact Nat.zero_lt_one | omega) rfl rfl (Nat.le_of_ble_eq_true rfl) ⟨by decide, by decide⟩ ⟨rfl, rfl⟩ ⟨by decide, by decide⟩ ?_
  intro r2 S2 L2 R2 p2
  obtain ⟨rfl, rfl, rfl, rfl⟩ := p2
  first | with_reducible refine z_if_eqB C 5 10 dX9_likeliest_5 (by decide) (fun h5 => by omega) (fun h5 => ?_) | with_reducible refine z_if_eqN C 5 10 dX9_likeliest_5 (by decide) (by omega) (fun h5 => by omega) (fun h5 => ?_) | refine z_if_eq C 5 10 dX9_likeliest_5 (by decide) (fun h5 => by omega) (fun h5 => ?_)
  · refine z_iconst (v := nI 0) C 8 dX9_likeliest_8 (by decide) ?_
    exact ret 9 _ _ _ _ _ dX9_likeliest_9 (by first | rfl | exact bI_n | decide) (⟨(by first | exact rQ_t _ _ | (simp only [up3_up3]; exact rQ_t _ _)), rfl, rfl⟩)
def rm_X9_victim : Room := { frames := 6, cells := 0, slots := 0, locals := 136 }
set_option maxHeartbeats 4000000 in
set_option maxRecDepth 100000 in
theorem c_X9_victim {l : Launch} {G : mG} {ad : mA} {S : mS} {L : mL} {R : mR} {n k : Nat} (hR : mlk R) (hn : S 40 0 1 = nI n) (hn10 : n ≤ 10) (hI : rI (S 44 0) n) (hk : 1 ≤ k) (hk6 : k ≤ 6) : Ki l yX9_victim cX9_victim 2 .int rm_X9_victim G ad mdm [.ref (ad 40 0), .int (nI k)] S L R (fun r_ S2 L2 R2 => rQ S S2 0 ∧ r_ = oI (fVic (S 44 0) (S 41 0) n k) ∧ L = L2 ∧ R = R2) := by
  refine Ki.of RX9 (by decide) rfl (Nat.le_of_ble_eq_true rfl) ?_
  intro X hXl hXG C ret
  subst hXl; subst hXG
  change Z X 2 ad mdm S L R 0 0 0 [(0, _), (1, _)] []
  refine z_aload_n C 0 0 0 dX9_victim_0 rfl rfl ?_
  refine z_iload_n C 1 1 1 dX9_victim_1 rfl rfl ?_
  refine z_bipush (v := nI 6) C 2 dX9_victim_2 (by decide +kernel) ?_
  refine z_cVi0 C 4 dX9_victim_4 cv_X9_294 (c_X9_noKind hR (by omega) (by omega) (by decide)) rfl ⟨by decide, rfl⟩ (by first | assumption | exact Nat.zero_lt_one | omega) rfl rfl (Nat.le_of_ble_eq_true rfl) ⟨by decide, by decide⟩ ⟨rfl, rfl⟩ ⟨by decide, by decide⟩ ?_
  intro r4 S4 L4 R4 p4
  obtain ⟨rfl, rfl, rfl, rfl⟩ := p4
  first | with_reducible refine z_if_eqB C 7 14 dX9_victim_7 (by decide) (fun h7 => ?_) (fun h7 => by omega) | with_reducible refine z_if_eqN C 7 14 dX9_victim_7 (by decide) (by omega) (fun h7 => ?_) (fun h7 => by omega) | refine z_if_eq C 7 14 dX9_victim_7 (by decide) (fun h7 => ?_) (fun h7 => by omega)
  · refine z_aload_n C 14 0 0 dX9_victim_14 rfl rfl ?_
    refine z_iload_n C 15 1 1 dX9_victim_15 rfl rfl ?_
    refine z_cVi0 C 16 dX9_victim_16 cv_X9_254 (c_X9_victimOf (n := n) hR hn hn10 hI hk hk6) rfl ⟨by decide, rfl⟩ (by first | assumption | exact Nat.zero_lt_one | omega) rfl rfl (Nat.le_of_ble_eq_true rfl) ⟨by decide, by decide⟩ ⟨rfl, rfl⟩ ⟨by decide, by decide⟩ ?_
    intro r16 S16 L16 R16 p16
    obtain ⟨rfl, rfl, rfl, rfl⟩ := p16
    exact ret 19 _ _ _ _ _ dX9_victim_19 (by first | rfl | exact bI_n | decide) (⟨(rQ_t _ _), rfl, rfl, rfl⟩)

set_option maxHeartbeats 4000000 in
set_option maxRecDepth 100000 in
theorem c_X9_victim_1 {l : Launch} {G : mG} {ad : mA} {S : mS} {L : mL} {R : mR} {x : Int32} (hR : mlk R) (hx : ¬ isR 1 6 x) : Ki l yX9_victim cX9_victim 2 .int rm_X9_victim G ad mdm [.ref (ad 40 0), .int x] S L R (fun r_ S2 L2 R2 => rQ S S2 1 ∧ L = L2 ∧ R = R2) := by
  refine Ki.of RX9 (by decide) rfl (Nat.le_of_ble_eq_true rfl) ?_
  intro X hXl hXG C ret
  subst hXl; subst hXG
  change Z X 2 ad mdm S L R 0 0 0 [(0, _), (1, _)] []
  refine z_aload_n C 0 0 0 dX9_victim_0 rfl rfl ?_
  refine z_iload_n C 1 1 1 dX9_victim_1 rfl rfl ?_
  refine z_bipush (v := nI 6) C 2 dX9_victim_2 (by decide +kernel) ?_
  refine z_cVi0 C 4 dX9_victim_4 cv_X9_294 (c_X9_noKind_1 hR hx (by decide)) rfl ⟨by decide, rfl⟩ (by first | assumption | exact Nat.zero_lt_one | omega) rfl rfl (Nat.le_of_ble_eq_true rfl) ⟨by decide, by decide⟩ ⟨rfl, rfl⟩ ⟨by decide, by decide⟩ ?_
  intro r4 S4 L4 R4 p4
  obtain ⟨rfl, rfl, rfl, rfl⟩ := p4
  first | with_reducible refine z_if_eqB C 7 14 dX9_victim_7 (by decide) (fun h7 => by omega) (fun h7 => ?_) | with_reducible refine z_if_eqN C 7 14 dX9_victim_7 (by decide) (by omega) (fun h7 => by omega) (fun h7 => ?_) | refine z_if_eq C 7 14 dX9_victim_7 (by decide) (fun h7 => by omega) (fun h7 => ?_)
  · refine z_iconst (v := nI 0) C 10 dX9_victim_10 (by decide) ?_
    refine z_goto C 11 19 dX9_victim_11 (by decide) ?_
    exact ret 19 _ _ _ _ _ dX9_victim_19 (by first | rfl | exact bI_n | decide) (⟨(by first | exact rQ_t _ _ | (simp only [up3_up3]; exact rQ_t _ _)), rfl, rfl⟩)
def rm_X9_account : Room := { frames := 2, cells := 0, slots := 0, locals := 44 }
set_option maxHeartbeats 4000000 in
set_option maxRecDepth 100000 in
theorem c_X9_account {l : Launch} {G : mG} {ad : mA} {S : mS} {L : mL} {R : mR} {k : Nat} (hR : mlk R) (hk : 1 ≤ k) (hk9 : k ≤ 9) : Ki l yX9_account cX9_account 2 .int rm_X9_account G ad mdm [.ref (ad 40 0), .int (nI k)] S L R (fun r_ S2 L2 R2 => rQ S S2 0 ∧ r_ = (S 44 0) (378 + k) ∧ L = L2 ∧ R = R2) := by
  refine Ki.of RX9 (by decide) rfl (Nat.le_of_ble_eq_true rfl) ?_
  intro X hXl hXG C ret
  subst hXl; subst hXG
  change Z X 2 ad mdm S L R 0 0 0 [(0, _), (1, _)] []
  refine z_aload_n C 0 0 0 dX9_account_0 rfl rfl ?_
  refine z_iload_n C 1 1 1 dX9_account_1 rfl rfl ?_
  refine z_bipush (v := nI 9) C 2 dX9_account_2 (by decide +kernel) ?_
  refine z_cVi0 C 4 dX9_account_4 cv_X9_294 (c_X9_noKind hR (by omega) (by omega) (by decide)) rfl ⟨by decide, rfl⟩ (by first | assumption | exact Nat.zero_lt_one | omega) rfl rfl (Nat.le_of_ble_eq_true rfl) ⟨by decide, by decide⟩ ⟨rfl, rfl⟩ ⟨by decide, by decide⟩ ?_
  intro r4 S4 L4 R4 p4
  obtain ⟨rfl, rfl, rfl, rfl⟩ := p4
  first | with_reducible refine z_if_eqB C 7 14 dX9_account_7 (by decide) (fun h7 => ?_) (fun h7 => by omega) | with_reducible refine z_if_eqN C 7 14 dX9_account_7 (by decide) (by omega) (fun h7 => ?_) (fun h7 => by omega) | refine z_if_eq C 7 14 dX9_account_7 (by decide) (fun h7 => ?_) (fun h7 => by omega)
  · refine z_aload_n C 14 0 0 dX9_account_14 rfl rfl ?_
    refine z_getr C 15 dX9_account_15 gf_X9_20 rfl (by first | assumption | exact Nat.zero_lt_one | omega) (by first | exact hR _ _ _ _ rfl | assumption) ?_
    refine z_sipush (v := nI 378) C 18 dX9_account_18 (by decide +kernel) ?_
    refine z_iload_n C 21 1 1 dX9_account_21 rfl rfl ?_
    first | with_reducible refine z_iaddN C 22 dX9_account_22 ?_ | refine z_iadd C 22 dX9_account_22 ?_
    refine z_iald C 23 dX9_account_23 (by first | rfl | assumption) (by first | assumption | exact Nat.zero_lt_one | omega) (by first | rfl | assumption) (by first | decide | omega) (by first | assumption | omega) ?_
    exact ret 24 _ _ _ _ _ dX9_account_24 (by first | rfl | exact bI_n | decide) (⟨(rQ_t _ _), rfl, rfl, rfl⟩)

set_option maxHeartbeats 4000000 in
set_option maxRecDepth 100000 in
theorem c_X9_account_1 {l : Launch} {G : mG} {ad : mA} {S : mS} {L : mL} {R : mR} {x : Int32} (hR : mlk R) (hx : ¬ isR 1 9 x) : Ki l yX9_account cX9_account 2 .int rm_X9_account G ad mdm [.ref (ad 40 0), .int x] S L R (fun r_ S2 L2 R2 => rQ S S2 1 ∧ L = L2 ∧ R = R2) := by
  refine Ki.of RX9 (by decide) rfl (Nat.le_of_ble_eq_true rfl) ?_
  intro X hXl hXG C ret
  subst hXl; subst hXG
  change Z X 2 ad mdm S L R 0 0 0 [(0, _), (1, _)] []
  refine z_aload_n C 0 0 0 dX9_account_0 rfl rfl ?_
  refine z_iload_n C 1 1 1 dX9_account_1 rfl rfl ?_
  refine z_bipush (v := nI 9) C 2 dX9_account_2 (by decide +kernel) ?_
  refine z_cVi0 C 4 dX9_account_4 cv_X9_294 (c_X9_noKind_1 hR hx (by decide)) rfl ⟨by decide, rfl⟩ (by first | assumption | exact Nat.zero_lt_one | omega) rfl rfl (Nat.le_of_ble_eq_true rfl) ⟨by decide, by decide⟩ ⟨rfl, rfl⟩ ⟨by decide, by decide⟩ ?_
  intro r4 S4 L4 R4 p4
  obtain ⟨rfl, rfl, rfl, rfl⟩ := p4
  first | with_reducible refine z_if_eqB C 7 14 dX9_account_7 (by decide) (fun h7 => by omega) (fun h7 => ?_) | with_reducible refine z_if_eqN C 7 14 dX9_account_7 (by decide) (by omega) (fun h7 => by omega) (fun h7 => ?_) | refine z_if_eq C 7 14 dX9_account_7 (by decide) (fun h7 => by omega) (fun h7 => ?_)
  · refine z_iconst (v := nI 0) C 10 dX9_account_10 (by decide) ?_
    refine z_goto C 11 24 dX9_account_11 (by decide) ?_
    exact ret 24 _ _ _ _ _ dX9_account_24 (by first | rfl | exact bI_n | decide) (⟨(by first | exact rQ_t _ _ | (simp only [up3_up3]; exact rQ_t _ _)), rfl, rfl⟩)
def rm_X9_log : Room := { frames := 1, cells := 0, slots := 0, locals := 22 }
set_option maxHeartbeats 4000000 in
set_option maxRecDepth 100000 in
theorem c_X9_log {l : Launch} {G : mG} {ad : mA} {S : mS} {L : mL} {R : mR} {m w : Nat} {k : Int32} (hR : mlk R) (hm : (S 44 0) 5 = nI m) (hm24 : m ≤ 24) (hw : w ≤ 2) : Ki l yX9_log cX9_log 3 .int rm_X9_log G ad mdm [.ref (ad 40 0), .int k, .int (nI w)] S L R (fun r_ S2 L2 R2 => rQ S S2 0 ∧ (∀ j, j < m → k = nI j → r_ = (S 44 0) (306 + 3 * j + w)) ∧ (¬ isP m k → r_ = -1) ∧ L = L2 ∧ R = R2) := by
  refine Ki.of RX9 (by decide) rfl (Nat.le_of_ble_eq_true rfl) ?_
  intro X hXl hXG C ret
  subst hXl; subst hXG
  change Z X 3 ad mdm S L R 0 0 0 [(0, _), (1, _), (2, _)] []
  refine z_aload_n C 0 0 0 dX9_log_0 rfl rfl ?_
  refine z_iconst (v := nI 0) C 1 dX9_log_1 (by decide) ?_
  refine z_puti C 2 dX9_log_2 gf_X9_65 ⟨rfl, rfl⟩ rfl (by first | assumption | exact Nat.zero_lt_one | omega) ?_
  refine z_aload_n C 5 0 0 dX9_log_5 rfl rfl ?_
  refine z_iload_n C 6 2 2 dX9_log_6 rfl rfl ?_
  refine z_iconst (v := nI 0) C 7 dX9_log_7 (by decide) ?_
  refine z_iconst (v := nI 2) C 8 dX9_log_8 (by decide) ?_
  refine z_cSi0 C 9 dX9_log_9 cs_X9_89 (c_X9_within_1 (by omega) (by omega) (by first | decide | omega)) rfl rfl (Nat.le_of_ble_eq_true rfl) ⟨by decide, by decide⟩ ⟨rfl, rfl⟩ ⟨by decide, by decide⟩ ?_
  intro r9 S9 L9 R9 p9
  obtain ⟨rfl, rfl, rfl, rfl⟩ := p9
  first | with_reducible refine z_if_neB C 12 19 dX9_log_12 (by decide) (fun h12 => ?_) (fun h12 => by omega) | with_reducible refine z_if_neN C 12 19 dX9_log_12 (by decide) (by omega) (fun h12 => ?_) (fun h12 => by omega) | refine z_if_ne C 12 19 dX9_log_12 (by decide) (fun h12 => ?_) (fun h12 => by omega)
  · refine z_iconst (v := nI 0) C 19 dX9_log_19 (by decide) ?_
    refine z_iconst (v := nI 1) C 20 dX9_log_20 (by decide) ?_
    refine z_cVi0 C 21 dX9_log_21 cv_X9_185 (c_X9_throwsIf_0 hR (by first | assumption | rfl)) rfl ⟨by decide, rfl⟩ (by first | assumption | exact Nat.zero_lt_one | omega) rfl rfl (Nat.le_of_ble_eq_true rfl) ⟨by decide, by decide⟩ ⟨rfl, rfl⟩ ⟨by decide, by decide⟩ ?_
    intro r21 S21 L21 R21 p21
    obtain ⟨rfl, rfl, rfl, rfl⟩ := p21
    first | with_reducible refine z_if_eqB C 24 29 dX9_log_24 (by decide) (fun h24 => ?_) (fun h24 => by omega) | with_reducible refine z_if_eqN C 24 29 dX9_log_24 (by decide) (by omega) (fun h24 => ?_) (fun h24 => by omega) | refine z_if_eq C 24 29 dX9_log_24 (by decide) (fun h24 => ?_) (fun h24 => by omega)
    · refine z_iload_n C 29 1 1 dX9_log_29 rfl rfl ?_
      refine z_iconst (v := nI 0) C 30 dX9_log_30 (by decide) ?_
      refine z_aload_n C 31 0 0 dX9_log_31 rfl rfl ?_
      refine z_getr C 32 dX9_log_32 gf_X9_20 rfl (by first | assumption | exact Nat.zero_lt_one | omega) (by first | exact hR _ _ _ _ rfl | assumption) ?_
      refine z_iconst (v := nI 5) C 35 dX9_log_35 (by decide) ?_
      refine z_iald C 36 dX9_log_36 rfl (by exact Nat.zero_lt_one) (by rfl) (by decide) (by decide) ?_
      rw [show up3 S 40 0 0 (nI 0) 44 0 5 = nI m from hm]
      refine z_iconst (v := nI 1) C 37 dX9_log_37 (by decide) ?_
      refine z_isub C 38 dX9_log_38 ?_
      refine z_cSi0 C 39 dX9_log_39 cs_X9_89 (c_X9_within ) rfl rfl (Nat.le_of_ble_eq_true rfl) ⟨by decide, by decide⟩ ⟨rfl, rfl⟩ ⟨by decide, by decide⟩ ?_
      intro r39 S39 L39 R39 p39
      obtain ⟨rfl, rfl, rfl, rfl⟩ := p39
      first | with_reducible refine z_if_eqB C 42 62 dX9_log_42 (by decide) (fun h42 => ?_) (fun h42 => ?_) | with_reducible refine z_if_eqN C 42 62 dX9_log_42 (by decide) (by omega) (fun h42 => ?_) (fun h42 => ?_) | refine z_if_eq C 42 62 dX9_log_42 (by decide) (fun h42 => ?_) (fun h42 => ?_)
      · have hk : ¬ isP m k := fun z => h42 ((isP_iff (by omega)).mpr z)
        refine z_iconst (v := (-1)) C 62 dX9_log_62 (by decide) ?_
        exact ret 63 _ _ _ _ _ dX9_log_63 (by first | rfl | exact bI_n | decide) (⟨(rQ_t _ _), (by first | exact fun j hj e => absurd ⟨j, hj, e⟩ hk | exact fun j2 hj2 e => by rw [(nI_eq (show j < 2 ^ 31 by omega) (show j2 < 2 ^ 31 by omega)).mp e]; rfl), (by first | exact fun _ => rfl | exact fun z => absurd ⟨j, hj, rfl⟩ z), rfl, rfl⟩)
      · obtain ⟨j, hj, rfl⟩ := (isP_iff (by omega)).mp h42
        refine z_aload_n C 45 0 0 dX9_log_45 rfl rfl ?_
        refine z_getr C 46 dX9_log_46 gf_X9_20 rfl (by first | assumption | exact Nat.zero_lt_one | omega) (by first | exact hR _ _ _ _ rfl | assumption) ?_
        refine z_sipush (v := nI 306) C 49 dX9_log_49 (by decide +kernel) ?_
        refine z_iconst (v := nI 3) C 52 dX9_log_52 (by decide) ?_
        refine z_iload_n C 53 1 1 dX9_log_53 rfl rfl ?_
        first | with_reducible refine z_imulN C 54 dX9_log_54 ?_ | refine z_imul C 54 dX9_log_54 ?_
        first | with_reducible refine z_iaddN C 55 dX9_log_55 ?_ | refine z_iadd C 55 dX9_log_55 ?_
        refine z_iload_n C 56 2 2 dX9_log_56 rfl rfl ?_
        first | with_reducible refine z_iaddN C 57 dX9_log_57 ?_ | refine z_iadd C 57 dX9_log_57 ?_
        refine z_iald C 58 dX9_log_58 (by first | rfl | assumption) (by first | assumption | exact Nat.zero_lt_one | omega) (by first | rfl | assumption) (by first | decide | omega) (by first | assumption | omega) ?_
        refine z_goto C 59 63 dX9_log_59 (by decide) ?_
        exact ret 63 _ _ _ _ _ dX9_log_63 (by first | rfl | exact bI_n | decide) (⟨(rQ_t _ _), (by first | exact fun j hj e => absurd ⟨j, hj, e⟩ hk | exact fun j2 hj2 e => by rw [(nI_eq (show j < 2 ^ 31 by omega) (show j2 < 2 ^ 31 by omega)).mp e]; rfl), (by first | exact fun _ => rfl | exact fun z => absurd ⟨j, hj, rfl⟩ z), rfl, rfl⟩)

set_option maxHeartbeats 4000000 in
set_option maxRecDepth 100000 in
theorem c_X9_log_1 {l : Launch} {G : mG} {ad : mA} {S : mS} {L : mL} {R : mR} {x y : Int32} (hR : mlk R) (hx : ¬ isR 0 2 x) : Ki l yX9_log cX9_log 3 .int rm_X9_log G ad mdm [.ref (ad 40 0), .int y, .int x] S L R (fun r_ S2 L2 R2 => rQ S S2 1 ∧ L = L2 ∧ R = R2) := by
  refine Ki.of RX9 (by decide) rfl (Nat.le_of_ble_eq_true rfl) ?_
  intro X hXl hXG C ret
  subst hXl; subst hXG
  change Z X 3 ad mdm S L R 0 0 0 [(0, _), (1, _), (2, _)] []
  refine z_aload_n C 0 0 0 dX9_log_0 rfl rfl ?_
  refine z_iconst (v := nI 0) C 1 dX9_log_1 (by decide) ?_
  refine z_puti C 2 dX9_log_2 gf_X9_65 ⟨rfl, rfl⟩ rfl (by first | assumption | exact Nat.zero_lt_one | omega) ?_
  refine z_aload_n C 5 0 0 dX9_log_5 rfl rfl ?_
  refine z_iload_n C 6 2 2 dX9_log_6 rfl rfl ?_
  refine z_iconst (v := nI 0) C 7 dX9_log_7 (by decide) ?_
  refine z_iconst (v := nI 2) C 8 dX9_log_8 (by decide) ?_
  refine z_cSi0 C 9 dX9_log_9 cs_X9_89 (c_X9_within_0 hx (by decide) (by decide)) rfl rfl (Nat.le_of_ble_eq_true rfl) ⟨by decide, by decide⟩ ⟨rfl, rfl⟩ ⟨by decide, by decide⟩ ?_
  intro r9 S9 L9 R9 p9
  obtain ⟨rfl, rfl, rfl, rfl⟩ := p9
  first | with_reducible refine z_if_neB C 12 19 dX9_log_12 (by decide) (fun h12 => by omega) (fun h12 => ?_) | with_reducible refine z_if_neN C 12 19 dX9_log_12 (by decide) (by omega) (fun h12 => by omega) (fun h12 => ?_) | refine z_if_ne C 12 19 dX9_log_12 (by decide) (fun h12 => by omega) (fun h12 => ?_)
  · refine z_iconst (v := nI 1) C 15 dX9_log_15 (by decide) ?_
    refine z_goto C 16 20 dX9_log_16 (by decide) ?_
    refine z_iconst (v := nI 1) C 20 dX9_log_20 (by decide) ?_
    refine z_cVi0 C 21 dX9_log_21 cv_X9_185 (c_X9_throwsIf_1 hR (by first | assumption | rfl) (by decide) (by decide)) rfl ⟨by decide, rfl⟩ (by first | assumption | exact Nat.zero_lt_one | omega) rfl rfl (Nat.le_of_ble_eq_true rfl) ⟨by decide, by decide⟩ ⟨rfl, rfl⟩ ⟨by decide, by decide⟩ ?_
    intro r21 S21 L21 R21 p21
    obtain ⟨rfl, rfl, rfl, rfl⟩ := p21
    first | with_reducible refine z_if_eqB C 24 29 dX9_log_24 (by decide) (fun h24 => by omega) (fun h24 => ?_) | with_reducible refine z_if_eqN C 24 29 dX9_log_24 (by decide) (by omega) (fun h24 => by omega) (fun h24 => ?_) | refine z_if_eq C 24 29 dX9_log_24 (by decide) (fun h24 => by omega) (fun h24 => ?_)
    · refine z_iconst (v := nI 0) C 27 dX9_log_27 (by decide) ?_
      exact ret 28 _ _ _ _ _ dX9_log_28 (by first | rfl | exact bI_n | decide) (⟨(by first | exact rQ_t _ _ | (simp only [up3_up3]; exact rQ_t _ _)), rfl, rfl⟩)
