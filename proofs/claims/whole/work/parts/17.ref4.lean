theorem fCan_st {N : NN} {p k : Nat} (hk : 1 ≤ k) (hk6 : k ≤ 6) (h : fCan N p k) : (k = 6 ∧ fo N p 0 = nI 1) ∨ (k ≠ 6 ∧ fo N p 0 ≠ nI 1) := by
  unfold fCan at h
  rcases (show k = 1 ∨ k = 2 ∨ k = 3 ∨ k = 4 ∨ k = 5 ∨ k = 6 by omega) with rfl | rfl | rfl | rfl | rfl | rfl
  · right; refine ⟨by omega, ?_⟩; rcases h.1 with e | e <;> rw [e] <;> decide
  · right; refine ⟨by omega, ?_⟩; rw [h.1]; decide
  · right; refine ⟨by omega, ?_⟩; rw [h.1]; decide
  · right; refine ⟨by omega, ?_⟩; rw [h.1]; decide
  · right; refine ⟨by omega, ?_⟩; rw [h.1]; decide
  · left; exact ⟨rfl, h.1⟩
theorem rI.step {N : NN} {n p k : Nat} (h : rI N n) (hp : p < 10) (hk : 1 ≤ k) (hk6 : k ≤ 6) (hc : fCan N p k) : rI (fStep N p k) n := by
  unfold fStep
  refine rI.wr ?_
  have h4 := h.2.2.2.1 p hp
  have hst := fCan_st hk hk6 hc
  unfold fStep0
  by_cases k5 : k = 5
  · rw [if_pos k5]
    have hn1 : ¬ N 2 = nI p := fun z => by
      rcases hst with e | e
      · omega
      · exact e.2 (h4.mpr z)
    unfold fEmpty
    have e0 : ∃ s, s ≤ 5 ∧ nI 0 = nI s := ⟨0, by omega, rfl⟩
    refine rI.set (rI.set (rI.set (rI.set (rI.set h (by omega) (fun _ => ⟨e0, ?_⟩) ?_ ?_ ?_ ?_) (by omega) ?_ ?_ ?_ ?_ ?_) (by omega) ?_ ?_ ?_ ?_ ?_) (by omega) ?_ ?_ ?_ ?_ ?_) (by omega) ?_ ?_ (fun _ => e0) ?_ ?_
    · exact ⟨fun z => absurd z (by decide), fun z => absurd z hn1⟩
    all_goals (intro z; omega)
  · rw [if_neg k5]
    by_cases k3 : k = 3
    · rw [if_pos k3]
      refine rI.set h (by omega) (fun _ => ⟨⟨3, by omega, rfl⟩, ?_⟩) (fun z => by omega) (fun z => by omega) (fun z => by omega) (fun z => by omega)
      refine ⟨fun z => absurd z (by decide), fun z => ?_⟩
      rcases hst with e | e
      · omega
      · exact absurd (h4.mpr z) e.2
    · rw [if_neg k3]
      refine rI.set (rI.set (rI.set h (by omega) ?_ ?_ ?_ ?_ ?_) (by omega) (fun _ => ?_) ?_ ?_ ?_ ?_) (by omega) ?_ ?_ ?_ ?_ ?_
      rotate_left 5
      · rw [fset_lo _ (by omega)]
        by_cases k2 : k = 2
        · rw [if_pos k2]
          refine ⟨⟨4, by omega, rfl⟩, fun z => absurd z (by decide), fun z => ?_⟩
          rcases hst with e | e
          · omega
          · exact absurd (h4.mpr z) e.2
        · rw [if_neg k2]
          by_cases k4 : k = 4
          · rw [if_pos k4]
            refine ⟨⟨5, by omega, rfl⟩, fun z => absurd z (by decide), fun z => ?_⟩
            rcases hst with e | e
            · omega
            · exact absurd (h4.mpr z) e.2
          · rw [if_neg k4]
            exact ⟨h.2.2.1 p hp, h4⟩
      all_goals (intro z; omega)
theorem fVic_lt {N T : NN} {n k p : Nat} (h : fVic N T n k = some p) : p < n := fVicF_lt h
theorem fVic_can {N T : NN} {n k p : Nat} (h : fVic N T n k = some p) : fCan N p k := fVicF_can h
theorem fKindF_some {N T : NN} {n : Nat} : ∀ {m c k p : Nat}, fKindF N T n m c = some (k, p) → c ≤ k ∧ k < c + m ∧ fVic N T n k = some p
  | 0, _, _, _, h => by cases h
  | m + 1, c, k, p, h => by
    unfold fKindF at h
    cases hv : fVic N T n c with
    | some q =>
      rw [hv] at h
      simp only [Option.some.injEq, Prod.mk.injEq] at h
      obtain ⟨rfl, rfl⟩ := h
      exact ⟨Nat.le_refl _, by omega, hv⟩
    | none =>
      rw [hv] at h
      have := fKindF_some h
      exact ⟨by omega, by omega, this.2.2⟩
theorem fKindF_t {N T : NN} {n m c p : Nat} (h : fVic N T n c = some p) : fKindF N T n (m + 1) c = some (c, p) := by rw [fKindF, h]
theorem fKindF_f {N T : NN} {n m c : Nat} (h : fVic N T n c = none) : fKindF N T n (m + 1) c = fKindF N T n m (c + 1) := by rw [fKindF, h]
theorem fMemF_0 {N T : NN} {n f : Nat} (h : ¬ N 0 < fAll N T n) : fMemF T n (f + 1) N = some (0, N) := by rw [fMemF, if_neg h]
theorem fMemF_n {N T : NN} {n f : Nat} (h : N 0 < fAll N T n) (hk : fKind N T n = none) : fMemF T n (f + 1) N = none := by rw [fMemF, if_pos h, hk]
theorem fMemF_s {N T : NN} {n f k p : Nat} (h : N 0 < fAll N T n) (hk : fKind N T n = some (k, p)) : fMemF T n (f + 1) N = (fMemF T n f (fStep N p k)).map (fun q => (q.1 + 1, q.2)) := by rw [fMemF, if_pos h, hk]
/-- the steps' count is small, the row behind them keeps the invariant, and nothing but the programs' own numbers, the log and its counts has changed -/
theorem fMemF_ok {T : NN} {n : Nat} (hn : n ≤ 10) : ∀ (f : Nat) {N : NN} {q : Nat × NN}, rI N n → fMemF T n f N = some q → q.1 ≤ f ∧ rI q.2 n ∧ (∀ j, j < 5 → q.2 j = N j)
  | 0, _, _, _, h => by cases h
  | f + 1, N, q, hI, h => by
    by_cases hm : N 0 < fAll N T n
    · cases hk : fKind N T n with
      | none => rw [fMemF_n hm hk] at h; cases h
      | some kp =>
        obtain ⟨k, p⟩ := kp
        rw [fMemF_s hm hk] at h
        obtain ⟨g1, g2, g3⟩ := fKindF_some hk
        have hp := fVic_lt g3
        have hI' := rI.step hI (show p < 10 by omega) g1 (by omega) (fVic_can g3)
        cases hr : fMemF T n f (fStep N p k) with
        | none => rw [hr] at h; cases h
        | some r =>
          rw [hr] at h
          cases h
          obtain ⟨i1, i2, i3⟩ := fMemF_ok hn f hI' hr
          refine ⟨by show r.1 + 1 ≤ f + 1; omega, i2, fun j hj => ?_⟩
          show r.2 j = _
          rw [i3 j hj]
          unfold fStep
          rw [wr_lo hj]
          unfold fStep0 fEmpty
          repeat' split
          all_goals simp only [fset_lo _ (show j < 6 by omega)]
    · rw [fMemF_0 hm] at h
      cases h
      exact ⟨Nat.zero_le _, hI, fun _ _ => rfl⟩
theorem opt_map_map {a b : Nat × NN} {o : Option (Nat × NN)} (m : Nat) : (o.map (fun q => (q.1 + 1, q.2))).map (fun q : Nat × NN => (q.1 + m, q.2)) = o.map (fun q => (q.1 + (m + 1), q.2)) := by
  cases o with
  | none => rfl
  | some q => simp only [Option.map_some]; congr 2; omega

def rm_X9_memory : Room := { frames := 6, cells := 0, slots := 0, locals := 136 }
set_option maxHeartbeats 4000000 in
set_option maxRecDepth 100000 in
theorem c_X9_memory {l : Launch} {G : mG} {ad : mA} {S : mS} {L : mL} {R : mR} {n : Nat} (hR : mlk R) (hn : S 40 0 1 = nI n) (hn10 : n ≤ 10) (hI : rI (S 44 0) n) : Ki l yX9_memory cX9_memory 3 .int rm_X9_memory G ad mdm [.ref (ad 40 0)] S L R (fun r_ S2 L2 R2 => (match fMem (S 44 0) (S 41 0) n with | some q => r_ = nI q.1 ∧ sA S 44 q.2 = S2 | none => r_ = -1 ∧ ∃ A, sA S 44 A = S2) ∧ L = L2 ∧ R = R2) := by
  refine Ki.of RX9 (by decide) rfl (Nat.le_of_ble_eq_true rfl) ?_
  intro X hXl hXG C ret
  subst hXl; subst hXG
  change Z X 3 ad mdm S L R 0 0 0 [(0, _)] []
  rw [← sA_id S 44]
  have hP0 := Phi_le (S 44 0) n
  refine z_iconst (v := nI 0) C 0 dX9_memory_0 (by decide) ?_
  refine z_istore_n C 1 1 [(1, _), (0, _)] dX9_memory_1 rfl (by decide) rfl ?_
  have loop_2 : ∀ (n_2 : Nat) (f m : Nat) (A : NN), rI A n → Phi A n < f → m + f ≤ 60 → fMem (S 44 0) (S 41 0) n = (fMemF (S 41 0) n f A).map (fun q => (q.1 + m, q.2)) → f < n_2 → Z X 3 ad mdm (sA S 44 A) L R 0 0 2 [(0, .ref (ad 40 0)), (1, .int (nI m))] [] := by
    intro n_2
    induction n_2 with
    | zero => intro f m A hA hPA hmf hfm hm2; exact absurd hm2 (Nat.not_lt_zero _)
    | succ n_2 ih2 =>
      intro f m A hA hPA hmf hfm hm2
      obtain ⟨f, rfl⟩ : ∃ g, f = g + 1 := ⟨f - 1, by omega⟩
      refine z_aload_n C 2 0 0 dX9_memory_2 rfl rfl ?_
      refine z_cVi0 C 3 dX9_memory_3 cv_X9_251 (c_X9_usesAll hR hn hn10) rfl ⟨by decide, rfl⟩ (by first | assumption | exact Nat.zero_lt_one | omega) rfl rfl (Nat.le_of_ble_eq_true rfl) ⟨by decide, by decide⟩ ⟨rfl, rfl⟩ ⟨by decide, by decide⟩ ?_
      intro r3 S3 L3 R3 p3
      obtain ⟨rfl, rfl, rfl, rfl⟩ := p3
      refine z_aload_n C 6 0 0 dX9_memory_6 rfl rfl ?_
      refine z_getr C 7 dX9_memory_7 gf_X9_20 rfl (by first | assumption | exact Nat.zero_lt_one | omega) (by first | exact hR _ _ _ _ rfl | assumption) ?_
      refine z_iconst (v := nI 0) C 10 dX9_memory_10 (by decide) ?_
      refine z_iald C 11 dX9_memory_11 (by first | rfl | assumption) (by first | assumption | exact Nat.zero_lt_one | omega) (by first | rfl | assumption) (by decide) (by first | assumption | omega) ?_
      first | with_reducible refine z_icmp_leN C 12 62 dX9_memory_12 (by decide) (by omega) (by omega) (fun h12 => ?_) (fun h12 => ?_) | refine z_icmp_le C 12 62 dX9_memory_12 (by decide) (fun h12 => ?_) (fun h12 => ?_)
      · have hmem : ¬ A 0 < fAll A (S 41 0) n := Int32.not_lt.mpr h12
        refine z_iload_n C 62 1 1 dX9_memory_62 rfl rfl ?_
        exact ret 63 _ _ _ _ _ dX9_memory_63 (by first | rfl | exact bI_n | decide) (⟨by rw [hfm, fMemF_0 hmem]; exact ⟨by simp, rfl⟩, rfl, rfl⟩)
      · have hmem : A 0 < fAll A (S 41 0) n := Int32.not_le.mp h12
        refine z_iconst (v := nI 1) C 15 dX9_memory_15 (by decide) ?_
        refine z_istore_n C 16 2 [(2, _), (0, _), (1, _)] dX9_memory_16 rfl (by decide) rfl ?_
        have loop_17 : ∀ (n_17 : Nat) (c d : Nat), 1 ≤ c → c + d = 7 → fKind A (S 41 0) n = fKindF A (S 41 0) n d c → d < n_17 → Z X 3 ad mdm (sA S 44 A) L R 0 0 17 [(0, .ref (ad 40 0)), (1, .int (nI m)), (2, .int (nI c))] [] := by
          intro n_17
          induction n_17 with
          | zero => intro c d hc1 hcd hfk hm17; exact absurd hm17 (Nat.not_lt_zero _)
          | succ n_17 ih17 =>
            intro c d hc1 hcd hfk hm17
            refine z_iload_n C 17 2 2 dX9_memory_17 rfl rfl ?_
            refine z_bipush (v := nI 6) C 18 dX9_memory_18 (by decide +kernel) ?_
            first | with_reducible refine z_icmp_gtN C 20 38 dX9_memory_20 (by decide) (by omega) (by omega) (fun h20 => ?_) (fun h20 => ?_) | refine z_icmp_gt C 20 38 dX9_memory_20 (by decide) (fun h20 => ?_) (fun h20 => ?_)
            · obtain rfl : d = 0 := by omega
              have hfn : fMem (S 44 0) (S 41 0) n = none := by rw [hfm, fMemF_n hmem (by rw [hfk]; rfl)]; rfl
              refine z_iload_n C 38 2 2 dX9_memory_38 rfl rfl ?_
              refine z_bipush (v := nI 6) C 39 dX9_memory_39 (by decide +kernel) ?_
              first | with_reducible refine z_icmp_leN C 41 46 dX9_memory_41 (by decide) (by omega) (by omega) (fun h41 => by omega) (fun h41 => ?_) | refine z_icmp_le C 41 46 dX9_memory_41 (by decide) (fun h41 => by omega) (fun h41 => ?_)
              · refine z_iconst (v := (-1)) C 44 dX9_memory_44 (by decide) ?_
                exact ret 45 _ _ _ _ _ dX9_memory_45 (by first | rfl | exact bI_n | decide) (⟨by first | (exfalso; omega) | (rw [hfn]; exact ⟨rfl, _, rfl⟩), rfl, rfl⟩)
            · obtain ⟨d, rfl⟩ : ∃ g, d = g + 1 := ⟨d - 1, by omega⟩
              refine z_aload_n C 23 0 0 dX9_memory_23 rfl rfl ?_
              refine z_iload_n C 24 2 2 dX9_memory_24 rfl rfl ?_
              refine z_cVi0 C 25 dX9_memory_25 cv_X9_254 (c_X9_victimOf hR hn hn10 hA (by omega) (by omega)) rfl ⟨by decide, rfl⟩ (by first | assumption | exact Nat.zero_lt_one | omega) rfl rfl (Nat.le_of_ble_eq_true rfl) ⟨by decide, by decide⟩ ⟨rfl, rfl⟩ ⟨by decide, by decide⟩ ?_
              intro r25 S25 L25 R25 p25
              obtain ⟨rfl, rfl, rfl, rfl⟩ := p25
              refine z_iconst (v := (-1)) C 28 dX9_memory_28 (by decide) ?_
              first | with_reducible refine z_icmp_neN C 29 38 dX9_memory_29 (by decide) (by omega) (by omega) (fun h29 => ?_) (fun h29 => ?_) | refine z_icmp_ne C 29 38 dX9_memory_29 (by decide) (fun h29 => ?_) (fun h29 => ?_)
              · obtain ⟨p, hv⟩ := oI_some h29
                have hv : fVic A (S 41 0) n c = some p := hv
                have hp := fVic_lt hv
                refine z_iload_n C 38 2 2 dX9_memory_38 rfl rfl ?_
                refine z_bipush (v := nI 6) C 39 dX9_memory_39 (by decide +kernel) ?_
                first | with_reducible refine z_icmp_leN C 41 46 dX9_memory_41 (by decide) (by omega) (by omega) (fun h41 => ?_) (fun h41 => ?_) | refine z_icmp_le C 41 46 dX9_memory_41 (by decide) (fun h41 => ?_) (fun h41 => ?_)
                · refine z_aload_n C 46 0 0 dX9_memory_46 rfl rfl ?_
                  refine z_aload_n C 47 0 0 dX9_memory_47 rfl rfl ?_
                  refine z_iload_n C 48 2 2 dX9_memory_48 rfl rfl ?_
                  refine z_cVi0 C 49 dX9_memory_49 cv_X9_254 (c_X9_victimOf hR hn hn10 hA (by omega) (by omega)) rfl ⟨by decide, rfl⟩ (by first | assumption | exact Nat.zero_lt_one | omega) rfl rfl (Nat.le_of_ble_eq_true rfl) ⟨by decide, by decide⟩ ⟨rfl, rfl⟩ ⟨by decide, by decide⟩ ?_
                  intro r49 S49 L49 R49 p49
                  obtain ⟨rfl, rfl, rfl, rfl⟩ := p49
                  rw [show fVic (sA S 44 A 44 0) (sA S 44 A 41 0) n c = some p from hv]
                  refine z_iload_n C 52 2 2 dX9_memory_52 rfl rfl ?_
                  refine z_cVv0 C 53 dX9_memory_53 cv_X9_257 (c_X9_steps hR (by omega) (by omega) (by omega)) rfl ⟨by decide, rfl⟩ (by first | assumption | exact Nat.zero_lt_one | omega) rfl rfl (Nat.le_of_ble_eq_true rfl) ⟨by decide, by decide⟩ ⟨rfl, rfl⟩ ⟨by decide, by decide⟩ ?_
                  intro S53 L53 R53 p53
                  obtain ⟨rfl, rfl, rfl⟩ := p53
                  refine z_iinc C 56 1 1 [(1, _), (0, _), (2, _)] dX9_memory_56 rfl (by first | exact nI_1 _ | rfl) (by decide) rfl ?_
                  refine z_goto C 59 2 dX9_memory_59 (by decide) ?_
                  refine z_sub [(0, _), (1, _)] [1, 0] rfl ?_
                  rw [sA_sA]
                  have hkk := hfk.trans (fKindF_t hv)
                  exact ih2 f (m + 1) (fStep A p c) (rI.step hA (by omega) hc1 (by omega) (fVic_can hv)) (by have := Phi_step hp hn10 hc1 (by omega) (fVic_can hv); omega) (by omega) (by rw [hfm, fMemF_s hmem hkk]; exact opt_map_map (a := (0, A)) (b := (0, A)) m) (by omega)
                · refine z_iconst (v := (-1)) C 44 dX9_memory_44 (by decide) ?_
                  exact ret 45 _ _ _ _ _ dX9_memory_45 (by first | rfl | exact bI_n | decide) (⟨by first | (exfalso; omega) | (rw [hfn]; exact ⟨rfl, _, rfl⟩), rfl, rfl⟩)
              · have hvn := oI_none (fun o ho => by have := fVic_lt ho; omega) h29
                refine z_iinc C 32 2 2 [(2, _), (0, _), (1, _)] dX9_memory_32 rfl (by first | exact nI_1 _ | rfl) (by decide) rfl ?_
                refine z_goto C 35 17 dX9_memory_35 (by decide) ?_
                refine z_sub [(0, _), (1, _), (2, _)] [1, 2, 0] rfl ?_
                exact ih17 (c + 1) d (by omega) (by omega) (by rw [hfk]; exact fKindF_f hvn) (by omega)
        refine z_sub [(0, _), (1, _), (2, _)] [1, 2, 0] rfl ?_
        exact loop_17 7 1 6 (by omega) (by omega) rfl (by omega)
  refine z_sub [(0, _), (1, _)] [1, 0] rfl ?_
  exact loop_2 61 60 0 (S 44 0) hI (by omega) (by omega) (by unfold fMem; cases fMemF (S 41 0) n 60 (S 44 0) <;> rfl) (by omega)
