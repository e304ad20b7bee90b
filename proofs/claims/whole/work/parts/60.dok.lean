/-! WHAT A GOOD TEXT TELLS -/
def nOK (l : List Nat) : Prop := wOK l ∧ l.length ≤ 8 ∧ 0 < l.length
def dOK (D : PD) : Prop := D.k ≤ 10 ∧ tI D.T D.k ∧ cO D.c ∧ D.pol ≤ 2 ∧ (50 ≤ D.lim ∧ D.lim ≤ 2000) ∧ ∀ j, j < D.k → nOK (D.nm j)
theorem yC_v {un : Nat → Nat} {len : Nat} {q : mQ} {j w : Nat} (h : (yC un len q j).1 = 0) (hw : w < j) : pLo (tW un len q.2.2) w ≤ tW un len (yC un len q w).2.2 ∧ tW un len (yC un len q w).2.2 ≤ pHi (tW un len q.2.2) w := by
  have h1 : (yC un len q (w + 1)).1 = 0 := yC_le h (by omega)
  have h2 := yN_ok h1
  rw [tW_2 h2.2.1]
  exact h2.2.2.1
theorem yPq_ok {un : Nat → Nat} {len p : Nat} {D : PD} (h : (yPq un len D p).1 = 0) : nOK (wd un len (tE un len p)) := by
  have h1 : (yT un len (y0 (tE un len p)) 1).1 = 0 := by
    unfold yPq at h
    split at h
    · exact h
    · exact absurd h (yE_0 (by decide))
  have h2 := wd_1 (un := un) (len := len) (p := tE un len p) (yT_ok h1).2.1
  exact ⟨h2.1, by omega, by omega⟩
theorem yProg_ok {un : Nat → Nat} {len p : Nat} {D : PD} (hD : dOK D) (h : (yProg un len D p).1.1 = 0) : dOK (yProg un len D p).2 := by
  unfold yProg at h ⊢
  by_cases hk : 10 ≤ D.k
  · rw [if_pos hk] at h
    exact nomatch h
  · rw [if_neg hk] at h ⊢
    have h0 : (yC un len (yPq un len D p) 7).1 = 0 := h
    have hq : (yPq un len D p).1 = 0 := yC_le (w := 0) h0 (by omega)
    obtain ⟨d1, d2, d3, d4, d5, d6⟩ := hD
    refine ⟨show D.k + 1 ≤ 10 by omega, fun r hr => ?_, d3, d4, d5, fun j hj => ?_⟩
    · show ∃ b c w g r' s, (if (8 * r) / 8 = D.k then (if (8 * r) % 8 = 7 then nI 0 else nI (tW un len (yC un len (yPq un len D p) ((8 * r) % 8)).2.2)) else D.T (8 * r)) = nI b ∧ (if (8 * r + 1) / 8 = D.k then (if (8 * r + 1) % 8 = 7 then nI 0 else nI (tW un len (yC un len (yPq un len D p) ((8 * r + 1) % 8)).2.2)) else D.T (8 * r + 1)) = nI c ∧ (if (8 * r + 2) / 8 = D.k then (if (8 * r + 2) % 8 = 7 then nI 0 else nI (tW un len (yC un len (yPq un len D p) ((8 * r + 2) % 8)).2.2)) else D.T (8 * r + 2)) = nI w ∧ (if (8 * r + 3) / 8 = D.k then (if (8 * r + 3) % 8 = 7 then nI 0 else nI (tW un len (yC un len (yPq un len D p) ((8 * r + 3) % 8)).2.2)) else D.T (8 * r + 3)) = nI g ∧ (if (8 * r + 4) / 8 = D.k then (if (8 * r + 4) % 8 = 7 then nI 0 else nI (tW un len (yC un len (yPq un len D p) ((8 * r + 4) % 8)).2.2)) else D.T (8 * r + 4)) = nI r' ∧ (if (8 * r + 5) / 8 = D.k then (if (8 * r + 5) % 8 = 7 then nI 0 else nI (tW un len (yC un len (yPq un len D p) ((8 * r + 5) % 8)).2.2)) else D.T (8 * r + 5)) = nI s ∧ b ≤ g ∧ g ≤ 999 ∧ c ≤ 200 ∧ w ≤ 20 ∧ r' ≤ 100 ∧ s ≤ 400
      have hr' : r < D.k + 1 := hr
      by_cases e : r = D.k
      · subst e
        have b0 := yC_v h0 (w := 0) (by omega)
        have b1 := yC_v h0 (w := 1) (by omega)
        have b2 := yC_v h0 (w := 2) (by omega)
        have b3 := yC_v h0 (w := 3) (by omega)
        have b4 := yC_v h0 (w := 4) (by omega)
        have b5 := yC_v h0 (w := 5) (by omega)
        simp only [pLo, pHi, List.getD_cons_zero, List.getD_cons_succ] at b0 b1 b2 b3 b4 b5
        have e0 : tW un len (yC un len (yPq un len D p) 0).2.2 = tW un len (yPq un len D p).2.2 := rfl
        refine ⟨_, _, _, _, _, _, by rw [if_pos (by omega), if_neg (by omega), show (8 * D.k) % 8 = 0 by omega], by rw [if_pos (by omega), if_neg (by omega), show (8 * D.k + 1) % 8 = 1 by omega], by rw [if_pos (by omega), if_neg (by omega), show (8 * D.k + 2) % 8 = 2 by omega], by rw [if_pos (by omega), if_neg (by omega), show (8 * D.k + 3) % 8 = 3 by omega], by rw [if_pos (by omega), if_neg (by omega), show (8 * D.k + 4) % 8 = 4 by omega], by rw [if_pos (by omega), if_neg (by omega), show (8 * D.k + 5) % 8 = 5 by omega], ?_⟩
        omega
      · obtain ⟨b, c, w, g, r', s, t1, t2, t3, t4, t5, t6, t7⟩ := d2 r (by omega)
        refine ⟨b, c, w, g, r', s, ?_, ?_, ?_, ?_, ?_, ?_, t7⟩
        · rw [if_neg (by omega)]; exact t1
        · rw [if_neg (by omega)]; exact t2
        · rw [if_neg (by omega)]; exact t3
        · rw [if_neg (by omega)]; exact t4
        · rw [if_neg (by omega)]; exact t5
        · rw [if_neg (by omega)]; exact t6
    · show nOK (if j = D.k then _ else _)
      have hj' : j < D.k + 1 := hj
      by_cases e : j = D.k
      · rw [if_pos e]
        exact yPq_ok hq
      · rw [if_neg e]
        exact d6 j (by omega)
theorem dOK.T7 {D : PD} (h : dOK D) {j : Nat} {v : Int32} : dOK ((D.k, D.nm, (fun x => if x = 8 * j + 7 then v else D.T x), D.c, D.pol, D.lim, D.dc, D.dp) : PD) := by
  obtain ⟨d1, d2, d3, d4, d5, d6⟩ := h
  refine ⟨d1, fun r hr => ?_, d3, d4, d5, d6⟩
  obtain ⟨b, c, w, g, r', s, t1, t2, t3, t4, t5, t6, t7⟩ := d2 r hr
  exact ⟨b, c, w, g, r', s, (if_neg (by omega)).trans t1, (if_neg (by omega)).trans t2, (if_neg (by omega)).trans t3, (if_neg (by omega)).trans t4, (if_neg (by omega)).trans t5, (if_neg (by omega)).trans t6, t7⟩
theorem yWork_ok {un : Nat → Nat} {len p : Nat} {D : PD} (hD : dOK D) : dOK (yWork un len D p).2 := by
  unfold yWork
  split
  · exact hD
  · exact hD.T7
theorem yCost_ok {un : Nat → Nat} {len p : Nat} {D : PD} (hD : dOK D) (h : (yCost un len D p).1.1 = 0) : dOK (yCost un len D p).2 := by
  obtain ⟨d1, d2, d3, d4, d5, d6⟩ := hD
  refine ⟨d1, d2, fun i hi => ⟨_, ?_, rfl⟩, d4, d5, d6⟩
  have h1 : (yCc un len (yOn un len p D.dc) (i + 1)).1 = 0 := yCc_le h (by omega)
  have h2 := yN_ok h1
  rw [tW_2 h2.2.1]
  exact h2.2.2.1.2
theorem yPol_ok {un : Nat → Nat} {len p : Nat} {D : PD} (hD : dOK D) : dOK (yPol un len D p).2 := by
  obtain ⟨d1, d2, d3, d4, d5, d6⟩ := hD
  unfold yPol
  dsimp only
  split
  · exact ⟨d1, d2, d3, show 0 ≤ 2 by omega, d5, d6⟩
  · split
    · exact ⟨d1, d2, d3, show 1 ≤ 2 by omega, d5, d6⟩
    · split
      · exact ⟨d1, d2, d3, show 2 ≤ 2 by omega, d5, d6⟩
      · exact ⟨d1, d2, d3, d4, d5, d6⟩
theorem yStm_ok {un : Nat → Nat} {len p : Nat} {D : PD} (hD : dOK D) (h : (yStm un len D p).1.1 = 0) : dOK (yStm un len D p).2 := by
  unfold yStm at h ⊢
  split at h
  · rename_i z
    rw [if_pos z]
    exact yProg_ok hD h
  · rename_i z
    rw [if_neg z]
    split at h
    · rename_i z
      rw [if_pos z]
      exact yWork_ok hD
    · rename_i z
      rw [if_neg z]
      split at h
      · rename_i z
        rw [if_pos z]
        exact yCost_ok hD h
      · rename_i z
        rw [if_neg z]
        split at h
        · rename_i z
          rw [if_pos z]
          exact yPol_ok hD
        · exact nomatch h
theorem yLoop_ok {un : Nat → Nat} {len : Nat} : ∀ (n : Nat) (D : PD) (q : mQ), (q.1 = 0 → dOK D) → (yLoop un len n D q).1.1 = 0 → dOK (yLoop un len n D q).2
  | 0, D, q, hD, h => hD h
  | n + 1, D, q, hD, h => by
    rw [yLoop] at h ⊢
    by_cases z : q.1 = 0 ∧ ¬ tK un len q.2.2 = 0
    · rw [if_pos z] at h ⊢
      exact yLoop_ok n _ _ (fun z2 => yStm_ok (hD z.1) (yT_ok z2).1) h
    · rw [if_neg z] at h ⊢
      exact hD h
theorem yLoop_G {un : Nat → Nat} {len : Nat} : ∀ (n : Nat) (D : PD) (q : mQ), yG len 0 q → yG len 0 (yLoop un len n D q).1
  | 0, D, q, h => h
  | n + 1, D, q, h => by
    rw [yLoop]
    by_cases z : q.1 = 0 ∧ ¬ tK un len q.2.2 = 0
    · rw [if_pos z]
      exact yLoop_G n _ _ (((yStm_G h.2.1).T 3).up (Nat.zero_le _))
    · rw [if_neg z]
      exact h
theorem yPh_G {un : Nat → Nat} {len : Nat} : yG len 0 (yPh un len).1 := yLoop_G _ _ _ yH_G
theorem yPh_ok {un : Nat → Nat} {len : Nat} (h : (yPh un len).1.1 = 0) : dOK (yPh un len).2 := by
  refine yLoop_ok _ _ _ (fun z => ?_) h
  have z1 := yN_ok (yT_ok z).1
  refine ⟨Nat.zero_le _, fun p hp => absurd hp (Nat.not_lt_zero _), fun i hi => ?_, show 0 ≤ 2 by omega, ?_, fun j hj => absurd hj (Nat.not_lt_zero _)⟩
  · rcases (show i = 0 ∨ i = 1 ∨ i = 2 ∨ i = 3 by omega) with rfl | rfl | rfl | rfl
    · exact ⟨10, by omega, rfl⟩
    · exact ⟨2, by omega, rfl⟩
    · exact ⟨5, by omega, rfl⟩
    · exact ⟨20, by omega, rfl⟩
  · show 50 ≤ tW un len (yH0 un len).2.2 ∧ tW un len (yH0 un len).2.2 ≤ 2000
    rw [tW_2 z1.2.1]
    exact z1.2.2.1
theorem tI.te {T U : NN} {n : Nat} (h : tI T n) (e : TE U T n) : tI U n := fun p hp => by
  obtain ⟨b, c, w, g, r, s, t1, t2, t3, t4, t5, t6, t7⟩ := h p hp
  exact ⟨b, c, w, g, r, s, (e p 0 hp (by omega)).trans t1, (e p 1 hp (by omega)).trans t2, (e p 2 hp (by omega)).trans t3, (e p 3 hp (by omega)).trans t4, (e p 4 hp (by omega)).trans t5, (e p 5 hp (by omega)).trans t6, t7⟩
theorem smI_z {f : NN} : ∀ {n : Nat}, (∀ k, k < n → f k = nI 0) → smI f n = nI 0
  | 0, _ => rfl
  | n + 1, h => by
    rw [smI, smI_z (fun k hk => h k (by omega)), h n (by omega)]
    rfl
/-- a new phone's row -/
theorem JI_beg {T : NN} {n B l p : Nat} (ht : tI T n) (hl : l ≤ 2000) (hp : p ≤ 2) : JI (fBeg (nI l) (nI p)) T n B := by
  have f0 : ∀ q w, fo (fBeg (nI l) (nI p)) q w = nI 0 := fun q w => fBeg_fo
  refine ⟨⟨⟨Or.inl rfl, Or.inl rfl, fun q _ => ⟨0, by omega, f0 q 0⟩, fun q hq => ?_, fun q _ => ⟨0, by omega, f0 q 10⟩, fun q _ => ⟨0, by omega, f0 q 15⟩, fun q _ => Or.inl (f0 q 6), fun q _ => Or.inl (f0 q 9), ⟨0, by omega, fBeg_hi (by omega)⟩⟩, fun q hq => ?_, ?_, fun q hq => ?_⟩, fun q hq => ?_, ?_, ⟨l, hl, rfl⟩⟩
  · rw [f0]
    exact ⟨fun z => absurd z (by decide), fun z => absurd z.symm (nI_m1 (by omega))⟩
  · rw [f0, f0, f0]
    exact ⟨fun _ => rfl, fun _ => rfl⟩
  · exact ⟨⟨0, Nat.zero_le _, fBeg_hi (by omega), fun q _ => Or.inl (f0 q 4), fun q _ => ⟨0, Nat.le_refl _, f0 q 8⟩⟩, fun q _ => (f0 q 7).trans (f0 q 8).symm, ⟨p, by omega, rfl⟩⟩
  · rw [f0, f0, f0]
    exact ⟨fun z => absurd z (by decide), fun _ => rfl⟩
  · obtain ⟨b, c, w, g, r, s, t1, t2, t3, t4, t5, t6, t7, t8, t9, t10, t11⟩ := ht q hq
    exact ⟨0, 0, g, f0 q 1, f0 q 2, t4, Nat.zero_le _, t8, Nat.zero_le _⟩
  · have e : fAll (fBeg (nI l) (nI p)) T n = nI 0 := by
      unfold fAll
      refine smI_z (fun k hk => ?_)
      unfold fUses
      rw [f0]
      rfl
    rw [e]
    exact fun z => by have := (nI_ltI (by omega) (by decide)).mp (show nI l < nI 0 from z); omega

