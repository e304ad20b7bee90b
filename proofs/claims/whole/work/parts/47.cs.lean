/-! THE CLASS'S OWN WORLD: which phone holds which row -/
/-- phone v holds row N, told by description d -/
def VR (S : mS) (R : mR) (T : NN) (d n B v : Nat) (N : NN) : Prop := AB S v N n ∧ R 25 v 1 = some (3, d) ∧ R 12 v 0 = some (3, d) ∧ JI N T n B
/-- the places of the phones: 0 now, 1 trial, 2 spare, 3 .. 12 the history's, 13 and 14 the slots' -/
def PI (R : mR) (ph : Nat → Nat) : Prop := (∀ i, i < 15 → ph i < 15) ∧ (∀ i j, i < 15 → j < 15 → ph i = ph j → i = j) ∧ R 0 0 5 = some (25, ph 0) ∧ R 0 0 6 = some (25, ph 1) ∧ R 0 0 7 = some (25, ph 2) ∧ (∀ i, i < 10 → R 32 0 i = some (25, ph (3 + i))) ∧ ∀ i, i < 2 → R 33 0 i = some (25, ph (13 + i))
def CD (S : mS) (R : mR) (T c : NN) (d n : Nat) : Prop := d < 2 ∧ R 0 0 2 = some (3, d) ∧ R 0 0 3 = some (3, 1 - d) ∧ AT S d T n ∧ AC S d c ∧ n ≤ 10 ∧ tI T n
def CS (S : mS) (R : mR) (T c : NN) (d n B x u : Nat) (ph : Nat → Nat) (N : NN) (UR SR : Nat → NN) (sf : Nat → Nat) : Prop :=
  mlk R ∧ PI R ph ∧ CD S R T c d n ∧ (S 31 0 1 = nI x ∧ x < 10 ∧ S 31 0 2 = nI u ∧ u ≤ 10) ∧ VR S R T d n B (ph 0) N ∧ (∀ j, j < u → VR S R T d n B (ph (3 + (x + 10 - u + j) % 10)) (UR j)) ∧ (∀ s, s < 2 → S 34 0 s = nI (sf s) ∧ sf s ≤ 1 ∧ (sf s = 1 → VR S R T d n B (ph (13 + s)) (SR s))) ∧ B < 2147000000
def FC (S S2 : mS) : Prop := ∀ k, k ≤ 6 ∨ 40 ≤ k → S2 k = S k
theorem FC.rf (S : mS) : FC S S := fun _ _ => rfl
theorem FC.tr {S S2 S3 : mS} (h : FC S S2) (h2 : FC S2 S3) : FC S S3 := fun k hk => (h2 k hk).trans (h k hk)
theorem FV.fc {S S2 : mS} {v : Nat} (h : FV S S2 v) : FC S S2 := fun k hk => by funext i; exact h k i (by omega)
theorem FT.fc {S S2 : mS} (h : FT S S2) : FC S S2 := fun k hk => by funext i; exact h k i (by omega)
theorem FC.up {S S2 : mS} (h : FC S S2) {k i j : Nat} {x : Int32} (hk : 7 ≤ k ∧ k < 40) : FC S (up3 S2 k i j x) := fun k' hk' => by
  rw [up3_k _ (by omega)]
  exact h k' hk'
/-- where one phone and the trims' room changed their descriptions -/
def RX (R R2 : mR) (v : Nat) : Prop := mlk R2 ∧ ∀ k i j, ¬ ((k = 12 ∧ (i = 15 ∨ i = v) ∧ j = 0) ∨ (k = 25 ∧ i = v ∧ j = 1)) → R2 k i j = R k i j
theorem RX.rf {R : mR} {v : Nat} (h : mlk R) : RX R R v := ⟨h, fun _ _ _ _ => rfl⟩
theorem RX.tr {R R2 R3 : mR} {v : Nat} (h : RX R R2 v) (h2 : RX R2 R3 v) : RX R R3 v := ⟨h2.1, fun k i j hn => (h2.2 k i j hn).trans (h.2 k i j hn)⟩
theorem FR.rx {R R2 : mR} {v : Nat} (h : FR R R2) : RX R R2 v := ⟨h.1, fun k i j hn => h.2 k i j (fun z => hn (Or.inl ⟨z.1, Or.inl z.2.1, z.2.2⟩))⟩
theorem RX.cp {R : mR} {v : Nat} {a b : Option (Nat × Nat)} (h : mlk R) : RX R (up3 (up3 R 25 v 1 a) 12 v 0 b) v := ⟨(h.up rfl).up rfl, fun k i j hn => by
  simp only [up3]
  rw [if_neg (fun z => hn (Or.inl ⟨z.1, Or.inr z.2.1, z.2.2⟩)), if_neg (fun z => hn (Or.inr z))]⟩
theorem VR.off {S S2 : mS} {R R2 : mR} {T N : NN} {d n B w : Nat} (h : VR S R T d n B w N) (e : ∀ k, 12 ≤ k → k ≤ 30 → S2 k w = S k w) (e1 : R2 25 w 1 = R 25 w 1) (e2 : R2 12 w 0 = R 12 w 0) : VR S2 R2 T d n B w N := ⟨h.1.off e, e1.trans h.2.1, e2.trans h.2.2.1, h.2.2.2⟩
theorem VR.fv {S S2 : mS} {R R2 : mR} {T N : NN} {d n B v w : Nat} (h : VR S R T d n B w N) (hw : w < 15) (hne : w ≠ v) (hF : FV S S2 v) (hR : RX R R2 v) : VR S2 R2 T d n B w N :=
  h.off (fun k a b => hF k w (by omega)) (hR.2 25 w 1 (by omega)) (hR.2 12 w 0 (by omega))
theorem VR.up {S : mS} {R : mR} {T N : NN} {d n B C w : Nat} (h : VR S R T d n B w N) (hB : B ≤ C) : VR S R T d n C w N := ⟨h.1, h.2.1, h.2.2.1, h.2.2.2.up hB⟩
theorem PI.off {R R2 : mR} {ph : Nat → Nat} (h : PI R ph) (e : ∀ k i j, k = 0 ∨ k = 32 ∨ k = 33 → R2 k i j = R k i j) : PI R2 ph := by
  obtain ⟨a, b, c, d, f, g, i⟩ := h
  exact ⟨a, b, (e 0 0 5 (by omega)).trans c, (e 0 0 6 (by omega)).trans d, (e 0 0 7 (by omega)).trans f, fun j hj => (e 32 0 j (by omega)).trans (g j hj), fun j hj => (e 33 0 j (by omega)).trans (i j hj)⟩
theorem CD.off {S S2 : mS} {R R2 : mR} {T c : NN} {d n : Nat} (h : CD S R T c d n) (hF : FC S S2) (e2 : R2 0 0 2 = R 0 0 2) (e3 : R2 0 0 3 = R 0 0 3) : CD S2 R2 T c d n := by
  obtain ⟨a, b, c', f, g, i, j⟩ := h
  refine ⟨a, e2.trans b, e3.trans c', f.off (by rw [hF 3 (by omega)]) (fun i => by rw [hF 6 (by omega)]), ?_, i, j⟩
  unfold AC
  rw [hF 3 (by omega)]
  exact g
theorem CS.ph {S : mS} {R : mR} {T c N : NN} {d n B x u : Nat} {ph : Nat → Nat} {UR SR : Nat → NN} {sf : Nat → Nat} (h : CS S R T c d n B x u ph N UR SR sf) {i : Nat} (hi : i < 15) : ph i < 15 := h.2.1.1 i hi
theorem CS.ne {S : mS} {R : mR} {T c N : NN} {d n B x u : Nat} {ph : Nat → Nat} {UR SR : Nat → NN} {sf : Nat → Nat} (h : CS S R T c d n B x u ph N UR SR sf) {i j : Nat} (hi : i < 15) (hj : j < 15) (hne : i ≠ j) : ph i ≠ ph j := fun z => hne (h.2.1.2.1 i j hi hj z)
/-- trial or spare changed -/
theorem CS.fv {S S2 : mS} {R R2 : mR} {T c N : NN} {d n B x u t : Nat} {ph : Nat → Nat} {UR SR : Nat → NN} {sf : Nat → Nat} (h : CS S R T c d n B x u ph N UR SR sf) (ht : t = 1 ∨ t = 2) (hF : FV S S2 (ph t)) (hR : RX R R2 (ph t)) : CS S2 R2 T c d n B x u ph N UR SR sf := by
  have e0 := fun k i j (hk : k = 0 ∨ k = 32 ∨ k = 33) => hR.2 k i j (by omega)
  refine ⟨hR.1, h.2.1.off e0, h.2.2.1.off hF.fc (e0 0 0 2 (by omega)) (e0 0 0 3 (by omega)), by rw [hF 31 0 (by omega)]; exact h.2.2.2.1, ?_, fun j hj => ?_, fun s hs => ?_, h.2.2.2.2.2.2.2⟩
  · exact h.2.2.2.2.1.fv (h.ph (by omega)) (h.ne (by omega) (by omega) (by omega)) hF hR
  · exact (h.2.2.2.2.2.1 j hj).fv (h.ph (by omega)) (h.ne (by omega) (by omega) (by omega)) hF hR
  · obtain ⟨a, b, c'⟩ := h.2.2.2.2.2.2.1 s hs
    exact ⟨by rw [hF 34 0 (by omega)]; exact a, b, fun z => (c' z).fv (h.ph (by omega)) (h.ne (by omega) (by omega) (by omega)) hF hR⟩
/-- the trims changed -/
theorem CS.ft {S S2 : mS} {R R2 : mR} {T c N : NN} {d n B x u : Nat} {ph : Nat → Nat} {UR SR : Nat → NN} {sf : Nat → Nat} (h : CS S R T c d n B x u ph N UR SR sf) (hF : FT S S2) (hR : FR R R2) : CS S2 R2 T c d n B x u ph N UR SR sf :=
  h.fv (Or.inl rfl) (FV.ft hF) hR.rx
def uN (u : Nat) : Nat := if u = 10 then 10 else u + 1
/-- the rows that can be come back to, behind a change of row N -/
def pU (UR : Nat → NN) (N : NN) (u : Nat) : Nat → NN := fun j => if j < (if u = 10 then 9 else u) then UR (if u = 10 then j + 1 else j) else N
/-- the places behind a change -/
def phA (ph : Nat → Nat) (x : Nat) : Nat → Nat := fun i => if i = 0 then ph 1 else if i = 1 then ph (3 + x) else if i = 3 + x then ph 0 else ph i
theorem phA_i {ph : Nat → Nat} {x i : Nat} (hx : x < 10) : phA ph x i = ph (if i = 0 then 1 else if i = 1 then 3 + x else if i = 3 + x then 0 else i) := by
  unfold phA
  by_cases h0 : i = 0
  · rw [if_pos h0, if_pos h0]
  · rw [if_neg h0, if_neg h0]
    by_cases h1 : i = 1
    · rw [if_pos h1, if_pos h1]
    · rw [if_neg h1, if_neg h1]
      by_cases h2 : i = 3 + x
      · rw [if_pos h2, if_pos h2]
      · rw [if_neg h2, if_neg h2]
theorem CS.accept {S : mS} {R : mR} {T c N M : NN} {d n B x u : Nat} {ph : Nat → Nat} {UR SR : Nat → NN} {sf : Nat → Nat} (h : CS S R T c d n B x u ph N UR SR sf) (hM : VR S R T d n B (ph 1) M) :
    CS (up3 (up3 S 31 0 1 (nI ((x + 1) % 10))) 31 0 2 (nI (uN u))) (up3 (up3 (up3 R 32 0 x (some (25, ph 0))) 0 0 5 (some (25, ph 1))) 0 0 6 (some (25, ph (3 + x)))) T c d n B ((x + 1) % 10) (uN u) (phA ph x) M (pU UR N u) SR sf := by
  obtain ⟨hR, hP, hD, ⟨hx, hx10, hu, hu10⟩, hN, hU, hS, hB⟩ := h
  have hv : ∀ {w : Nat} {Q : NN}, VR S R T d n B w Q → VR (up3 (up3 S 31 0 1 (nI ((x + 1) % 10))) 31 0 2 (nI (uN u))) (up3 (up3 (up3 R 32 0 x (some (25, ph 0))) 0 0 5 (some (25, ph 1))) 0 0 6 (some (25, ph (3 + x)))) T d n B w Q := fun hq =>
    hq.off (fun k a b => by rw [up3_k _ (by omega), up3_k _ (by omega)]) (by rw [up3_k _ (by omega), up3_k _ (by omega), up3_k _ (by omega)]) (by rw [up3_k _ (by omega), up3_k _ (by omega), up3_k _ (by omega)])
  have hpi : ∀ i, i < 15 → phA ph x i < 15 := fun i hi => by
    rw [phA_i hx10]
    exact hP.1 _ (by split <;> (try split) <;> (try split) <;> omega)
  refine ⟨((hR.up rfl).up rfl).up rfl, ⟨hpi, fun i j hi hj e => ?_, ?_, ?_, ?_, fun i hi => ?_, fun i hi => ?_⟩, hD.off (((FC.rf S).up (by omega)).up (by omega)) ?_ ?_, ⟨?_, Nat.mod_lt _ (by omega), ?_, ?_⟩, ?_, fun j hj => ?_, fun s hs => ?_, hB⟩
  · rw [phA_i hx10, phA_i hx10] at e
    have e2 := hP.2.1 _ _ (by split <;> (try split) <;> (try split) <;> omega) (by split <;> (try split) <;> (try split) <;> omega) e
    clear hv hpi hU hS hN hM
    repeat' (split at e2)
    all_goals omega
  · rw [up3_j _ (by omega), up3_s]; rfl
  · rw [up3_s]
    unfold phA
    rw [if_neg (by omega), if_pos rfl]
  · rw [up3_j _ (by omega), up3_j _ (by omega), up3_k _ (by omega)]
    unfold phA
    rw [if_neg (by omega), if_neg (by omega), if_neg (by omega)]
    exact hP.2.2.2.2.1
  · rw [up3_k _ (by omega), up3_k _ (by omega), up3_at]
    unfold phA
    rw [if_neg (show ¬ 3 + i = 0 by omega), if_neg (show ¬ 3 + i = 1 by omega)]
    by_cases e : i = x
    · rw [if_pos ⟨rfl, rfl, e⟩, if_pos (by omega)]
    · rw [if_neg (fun z => e z.2.2), if_neg (by omega)]
      exact hP.2.2.2.2.2.1 i hi
  · rw [up3_k _ (by omega), up3_k _ (by omega), up3_k _ (by omega)]
    unfold phA
    rw [if_neg (by omega), if_neg (by omega), if_neg (by omega)]
    exact hP.2.2.2.2.2.2 i hi
  · rw [up3_j _ (by omega), up3_j _ (by omega), up3_k _ (by omega)]
  · rw [up3_j _ (by omega), up3_j _ (by omega), up3_k _ (by omega)]
  · rw [up3_j _ (by omega), up3_s]
  · rw [up3_s]
  · unfold uN
    split <;> omega
  · exact hv hM
  · have key : ∀ a q, a < 10 → a ≠ x → ph (3 + a) = q → phA ph x (3 + a) = q := fun a q ha hne hq => by
      unfold phA
      rw [if_neg (by omega), if_neg (by omega), if_neg (by omega)]
      exact hq
    have kx : phA ph x (3 + x) = ph 0 := by
      unfold phA
      rw [if_neg (by omega), if_neg (by omega), if_pos rfl]
    unfold pU
    by_cases e : u = 10
    · subst e
      rw [if_pos rfl, if_pos rfl]
      have hj' : j < 10 := by unfold uN at hj; rw [if_pos rfl] at hj; exact hj
      have eu : uN 10 = 10 := rfl
      rw [eu]
      by_cases h9 : j < 9
      · rw [if_pos h9, key _ _ (Nat.mod_lt _ (by omega)) (by omega) rfl]
        have := hU (j + 1) (by omega)
        rw [show (x + 10 - 10 + (j + 1)) % 10 = ((x + 1) % 10 + 10 - 10 + j) % 10 by omega] at this
        exact hv this
      · rw [if_neg h9, show ((x + 1) % 10 + 10 - 10 + j) % 10 = x by omega, kx]
        exact hv hN
    · rw [if_neg e, if_neg e]
      have eu : uN u = u + 1 := if_neg e
      rw [eu] at hj ⊢
      by_cases h9 : j < u
      · rw [if_pos h9, key _ _ (Nat.mod_lt _ (by omega)) (by omega) rfl]
        have := hU j h9
        rw [show (x + 10 - u + j) % 10 = ((x + 1) % 10 + 10 - (u + 1) + j) % 10 by omega] at this
        exact hv this
      · rw [if_neg h9, show ((x + 1) % 10 + 10 - (u + 1) + j) % 10 = x by omega, kx]
        exact hv hN
  · obtain ⟨a, b, c'⟩ := hS s hs
    rw [up3_k _ (by omega), up3_k _ (by omega)]
    refine ⟨a, b, fun z => ?_⟩
    have : phA ph x (13 + s) = ph (13 + s) := by
      unfold phA
      rw [if_neg (by omega), if_neg (by omega), if_neg (by omega)]
    rw [this]
    exact hv (c' z)
def CQ (S S2 : mS) (R2 : mR) (T c : NN) (d n B u : Nat) (N : NN) (UR SR : Nat → NN) (sf : Nat → Nat) : Prop := FC S S2 ∧ ∃ x ph, CS S2 R2 T c d n B x u ph N UR SR sf
