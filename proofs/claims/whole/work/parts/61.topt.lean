/-! THE CLASS'S TEXT METHODS -/
/-- only the object, the reader, the draft change -/
def DFr (d : Nat) (S S2 : mS) : Prop := ∀ k i, 3 ≤ k → ¬ (k = 3 ∧ i = 1 - d) → ¬ (k = 6 ∧ 10 * (1 - d) ≤ i ∧ i < 10 * (1 - d) + 10) → S2 k i = S k i
theorem DFr.rf (d : Nat) (S : mS) : DFr d S S := fun _ _ _ _ _ => rfl
theorem DFr.tr {d : Nat} {S S2 S3 : mS} (h : DFr d S S2) (h2 : DFr d S2 S3) : DFr d S S3 := fun k i a b c => (h2 k i a b c).trans (h k i a b c)
theorem DFr.up {d : Nat} {S S2 : mS} (h : DFr d S S2) {k i j : Nat} {v : Int32} (hk : k < 3) : DFr d S (up3 S2 k i j v) := fun k' i' a b c => by rw [up3_k _ (by omega)]; exact h k' i' a b c
theorem PFs.df {d : Nat} {S S2 : mS} (h : PFs (1 - d) S S2) : DFr d S S2 := fun k i a b c => h.1 k i (by omega) b c
theorem CS.df {S S2 : mS} {R : mR} {T c N : NN} {d n B x u : Nat} {ph : Nat → Nat} {UR SR : Nat → NN} {sf : Nat → Nat} (h : CS S R T c d n B x u ph N UR SR sf) (hF : DFr d S S2) : CS S2 R T c d n B x u ph N UR SR sf := by
  obtain ⟨hR, hP, ⟨c1, c2, c3, c4, c5, c6⟩, hx, hN, hU, hS, hB⟩ := h
  have hk : ∀ k i, 7 ≤ k → S2 k i = S k i := fun k i hk => hF k i (by omega) (by omega) (by omega)
  have hv : ∀ {w : Nat} {Q : NN}, VR S R T d n B w Q → VR S2 R T d n B w Q := fun hq => hq.off (fun k a b => hk k _ (by omega)) rfl rfl
  refine ⟨hR, hP, ⟨c1, c2, c3, ⟨?_, fun p w hp hw => ?_⟩, ?_, c6⟩, by rw [hk 31 0 (by omega)]; exact hx, hv hN, fun j hj => hv (hU j hj), fun s hs => ?_, hB⟩
  · rw [hF 3 d (by omega) (by omega) (by omega)]
    exact c4.1
  · rw [hF 6 _ (by omega) (by omega) (by omega)]
    exact c4.2 p w hp hw
  · unfold AC
    rw [hF 3 d (by omega) (by omega) (by omega)]
    exact c5
  · obtain ⟨a, b, e⟩ := hS s hs
    exact ⟨by rw [hk 34 0 (by omega)]; exact a, b, fun z => hv (e z)⟩
/-- the draft is taken -/
theorem CS.use {S S1 : mS} {R : mR} {T c N T' c' : NN} {d n B x u k : Nat} {ph : Nat → Nat} {UR SR : Nat → NN} {sf : Nat → Nat} {M : NN} (h : CS S R T c d n B x u ph N UR SR sf) (hAT : AT S (1 - d) T' k) (hAC : AC S (1 - d) c') (ht : tI T' k) (hk : k ≤ 10) (hJ : JI M T' k B) (hA : AB S1 (ph 0) M k) (hF : FP S S1 (ph 0)) :
    CS (pF (up3 S1 31 0 2 (nI 0)) 34 0 (nI 0) 2) (up3 (up3 (up3 (up3 R 0 0 2 (some (3, 1 - d))) 0 0 3 (some (3, d))) 25 (ph 0) 1 (some (3, 1 - d))) 12 (ph 0) 0 (some (3, 1 - d))) T' c' (1 - d) k B x 0 ph M UR SR (fun _ => 0) := by
  obtain ⟨hR, hP, ⟨c1, c2, c3, c4, c5, c6⟩, ⟨hx, hx10, hu, hu10⟩, hN, hU, hS, hB⟩ := h
  have e1 : ∀ k i, k ≤ 30 → pF (up3 S1 31 0 2 (nI 0)) 34 0 (nI 0) 2 k i = S1 k i := fun k i hk => by
    funext j
    unfold pF
    rw [if_neg (by omega), up3_k _ (by omega)]
  refine ⟨(((hR.up rfl).up rfl).up rfl).up rfl, ?_, ⟨by omega, by rw [up3_k _ (by omega), up3_k _ (by omega), up3_j _ (by omega), up3_s], ?_, ⟨?_, fun p w hp hw => ?_⟩, ?_, hk, ht⟩, ⟨?_, hx10, ?_, Nat.zero_le _⟩, ⟨?_, ?_, up3_s _ _ _ _ _, hJ⟩, fun j hj => absurd hj (Nat.not_lt_zero _), fun s hs => ⟨?_, Nat.zero_le _, fun z => absurd (show (0 : Nat) = 1 from z) (by decide)⟩, hB⟩
  · obtain ⟨p1, p2, p3, p4, p5, p6, p7⟩ := hP
    refine ⟨p1, p2, ?_, ?_, ?_, fun i hi => ?_, fun i hi => ?_⟩
    · rw [up3_k _ (by omega), up3_k _ (by omega), up3_j _ (by omega), up3_j _ (by omega)]; exact p3
    · rw [up3_k _ (by omega), up3_k _ (by omega), up3_j _ (by omega), up3_j _ (by omega)]; exact p4
    · rw [up3_k _ (by omega), up3_k _ (by omega), up3_j _ (by omega), up3_j _ (by omega)]; exact p5
    · rw [up3_k _ (by omega), up3_k _ (by omega), up3_k _ (by omega), up3_k _ (by omega)]; exact p6 i hi
    · rw [up3_k _ (by omega), up3_k _ (by omega), up3_k _ (by omega), up3_k _ (by omega)]; exact p7 i hi
  · rw [up3_k _ (by omega), up3_k _ (by omega), up3_s, show 1 - (1 - d) = d by omega]
  · rw [e1 3 _ (by omega), hF 3 _ (by omega)]
    exact hAT.1
  · rw [e1 6 _ (by omega), hF 6 _ (by omega)]
    exact hAT.2 p w hp hw
  · unfold AC
    rw [e1 3 _ (by omega), hF 3 _ (by omega)]
    exact hAC
  · unfold pF
    rw [if_neg (by omega), up3_j _ (by omega), hF 31 _ (by omega)]
    exact hx
  · unfold pF
    rw [if_neg (by omega), up3_s]
  · exact hA.off (fun k a b => e1 k _ (by omega))
  · rw [up3_k _ (by omega), up3_s]
  · unfold pF
    rw [if_pos ⟨rfl, rfl, hs⟩]

def rm_X8_useDraft : Room := { frames := 3, cells := 0, slots := 0, locals := 66 }
set_option maxHeartbeats 4000000 in
set_option maxRecDepth 100000 in
theorem c_X8_useDraft {l : Launch} {G : mG} {ad : mA} {S : mS} {L : mL} {R : mR} {T c N : NN} {d n B x u : Nat} {ph : Nat → Nat} {UR SR : Nat → NN} {sf : Nat → Nat} {T' c' : NN} {k : Nat} (hC : CS S R T c d n B x u ph N UR SR sf) (hAT : AT S (1 - d) T' k) (hAC : AC S (1 - d) c') (ht : tI T' k) (hk : k ≤ 10) (hJ : JI (fBeg (S 3 (1 - d) 0) (S 3 (1 - d) 1)) T' k B) : Kv l yX8_useDraft cX8_useDraft 3 rm_X8_useDraft G ad mdm [.ref (ad 0 0)] S L R (fun S2 L2 R2 => CS S2 R2 T' c' (1 - d) k B x 0 ph (fBeg (S 3 (1 - d) 0) (S 3 (1 - d) 1)) UR SR (fun _ => 0) ∧ FC S S2 ∧ L = L2) := by
  refine Kv.of RX8 (by decide) rfl (Nat.le_of_ble_eq_true rfl) ?_
  intro X hXl hXG C ret
  subst hXl; subst hXG
  change Z X 3 ad mdm S L R 0 0 0 [(0, _)] []
  have hR := hC.1
  have hd2 := hC.2.2.1.1
  have hPI := hC.2.1
  have hv0 := hC.ph (i := 0) (by omega)
  refine z_aload_n C 0 0 0 dX8_useDraft_0 rfl rfl ?_
  refine z_getr C 1 dX8_useDraft_1 gf_X8_23 rfl (by first | assumption | exact Nat.zero_lt_one | exact (show (15 : Nat) < 16 by decide) | exact Nat.lt_succ_of_lt (by assumption) | omega) hC.2.2.1.2.1 ?_
  refine z_astore_n C 4 1 [(1, _), (0, _)] dX8_useDraft_4 rfl (by decide) rfl ?_
  refine z_aload_n C 5 0 1 dX8_useDraft_5 rfl rfl ?_
  refine z_aload_n C 6 0 1 dX8_useDraft_6 rfl rfl ?_
  refine z_getr C 7 dX8_useDraft_7 gf_X8_27 rfl (by first | assumption | exact Nat.zero_lt_one | exact (show (15 : Nat) < 16 by decide) | exact Nat.lt_succ_of_lt (by assumption) | omega) hC.2.2.1.2.2.1 ?_
  refine z_putr C 10 dX8_useDraft_10 gf_X8_23 ⟨rfl, fun _ => ⟨rfl, rfl⟩⟩ rfl (by first | assumption | exact Nat.zero_lt_one | exact (show (15 : Nat) < 16 by decide) | exact Nat.lt_succ_of_lt (by assumption) | omega) ?_
  refine z_aload_n C 13 0 1 dX8_useDraft_13 rfl rfl ?_
  refine z_aload_n C 14 1 0 dX8_useDraft_14 rfl rfl ?_
  refine z_putr C 15 dX8_useDraft_15 gf_X8_27 ⟨rfl, fun _ => ⟨rfl, rfl⟩⟩ rfl (by first | assumption | exact Nat.zero_lt_one | exact (show (15 : Nat) < 16 by decide) | exact Nat.lt_succ_of_lt (by assumption) | omega) ?_
  refine z_aload_n C 18 0 1 dX8_useDraft_18 rfl rfl ?_
  refine z_getr C 19 dX8_useDraft_19 gf_X8_42 rfl (by first | assumption | exact Nat.zero_lt_one | exact (show (15 : Nat) < 16 by decide) | exact Nat.lt_succ_of_lt (by assumption) | omega) (show up3 (up3 R 0 0 2 _) 0 0 3 _ 0 0 5 = some (25, ph 0) from (by rw [up3_j _ (by omega), up3_j _ (by omega)]; exact hPI.2.2.1)) ?_
  refine z_aload_n C 22 0 1 dX8_useDraft_22 rfl rfl ?_
  refine z_getr C 23 dX8_useDraft_23 gf_X8_23 rfl (by first | assumption | exact Nat.zero_lt_one | exact (show (15 : Nat) < 16 by decide) | exact Nat.lt_succ_of_lt (by assumption) | omega) (show up3 (up3 R 0 0 2 (some (3, 1 - d))) 0 0 3 _ 0 0 2 = some (3, 1 - d) from (by rw [up3_j _ (by omega), up3_s])) ?_
  refine z_cVv0 C 26 dX8_useDraft_26 cv_X8_91 (c_X4_begin (n := k) (fun kk a b => show ph 0 < mcnt kk from (by have : mcnt kk = 15 ∨ mcnt kk = 16 := (by rcases (show kk = 12 ∨ kk = 13 ∨ kk = 14 ∨ kk = 15 ∨ kk = 16 ∨ kk = 17 ∨ kk = 18 ∨ kk = 19 ∨ kk = 20 ∨ kk = 21 ∨ kk = 22 ∨ kk = 23 ∨ kk = 24 ∨ kk = 25 ∨ kk = 26 ∨ kk = 27 ∨ kk = 28 ∨ kk = 29 ∨ kk = 30 by omega) with rfl | rfl | rfl | rfl | rfl | rfl | rfl | rfl | rfl | rfl | rfl | rfl | rfl | rfl | rfl | rfl | rfl | rfl | rfl <;> decide); omega)) (show 1 - d < 3 by omega) (fun kk j q a b hq => by rw [up3_k _ (by omega), up3_k _ (by omega)]; exact hR _ _ _ _ hq) hAT.1) rfl ⟨by decide, rfl⟩ (by first | assumption | exact Nat.zero_lt_one | exact (show (15 : Nat) < 16 by decide) | exact Nat.lt_succ_of_lt (by assumption) | omega) rfl rfl (Nat.le_of_ble_eq_true rfl) ⟨by decide, by decide⟩ ⟨rfl, rfl⟩ ⟨by decide, by decide⟩ ?_
  intro S26 L26 R26 p26
  obtain ⟨⟨hA, hF⟩, rfl, rfl⟩ := p26
  have hR4 : mlk (up3 (up3 (up3 (up3 R 0 0 2 (some (3, 1 - d))) 0 0 3 (some (3, d))) 25 (ph 0) 1 (some (3, 1 - d))) 12 (ph 0) 0 (some (3, 1 - d))) := (((hR.up rfl).up rfl).up rfl).up rfl
  refine z_aload_n C 29 0 1 dX8_useDraft_29 rfl rfl ?_
  refine z_getr C 30 dX8_useDraft_30 gf_X8_55 rfl (by first | assumption | exact Nat.zero_lt_one | exact (show (15 : Nat) < 16 by decide) | exact Nat.lt_succ_of_lt (by assumption) | omega) (hR4 0 0 8 _ rfl) ?_
  refine z_cVv0 C 33 dX8_useDraft_33 cv_X8_95 (c_X2_clear hR4) rfl ⟨by decide, rfl⟩ (by first | assumption | exact Nat.zero_lt_one | exact (show (15 : Nat) < 16 by decide) | exact Nat.lt_succ_of_lt (by assumption) | omega) rfl rfl (Nat.le_of_ble_eq_true rfl) ⟨by decide, by decide⟩ ⟨rfl, rfl⟩ ⟨by decide, by decide⟩ ?_
  intro S33 L33 R33 p33
  obtain ⟨rfl, rfl, rfl⟩ := p33
  refine z_iconst (v := nI 0) C 36 dX8_useDraft_36 (by decide) ?_
  refine z_istore_n C 37 2 [(2, _), (1, _), (0, _)] dX8_useDraft_37 rfl (by decide) rfl ?_
  have loop_38 : ∀ (n_38 : Nat) (s : Nat), s ≤ 2 → 2 - s < n_38 → Z X 3 ad mdm (pF (up3 S26 31 0 2 (nI 0)) 34 0 (nI 0) s) L (up3 (up3 (up3 (up3 R 0 0 2 (some (3, 1 - d))) 0 0 3 (some (3, d))) 25 (ph 0) 1 (some (3, 1 - d))) 12 (ph 0) 0 (some (3, 1 - d))) 0 0 38 [(2, .int (nI s)), (1, .ref (ad 3 d)), (0, .ref (ad 0 0))] [] := by
    intro n_38
    induction n_38 with
    | zero => intro s hs hm38; exact absurd hm38 (Nat.not_lt_zero _)
    | succ n_38 ih38 =>
      intro s hs hm38
      refine z_iload_n C 38 2 0 dX8_useDraft_38 rfl rfl ?_
      refine z_iconst (v := nI 2) C 39 dX8_useDraft_39 (by decide) ?_
      first | with_reducible refine z_icmp_geN C 40 56 dX8_useDraft_40 (by decide) (by omega) (by omega) (fun h40 => ?_) (fun h40 => ?_) | refine z_icmp_ge C 40 56 dX8_useDraft_40 (by decide) (fun h40 => ?_) (fun h40 => ?_)
      · exact ret 56 _ _ _ _ dX8_useDraft_56 ((by have e2 : s = 2 := (by omega); subst e2; exact ⟨hC.use hAT hAC ht hk hJ hA hF, fun k hk => by funext i j; unfold pF; rw [if_neg (by omega), up3_k _ (by omega), hF k i (by omega)], rfl⟩))
      · refine z_aload_n C 43 0 2 dX8_useDraft_43 rfl rfl ?_
        refine z_getr C 44 dX8_useDraft_44 gf_X8_63 rfl (by first | assumption | exact Nat.zero_lt_one | exact (show (15 : Nat) < 16 by decide) | exact Nat.lt_succ_of_lt (by assumption) | omega) (hR4 0 0 10 _ rfl) ?_
        refine z_iload_n C 47 2 0 dX8_useDraft_47 rfl rfl ?_
        refine z_iconst (v := nI 0) C 48 dX8_useDraft_48 (by decide) ?_
        refine z_zast C 49 dX8_useDraft_49 (by first | rfl | assumption) (by first | assumption | exact Nat.zero_lt_one | exact (show (15 : Nat) < 16 by decide) | exact Nat.lt_succ_of_lt (by assumption) | omega)  (by first | rfl | assumption) (by first | decide | omega) (by first | assumption | omega) (by first | exact bI_01 | exact Or.inl rfl | exact Or.inr rfl | assumption) ?_
        refine z_iinc C 50 2 0 [(2, _), (1, _), (0, _)] dX8_useDraft_50 rfl (by first | exact nI_1 _ | rfl) (by decide) rfl ?_
        refine z_goto C 53 38 dX8_useDraft_53 (by decide) ?_
        refine z_sub [(2, _), (1, _), (0, _)] [0, 1, 2] rfl ?_
        refine z_mem (pF (up3 S26 31 0 2 (nI 0)) 34 0 (nI 0) (s + 1)) pF_up ?_
        exact ih38 (s + 1) (by omega) (by omega)
  refine z_sub [(2, _), (1, _), (0, _)] [0, 1, 2] rfl ?_
  refine z_mem (pF (up3 S26 31 0 2 (nI 0)) 34 0 (nI 0) 0) (pF_0 _ _ _ _).symm ?_
  exact loop_38 3 0 (by omega) (by omega)
theorem cD.at {S : mS} {L : mL} {e : Nat} {D : PD} (h : cD S L e D) : AT S e (fun x => S 6 (10 * e + x / 8) (x % 8)) D.k ∧ AC S e D.c ∧ TE (fun x => S 6 (10 * e + x / 8) (x % 8)) D.T D.k := by
  refine ⟨⟨h.2.1, fun p w hp hw => ?_⟩, ⟨h.2.2.2.2.1 0 (by omega), h.2.2.2.2.1 1 (by omega), h.2.2.2.2.1 2 (by omega), h.2.2.2.2.1 3 (by omega)⟩, fun p w hp hw => ?_⟩
  · show _ = S 6 (10 * e + (8 * p + w) / 8) ((8 * p + w) % 8)
    rw [show (8 * p + w) / 8 = p by omega, show (8 * p + w) % 8 = w by omega]
  · show S 6 (10 * e + (8 * p + w) / 8) ((8 * p + w) % 8) = _
    rw [show (8 * p + w) / 8 = p by omega, show (8 * p + w) % 8 = w by omega]
    exact h.2.2.2.2.2.2.1 p w hp hw
theorem cD.mv {S S2 : mS} {L : mL} {e : Nat} {D : PD} (h : cD S L e D) (h3 : S2 3 e = S 3 e) (h6 : ∀ i, S2 6 i = S 6 i) (h10 : S2 1 0 10 = S 1 0 10) (h11 : S2 1 0 11 = S 1 0 11) : cD S2 L e D := by
  obtain ⟨a, b, c, d, f, g, i, j, k, l⟩ := h
  exact ⟨a, by rw [h3]; exact b, by rw [h3]; exact c, by rw [h3]; exact d, fun w hw => by rw [h3]; exact f w hw, g, fun w x hw hx => by rw [h6]; exact i w x hw hx, h10.trans j, h11.trans k, l⟩
/-- behind parse -/
def cPr (S S2 : mS) (L L2 : mL) (R2 : mR) (un : Nat → Nat) (len : Nat) (T c : NN) (d n B u : Nat) (N : NN) (UR SR : Nat → NN) (sf : Nat → Nat) : Prop :=
  S2 0 0 1 = (yPh un len).1.2.1 ∧ S2 1 0 1 = nI 0 ∧ (∀ k, 40 ≤ k → S2 k = S k) ∧ (∀ k, 40 ≤ k → L2 k = L k) ∧
  (¬ (yPh un len).1.1 = 0 → (∃ x ph, CS S2 R2 T c d n B x u ph N UR SR sf) ∧ L2 4 d = L 4 d) ∧
  ((yPh un len).1.1 = 0 → ∃ T', (∃ x ph, CS S2 R2 T' (yPh un len).2.c (1 - d) (yPh un len).2.k B x 0 ph (fBeg (nI (yPh un len).2.lim) (nI (yPh un len).2.pol)) UR SR (fun _ => 0)) ∧ TE T' (yPh un len).2.T (yPh un len).2.k ∧ ∀ j, j < (yPh un len).2.k → L2 4 (1 - d) j = lN (e32 ((yPh un len).2.nm j)))

def rm_X8_parse : Room := { frames := 8, cells := 0, slots := 0, locals := 228 }
set_option maxHeartbeats 4000000 in
set_option maxRecDepth 100000 in
theorem c_X8_parse {l : Launch} {G : mG} {ad : mA} {S : mS} {L : mL} {R : mR} {T c N : NN} {d n B x u : Nat} {ph : Nat → Nat} {UR SR : Nat → NN} {sf : Nat → Nat} {un : Nat → Nat} {len f : Nat} (hC : CS S R T c d n B x u ph N UR SR sf) (hT : cT S un f) (hlf : len ≤ f) : Ki l yX8_parse cX8_parse 3 .int rm_X8_parse G ad mdm [.ref (ad 0 0), .int (nI len)] S L R (fun r_ S2 L2 R2 => r_ = nI (yPh un len).1.1 ∧ cPr S S2 L L2 R2 un len T c d n B u N UR SR sf) := by
  refine Ki.of RX8 (by decide) rfl (Nat.le_of_ble_eq_true rfl) ?_
  intro X hXl hXG C ret
  subst hXl; subst hXG
  change Z X 3 ad mdm S L R 0 0 0 [(0, _), (1, _)] []
  have hR := hC.1
  have hd2 := hC.2.2.1.1
  have hf7 := hT.2.1
  have hG5 := (yPh_G (un := un) (len := len)).2.2.2
  refine z_iload_n C 0 1 1 dX8_parse_0 rfl rfl ?_
  refine z_if_lt C 1 15 dX8_parse_1 (by decide) (fun h1 => absurd h1 (nI_pos (by omega))) (fun h1 => ?_)
  · refine z_iload_n C 4 1 1 dX8_parse_4 rfl rfl ?_
    refine z_aload_n C 5 0 0 dX8_parse_5 rfl rfl ?_
    refine z_getr C 6 dX8_parse_6 gf_X8_16 rfl (by first | assumption | exact Nat.zero_lt_one | exact (show (15 : Nat) < 16 by decide) | exact Nat.lt_succ_of_lt (by assumption) | omega) (by first | exact hR _ _ _ _ rfl | exact hR2 _ _ _ _ rfl | assumption) ?_
    refine z_getiv C 9 dX8_parse_9 gf_X8_67 rfl (by first | assumption | exact Nat.zero_lt_one | exact (show (15 : Nat) < 16 by decide) | exact Nat.lt_succ_of_lt (by assumption) | omega) hT.1 ?_
    first | with_reducible refine z_icmp_leN C 12 25 dX8_parse_12 (by decide) (by omega) (by omega) (fun h12 => ?_) (fun h12 => absurd hlf (by omega)) | refine z_icmp_le C 12 25 dX8_parse_12 (by decide) (fun h12 => ?_) (fun h12 => absurd hlf (by omega))
    · refine z_aload_n C 25 0 0 dX8_parse_25 rfl rfl ?_
      refine z_getr C 26 dX8_parse_26 gf_X8_16 rfl (by first | assumption | exact Nat.zero_lt_one | exact (show (15 : Nat) < 16 by decide) | exact Nat.lt_succ_of_lt (by assumption) | omega) (by first | exact hR _ _ _ _ rfl | exact hR2 _ _ _ _ rfl | assumption) ?_
      refine z_iload_n C 29 1 1 dX8_parse_29 rfl rfl ?_
      refine z_aload_n C 30 0 0 dX8_parse_30 rfl rfl ?_
      refine z_getr C 31 dX8_parse_31 gf_X8_27 rfl (by first | assumption | exact Nat.zero_lt_one | exact (show (15 : Nat) < 16 by decide) | exact Nat.lt_succ_of_lt (by assumption) | omega) hC.2.2.1.2.2.1 ?_
      refine z_cVi0 C 34 dX8_parse_34 cv_X8_81 (c_X5_readPhone (un := un) (f := f) (e := 1 - d) hR hT hlf (by omega)) rfl ⟨by decide, rfl⟩ (by first | assumption | exact Nat.zero_lt_one | exact (show (15 : Nat) < 16 by decide) | exact Nat.lt_succ_of_lt (by assumption) | omega) rfl rfl (Nat.le_of_ble_eq_true rfl) ⟨by decide, by decide⟩ ⟨rfl, rfl⟩ ⟨by decide, by decide⟩ ?_
      intro r34 S34 L34 R34 p34
      obtain ⟨rfl, q1, q2, q3, q4, rfl⟩ := p34
      refine z_istore_n C 37 2 [(2, _), (0, _), (1, _)] dX8_parse_37 rfl (by decide) rfl ?_
      refine z_aload_n C 38 0 1 dX8_parse_38 rfl rfl ?_
      refine z_getr C 39 dX8_parse_39 gf_X8_16 rfl (by first | assumption | exact Nat.zero_lt_one | exact (show (15 : Nat) < 16 by decide) | exact Nat.lt_succ_of_lt (by assumption) | omega) (by first | exact hR _ _ _ _ rfl | exact hR2 _ _ _ _ rfl | assumption) ?_
      refine z_iconst (v := nI 0) C 42 dX8_parse_42 (by decide) ?_
      refine z_puti C 43 dX8_parse_43 gf_X8_67 ⟨rfl, rfl⟩ rfl (by first | assumption | exact Nat.zero_lt_one | exact (show (15 : Nat) < 16 by decide) | exact Nat.lt_succ_of_lt (by assumption) | omega) ?_
      refine z_aload_n C 46 0 1 dX8_parse_46 rfl rfl ?_
      refine z_aload_n C 47 0 1 dX8_parse_47 rfl rfl ?_
      refine z_getr C 48 dX8_parse_48 gf_X8_16 rfl (by first | assumption | exact Nat.zero_lt_one | exact (show (15 : Nat) < 16 by decide) | exact Nat.lt_succ_of_lt (by assumption) | omega) (by first | exact hR _ _ _ _ rfl | exact hR2 _ _ _ _ rfl | assumption) ?_
      refine z_geti C 51 dX8_parse_51 gf_X8_85 rfl (by first | assumption | exact Nat.zero_lt_one | exact (show (15 : Nat) < 16 by decide) | exact Nat.lt_succ_of_lt (by assumption) | omega) ?_
      refine z_puti C 54 dX8_parse_54 gf_X8_9 ⟨rfl, rfl⟩ rfl (by first | assumption | exact Nat.zero_lt_one | exact (show (15 : Nat) < 16 by decide) | exact Nat.lt_succ_of_lt (by assumption) | omega) ?_
      obtain ⟨S1, hS1⟩ : ∃ M, M = up3 (up3 S34 1 0 1 (nI 0)) 0 0 1 (S34 1 0 9) := ⟨_, rfl⟩
      rw [show up3 S34 1 0 1 (nI 0) 1 0 9 = S34 1 0 9 from up3_j _ (by omega), ← hS1]
      have hF1 : DFr d S S1 := by rw [hS1]; exact ((((DFr.rf d S).up (by omega)).tr q3.df).up (by omega)).up (by omega)
      have hC1 := hC.df hF1
      have e1 : S1 0 0 1 = (yPh un len).1.2.1 := by rw [hS1, up3_s]; exact q1
      have e2 : S1 1 0 1 = nI 0 := by rw [hS1, up3_k _ (by omega), up3_s]
      have e3 : ∀ k, 40 ≤ k → S1 k = S k := fun k hk => by funext i; exact hF1 k i (by omega) (by omega) (by omega)
      have e4 : ∀ k, 40 ≤ k → L34 k = L k := fun k hk => by funext i; exact q4 k i (by omega) (by omega)
      refine z_iload_n C 57 2 0 dX8_parse_57 rfl rfl ?_
      first | with_reducible refine z_if_neB C 58 65 dX8_parse_58 (by decide) (fun h58 => ?_) (fun h58 => ?_) | with_reducible refine z_if_neN C 58 65 dX8_parse_58 (by decide) (by omega) (fun h58 => ?_) (fun h58 => ?_) | refine z_if_ne C 58 65 dX8_parse_58 (by decide) (fun h58 => ?_) (fun h58 => ?_)
      · refine z_iload_n C 65 2 0 dX8_parse_65 rfl rfl ?_
        exact ret 66 _ _ _ _ _ dX8_parse_66 (by first | rfl | exact bI_n | decide) ((by first
    | exact ⟨rfl, e1, e2, e3, e4, fun _ => ⟨⟨_, _, hC1⟩, q4 4 d (by omega) (by omega)⟩, fun z => absurd z (by omega)⟩
    | exact ⟨rfl, (by rw [w2 0 (by omega)]; exact e1), (by rw [w2 1 (by omega)]; exact e2), (fun k hk => (w2 k (by omega)).trans (e3 k hk)), e4, fun z => absurd h0 z, fun _ => ⟨_, ⟨_, _, (by rw [hD1.2.2.1, hD1.2.2.2.1] at w1; exact w1)⟩, hAT.2.2, fun j hj => hD1.2.2.2.2.2.1 j hj⟩⟩))
      · have h0 : (yPh un len).1.1 = 0 := by omega
        have hok := yPh_ok h0
        have hD1 := (q2 h0).mv (S2 := S1) (by rw [hS1, up3_k _ (by omega), up3_k _ (by omega)]) (fun i => by rw [hS1, up3_k _ (by omega), up3_k _ (by omega)]) (by rw [hS1, up3_k _ (by omega), up3_j _ (by omega)]) (by rw [hS1, up3_k _ (by omega), up3_j _ (by omega)])
        have hAT := hD1.at
        refine z_aload_n C 61 0 1 dX8_parse_61 rfl rfl ?_
        refine z_cVv0 C 62 dX8_parse_62 cv_X8_88 (c_X8_useDraft (T' := fun x => S1 6 (10 * (1 - d) + x / 8) (x % 8)) (c' := (yPh un len).2.c) (k := (yPh un len).2.k) hC1 hAT.1 hAT.2.1 (hok.2.1.te hAT.2.2) hok.1 (by rw [hD1.2.2.1, hD1.2.2.2.1]; exact JI_beg (hok.2.1.te hAT.2.2) hok.2.2.2.2.1.2 hok.2.2.2.1)) rfl ⟨by decide, rfl⟩ (by first | assumption | exact Nat.zero_lt_one | exact (show (15 : Nat) < 16 by decide) | exact Nat.lt_succ_of_lt (by assumption) | omega) rfl rfl (Nat.le_of_ble_eq_true rfl) ⟨by decide, by decide⟩ ⟨rfl, rfl⟩ ⟨by decide, by decide⟩ ?_
        intro S62 L62 R62 p62
        obtain ⟨w1, w2, rfl⟩ := p62
        refine z_iload_n C 65 2 0 dX8_parse_65 rfl rfl ?_
        exact ret 66 _ _ _ _ _ dX8_parse_66 (by first | rfl | exact bI_n | decide) ((by first
    | exact ⟨rfl, e1, e2, e3, e4, fun _ => ⟨⟨_, _, hC1⟩, q4 4 d (by omega) (by omega)⟩, fun z => absurd z (by omega)⟩
    | exact ⟨rfl, (by rw [w2 0 (by omega)]; exact e1), (by rw [w2 1 (by omega)]; exact e2), (fun k hk => (w2 k (by omega)).trans (e3 k hk)), e4, fun z => absurd h0 z, fun _ => ⟨_, ⟨_, _, (by rw [hD1.2.2.1, hD1.2.2.2.1] at w1; exact w1)⟩, hAT.2.2, fun j hj => hD1.2.2.2.2.2.1 j hj⟩⟩))
def u4 (v : Int32) (k : Nat) : Nat := (v >>> (nI (24 - 8 * k) &&& 31)).toInt8.toBitVec.toNat
theorem u4_l (v : Int32) (k : Nat) : u4 v k < 256 := (v >>> (nI (24 - 8 * k) &&& 31)).toInt8.toBitVec.isLt
theorem u4_s (v : Int32) (k : Nat) : by4 v k = sb (u4 v k) := by
  unfold by4 sb u4
  congr 1
  apply Int8.toBitVec_inj.mp
  show _ = BitVec.ofNat 8 _
  simp
/-- four bytes more -/
def un4 (un : Nat → Nat) (f : Nat) (v : Int32) : Nat → Nat := fun j => if j < f ∨ f + 4 ≤ j then un j else u4 v (j - f)
theorem un4_l {un : Nat → Nat} {f : Nat} {v : Int32} (h : ∀ j, un j < 256) : ∀ j, un4 un f v j < 256 := fun j => by
  unfold un4
  split
  · exact h j
  · exact u4_l _ _
theorem cT.app {S S1 : mS} {un : Nat → Nat} {f : Nat} {v : Int32} (h : cT S un f) (hp : pI4 S S1 f v 4) (hf : f + 4 ≤ 700) : cT S1 (un4 un f v) (f + 4) := by
  obtain ⟨a, b, c, d⟩ := h
  refine ⟨hp.2.2.1, hf, un4_l c, fun j hj => ?_⟩
  unfold un4
  by_cases e : j < f
  · rw [if_pos (Or.inl e), hp.2.1 j e]
    exact d j e
  · rw [if_neg (by omega)]
    have t := hp.1 (j - f) (by omega)
    rw [show f + (j - f) = j by omega] at t
    rw [t, u4_s]
def un20 (un : Nat → Nat) (f : Nat) (a b c d e : Int32) : Nat → Nat := un4 (un4 (un4 (un4 (un4 un f a) (f + 4) b) (f + 8) c) (f + 12) d) (f + 16) e
/-- text and errors alone change -/
def TFr (S S2 : mS) : Prop := ∀ k i, k ≠ 1 → k ≠ 2 → S2 k i = S k i
theorem TFr.tr {S S2 S3 : mS} (h : TFr S S2) (h2 : TFr S2 S3) : TFr S S3 := fun k i a b => (h2 k i a b).trans (h k i a b)
theorem pI4.tf {S S1 : mS} {f : Nat} {v : Int32} (h : pI4 S S1 f v 4) : TFr S S1 := fun k i a b => by
  funext j
  exact h.2.2.2 k i j b (fun z => a z.1)

def rm_X8_append : Room := { frames := 1, cells := 0, slots := 0, locals := 22 }
set_option maxHeartbeats 4000000 in
set_option maxRecDepth 100000 in
theorem c_X8_append {l : Launch} {G : mG} {ad : mA} {S : mS} {L : mL} {R : mR} {un : Nat → Nat} {f : Nat} {a b c d e : Int32} (hR : mlk R) (hT : cT S un f) (hf : f ≤ 680) : Ki l yX8_append cX8_append 6 .int rm_X8_append G ad mdm [.ref (ad 0 0), .int a, .int b, .int c, .int d, .int e] S L R (fun r_ S2 L2 R2 => r_ = nI (f + 20) ∧ cT S2 (un20 un f a b c d e) (f + 20) ∧ TFr S S2 ∧ L = L2 ∧ R = R2) := by
  refine Ki.of RX8 (by decide) rfl (Nat.le_of_ble_eq_true rfl) ?_
  intro X hXl hXG C ret
  subst hXl; subst hXG
  change Z X 6 ad mdm S L R 0 0 0 [(0, _), (1, _), (2, _), (3, _), (4, _), (5, _)] []
  refine z_aload_n C 0 0 0 dX8_append_0 rfl rfl ?_
  refine z_getr C 1 dX8_append_1 gf_X8_16 rfl (by first | assumption | exact Nat.zero_lt_one | exact (show (15 : Nat) < 16 by decide) | exact Nat.lt_succ_of_lt (by assumption) | omega) (by first | exact hR _ _ _ _ rfl | exact hR2 _ _ _ _ rfl | assumption) ?_
  refine z_getiv C 4 dX8_append_4 gf_X8_67 rfl (by first | assumption | exact Nat.zero_lt_one | exact (show (15 : Nat) < 16 by decide) | exact Nat.lt_succ_of_lt (by assumption) | omega) hT.1 ?_
  refine z_sipush (v := nI 680) C 7 dX8_append_7 (by decide +kernel) ?_
  first | with_reducible refine z_icmp_leN C 10 15 dX8_append_10 (by decide) (by omega) (by omega) (fun h10 => ?_) (fun h10 => absurd hf (by omega)) | refine z_icmp_le C 10 15 dX8_append_10 (by decide) (fun h10 => ?_) (fun h10 => absurd hf (by omega))
  · refine z_aload_n C 15 0 0 dX8_append_15 rfl rfl ?_
    refine z_getr C 16 dX8_append_16 gf_X8_16 rfl (by first | assumption | exact Nat.zero_lt_one | exact (show (15 : Nat) < 16 by decide) | exact Nat.lt_succ_of_lt (by assumption) | omega) (by first | exact hR _ _ _ _ rfl | exact hR2 _ _ _ _ rfl | assumption) ?_
    refine z_iload_n C 19 1 1 dX8_append_19 rfl rfl ?_
    refine z_cVv0 C 20 dX8_append_20 cv_X8_70 (c_X5_putFourBytes (f := f) hR hT.1 (by omega)) rfl ⟨by decide, rfl⟩ (by first | assumption | exact Nat.zero_lt_one | exact (show (15 : Nat) < 16 by decide) | exact Nat.lt_succ_of_lt (by assumption) | omega) rfl rfl (Nat.le_of_ble_eq_true rfl) ⟨by decide, by decide⟩ ⟨rfl, rfl⟩ ⟨by decide, by decide⟩ ?_
    intro S20 L20 R20 p20
    obtain ⟨p1, rfl, rfl⟩ := p20
    have t1 := hT.app p1 (by omega)
    refine z_aload_n C 23 0 0 dX8_append_23 rfl rfl ?_
    refine z_getr C 24 dX8_append_24 gf_X8_16 rfl (by first | assumption | exact Nat.zero_lt_one | exact (show (15 : Nat) < 16 by decide) | exact Nat.lt_succ_of_lt (by assumption) | omega) (by first | exact hR _ _ _ _ rfl | exact hR2 _ _ _ _ rfl | assumption) ?_
    refine z_iload_n C 27 2 2 dX8_append_27 rfl rfl ?_
    refine z_cVv0 C 28 dX8_append_28 cv_X8_70 (c_X5_putFourBytes (f := f + 4) hR t1.1 (by omega)) rfl ⟨by decide, rfl⟩ (by first | assumption | exact Nat.zero_lt_one | exact (show (15 : Nat) < 16 by decide) | exact Nat.lt_succ_of_lt (by assumption) | omega) rfl rfl (Nat.le_of_ble_eq_true rfl) ⟨by decide, by decide⟩ ⟨rfl, rfl⟩ ⟨by decide, by decide⟩ ?_
    intro S28 L28 R28 p28
    obtain ⟨p2, rfl, rfl⟩ := p28
    have t2 := t1.app p2 (by omega)
    refine z_aload_n C 31 0 0 dX8_append_31 rfl rfl ?_
    refine z_getr C 32 dX8_append_32 gf_X8_16 rfl (by first | assumption | exact Nat.zero_lt_one | exact (show (15 : Nat) < 16 by decide) | exact Nat.lt_succ_of_lt (by assumption) | omega) (by first | exact hR _ _ _ _ rfl | exact hR2 _ _ _ _ rfl | assumption) ?_
    refine z_iload_n C 35 3 3 dX8_append_35 rfl rfl ?_
    refine z_cVv0 C 36 dX8_append_36 cv_X8_70 (c_X5_putFourBytes (f := f + 8) hR t2.1 (by omega)) rfl ⟨by decide, rfl⟩ (by first | assumption | exact Nat.zero_lt_one | exact (show (15 : Nat) < 16 by decide) | exact Nat.lt_succ_of_lt (by assumption) | omega) rfl rfl (Nat.le_of_ble_eq_true rfl) ⟨by decide, by decide⟩ ⟨rfl, rfl⟩ ⟨by decide, by decide⟩ ?_
    intro S36 L36 R36 p36
    obtain ⟨p3, rfl, rfl⟩ := p36
    have t3 := t2.app p3 (by omega)
    refine z_aload_n C 39 0 0 dX8_append_39 rfl rfl ?_
    refine z_getr C 40 dX8_append_40 gf_X8_16 rfl (by first | assumption | exact Nat.zero_lt_one | exact (show (15 : Nat) < 16 by decide) | exact Nat.lt_succ_of_lt (by assumption) | omega) (by first | exact hR _ _ _ _ rfl | exact hR2 _ _ _ _ rfl | assumption) ?_
    refine z_iload C 43 4 4 dX8_append_43 rfl ?_
    refine z_cVv0 C 45 dX8_append_45 cv_X8_70 (c_X5_putFourBytes (f := f + 12) hR t3.1 (by omega)) rfl ⟨by decide, rfl⟩ (by first | assumption | exact Nat.zero_lt_one | exact (show (15 : Nat) < 16 by decide) | exact Nat.lt_succ_of_lt (by assumption) | omega) rfl rfl (Nat.le_of_ble_eq_true rfl) ⟨by decide, by decide⟩ ⟨rfl, rfl⟩ ⟨by decide, by decide⟩ ?_
    intro S45 L45 R45 p45
    obtain ⟨p4, rfl, rfl⟩ := p45
    have t4 := t3.app p4 (by omega)
    refine z_aload_n C 48 0 0 dX8_append_48 rfl rfl ?_
    refine z_getr C 49 dX8_append_49 gf_X8_16 rfl (by first | assumption | exact Nat.zero_lt_one | exact (show (15 : Nat) < 16 by decide) | exact Nat.lt_succ_of_lt (by assumption) | omega) (by first | exact hR _ _ _ _ rfl | exact hR2 _ _ _ _ rfl | assumption) ?_
    refine z_iload C 52 5 5 dX8_append_52 rfl ?_
    refine z_cVv0 C 54 dX8_append_54 cv_X8_70 (c_X5_putFourBytes (f := f + 16) hR t4.1 (by omega)) rfl ⟨by decide, rfl⟩ (by first | assumption | exact Nat.zero_lt_one | exact (show (15 : Nat) < 16 by decide) | exact Nat.lt_succ_of_lt (by assumption) | omega) rfl rfl (Nat.le_of_ble_eq_true rfl) ⟨by decide, by decide⟩ ⟨rfl, rfl⟩ ⟨by decide, by decide⟩ ?_
    intro S54 L54 R54 p54
    obtain ⟨p5, rfl, rfl⟩ := p54
    have t5 := t4.app p5 (by omega)
    refine z_aload_n C 57 0 0 dX8_append_57 rfl rfl ?_
    refine z_getr C 58 dX8_append_58 gf_X8_16 rfl (by first | assumption | exact Nat.zero_lt_one | exact (show (15 : Nat) < 16 by decide) | exact Nat.lt_succ_of_lt (by assumption) | omega) (by first | exact hR _ _ _ _ rfl | exact hR2 _ _ _ _ rfl | assumption) ?_
    refine z_getiv C 61 dX8_append_61 gf_X8_67 rfl (by first | assumption | exact Nat.zero_lt_one | exact (show (15 : Nat) < 16 by decide) | exact Nat.lt_succ_of_lt (by assumption) | omega) t5.1 ?_
    exact ret 64 _ _ _ _ _ dX8_append_64 (by first | rfl | exact bI_n | decide) (⟨rfl, t5, (((p1.tf.tr p2.tf).tr p3.tf).tr p4.tf).tr p5.tf, rfl, rfl⟩)

set_option maxHeartbeats 4000000 in
set_option maxRecDepth 100000 in
theorem c_X8_append_n {l : Launch} {G : mG} {ad : mA} {S : mS} {L : mL} {R : mR} {un : Nat → Nat} {f : Nat} {a b c d e : Int32} (hR : mlk R) (hT : cT S un f) (hf : 680 < f) : Ki l yX8_append cX8_append 6 .int rm_X8_append G ad mdm [.ref (ad 0 0), .int a, .int b, .int c, .int d, .int e] S L R (fun r_ S2 L2 R2 => r_ = -1 ∧ S = S2 ∧ L = L2 ∧ R = R2) := by
  refine Ki.of RX8 (by decide) rfl (Nat.le_of_ble_eq_true rfl) ?_
  intro X hXl hXG C ret
  subst hXl; subst hXG
  change Z X 6 ad mdm S L R 0 0 0 [(0, _), (1, _), (2, _), (3, _), (4, _), (5, _)] []
  have hf7 := hT.2.1
  refine z_aload_n C 0 0 0 dX8_append_0 rfl rfl ?_
  refine z_getr C 1 dX8_append_1 gf_X8_16 rfl (by first | assumption | exact Nat.zero_lt_one | exact (show (15 : Nat) < 16 by decide) | exact Nat.lt_succ_of_lt (by assumption) | omega) (by first | exact hR _ _ _ _ rfl | exact hR2 _ _ _ _ rfl | assumption) ?_
  refine z_getiv C 4 dX8_append_4 gf_X8_67 rfl (by first | assumption | exact Nat.zero_lt_one | exact (show (15 : Nat) < 16 by decide) | exact Nat.lt_succ_of_lt (by assumption) | omega) hT.1 ?_
  refine z_sipush (v := nI 680) C 7 dX8_append_7 (by decide +kernel) ?_
  first | with_reducible refine z_icmp_leN C 10 15 dX8_append_10 (by decide) (by omega) (by omega) (fun h10 => absurd hf (by omega)) (fun h10 => ?_) | refine z_icmp_le C 10 15 dX8_append_10 (by decide) (fun h10 => absurd hf (by omega)) (fun h10 => ?_)
  · refine z_iconst (v := (-1)) C 13 dX8_append_13 (by decide) ?_
    exact ret 14 _ _ _ _ _ dX8_append_14 (by first | rfl | exact bI_n | decide) (⟨rfl, rfl, rfl, rfl⟩)
def rm_X8_find : Room := { frames := 3, cells := 0, slots := 0, locals := 66 }
set_option maxHeartbeats 4000000 in
set_option maxRecDepth 100000 in
theorem c_X8_find {l : Launch} {G : mG} {ad : mA} {S : mS} {L : mL} {R : mR} {T c N : NN} {d n B x u : Nat} {ph : Nat → Nat} {UR SR : Nat → NN} {sf : Nat → Nat} {un : Nat → Nat} {f : Nat} (hC : CS S R T c d n B x u ph N UR SR sf) (hT : cT S un f) : Ki l yX8_find cX8_find 2 .int rm_X8_find G ad mdm [.ref (ad 0 0)] S L R (fun r_ S2 L2 R2 => (∃ e, e ≤ f ∧ (∀ j, e ≤ j → j < f → un j = 32) ∧ (0 < e → ¬ un (e - 1) = 32) ∧ r_ = oI (nmU (L 4 d) (lN (wB un 0 e)) n 0)) ∧ up3 S 1 0 1 (nI 0) = S2 ∧ L = L2 ∧ R = R2) := by
  refine Ki.of RX8 (by decide) rfl (Nat.le_of_ble_eq_true rfl) ?_
  intro X hXl hXG C ret
  subst hXl; subst hXG
  change Z X 2 ad mdm S L R 0 0 0 [(0, _)] []
  have hR := hC.1
  have hd2 := hC.2.2.1.1
  refine z_aload_n C 0 0 0 dX8_find_0 rfl rfl ?_
  refine z_getr C 1 dX8_find_1 gf_X8_23 rfl (by first | assumption | exact Nat.zero_lt_one | exact (show (15 : Nat) < 16 by decide) | exact Nat.lt_succ_of_lt (by assumption) | omega) hC.2.2.1.2.1 ?_
  refine z_aload_n C 4 0 0 dX8_find_4 rfl rfl ?_
  refine z_getr C 5 dX8_find_5 gf_X8_16 rfl (by first | assumption | exact Nat.zero_lt_one | exact (show (15 : Nat) < 16 by decide) | exact Nat.lt_succ_of_lt (by assumption) | omega) (by first | exact hR _ _ _ _ rfl | exact hR2 _ _ _ _ rfl | assumption) ?_
  refine z_cVl0 C 8 dX8_find_8 cv_X8_138 (c_X5_wordBeforeSpaces (un := un) (f := f) hR hT) rfl ⟨by decide, rfl⟩ (by first | assumption | exact Nat.zero_lt_one | exact (show (15 : Nat) < 16 by decide) | exact Nat.lt_succ_of_lt (by assumption) | omega) rfl rfl (Nat.le_of_ble_eq_true rfl) ⟨by decide, by decide⟩ ⟨rfl, rfl⟩ ⟨by decide, by decide⟩ ?_
  intro r8 S8 L8 R8 p8
  obtain ⟨⟨e, he1, he2, he3, rfl⟩, rfl, rfl, rfl⟩ := p8
  refine z_cVi0 C 11 dX8_find_11 cv_X8_142 (c_X0_withName (n := n) hR (by omega) hC.2.2.1.2.2.2.1.1 hC.2.2.1.2.2.2.2.2.1) rfl ⟨by decide, rfl⟩ (by first | assumption | exact Nat.zero_lt_one | exact (show (15 : Nat) < 16 by decide) | exact Nat.lt_succ_of_lt (by assumption) | omega) rfl rfl (Nat.le_of_ble_eq_true rfl) ⟨by decide, by decide⟩ ⟨rfl, rfl⟩ ⟨by decide, by decide⟩ ?_
  intro r11 S11 L11 R11 p11
  obtain ⟨rfl, rfl, rfl, rfl⟩ := p11
  refine z_istore_n C 14 1 [(1, _), (0, _)] dX8_find_14 rfl (by decide) rfl ?_
  refine z_aload_n C 15 0 1 dX8_find_15 rfl rfl ?_
  refine z_getr C 16 dX8_find_16 gf_X8_16 rfl (by first | assumption | exact Nat.zero_lt_one | exact (show (15 : Nat) < 16 by decide) | exact Nat.lt_succ_of_lt (by assumption) | omega) (by first | exact hR _ _ _ _ rfl | exact hR2 _ _ _ _ rfl | assumption) ?_
  refine z_iconst (v := nI 0) C 19 dX8_find_19 (by decide) ?_
  refine z_puti C 20 dX8_find_20 gf_X8_67 ⟨rfl, rfl⟩ rfl (by first | assumption | exact Nat.zero_lt_one | exact (show (15 : Nat) < 16 by decide) | exact Nat.lt_succ_of_lt (by assumption) | omega) ?_
  refine z_iload_n C 23 1 0 dX8_find_23 rfl rfl ?_
  exact ret 24 _ _ _ _ _ dX8_find_24 (by first | rfl | exact bI_n | decide) (⟨⟨e, he1, he2, he3, rfl⟩, rfl, rfl, rfl⟩)
def rm_X8_errorPosition : Room := { frames := 0, cells := 0, slots := 0, locals := 0 }
set_option maxHeartbeats 4000000 in
set_option maxRecDepth 100000 in
theorem c_X8_errorPosition {l : Launch} {G : mG} {ad : mA} {S : mS} {L : mL} {R : mR}  (hR : mlk R) : Ki l yX8_errorPosition cX8_errorPosition 1 .int rm_X8_errorPosition G ad mdm [.ref (ad 0 0)] S L R (fun r_ S2 L2 R2 => r_ = S 0 0 1 ∧ S = S2 ∧ L = L2 ∧ R = R2) := by
  refine Ki.of RX8 (by decide) rfl (Nat.le_of_ble_eq_true rfl) ?_
  intro X hXl hXG C ret
  subst hXl; subst hXG
  change Z X 1 ad mdm S L R 0 0 0 [(0, _)] []
  refine z_aload_n C 0 0 0 dX8_errorPosition_0 rfl rfl ?_
  refine z_geti C 1 dX8_errorPosition_1 gf_X8_9 rfl (by first | assumption | exact Nat.zero_lt_one | exact (show (15 : Nat) < 16 by decide) | exact Nat.lt_succ_of_lt (by assumption) | omega) ?_
  exact ret 4 _ _ _ _ _ dX8_errorPosition_4 (by first | rfl | exact bI_n | decide) (⟨by first | rfl | assumption | (simp; done), rfl, rfl, rfl⟩)
