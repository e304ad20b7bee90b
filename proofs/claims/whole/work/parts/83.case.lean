/-! ONE CALL OF THE LAW: the class, then the reference -/
theorem CS.facts {S : mS} {R : mR} {T c N : NN} {d n B x u : Nat} {ph : Nat → Nat} {UR SR : Nat → NN} {sf : Nat → Nat} (h : CS S R T c d n B x u ph N UR SR sf) : mlk R ∧ n ≤ 10 ∧ u ≤ 10 ∧ rI N n ∧ tI T n ∧ JI N T n B := by
  obtain ⟨h1, h2, ⟨a1, a2, a3, a4, a6, a7, a8⟩, h4, h5, h6, h7, h8⟩ := h
  exact ⟨h1, a7, h4.2.2.2, h5.2.2.2.1.1, a8, h5.2.2.2⟩
theorem CQ.of {S : mS} {R : mR} {T c N : NN} {d n B x u : Nat} {ph : Nat → Nat} {UR SR : Nat → NN} {sf : Nat → Nat} (h : CS S R T c d n B x u ph N UR SR sf) : CQ S S R T c d n B u N UR SR sf := ⟨FC.rf S, x, ph, h⟩
def IVt (S : mS) (L : mL) (R : mR) (t : Nat) : Prop := ∃ T c N d n B u UR SR sf un f nm, IV S L R T c d n B u N UR SR sf un f nm ∧ B ≤ 240 * t
def i2 (r : Int32) : Int64 := r.toInt64
def b2 (r : Int32) : Int64 := if r = 0 then 0 else 1
/-- the class's answer k (0: it returned), then the reference's -/
def CaseW (l : Launch) (G : mG) (ad : mA) (S : mS) (L : mL) (R : mR) (ov : Int32 → Int64) (yW : MethodName) (cW : ByteArray) (nW : Nat) (hh : List (Nat × Nat × Nat × Nat)) (aW : List Value) (yM : MethodName) (cM : ByteArray) (nM : Nat) (rt : FieldType) (rmM : Room) (aM : List Value) (t : Nat) : Prop :=
  ∃ (k : Nat) (rmW : Room) (P1 : Int32 → mS → mL → mR → Prop), (rmW.frames + 1 ≤ room_1.frames ∧ 8 + (nW + 11) + rmW.locals ≤ room_1.locals) ∧ (rmW.cells ≤ 1 ∧ rmW.slots ≤ 6) ∧ k < 3 ∧ Kw l yW cW nW hh rmW G ad mdm aW S L R P1 ∧
    ∀ r S1 L1 R1, P1 r S1 L1 R1 → r = nI k ∧ ∃ P2 : Int32 → mS → mL → mR → Prop, Ki l yM cM nM rt rmM G ad mdm aM S1 L1 R1 P2 ∧ ∀ b S2 L2 R2, P2 b S2 L2 R2 → mlk R2 ∧ S2 40 0 0 = nI k ∧ (k = 0 → L2 60 0 0 = ov b) ∧ ∃ S3, (∀ k i j, mrg k j → S2 k i j = S3 k i j) ∧ S3 40 0 0 = nI k ∧ IVt S3 L2 R2 (t + 1)
def CaseD (l : Launch) (G : mG) (ad : mA) (S : mS) (L : mL) (R : mR) (yX : MethodName) (cX : ByteArray) (nX : Nat) (rmX : Room) (aX : List Value) (yM : MethodName) (cM : ByteArray) (nM : Nat) (rmM : Room) (aM : List Value) (t : Nat) : Prop :=
  ∃ P1 : Int32 → mS → mL → mR → Prop, Ki l yX cX nX .int rmX G ad mdm aX S L R P1 ∧
    ∀ r S1 L1 R1, P1 r S1 L1 R1 → ∃ P2 : Int32 → mS → mL → mR → Prop, Ki l yM cM nM .int rmM G ad mdm aM S1 L1 R1 P2 ∧ ∀ b S2 L2 R2, P2 b S2 L2 R2 → r = b ∧ ∃ S3, (∀ k i j, mrg k j → S2 k i j = S3 k i j) ∧ IVt S3 L2 R2 (t + 1)
section CASES
variable {l : Launch} {G : mG} {ad : mA} {S : mS} {L : mL} {R : mR} {T c N : NN} {d n B u t : Nat} {UR SR : Nat → NN} {sf : Nat → Nat} {un : Nat → Nat} {f : Nat} {nm : Nat → List Nat} {ov : Int32 → Int64} {yW yM yX : MethodName} {cW cM cX : ByteArray} {nW nM nX : Nat} {rt : FieldType} {hh : List (Nat × Nat × Nat × Nat)} {rmW rmM rmX : Room} {aW aM aX : List Value}
theorem case_q {v : Int32} (hI : IV S L R T c d n B u N UR SR sf un f nm) (hB : B ≤ 240 * t) (hr : rmW.frames + 1 ≤ room_1.frames ∧ 8 + (nW + 11) + rmW.locals ≤ room_1.locals) (hz : rmW.cells ≤ 1 ∧ rmW.slots ≤ 6)
    (hw : Kw l yW cW nW hh rmW G ad mdm aW S L R (fun r_ S2 L2 R2 => r_ = nI 0 ∧ ∃ r L1, (r = v ∧ CQ S S2 R2 T c d n B u N UR SR sf ∧ LQ L L1) ∧ up3 L1 60 0 0 (ov r) = L2))
    (hM : ∀ S1 L1 R1, mlk R1 → RV S1 L1 T c d n u N UR SR sf nm → Ki l yM cM nM rt rmM G ad mdm aM S1 L1 R1 (fun b S2 L2 R2 => b = v ∧ rQ S1 S2 0 ∧ L1 = L2 ∧ R1 = R2)) : CaseW l G ad S L R ov yW cW nW hh aW yM cM nM rt rmM aM t := by
  refine ⟨0, rmW, _, hr, hz, by omega, hw, fun r S1 L1 R1 p => ?_⟩
  obtain ⟨p1, r', L', ⟨rfl, p2, p3⟩, rfl⟩ := p
  obtain ⟨hF, x, ph, hC⟩ := id p2
  refine ⟨p1, _, hM _ _ _ hC.1 (iv_fc hI hF p3.up).1, fun b S2 L2 R2 q => ?_⟩
  obtain ⟨rfl, q2, rfl, rfl⟩ := q
  exact ⟨hC.1, q2.1, fun _ => up3_s _ _ _ _ _, S2, fun _ _ _ _ => rfl, q2.1, T, c, N, d, n, B, u, UR, SR, sf, un, f, nm, iv_q hI p2 p3.up q2, by omega⟩
theorem case_t {k : Nat} (hk : k < 3) (h0 : k ≠ 0) (hI : IV S L R T c d n B u N UR SR sf un f nm) (hB : B ≤ 240 * t) (hr : rmW.frames + 1 ≤ room_1.frames ∧ 8 + (nW + 11) + rmW.locals ≤ room_1.locals) (hz : rmW.cells ≤ 1 ∧ rmW.slots ≤ 6)
    (hw : Kw l yW cW nW hh rmW G ad mdm aW S L R (fun r_ S2 L2 R2 => r_ = nI k ∧ CQ S S2 R2 T c d n B u N UR SR sf ∧ L = L2))
    (hM : ∀ S1 L1 R1, mlk R1 → RV S1 L1 T c d n u N UR SR sf nm → TV S1 un f → Ki l yM cM nM rt rmM G ad mdm aM S1 L1 R1 (fun b S2 L2 R2 => rQ S1 S2 k ∧ L1 = L2 ∧ R1 = R2)) : CaseW l G ad S L R ov yW cW nW hh aW yM cM nM rt rmM aM t := by
  refine ⟨k, rmW, _, hr, hz, hk, hw, fun r S1 L1 R1 p => ?_⟩
  obtain ⟨p1, p2, rfl⟩ := p
  obtain ⟨hF, x, ph, hC⟩ := id p2
  refine ⟨p1, _, hM _ _ _ hC.1 (iv_fc hI hF (LQ.rf L)).1 (iv_fc hI hF (LQ.rf L)).2, fun b S2 L2 R2 q => ?_⟩
  obtain ⟨q2, rfl, rfl⟩ := q
  exact ⟨hC.1, q2.1, fun z => absurd z h0, S2, fun _ _ _ _ => rfl, q2.1, T, c, N, d, n, B, u, UR, SR, sf, un, f, nm, iv_q hI p2 (LQ.rf L) q2, by omega⟩
theorem case_c {v : Int32} {B2 : Nat} {M : NN} (hI : IV S L R T c d n B u N UR SR sf un f nm) (hB : B2 ≤ 240 * (t + 1)) (hu : u ≤ 10) (hr : rmW.frames + 1 ≤ room_1.frames ∧ 8 + (nW + 11) + rmW.locals ≤ room_1.locals) (hz : rmW.cells ≤ 1 ∧ rmW.slots ≤ 6)
    (hw : Kw l yW cW nW hh rmW G ad mdm aW S L R (fun r_ S2 L2 R2 => r_ = nI 0 ∧ ∃ r L1, (r = v ∧ CQ S S2 R2 T c d n B2 (uN u) M (pU UR N u) SR sf ∧ LQ L L1) ∧ up3 L1 60 0 0 (ov r) = L2))
    (hM : ∀ S1 L1 R1, mlk R1 → RV S1 L1 T c d n u N UR SR sf nm → Ki l yM cM nM rt rmM G ad mdm aM S1 L1 R1 (fun b S2 L2 R2 => b = v ∧ rC S1 S2 M u ∧ L1 = L2 ∧ R1 = R2)) : CaseW l G ad S L R ov yW cW nW hh aW yM cM nM rt rmM aM t := by
  refine ⟨0, rmW, _, hr, hz, by omega, hw, fun r S1 L1 R1 p => ?_⟩
  obtain ⟨p1, r', L', ⟨rfl, p2, p3⟩, rfl⟩ := p
  obtain ⟨hF, x, ph, hC⟩ := id p2
  refine ⟨p1, _, hM _ _ _ hC.1 (iv_fc hI hF p3.up).1, fun b S2 L2 R2 q => ?_⟩
  obtain ⟨rfl, q2, rfl, rfl⟩ := q
  exact ⟨hC.1, q2.1.1, fun _ => up3_s _ _ _ _ _, S2, fun _ _ _ _ => rfl, q2.1.1, T, c, M, d, n, B2, uN u, pU UR N u, SR, sf, un, f, nm, iv_c hI hu p2 p3.up q2, hB⟩
theorem case_dq {v : Int32} (hI : IV S L R T c d n B u N UR SR sf un f nm) (hB : B ≤ 240 * t) (hX : Ki l yX cX nX .int rmX G ad mdm aX S L R (fun r S2 L2 R2 => r = v ∧ CQ S S2 R2 T c d n B u N UR SR sf ∧ L = L2))
    (hM : ∀ S1 L1 R1, mlk R1 → RV S1 L1 T c d n u N UR SR sf nm → TV S1 un f → Ki l yM cM nM .int rmM G ad mdm aM S1 L1 R1 (fun b S2 L2 R2 => b = v ∧ rQ S1 S2 0 ∧ L1 = L2 ∧ R1 = R2)) : CaseD l G ad S L R yX cX nX rmX aX yM cM nM rmM aM t := by
  refine ⟨_, hX, fun r S1 L1 R1 p => ?_⟩
  obtain ⟨rfl, p2, rfl⟩ := p
  obtain ⟨hF, x, ph, hC⟩ := id p2
  obtain ⟨a1, a2⟩ := iv_fc hI hF (LQ.rf L)
  refine ⟨_, hM _ _ _ hC.1 a1 a2, fun b S2 L2 R2 q => ?_⟩
  obtain ⟨rfl, q2, rfl, rfl⟩ := q
  exact ⟨rfl, S2, fun _ _ _ _ => rfl, T, c, N, d, n, B, u, UR, SR, sf, un, f, nm, iv_q hI p2 (LQ.rf L) q2, by omega⟩
theorem case_dc {v : Int32} {B2 : Nat} {M : NN} (hI : IV S L R T c d n B u N UR SR sf un f nm) (hB : B2 ≤ 240 * (t + 1)) (hu : u ≤ 10) (hX : Ki l yX cX nX .int rmX G ad mdm aX S L R (fun r S2 L2 R2 => r = v ∧ CQ S S2 R2 T c d n B2 (uN u) M (pU UR N u) SR sf ∧ L = L2))
    (hM : ∀ S1 L1 R1, mlk R1 → RV S1 L1 T c d n u N UR SR sf nm → Ki l yM cM nM .int rmM G ad mdm aM S1 L1 R1 (fun b S2 L2 R2 => b = v ∧ rC S1 S2 M u ∧ L1 = L2 ∧ R1 = R2)) : CaseD l G ad S L R yX cX nX rmX aX yM cM nM rmM aM t := by
  refine ⟨_, hX, fun r S1 L1 R1 p => ?_⟩
  obtain ⟨rfl, p2, rfl⟩ := p
  obtain ⟨hF, x, ph, hC⟩ := id p2
  refine ⟨_, hM _ _ _ hC.1 (iv_fc hI hF (LQ.rf L)).1, fun b S2 L2 R2 q => ?_⟩
  obtain ⟨rfl, q2, rfl, rfl⟩ := q
  exact ⟨rfl, S2, fun _ _ _ _ => rfl, T, c, M, d, n, B2, uN u, pU UR N u, SR, sf, un, f, nm, iv_c hI hu p2 (LQ.rf L) q2, hB⟩
end CASES
