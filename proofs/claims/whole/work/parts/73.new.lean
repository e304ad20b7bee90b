/-! WHAT IS MADE: a memory that grows -/
def dA (dm : mD) (k i : Nat) : mD := fun k' i' => dm k' i' ∨ (k' = k ∧ i' = i)
def z3 {α : Type} (S : Nat → Nat → Nat → α) (z : α) (k i : Nat) : Nat → Nat → Nat → α := fun k' i' => if k' = k ∧ i' = i then fun _ => z else S k' i'
theorem z3_s {α : Type} (S : Nat → Nat → Nat → α) (z : α) (k i : Nat) : z3 S z k i k i = fun _ => z := if_pos ⟨rfl, rfl⟩
theorem z3_n {α : Type} (S : Nat → Nat → Nat → α) {z : α} {k i k' i' : Nat} (h : ¬ (k' = k ∧ i' = i)) : z3 S z k i k' i' = S k' i' := if_neg h
theorem z3_at {α : Type} (S : Nat → Nat → Nat → α) (z : α) (k i k' i' j' : Nat) : z3 S z k i k' i' j' = if k' = k ∧ i' = i then z else S k' i' j' := by
  unfold z3
  split <;> rfl
/-- the last cell that was made is the heap's last -/
def mLast (ad : mA) (dm : mD) (N : Nat) : Prop := ∃ k i, dm k i ∧ ad k i + 1 = N
theorem H_size {p : Program} {l : Launch} {e : Env} {Rm : Room} {s : State} {m : MethodId} {args : Array Value} {below : List Frame} {meth : Method} {c : Code} {T : State} {locs : List Loc} {ce sl : Nat} {G : mG} {A : Nat → Prop} {ad : mA} {dm : mD} {S : mS} {L : mL} {R : mR} {H : Heap} (X9 : Stand p l e Rm s m args below meth c T locs ce sl) (hT : T.heap = H) (h1 : mH G A ad dm S L R H) (h2 : va_S A s.heap H locs) (hl : ce = 0 ∨ mLast ad dm (s.heap.size + ce)) : H.size = s.heap.size + ce := by
  have hu : T.heap.size ≤ s.heap.size + ce := X9.same.2.2.1
  rw [hT] at hu
  rcases hl with rfl | ⟨k, i, hd, hk⟩
  · have := h2.1
    omega
  · have := (h1.2.2 k i hd).lt
    omega
theorem mC_df : ∀ ci, ci < 10 → ∀ j, j < mCN ci → defaultValue (mCy ci j) = (match mfc (mCy ci j) with | 0 => .int 0 | 1 => .long 0 | _ => .null) := by decide +kernel
theorem mval_new {ad : mA} {S : mS} {L : mL} {R : mR} {ci k i j : Nat} (hci : ci < 10) (hj : j < mCN ci) : defaultValue (mCy ci j) = mval ad (z3 S 0 k i) (z3 L 0 k i) (z3 R none k i) ci k i j := by
  rw [mC_df ci hci j hj]
  unfold mval
  rw [z3_s, z3_s, z3_s]
  generalize mfc (mCy ci j) = q
  match q with
  | 0 => rfl
  | 1 => rfl
  | _ + 2 => rfl
theorem mH.new {G : mG} {A : Nat → Prop} {ad : mA} {dm : mD} {S : mS} {L : mL} {R : mR} {H H1 : Heap} {k i : Nat} (h : mH G A ad dm S L R H) (hn : ad k i = H.size) (hA : A (ad k i)) (ho : ∀ q : Nat, q < H.size → H1[q]? = H[q]?) (hm : mat G ad (z3 S 0 k i) (z3 L 0 k i) (z3 R none k i) k i H1) : mH G A ad (dA dm k i) (z3 S 0 k i) (z3 L 0 k i) (z3 R none k i) H1 := by
  have hne : ∀ k' i', dm k' i' → ad k' i' ≠ ad k i := fun k' i' hd e => by
    have := (h.2.2 k' i' hd).lt
    omega
  refine ⟨fun k1 i1 k2 i2 d1 d2 e => ?_, fun k' i' hd => ?_, fun k' i' hd => ?_⟩
  · rcases d1 with d1 | ⟨rfl, rfl⟩ <;> rcases d2 with d2 | ⟨rfl, rfl⟩
    · exact h.1 _ _ _ _ d1 d2 e
    · exact absurd e (hne _ _ d1)
    · exact absurd e.symm (hne _ _ d2)
    · exact ⟨rfl, rfl⟩
  · rcases hd with hd | ⟨rfl, rfl⟩
    · exact h.2.1 _ _ hd
    · exact hA
  · by_cases e : k' = k ∧ i' = i
    · obtain ⟨rfl, rfl⟩ := e
      exact hm
    · rcases hd with hd | hd
      · exact ((h.2.2 k' i' hd).kept (ho _ (h.2.2 k' i' hd).lt)).to (z3_n S e).symm (z3_n L e).symm (z3_n R e).symm
      · exact absurd hd e
theorem mna_outer (c : ClassId) (N h0 : Nat) : ∀ i : Nat, Jvm.Free.Multi.outerC c N h0 i = arrV c N (fun j => va_rf (if j < i then some (h0 + 1 + j) else none))
  | 0 => by
    show ({ cls := c, slots := Array.replicate N .null, vm := .none } : Cell) = _
    rw [arrV_new]
    refine congrArg (arrV c N) (funext fun j => ?_)
    simp [va_rf]
  | i + 1 => by
    show (Jvm.Free.Multi.outerC c N h0 i).setSlot i (.ref (h0 + 1 + i)) = _
    rw [mna_outer c N h0 i, arrV_store]
    refine congrArg (arrV c N) (funext fun j => ?_)
    by_cases e : j = i
    · subst e
      simp [updV, va_rf]
    · by_cases h : j < i
      · simp [updV, e, h, Nat.lt_succ_of_lt h]
      · simp [updV, e, h, show ¬ j < i + 1 by omega]
section ZNW
variable {X : mX} {own : String} {cc : ByteArray} {nL : Nat} {rm : Room} {ad : mA} {dm : mD} {S : mS} {L : mL} {R : mR} {ce sl : Nat} {lv : List (Nat × Value)} {rest st : List Value}
/-- the heap's size at this method's entry -/
def mSz (X : mX) : Nat := X.2.2.2.2.1.heap.size
theorem z_new (C : mK X own cc nL rm) (pc : Nat) {ix k i ci : Nat} (d : decode cc pc = .ok (.new ix, 3)) (hs : msh k = .inr ci) (hci : ci < 10) (hcl : Cond.classLink own ix (mCR ci) ∈ mlw) (hin : Cond.instantiable (mCR ci) (mCN ci) ∈ mlw) (hini : Cond.initialized (mCR ci) ∈ mlw) (hl : ce = 0 ∨ mLast ad dm (mSz X + ce)) (hn : ad k i = mSz X + ce) (hz : ce + 1 ≤ rm.cells ∧ sl + mCN ci ≤ rm.slots)
    (kk : Z X nL ad (dA dm k i) (z3 S 0 k i) (z3 L 0 k i) (z3 R none k i) (ce + 1) (sl + mCN ci) (pc + 3) lv (.ref (ad k i) :: rest)) : Z X nL ad dm S L R ce sl pc lv rest := by
  obtain ⟨p, l, e, Rm, s, m, args, below, meth, c, Q, G, A⟩ := X
  intro H locs ls h1 h2 h3 T hT X9
  have hsz := H_size X9 hT h1 h2 hl
  have hts := C.2.2.2.2.1
  have hK := C.2.2.2.2.2.2.1
  have hRm : Rm = rm := C.2.2.2.2.2.1
  subst hRm
  have hc := mC_cl ci hci
  have hKn := hK.1 ci _ hc
  have hn : ad k i = H.size := hn.trans hsz.symm
  refine W.newcK (H := H) (Q := Q) C.1 C.2.1 C.2.2.2.1 (hts _ hcl) (hts _ hin) (hts _ hini) (g := F0 m pc ls rest) rfl d hz.1 hz.2 hKn.2.1 (h := H.size) rfl (fun H1 kC hkC e1 z1 o1 => ?_) T hT X9
  have hm : mat G ad (z3 S 0 k i) (z3 L 0 k i) (z3 R none k i) k i H1 := (mat.obj hs).mpr (by
    rw [hn]
    exact (u_born (mCy ci) hts (mC_in ci hci) hKn hkC e1 (mC_ty ci hci)).to (fun j hj => mval_new hci hj))
  have hk := kk H1 locs ls (h1.new hn (by rw [hn]; exact C.2.2.2.2.2.2.2.1 _ h2.1) o1 hm) ⟨Nat.le_trans h2.1 (by omega), fun x a b => (o1 x (Nat.lt_of_lt_of_le a h2.1)).trans (h2.2.1 x a b), h2.2.2⟩ h3
  rw [hn] at hk
  exact hk
theorem mty_RA {s : State} {cA : Nat → ClassId} {G1 : va_G} {t : Nat} (h : va_K G1 vwCl (mtys cA) s) (ht : t < 5) : s.vm.findClass ("[" ++ (mty t).toString) = some (cA t) := by
  rcases (show t = 0 ∨ t = 1 ∨ t = 2 ∨ t = 3 ∨ t = 4 by omega) with rfl | rfl | rfl | rfl | rfl
  · exact (h.2 0 _ (mtys_at cA 0 (by omega))).2
  · exact (h.2 1 _ (mtys_at cA 1 (by omega))).2
  · exact (h.2 2 _ (mtys_at cA 2 (by omega))).2
  · exact (h.2 3 _ (mtys_at cA 3 (by omega))).2
  · exact (h.2 4 _ (mtys_at cA 4 (by omega))).2
theorem arr_new {cA : ClassId} {ad : mA} {S : mS} {L : mL} {R : mR} {t n k i : Nat} (ht : t < 4) : arrV cA n (fun _ => defaultValue (mty t)) = vp_cell cA (mcell ad (z3 S 0 k i) (z3 L 0 k i) (z3 R none k i) (t, n) k i) := by
  unfold mcell
  simp only [z3_s]
  match t, ht with
  | 0, _ => rfl
  | 1, _ => rfl
  | 2, _ => rfl
  | 3, _ => rfl
/-- a new array of ints, bytes, booleans, longs -/
theorem z_newa (C : mK X own cc nL rm) (pc : Nat) {at' : ArrayType} {k i t n : Nat} {x : Int32} (d : decode cc pc = .ok (.newarray at', 2)) (hs : msh k = .inl (t, n)) (ht : t < 4) (hty : newarray.typeOf at' = mty t) (hw : Cond.arrayClass (mty t) ∈ mlw) (hx : x = nI n) (hn31 : n < 10000) (hl : ce = 0 ∨ mLast ad dm (mSz X + ce)) (hn : ad k i = mSz X + ce) (hz : ce + 1 ≤ rm.cells ∧ sl + n ≤ rm.slots)
    (kk : Z X nL ad (dA dm k i) (z3 S 0 k i) (z3 L 0 k i) (z3 R none k i) (ce + 1) (sl + n) (pc + 2) lv (.ref (ad k i) :: rest)) : Z X nL ad dm S L R ce sl pc lv (.int x :: rest) := by
  obtain ⟨p, l, e, Rm, s, m, args, below, meth, c, Q, G, A⟩ := X
  intro H locs ls h1 h2 h3 T hT X9
  have hsz := H_size X9 hT h1 h2 hl
  have hts := C.2.2.2.2.1
  have hK := C.2.2.2.2.2.2.1
  have hRm : Rm = rm := C.2.2.2.2.2.1
  subst hRm
  subst hx
  have hn : ad k i = H.size := hn.trans hsz.symm
  have hcb : ∀ t, t < 4 → componentBytes (mty t) ≤ 8 := by decide
  have hb8 := hcb t ht
  have hmul : n * componentBytes (mty t) ≤ n * 8 := Nat.mul_le_mul_left n hb8
  refine va_newaK (H := H) (Q := Q) (N := n) C.1 C.2.1 (atype := at') (by rw [hty]; exact hts _ hw) (g := F0 m pc ls (.int (nI n) :: rest)) rfl d rfl (nI_pos (by omega)) (nI_clamp (by omega)) (by rw [hty]; omega) hz.1 hz.2 (h := H.size) rfl (fun H1 cA e1 z1 o1 hAr hNm => ?_) T hT X9
  rw [hty] at e1 hNm
  have hcA : cA = G.2 t := Option.some.inj (hNm.symm.trans (mty_RA hK (by omega)))
  subst hcA
  have hm : mat G ad (z3 S 0 k i) (z3 L 0 k i) (z3 R none k i) k i H1 := (mat.arr hs).mpr (by rw [hn, e1, ← arr_new ht])
  have hk := kk H1 locs ls (h1.new hn (by rw [hn]; exact C.2.2.2.2.2.2.2.1 _ h2.1) o1 hm) ⟨Nat.le_trans h2.1 (by omega), fun x a b => (o1 x (Nat.lt_of_lt_of_le a h2.1)).trans (h2.2.1 x a b), h2.2.2⟩ h3
  rw [hn] at hk
  exact hk
/-- a new array of phones -/
theorem z_anew (C : mK X own cc nL rm) (pc : Nat) {ix k i n : Nat} {x : Int32} (d : decode cc pc = .ok (.anewarray ix, 3)) (hs : msh k = .inl (5, n)) (hcl : Cond.classLink own ix "PhoneMemory$Phone" ∈ mlw) (hx : x = nI n) (hn31 : n < 10000) (hl : ce = 0 ∨ mLast ad dm (mSz X + ce)) (hn : ad k i = mSz X + ce) (hz : ce + 1 ≤ rm.cells ∧ sl + n ≤ rm.slots)
    (kk : Z X nL ad (dA dm k i) (z3 S 0 k i) (z3 L 0 k i) (z3 R none k i) (ce + 1) (sl + n) (pc + 3) lv (.ref (ad k i) :: rest)) : Z X nL ad dm S L R ce sl pc lv (.int x :: rest) := by
  obtain ⟨p, l, e, Rm, s, m, args, below, meth, c, Q, G, A⟩ := X
  intro H locs ls h1 h2 h3 T hT X9
  have hsz := H_size X9 hT h1 h2 hl
  have hts := C.2.2.2.2.1
  have hK := C.2.2.2.2.2.2.1
  have hCF := C.2.2.2.2.2.2.2.2
  have hRm : Rm = rm := C.2.2.2.2.2.1
  subst hRm
  subst hx
  have hn : ad k i = H.size := hn.trans hsz.symm
  have hcl' : (nI n).toNatClampNeg = n := nI_clamp (by omega)
  refine W.anew (H := H) (Q := Q) C.1 C.2.1 C.2.2.2.1 (hts _ hcl) (va_AO.use hCF.2.2.2.2.2.2.2.2.1) (g := F0 m pc ls (.int (nI n) :: rest)) rfl d rfl (nI_pos (by omega)) (by rw [hcl']; omega) hz.1 (by rw [hcl']; exact hz.2) (fun cA kA comp f1 f2 f3 f4 => ?_) T hT X9
  rw [hcl']
  obtain ⟨kA2, comp2, g1, g2, g3, g4⟩ := (hK.2 5 _ (mtys_at G.2 5 (by omega))).2
  have hcA : cA = G.2 5 := Option.some.inj (f1.symm.trans g4)
  subst hcA
  generalize hH1 : H.push ({ cls := G.2 5, slots := Array.replicate n .null, vm := .none } : Cell) = H1
  have z1 : H1.size = H.size + 1 := by rw [← hH1, Array.size_push]
  have e1 : H1[H.size]? = some (arrV (G.2 5) n (fun _ => .null)) := by rw [← hH1, Array.getElem?_push_size, ← arrV_new]
  have o1 : ∀ q : Nat, q < H.size → H1[q]? = H[q]? := fun q hq => by rw [← hH1, Array.getElem?_push, if_neg (Nat.ne_of_lt hq)]
  have hm : mat G ad (z3 S 0 k i) (z3 L 0 k i) (z3 R none k i) k i H1 := (mat.arr hs).mpr (by
    rw [hn, e1]
    unfold mcell
    simp only [z3_s]
    rfl)
  have hk := kk H1 locs ls (h1.new hn (by rw [hn]; exact C.2.2.2.2.2.2.2.1 _ h2.1) o1 hm) ⟨Nat.le_trans h2.1 (by omega), fun x a b => (o1 x (Nat.lt_of_lt_of_le a h2.1)).trans (h2.2.1 x a b), h2.2.2⟩ h3
  rw [hn] at hk
  exact hk
/-- a final reference is set by a constructor -/
theorem z_putF (C : mK X own cc nL rm) (hI : X.2.2.2.2.2.2.2.2.1.name = "<init>") (pc : Nat) {ix kd i ci j k' i' : Nat} (d : decode cc pc = .ok (.putfield ix, 3)) (f : mFl own ix ci j 2) (hf : (mCT ci j).2.2.2 = true ∧ (mCT ci j).1 = own ∧ (∀ a, narrow (mCy ci j) (.ref a) = .ref a ∧ fits (mCy ci j) (.ref a) = true)) (hs : msh kd = .inr ci) (hd : dm kd i)
    (k : Z X nL ad dm S L (up3 R kd i j (some (k', i'))) ce sl (pc + 3) lv rest) : Z X nL ad dm S L R ce sl pc lv (.ref (ad k' i') :: .ref (ad kd i) :: rest) := by
  obtain ⟨p, l, e, Rm, s, m, args, below, meth, c, Q, G, A⟩ := X
  intro H locs ls h1 h2 h3
  have hts := C.2.2.2.2.1
  have hown := C.2.2.2.1
  have hK := C.2.2.2.2.2.2.1
  have hin := mC_in ci f.1
  have hc := mC_cl ci f.1
  have hap := va_apart (own := own) hts hin (mCy ci) (mC_ty ci f.1) (mC_nm ci f.1) hK hc
  obtain ⟨cell, q1, q2, q3, q4⟩ := (mat.obj hs).mp (h1.2.2 kd i hd)
  obtain ⟨hSl, hfc, kC, hkC, hkind⟩ := hK.1 ci _ hc
  obtain ⟨cf, kf, fi, fd, hi, hsl⟩ := hSl j f.2.1
  have hlay := hts _ (hin _ (u_in_lay f.2.1))
  unfold u_lay at hlay
  rw [if_pos hf.1] at hlay
  have hst := (u_facts hfc hkC (u_lays hts hin f.2.1) hi).1
  have hcf : m.cls = cf := by
    obtain ⟨_, _, c', _, _, _, -, -, hf', -, -, -, hown2, -⟩ := Cond.laysFinal_spec hlay
    have e1 : c' = cf := by have := hi.symm.trans hf'; simp at this; exact this.1.symm
    rw [hf.2.1] at hown2
    rw [← e1]; exact Option.some.inj (hown.symm.trans hown2)
  have h6 := u_fits hfc hkC hkind (Or.inr hlay) hi (mC_ty ci f.1 j f.2.1) (hf.2.2 (ad k' i')).1 (hf.2.2 (ad k' i')).2
  refine W.putFinK C.1 C.2.1 hown (hts _ f.2.2.2) hi hst hcf hI (by rw [q2]; exact h6) q1 q3 (by rw [hsl]; exact k2_hasslot (q4 j f.2.1)) rfl rfl d fun H' e1 e2 e3 => ?_
  rw [hsl] at e1 ⊢
  refine k H' _ ls (h1.put hd e3 ((mat.obj hs).mpr ?_) (fun _ _ _ => rfl) (fun _ _ _ => rfl) (up3_off R kd i j (some (k', i')))) (h2.put e2 e3 (h1.2.1 kd i hd)) h3
  exact t_OB.to (V := updV (mval ad S L R ci kd i) j (.ref (ad k' i'))) ⟨_, e1, q2, q3, t_set q4 hap f.2.1 _⟩ (fun j' _ => mval_R f.2.2.1 (k', i') j')
/-- Object's own constructor -/
theorem z_oinit (C : mK X own cc nL rm) (pc : Nat) {ix a : Nat} (d : decode cc pc = .ok (.invokespecial ix, 3)) (hk : Cond.methodLink own ix objectInit ∈ mlw) (hi : Cond.instanceMethod objectInit ∈ mlw) (hc : Cond.code objectInit ⟨#[0xb1]⟩ 1 none ∈ mlw) (hr : 1 ≤ rm.frames ∧ 20 ≤ rm.locals)
    (k : Z X nL ad dm S L R ce sl (pc + 3) lv []) : Z X nL ad dm S L R ce sl pc lv [.ref a] := by
  obtain ⟨p, l, e, Rm, s, m, args, below, meth, c, Q, G, A⟩ := X
  intro H locs ls h1 h2 h3
  have hts := C.2.2.2.2.1
  have hRm : Rm = rm := C.2.2.2.2.2.1
  subst hRm
  exact W.objInit C.1 C.2.1 C.2.2.2.1 (hts _ hk) (hts _ hi) (hts _ hc) (g := F0 m pc ls [.ref a]) rfl (h3.1.trans C.2.2.1.symm) rfl d hr.1 (by show 0 + 0 + 12 ≤ _; omega) (k H locs ls h1 h2 h3)
/-- new int[10][8]: the outer one and its ten rows -/
def dM (dm : mD) (d : Nat) : mD := fun k i => dm k i ∨ (k = 5 ∧ i = d) ∨ (k = 6 ∧ 10 * d ≤ i ∧ i < 10 * d + 10)
def sM (S : mS) (d : Nat) : mS := fun k i => if k = 6 ∧ 10 * d ≤ i ∧ i < 10 * d + 10 then fun _ => 0 else S k i
def rM (R : mR) (d : Nat) : mR := fun k i => if k = 5 ∧ i = d then fun j => if j < 10 then some (6, 10 * d + j) else none else R k i
theorem z_mna (C : mK X own cc nL rm) (pc : Nat) {ix d0 : Nat} (d : decode cc pc = .ok (.multianewarray ix 2, 4)) (hcl : Cond.classLink own ix ("[" ++ (FieldType.array .int).toString) ∈ mlw) (hw : Cond.arrayClass .int ∈ mlw) (hl : ce = 0 ∨ mLast ad dm (mSz X + ce)) (hn : ad 5 d0 = mSz X + ce) (hr : ∀ j, j < 10 → ad 6 (10 * d0 + j) = mSz X + ce + 1 + j) (hz : ce + 11 ≤ rm.cells ∧ sl + 90 ≤ rm.slots)
    (kk : Z X nL ad (dM dm d0) (sM S d0) L (rM R d0) (ce + 11) (sl + 90) (pc + 4) lv (.ref (ad 5 d0) :: rest)) : Z X nL ad dm S L R ce sl pc lv (.int (nI 8) :: .int (nI 10) :: rest) := by
  obtain ⟨p, l, e, Rm, s, m, args, below, meth, c, Q, G, A⟩ := X
  intro H locs ls h1 h2 h3 T hT Xs
  have hsz := H_size Xs hT h1 h2 hl
  have hts := C.2.2.2.2.1
  have hK := C.2.2.2.2.2.2.1
  have hCF := C.2.2.2.2.2.2.2.2
  have hRm : Rm = rm := C.2.2.2.2.2.1
  subst hRm
  have hn : ad 5 d0 = H.size := hn.trans hsz.symm
  have hr : ∀ j, j < 10 → ad 6 (10 * d0 + j) = H.size + 1 + j := fun j hj => by rw [hr j hj, hsz]; rfl
  have e10 : (nI 10).toNatClampNeg = 10 := nI_clamp (by omega)
  have e8 : (nI 8).toNatClampNeg = 8 := nI_clamp (by omega)
  obtain ⟨vm₁, cA, comp, -, fA, fC, hO, -, X', step⟩ := Xs.multianewarray2F C.1 C.2.2.2.1 (hts _ hcl) (hCF.2.2.2.2.2.2.2.2.2) (hts _ hw) (g := F0 m pc ls (.int (nI 8) :: .int (nI 10) :: rest)) rfl (by rw [C.2.1]; exact d) rfl (nI_pos (by omega)) (nI_pos (by omega)) (by rw [e10]; decide) (by rw [e8]; decide) (by rw [e8]; decide) rfl rfl (by rw [e10]; exact hz.1) (by rw [e10, e8]; exact hz.2)
  rw [e10, e8] at X' step
  have hc4 : cA = G.2 4 := Option.some.inj (fA.symm.trans (mty_RA hK (t := 4) (by omega)))
  have hc0 : comp = G.2 0 := Option.some.inj (fC.symm.trans (mty_RA hK (t := 0) (by omega)))
  subst hc4
  subst hc0
  generalize hF : Jvm.Free.Multi.fill (T.setVm vm₁) (G.2 4) (G.2 0) 10 8 (defaultValue .int) 10 = F at X' step
  have hTh : (T.setVm vm₁).heap = H := hT
  obtain ⟨f1, f2, -, -⟩ := Jvm.Free.Multi.fill_facts (T.setVm vm₁) (G.2 4) (G.2 0) 10 8 (defaultValue .int) 10
  rw [hF, hTh] at f1 f2
  have hold : ∀ x : Nat, x < H.size → F.heap[x]? = H[x]? := fun x hx => by
    have := Jvm.Free.Multi.fill_old (T.setVm vm₁) (G.2 4) (G.2 0) 10 8 (defaultValue .int) (a := x) (by rw [hTh]; exact hx) 10
    rw [hF, hTh] at this
    exact this
  have hrow : ∀ j : Nat, j < 10 → F.heap[H.size + 1 + j]? = some (arrV (G.2 0) 8 (fun _ => .int 0)) := fun j hj => by
    have := Jvm.Free.Multi.fill_inner (T.setVm vm₁) (G.2 4) (G.2 0) 10 8 (defaultValue .int) 10 j hj
    rw [hF, hTh] at this
    rw [this]
    show some ({ cls := G.2 0, slots := Array.replicate 8 (.int 0), vm := .none } : Cell) = _
    rw [arrV_new]
  rw [mna_outer] at f2
  have hne : ∀ k i, dm k i → ∀ q, H.size ≤ q → ad k i ≠ q := fun k i hd q hq e => by
    have := (h1.2.2 k i hd).lt
    omega
  have hH : mH G A ad (dM dm d0) (sM S d0) L (rM R d0) F.heap := by
    refine ⟨fun k1 i1 k2 i2 d1 d2 e => ?_, fun k i hd => ?_, fun k i hd => ?_⟩
    · rcases d1 with d1 | ⟨rfl, rfl⟩ | ⟨rfl, d1⟩ <;> rcases d2 with d2 | ⟨rfl, rfl⟩ | ⟨rfl, d2⟩
      · exact h1.1 _ _ _ _ d1 d2 e
      · exact absurd e (hne _ _ d1 _ (by omega))
      · have e2 := hr (i2 - 10 * d0) (by omega)
        rw [show 10 * d0 + (i2 - 10 * d0) = i2 by omega] at e2
        exact absurd e (hne _ _ d1 _ (by omega))
      · exact absurd e.symm (hne _ _ d2 _ (by omega))
      · exact ⟨rfl, rfl⟩
      · have e2 := hr (i2 - 10 * i1) (by omega)
        rw [show 10 * i1 + (i2 - 10 * i1) = i2 by omega] at e2
        exfalso
        omega
      · have e2 := hr (i1 - 10 * d0) (by omega)
        rw [show 10 * d0 + (i1 - 10 * d0) = i1 by omega] at e2
        exact absurd e.symm (hne _ _ d2 _ (by omega))
      · have e2 := hr (i1 - 10 * i2) (by omega)
        rw [show 10 * i2 + (i1 - 10 * i2) = i1 by omega] at e2
        exfalso
        omega
      · have e1 := hr (i1 - 10 * d0) (by omega)
        have e2 := hr (i2 - 10 * d0) (by omega)
        rw [show 10 * d0 + (i1 - 10 * d0) = i1 by omega] at e1
        rw [show 10 * d0 + (i2 - 10 * d0) = i2 by omega] at e2
        exact ⟨rfl, by omega⟩
    · rcases hd with hd | ⟨rfl, rfl⟩ | ⟨rfl, hd⟩
      · exact h1.2.1 _ _ hd
      · rw [hn]
        exact C.2.2.2.2.2.2.2.1 _ h2.1
      · have e2 := hr (i - 10 * d0) (by omega)
        rw [show 10 * d0 + (i - 10 * d0) = i by omega] at e2
        rw [e2]
        exact C.2.2.2.2.2.2.2.1 _ (by have := h2.1; omega)
    · by_cases h5 : k = 5 ∧ i = d0
      · obtain ⟨rfl, rfl⟩ := h5
        refine (mat.arr (q := (4, 10)) rfl).mpr ?_
        rw [hn, f2]
        unfold mcell rM
        simp only [and_self, if_true]
        rw [vp_cell_q]
        congr 1
        refine congrArg (arrV (G.2 4) 10) (funext fun j => ?_)
        by_cases hj : j < 10
        · rw [if_pos hj, if_pos hj]
          show va_rf (some (H.size + 1 + j)) = va_rf (some (ad 6 (10 * i + j)))
          rw [hr j hj]
        · rw [if_neg hj, if_neg hj]
          rfl
      · by_cases h6 : k = 6 ∧ 10 * d0 ≤ i ∧ i < 10 * d0 + 10
        · obtain ⟨rfl, h6a, h6b⟩ := h6
          have e2 := hr (i - 10 * d0) (by omega)
          rw [show 10 * d0 + (i - 10 * d0) = i by omega] at e2
          refine (mat.arr (q := (0, 8)) rfl).mpr ?_
          rw [e2, hrow _ (by omega)]
          unfold mcell sM
          simp only [h6a, h6b, and_self, if_true]
          rfl
        · rcases hd with hd | hd | hd
          · exact ((h1.2.2 k i hd).kept (hold _ (h1.2.2 k i hd).lt)).to (if_neg h6).symm rfl (if_neg h5).symm
          · exact absurd hd h5
          · exact absurd hd h6
  have hk := kk F.heap locs ls hH ⟨by have := h2.1; rw [f1]; omega, fun x a b => (hold x (Nat.lt_of_lt_of_le a h2.1)).trans (h2.2.1 x a b), h2.2.2⟩ h3
  rw [hn] at hk
  obtain ⟨t, a1, b1⟩ := hk F rfl (by rw [show ce + 11 = ce + 1 + 10 by omega, show sl + 90 = sl + 10 + 10 * 8 by omega]; exact X')
  refine ⟨t, step t ?_, b1⟩
  rw [hT]
  exact a1
end ZNW
