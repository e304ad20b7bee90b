/-! rows over Z that read and write the memory -/
/-- a field as a method of own reaches it: pool number ix, class ci, slot j, code t (0 int or boolean, 1 long, 2 reference) -/
def mFl (own : String) (ix ci j t : Nat) : Prop := ci < 10 ∧ j < mCN ci ∧ mfc (mCy ci j) = t ∧ Cond.fieldLink own ix (mCT ci j).1 (mCT ci j).2.1 (mCT ci j).2.2.1 ∈ mlw
theorem mval_0 {ad : mA} {S : mS} {L : mL} {R : mR} {ci kd i j : Nat} (h : mfc (mCy ci j) = 0) : mval ad S L R ci kd i j = .int (S kd i j) := by simp [mval, h]
theorem mval_1 {ad : mA} {S : mS} {L : mL} {R : mR} {ci kd i j : Nat} (h : mfc (mCy ci j) = 1) : mval ad S L R ci kd i j = .long (L kd i j) := by simp [mval, h]
theorem mval_2 {ad : mA} {S : mS} {L : mL} {R : mR} {ci kd i j : Nat} (h : mfc (mCy ci j) = 2) : mval ad S L R ci kd i j = va_rf (mrf ad (R kd i j)) := by simp [mval, h]
theorem mval_S {ad : mA} {S : mS} {L : mL} {R : mR} {ci kd i j : Nat} (h : mfc (mCy ci j) = 0) (v : Int32) (j' : Nat) : updV (mval ad S L R ci kd i) j (.int v) j' = mval ad (up3 S kd i j v) L R ci kd i j' := by
  by_cases e : j' = j
  · subst e
    simp [updV, mval_0 h, up3]
  · simp [updV, e, mval, up3]
theorem mval_L {ad : mA} {S : mS} {L : mL} {R : mR} {ci kd i j : Nat} (h : mfc (mCy ci j) = 1) (v : Int64) (j' : Nat) : updV (mval ad S L R ci kd i) j (.long v) j' = mval ad S (up3 L kd i j v) R ci kd i j' := by
  by_cases e : j' = j
  · subst e
    simp [updV, mval_1 h, up3]
  · simp [updV, e, mval, up3]
theorem mval_R {ad : mA} {S : mS} {L : mL} {R : mR} {ci kd i j : Nat} (h : mfc (mCy ci j) = 2) (v : Nat × Nat) (j' : Nat) : updV (mval ad S L R ci kd i) j (.ref (ad v.1 v.2)) j' = mval ad S L (up3 R kd i j (some v)) ci kd i j' := by
  by_cases e : j' = j
  · subst e
    simp [updV, mval_2 h, up3, va_rf, mrf]
  · simp [updV, e, mval, up3]
section ZM
variable {X : mX} {own : String} {cc : ByteArray} {nL : Nat} {rm : Room} {ad : mA} {dm : mD} {S : mS} {L : mL} {R : mR} {ce sl : Nat} {lv : List (Nat × Value)} {rest : List Value}
theorem z_get (C : mK X own cc nL rm) (pc : Nat) {ix kd i ci j t : Nat} (d : decode cc pc = .ok (.getfield ix, 3)) (f : mFl own ix ci j t) (hs : msh kd = .inr ci) (hd : dm kd i)
    (k : Z X nL ad dm S L R ce sl (pc + 3) lv (mval ad S L R ci kd i j :: rest)) : Z X nL ad dm S L R ce sl pc lv (.ref (ad kd i) :: rest) := by
  obtain ⟨p, l, e, Rm, s, m, args, below, meth, c, Q, G, A⟩ := X
  intro H locs ls h1 h2 h3
  have hOB := (mat.obj hs).mp (h1.2.2 kd i hd)
  have hP1 : va_P G.1 vwCl [(ad kd i, .inr (ci, (List.range (mCN ci)).map (mval ad S L R ci kd i)))] H := by
    intro q z hz
    have hq : q = 0 := by have := (List.getElem?_eq_some_iff.mp hz).1; simpa using this
    subst hq
    cases hz
    exact ⟨_, mC_cl ci f.1, hOB.to (fun j' hj' => by simp [vp_V, hj'])⟩
  exact va_get C.1 C.2.1 C.2.2.2.2.1 (mC_in ci f.1) C.2.2.2.1 C.2.2.2.2.2.2.1 hP1 0 rfl (mC_cl ci f.1) j f.2.1 (C.2.2.2.2.1 _ f.2.2.2) (fun _ h => h) (by simp [f.2.1]) d (k H locs ls h1 h2 h3)
theorem z_geti (C : mK X own cc nL rm) (pc : Nat) {ix kd i ci j : Nat} (d : decode cc pc = .ok (.getfield ix, 3)) (f : mFl own ix ci j 0) (hs : msh kd = .inr ci) (hd : dm kd i)
    (k : Z X nL ad dm S L R ce sl (pc + 3) lv (.int (S kd i j) :: rest)) : Z X nL ad dm S L R ce sl pc lv (.ref (ad kd i) :: rest) :=
  z_get C pc d f hs hd (by rw [mval_0 f.2.2.1]; exact k)
/-- the same, the value under another name -/
theorem z_getiv (C : mK X own cc nL rm) (pc : Nat) {ix kd i ci j : Nat} {v : Int32} (d : decode cc pc = .ok (.getfield ix, 3)) (f : mFl own ix ci j 0) (hs : msh kd = .inr ci) (hd : dm kd i) (hv : S kd i j = v)
    (k : Z X nL ad dm S L R ce sl (pc + 3) lv (.int v :: rest)) : Z X nL ad dm S L R ce sl pc lv (.ref (ad kd i) :: rest) :=
  z_geti C pc d f hs hd (by rw [hv]; exact k)
theorem z_getl (C : mK X own cc nL rm) (pc : Nat) {ix kd i ci j : Nat} (d : decode cc pc = .ok (.getfield ix, 3)) (f : mFl own ix ci j 1) (hs : msh kd = .inr ci) (hd : dm kd i)
    (k : Z X nL ad dm S L R ce sl (pc + 3) lv (.long (L kd i j) :: rest)) : Z X nL ad dm S L R ce sl pc lv (.ref (ad kd i) :: rest) :=
  z_get C pc d f hs hd (by rw [mval_1 f.2.2.1]; exact k)
theorem z_getr (C : mK X own cc nL rm) (pc : Nat) {ix kd i ci j k' i' : Nat} (d : decode cc pc = .ok (.getfield ix, 3)) (f : mFl own ix ci j 2) (hs : msh kd = .inr ci) (hd : dm kd i) (hl : R kd i j = some (k', i'))
    (k : Z X nL ad dm S L R ce sl (pc + 3) lv (.ref (ad k' i') :: rest)) : Z X nL ad dm S L R ce sl pc lv (.ref (ad kd i) :: rest) :=
  z_get C pc d f hs hd (by rw [mval_2 f.2.2.1, hl]; exact k)
/-- a field that is not final is written -/
theorem z_put (C : mK X own cc nL rm) (pc : Nat) {ix kd i ci j t : Nat} {v : Value} {S' : mS} {L' : mL} {R' : mR} (d : decode cc pc = .ok (.putfield ix, 3)) (f : mFl own ix ci j t) (hf : (mCT ci j).2.2.2 = false) (hs : msh kd = .inr ci) (hd : dm kd i)
    (hn : narrow (mCy ci j) v = v) (hfit : fits (mCy ci j) v = true) (hu : ∀ j', updV (mval ad S L R ci kd i) j v j' = mval ad S' L' R' ci kd i j')
    (hS : ∀ k' i', ¬ (k' = kd ∧ i' = i) → S k' i' = S' k' i') (hL : ∀ k' i', ¬ (k' = kd ∧ i' = i) → L k' i' = L' k' i') (hR : ∀ k' i', ¬ (k' = kd ∧ i' = i) → R k' i' = R' k' i')
    (k : Z X nL ad dm S' L' R' ce sl (pc + 3) lv rest) : Z X nL ad dm S L R ce sl pc lv (v :: .ref (ad kd i) :: rest) := by
  obtain ⟨p, l, e, Rm, s, m, args, below, meth, c, Q, G, A⟩ := X
  intro H locs ls h1 h2 h3
  have hts := C.2.2.2.2.1
  have hown := C.2.2.2.1
  have hK := C.2.2.2.2.2.2.1
  have hin := mC_in ci f.1
  have hc := mC_cl ci f.1
  have hap := va_apart (own := own) hts hin (mCy ci) (mC_ty ci f.1) (mC_nm ci f.1) hK hc
  obtain ⟨cell, q1, q2, q3, q4⟩ := (mat.obj hs).mp (h1.2.2 kd i hd)
  obtain ⟨hSl, hfc, kC, hkC, hkind⟩ := hK.1 ci _ hc
  obtain ⟨cf, kf, fi, fd, hi, hsl⟩ := hSl j f.2.1
  have hlay := hts _ (hin _ (u_in_lay f.2.1))
  unfold u_lay at hlay
  rw [if_neg (by rw [hf]; decide)] at hlay
  have hst := (u_facts hfc hkC (u_lays hts hin f.2.1) hi).1
  have h6 := u_store hfc hkC hkind hlay hi (mC_ty ci f.1 j f.2.1) hn hfit
  refine W.putK C.1 C.2.1 (f := fd) ⟨hown, hts _ f.2.2.2, ⟨_, _, _, hi⟩, hst⟩ (by rw [q2]; exact h6) q1 q3 (by rw [hsl]; exact k2_hasslot (q4 j f.2.1)) rfl rfl d fun H' e1 e2 e3 => ?_
  rw [hsl] at e1 ⊢
  refine k H' _ ls (h1.put hd e3 ((mat.obj hs).mpr ?_) hS hL hR) (h2.put e2 e3 (h1.2.1 kd i hd)) h3
  exact t_OB.to (V := updV (mval ad S L R ci kd i) j v) ⟨_, e1, q2, q3, t_set q4 hap f.2.1 v⟩ (fun j' _ => hu j')
theorem z_puti (C : mK X own cc nL rm) (pc : Nat) {ix kd i ci j : Nat} {v : Int32} (d : decode cc pc = .ok (.putfield ix, 3)) (f : mFl own ix ci j 0) (hf : (mCT ci j).2.2.2 = false ∧ mCy ci j = .int) (hs : msh kd = .inr ci) (hd : dm kd i)
    (k : Z X nL ad dm (up3 S kd i j v) L R ce sl (pc + 3) lv rest) : Z X nL ad dm S L R ce sl pc lv (.int v :: .ref (ad kd i) :: rest) :=
  z_put C pc d f hf.1 hs hd (by rw [hf.2]; rfl) (by rw [hf.2]; rfl) (mval_S f.2.2.1 v) (up3_off S kd i j v) (fun _ _ _ => rfl) (fun _ _ _ => rfl) k
theorem z_putz (C : mK X own cc nL rm) (pc : Nat) {ix kd i ci j : Nat} {v : Int32} (d : decode cc pc = .ok (.putfield ix, 3)) (f : mFl own ix ci j 0) (hf : (mCT ci j).2.2.2 = false ∧ mCy ci j = .boolean) (hv : v = 0 ∨ v = 1) (hs : msh kd = .inr ci) (hd : dm kd i)
    (k : Z X nL ad dm (up3 S kd i j v) L R ce sl (pc + 3) lv rest) : Z X nL ad dm S L R ce sl pc lv (.int v :: .ref (ad kd i) :: rest) :=
  z_put C pc d f hf.1 hs hd (by rw [hf.2]; rcases hv with rfl | rfl <;> rfl) (by rw [hf.2]; rcases hv with rfl | rfl <;> rfl) (mval_S f.2.2.1 v) (up3_off S kd i j v) (fun _ _ _ => rfl) (fun _ _ _ => rfl) k
theorem z_putl (C : mK X own cc nL rm) (pc : Nat) {ix kd i ci j : Nat} {v : Int64} (d : decode cc pc = .ok (.putfield ix, 3)) (f : mFl own ix ci j 1) (hf : (mCT ci j).2.2.2 = false ∧ mCy ci j = .long) (hs : msh kd = .inr ci) (hd : dm kd i)
    (k : Z X nL ad dm S (up3 L kd i j v) R ce sl (pc + 3) lv rest) : Z X nL ad dm S L R ce sl pc lv (.long v :: .ref (ad kd i) :: rest) :=
  z_put C pc d f hf.1 hs hd (by rw [hf.2]; rfl) (by rw [hf.2]; rfl) (mval_L f.2.2.1 v) (fun _ _ _ => rfl) (up3_off L kd i j v) (fun _ _ _ => rfl) k
theorem z_putr (C : mK X own cc nL rm) (pc : Nat) {ix kd i ci j k' i' : Nat} (d : decode cc pc = .ok (.putfield ix, 3)) (f : mFl own ix ci j 2) (hf : (mCT ci j).2.2.2 = false ∧ (∀ a, narrow (mCy ci j) (.ref a) = .ref a ∧ fits (mCy ci j) (.ref a) = true)) (hs : msh kd = .inr ci) (hd : dm kd i)
    (k : Z X nL ad dm S L (up3 R kd i j (some (k', i'))) ce sl (pc + 3) lv rest) : Z X nL ad dm S L R ce sl pc lv (.ref (ad k' i') :: .ref (ad kd i) :: rest) :=
  z_put C pc d f hf.1 hs hd (hf.2 _).1 (hf.2 _).2 (mval_R f.2.2.1 (k', i')) (fun _ _ _ => rfl) (fun _ _ _ => rfl) (up3_off R kd i j (some (k', i'))) k
/-- an element of an int array -/
theorem z_iald (C : mK X own cc nL rm) (pc : Nat) {kd i len n : Nat} {x : Int32} (d : decode cc pc = .ok (.iaload, 1)) (hs : msh kd = .inl (0, len)) (hd : dm kd i) (hx : x = nI n) (hl : len < 2 ^ 31) (hn : n < len)
    (k : Z X nL ad dm S L R ce sl (pc + 1) lv (.int (S kd i n) :: rest)) : Z X nL ad dm S L R ce sl pc lv (.int x :: .ref (ad kd i) :: rest) := by
  obtain ⟨p, l, e, Rm, s, m, args, below, meth, c, Q, G, A⟩ := X
  intro H locs ls h1 h2 h3
  subst hx
  have hc : H[ad kd i]? = some (vp_cell (G.2 0) (len, .inl (S kd i))) := (mat.arr hs).mp (h1.2.2 kd i hd)
  have hP1 : va_P G.1 vwCl [(ad kd i, .inl (G.2 0, len, .inl (S kd i)))] H := by
    intro q z hz
    have hq : q = 0 := by have := (List.getElem?_eq_some_iff.mp hz).1; simpa using this
    subst hq
    cases hz
    exact hc
  have hn' : (nI n).toNatClampNeg = n := nI_clamp (by omega)
  exact va_iald C.1 C.2.1 C.2.2.2.2.2.2.1 hP1 0 0 rfl rfl (vp_in_nI hn hl) d (by rw [hn']; exact k H locs ls h1 h2 h3)
theorem z_bald (C : mK X own cc nL rm) (pc : Nat) {kd i len n : Nat} {x : Int32} (d : decode cc pc = .ok (.baload, 1)) (hs : msh kd = .inl (1, len)) (hd : dm kd i) (hx : x = nI n) (hl : len < 2 ^ 31) (hn : n < len)
    (k : Z X nL ad dm S L R ce sl (pc + 1) lv (.int (S kd i n) :: rest)) : Z X nL ad dm S L R ce sl pc lv (.int x :: .ref (ad kd i) :: rest) := by
  obtain ⟨p, l, e, Rm, s, m, args, below, meth, c, Q, G, A⟩ := X
  intro H locs ls h1 h2 h3
  subst hx
  have hc : H[ad kd i]? = some (vp_cell (G.2 1) (len, .inl (S kd i))) := (mat.arr hs).mp (h1.2.2 kd i hd)
  have hP1 : va_P G.1 vwCl [(ad kd i, .inl (G.2 1, len, .inl (S kd i)))] H := by
    intro q z hz
    have hq : q = 0 := by have := (List.getElem?_eq_some_iff.mp hz).1; simpa using this
    subst hq
    cases hz
    exact hc
  have hn' : (nI n).toNatClampNeg = n := nI_clamp (by omega)
  exact va_bald C.1 C.2.1 C.2.2.2.2.2.2.1 hP1 0 1 rfl rfl (vp_in_nI hn hl) d (by rw [hn']; exact k H locs ls h1 h2 h3)
theorem z_zald (C : mK X own cc nL rm) (pc : Nat) {kd i len n : Nat} {x : Int32} (d : decode cc pc = .ok (.baload, 1)) (hs : msh kd = .inl (2, len)) (hd : dm kd i) (hx : x = nI n) (hl : len < 2 ^ 31) (hn : n < len)
    (k : Z X nL ad dm S L R ce sl (pc + 1) lv (.int (S kd i n) :: rest)) : Z X nL ad dm S L R ce sl pc lv (.int x :: .ref (ad kd i) :: rest) := by
  obtain ⟨p, l, e, Rm, s, m, args, below, meth, c, Q, G, A⟩ := X
  intro H locs ls h1 h2 h3
  subst hx
  have hc : H[ad kd i]? = some (vp_cell (G.2 2) (len, .inl (S kd i))) := (mat.arr hs).mp (h1.2.2 kd i hd)
  have hP1 : va_P G.1 vwCl [(ad kd i, .inl (G.2 2, len, .inl (S kd i)))] H := by
    intro q z hz
    have hq : q = 0 := by have := (List.getElem?_eq_some_iff.mp hz).1; simpa using this
    subst hq
    cases hz
    exact hc
  have hn' : (nI n).toNatClampNeg = n := nI_clamp (by omega)
  exact va_zald C.1 C.2.1 C.2.2.2.2.2.2.1 hP1 0 2 rfl rfl (vp_in_nI hn hl) d (by rw [hn']; exact k H locs ls h1 h2 h3)
theorem z_lald (C : mK X own cc nL rm) (pc : Nat) {kd i len n : Nat} {x : Int32} (d : decode cc pc = .ok (.laload, 1)) (hs : msh kd = .inl (3, len)) (hd : dm kd i) (hx : x = nI n) (hl : len < 2 ^ 31) (hn : n < len)
    (k : Z X nL ad dm S L R ce sl (pc + 1) lv (.long (L kd i n) :: rest)) : Z X nL ad dm S L R ce sl pc lv (.int x :: .ref (ad kd i) :: rest) := by
  obtain ⟨p, l, e, Rm, s, m, args, below, meth, c, Q, G, A⟩ := X
  intro H locs ls h1 h2 h3
  subst hx
  have hc : H[ad kd i]? = some (vp_cell (G.2 3) (len, .inr (.inl (L kd i)))) := (mat.arr hs).mp (h1.2.2 kd i hd)
  have hP1 : va_P G.1 vwCl [(ad kd i, .inl (G.2 3, len, .inr (.inl (L kd i))))] H := by
    intro q z hz
    have hq : q = 0 := by have := (List.getElem?_eq_some_iff.mp hz).1; simpa using this
    subst hq
    cases hz
    exact hc
  have hn' : (nI n).toNatClampNeg = n := nI_clamp (by omega)
  exact va_lald C.1 C.2.1 C.2.2.2.2.2.2.1 hP1 0 3 rfl rfl (vp_in_nI hn hl) d (by rw [hn']; exact k H locs ls h1 h2 h3)
/-- an element of an int[][]: code 4; of a Phone[]: code 5 -/
theorem z_aald4 (C : mK X own cc nL rm) (pc : Nat) {kd i len n k' i' : Nat} {x : Int32} (d : decode cc pc = .ok (.aaload, 1)) (hs : msh kd = .inl (4, len)) (hd : dm kd i) (hx : x = nI n) (hl : len < 2 ^ 31) (hn : n < len) (hr : R kd i n = some (k', i'))
    (k : Z X nL ad dm S L R ce sl (pc + 1) lv (.ref (ad k' i') :: rest)) : Z X nL ad dm S L R ce sl pc lv (.int x :: .ref (ad kd i) :: rest) := by
  obtain ⟨p, l, e, Rm, s, m, args, below, meth, c, Q, G, A⟩ := X
  intro H locs ls h1 h2 h3
  subst hx
  have hc : H[ad kd i]? = some (vp_cell (G.2 4) (len, .inr (.inr (.inr (.inr (fun j => mrf ad (R kd i j))))))) := (mat.arr hs).mp (h1.2.2 kd i hd)
  have hn' : (nI n).toNatClampNeg = n := nI_clamp (by omega)
  have hin : vp_in (nI n) len := vp_in_nI hn hl
  refine W.aald (v := .ref (ad k' i')) (ty := .array .int) C.1 C.2.1 hc ((C.2.2.2.2.2.2.1.2 4 _ rfl).1 len (fun j => va_rf (mrf ad (R kd i j)))) rfl (fun q => by cases q) (by show ¬ (_ < 0 ∨ (arrV _ _ _).slots.size ≤ _); rw [arrV_size]; exact hin) ?_ rfl rfl d (k H locs ls h1 h2 h3)
  show (arrV _ _ _).slots[_]? = _
  rw [hn', arrV_read _ _ hn]
  simp [hr, mrf, va_rf]
theorem z_aald5 (C : mK X own cc nL rm) (pc : Nat) {kd i len n k' i' : Nat} {x : Int32} (d : decode cc pc = .ok (.aaload, 1)) (hs : msh kd = .inl (5, len)) (hd : dm kd i) (hx : x = nI n) (hl : len < 2 ^ 31) (hn : n < len) (hr : R kd i n = some (k', i'))
    (k : Z X nL ad dm S L R ce sl (pc + 1) lv (.ref (ad k' i') :: rest)) : Z X nL ad dm S L R ce sl pc lv (.int x :: .ref (ad kd i) :: rest) := by
  obtain ⟨p, l, e, Rm, s, m, args, below, meth, c, Q, G, A⟩ := X
  intro H locs ls h1 h2 h3
  subst hx
  have hc : H[ad kd i]? = some (vp_cell (G.2 5) (len, .inr (.inr (.inr (.inr (fun j => mrf ad (R kd i j))))))) := (mat.arr hs).mp (h1.2.2 kd i hd)
  have hn' : (nI n).toNatClampNeg = n := nI_clamp (by omega)
  have hin : vp_in (nI n) len := vp_in_nI hn hl
  refine W.aald (v := .ref (ad k' i')) (ty := .object "PhoneMemory$Phone") C.1 C.2.1 hc ((C.2.2.2.2.2.2.1.2 5 _ rfl).1 len (fun j => va_rf (mrf ad (R kd i j)))) rfl (fun q => by cases q) (by show ¬ (_ < 0 ∨ (arrV _ _ _).slots.size ≤ _); rw [arrV_size]; exact hin) ?_ rfl rfl d (k H locs ls h1 h2 h3)
  show (arrV _ _ _).slots[_]? = _
  rw [hn', arrV_read _ _ hn]
  simp [hr, mrf, va_rf]
theorem z_alen (C : mK X own cc nL rm) (pc : Nat) {kd i t len : Nat} (d : decode cc pc = .ok (.arraylength, 1)) (hs : msh kd = .inl (t, len)) (ht : t < 4) (hl : len < 2 ^ 31) (hd : dm kd i)
    (k : Z X nL ad dm S L R ce sl (pc + 1) lv (.int (nI len) :: rest)) : Z X nL ad dm S L R ce sl pc lv (.ref (ad kd i) :: rest) := by
  obtain ⟨p, l, e, Rm, s, m, args, below, meth, c, Q, G, A⟩ := X
  intro H locs ls h1 h2 h3
  have hc := (mat.arr hs).mp (h1.2.2 kd i hd)
  have hK := C.2.2.2.2.2.2.1
  match t, ht with
  | 0, _ => exact W.alen C.1 C.2.1 hc ((hK.2 0 _ rfl).1 len (fun j => .int (S kd i j))) (by show (arrV _ _ _).slots.size.toInt32 = _; rw [arrV_size]; rfl) rfl rfl d (k H locs ls h1 h2 h3)
  | 1, _ => exact W.alen C.1 C.2.1 hc ((hK.2 1 _ rfl).1 len (fun j => .int (S kd i j))) (by show (arrV _ _ _).slots.size.toInt32 = _; rw [arrV_size]; rfl) rfl rfl d (k H locs ls h1 h2 h3)
  | 2, _ => exact W.alen C.1 C.2.1 hc ((hK.2 2 _ rfl).1 len (fun j => .int (S kd i j))) (by show (arrV _ _ _).slots.size.toInt32 = _; rw [arrV_size]; rfl) rfl rfl d (k H locs ls h1 h2 h3)
  | 3, _ => exact W.alen C.1 C.2.1 hc ((hK.2 3 _ rfl).1 len (fun j => .long (L kd i j))) (by show (arrV _ _ _).slots.size.toInt32 = _; rw [arrV_size]; rfl) rfl rfl d (k H locs ls h1 h2 h3)
theorem upd_up3 (S : mS) (kd i n : Nat) (v : Int32) : upd (S kd i) n v = up3 S kd i n v kd i := by funext j; simp [upd, up3]
theorem updL_up3 (L : mL) (kd i n : Nat) (v : Int64) : vp_updL (L kd i) n v = up3 L kd i n v kd i := by funext j; simp [vp_updL, up3]
theorem z_iast (C : mK X own cc nL rm) (pc : Nat) {kd i len n : Nat} {x v : Int32} (d : decode cc pc = .ok (.iastore, 1)) (hs : msh kd = .inl (0, len)) (hd : dm kd i) (hx : x = nI n) (hl : len < 2 ^ 31) (hn : n < len)
    (k : Z X nL ad dm (up3 S kd i n v) L R ce sl (pc + 1) lv rest) : Z X nL ad dm S L R ce sl pc lv (.int v :: .int x :: .ref (ad kd i) :: rest) := by
  obtain ⟨p, l, e, Rm, s, m, args, below, meth, c, Q, G, A⟩ := X
  intro H locs ls h1 h2 h3
  subst hx
  have hc : H[ad kd i]? = some (vp_cell (G.2 0) (len, .inl (S kd i))) := (mat.arr hs).mp (h1.2.2 kd i hd)
  have hn' : (nI n).toNatClampNeg = n := nI_clamp (by omega)
  refine W.iast C.1 C.2.1 hc ((C.2.2.2.2.2.2.1.2 0 _ rfl).1 len (fun j => .int (S kd i j))) (fun q => by cases q) (by show ¬ (_ < 0 ∨ (arrV _ _ _).slots.size ≤ _); rw [arrV_size]; exact vp_in_nI hn hl) rfl rfl d fun H1 e z oq => ?_
  refine k H1 _ ls (h1.put hd oq ((mat.arr hs).mpr ?_) (up3_off S kd i n v) (fun _ _ _ => rfl) (fun _ _ _ => rfl)) (h2.put z oq (h1.2.1 kd i hd)) h3
  rw [e, hn']
  show some ((arrV (G.2 0) len (fun j => .int (S kd i j))).setSlot _ _) = some (arrV (G.2 0) len (fun j => .int (up3 S kd i n v kd i j)))
  rw [arrV_store]
  congr 2
  funext j
  by_cases hj : j = n
  · subst hj
    simp [updV, up3]
  · simp [updV, up3, hj]
theorem z_bast (C : mK X own cc nL rm) (pc : Nat) {kd i len n : Nat} {x v : Int32} (d : decode cc pc = .ok (.bastore, 1)) (hs : msh kd = .inl (1, len)) (hd : dm kd i) (hx : x = nI n) (hl : len < 2 ^ 31) (hn : n < len) (hv : vp_nar .byte v = v)
    (k : Z X nL ad dm (up3 S kd i n v) L R ce sl (pc + 1) lv rest) : Z X nL ad dm S L R ce sl pc lv (.int v :: .int x :: .ref (ad kd i) :: rest) := by
  obtain ⟨p, l, e, Rm, s, m, args, below, meth, c, Q, G, A⟩ := X
  intro H locs ls h1 h2 h3
  subst hx
  have hc : H[ad kd i]? = some (vp_cell (G.2 1) (len, .inl (S kd i))) := (mat.arr hs).mp (h1.2.2 kd i hd)
  have hn' : (nI n).toNatClampNeg = n := nI_clamp (by omega)
  refine W.bast C.1 C.2.1 hc ((C.2.2.2.2.2.2.1.2 1 _ rfl).1 len (fun j => .int (S kd i j))) (fun q => by cases q) (by show ¬ (_ < 0 ∨ (arrV _ _ _).slots.size ≤ _); rw [arrV_size]; exact vp_in_nI hn hl) rfl rfl d fun H1 e z oq => ?_
  refine k H1 _ ls (h1.put hd oq ((mat.arr hs).mpr ?_) (up3_off S kd i n v) (fun _ _ _ => rfl) (fun _ _ _ => rfl)) (h2.put z oq (h1.2.1 kd i hd)) h3
  rw [e, hn']
  show some ((arrV (G.2 1) len (fun j => .int (S kd i j))).setSlot _ _) = some (arrV (G.2 1) len (fun j => .int (up3 S kd i n v kd i j)))
  rw [arrV_store]
  have hv' : narrow .byte (.int v) = .int v := by
    have : narrow .byte (.int v) = .int (vp_nar .byte v) := by rfl
    rw [this, hv]
  congr 2
  funext j
  by_cases hj : j = n
  · subst hj
    simp [updV, up3, hv']
  · simp [updV, up3, hj]
theorem z_zast (C : mK X own cc nL rm) (pc : Nat) {kd i len n : Nat} {x v : Int32} (d : decode cc pc = .ok (.bastore, 1)) (hs : msh kd = .inl (2, len)) (hd : dm kd i) (hx : x = nI n) (hl : len < 2 ^ 31) (hn : n < len) (hv : v = 0 ∨ v = 1)
    (k : Z X nL ad dm (up3 S kd i n v) L R ce sl (pc + 1) lv rest) : Z X nL ad dm S L R ce sl pc lv (.int v :: .int x :: .ref (ad kd i) :: rest) := by
  obtain ⟨p, l, e, Rm, s, m, args, below, meth, c, Q, G, A⟩ := X
  intro H locs ls h1 h2 h3
  subst hx
  have hc : H[ad kd i]? = some (vp_cell (G.2 2) (len, .inl (S kd i))) := (mat.arr hs).mp (h1.2.2 kd i hd)
  have hn' : (nI n).toNatClampNeg = n := nI_clamp (by omega)
  refine W.zast C.1 C.2.1 hc ((C.2.2.2.2.2.2.1.2 2 _ rfl).1 len (fun j => .int (S kd i j))) (fun q => by cases q) (by show ¬ (_ < 0 ∨ (arrV _ _ _).slots.size ≤ _); rw [arrV_size]; exact vp_in_nI hn hl) rfl rfl d fun H1 e z oq => ?_
  refine k H1 _ ls (h1.put hd oq ((mat.arr hs).mpr ?_) (up3_off S kd i n v) (fun _ _ _ => rfl) (fun _ _ _ => rfl)) (h2.put z oq (h1.2.1 kd i hd)) h3
  rw [e, hn']
  show some ((arrV (G.2 2) len (fun j => .int (S kd i j))).setSlot _ _) = some (arrV (G.2 2) len (fun j => .int (up3 S kd i n v kd i j)))
  rw [arrV_store]
  have hv' : narrow .boolean (.int v) = .int v := by rcases hv with rfl | rfl <;> rfl
  congr 2
  funext j
  by_cases hj : j = n
  · subst hj
    simp [updV, up3, hv']
  · simp [updV, up3, hj]
theorem z_last (C : mK X own cc nL rm) (pc : Nat) {kd i len n : Nat} {x : Int32} {v : Int64} (d : decode cc pc = .ok (.lastore, 1)) (hs : msh kd = .inl (3, len)) (hd : dm kd i) (hx : x = nI n) (hl : len < 2 ^ 31) (hn : n < len)
    (k : Z X nL ad dm S (up3 L kd i n v) R ce sl (pc + 1) lv rest) : Z X nL ad dm S L R ce sl pc lv (.long v :: .int x :: .ref (ad kd i) :: rest) := by
  obtain ⟨p, l, e, Rm, s, m, args, below, meth, c, Q, G, A⟩ := X
  intro H locs ls h1 h2 h3
  subst hx
  have hc : H[ad kd i]? = some (vp_cell (G.2 3) (len, .inr (.inl (L kd i)))) := (mat.arr hs).mp (h1.2.2 kd i hd)
  have hn' : (nI n).toNatClampNeg = n := nI_clamp (by omega)
  refine W.last C.1 C.2.1 hc ((C.2.2.2.2.2.2.1.2 3 _ rfl).1 len (fun j => .long (L kd i j))) (fun q => by cases q) (by show ¬ (_ < 0 ∨ (arrV _ _ _).slots.size ≤ _); rw [arrV_size]; exact vp_in_nI hn hl) rfl rfl d fun H1 e z oq => ?_
  refine k H1 _ ls (h1.put hd oq ((mat.arr hs).mpr ?_) (fun _ _ _ => rfl) (up3_off L kd i n v) (fun _ _ _ => rfl)) (h2.put z oq (h1.2.1 kd i hd)) h3
  rw [e, hn']
  show some ((arrV (G.2 3) len (fun j => .long (L kd i j))).setSlot _ _) = some (arrV (G.2 3) len (fun j => .long (up3 L kd i n v kd i j)))
  rw [arrV_store]
  congr 2
  funext j
  by_cases hj : j = n
  · subst hj
    simp [updV, up3]
  · simp [updV, up3, hj]
theorem z_aast (C : mK X own cc nL rm) (pc : Nat) {kd i len n i' : Nat} {x : Int32} (d : decode cc pc = .ok (.aastore, 1)) (hs : msh kd = .inl (5, len)) (hd : dm kd i) (hd' : dm 25 i') (hx : x = nI n) (hl : len < 2 ^ 31) (hn : n < len)
    (k : Z X nL ad dm S L (up3 R kd i n (some (25, i'))) ce sl (pc + 1) lv rest) : Z X nL ad dm S L R ce sl pc lv (.ref (ad 25 i') :: .int x :: .ref (ad kd i) :: rest) := by
  obtain ⟨p, l, e, Rm, s, m, args, below, meth, c, Q, G, A⟩ := X
  intro H locs ls h1 h2 h3
  subst hx
  have hc : H[ad kd i]? = some (vp_cell (G.2 5) (len, .inr (.inr (.inr (.inr (fun j => mrf ad (R kd i j))))))) := (mat.arr hs).mp (h1.2.2 kd i hd)
  have hn' : (nI n).toNatClampNeg = n := nI_clamp (by omega)
  have hin : vp_in (nI n) len := vp_in_nI hn hl
  have hK := C.2.2.2.2.2.2.1
  obtain ⟨cellV, g1, g2, g3, -⟩ := (mat.obj (k := 25) rfl).mp (h1.2.2 25 i' hd')
  have hcls := (hK.1 4 _ rfl).2
  obtain ⟨kA, comp, k1, k2, k3, -⟩ := (hK.2 5 _ rfl).2
  have hcomp : comp = G.1.1 4 := Option.some.inj (k3.symm.trans hcls.1)
  subst hcomp
  obtain ⟨kC, hkC, -⟩ := hcls.2
  refine W.aast C.1 C.2.1 hc (fun q h => by cases h) (fun h => by cases h) k1 k2 rfl hkC ⟨fun q => hin (Or.inl q), by show _ < (arrV _ _ _).slots.size; rw [arrV_size, hn']; exact hn⟩ g1 (fun q h => by rw [g3] at h; cases h) (by rw [g2]; exact hkC) (by rw [g2]; exact va_assign hcls) rfl rfl d fun H1 e z oq => ?_
  refine k H1 _ ls (h1.put hd oq ((mat.arr hs).mpr ?_) (fun _ _ _ => rfl) (fun _ _ _ => rfl) (up3_off R kd i n (some (25, i')))) (h2.put z oq (h1.2.1 kd i hd)) h3
  rw [e, hn']
  show some ((arrV (G.2 5) len (fun j => va_rf (mrf ad (R kd i j)))).setSlot _ _) = some (arrV (G.2 5) len (fun j => va_rf (mrf ad (up3 R kd i n (some (25, i')) kd i j))))
  rw [arrV_store]
  congr 2
  funext j
  by_cases hj : j = n
  · subst hj
    simp [updV, up3, va_rf, mrf]
  · simp [updV, up3, hj]
end ZM
