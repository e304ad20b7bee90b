section ZC
variable {X : mX} {own : String} {cc : ByteArray} {nL : Nat} {rm : Room} {ad : mA} {dm : mD} {S : mS} {L : mL} {R : mR} {ce sl : Nat} {lv : List (Nat × Value)} {rest st : List Value}
theorem z_cVi (C : mK X own cc nL rm) (pc : Nat) {ix ny n : Nat} {kd i ci : Nat} {y : MethodName} {cy : ByteArray} {rt : FieldType} {rm' : Room} {As : List Value} {post : Int32 → mS → mL → mR → Prop} (d : decode cc pc = .ok (.invokevirtual ix, 3)) (f : mCv own ix y cy ny (some rt) n) (hM : Ki X.2.1 y cy ny rt rm' X.2.2.2.2.2.2.2.2.2.2.2.1 ad dm (.ref (ad kd i) :: As) S L R post) (hs : msh kd = .inr ci) (hc : ci < 10 ∧ y.cls = mCR ci) (hd : dm kd i) (hst : As.reverse ++ .ref (ad kd i) :: rest = st) (hn : As.length = n) (hcat : (rest.map fun v => v.category).sum ≤ 8) (hr : rm'.frames + 1 ≤ rm.frames ∧ 8 + (ny + 11) + rm'.locals ≤ rm.locals) (hz : ce + rm'.cells ≤ rm.cells ∧ sl + rm'.slots ≤ rm.slots) (k : ∀ (r : Int32) (S' : mS) (L' : mL) (R' : mR), post r S' L' R' → Z X nL ad dm S' L' R' (ce + rm'.cells) (sl + rm'.slots) (pc + 3) lv (.int r :: rest)) : Z X nL ad dm S L R ce sl pc lv st := by
  subst hst
  obtain ⟨p, l, e, Rm, s, m, args, below, meth, c, Q, G, A⟩ := X
  intro H locs ls h1 h2 h3
  have hts := C.2.2.2.2.1
  have hK := C.2.2.2.2.2.2.1
  have hAll := C.2.2.2.2.2.2.2.1
  have hCF := C.2.2.2.2.2.2.2.2
  have hRm : Rm = rm := C.2.2.2.2.2.1
  subst hRm
  have hF : ∀ q, mFr ad dm H.size q → A q := fun q hq => by
    rcases hq with ⟨k', i', hd', rfl⟩ | hq
    · exact h1.2.1 k' i' hd'
    · exact hAll q (Nat.le_trans h2.1 hq)
  refine va_calli (va_runV (As := As) (rest := rest) ⟨C.1, C.2.1, C.2.2.1, C.2.2.2.1, hts⟩ (hM H.size) (cwV n hts f.gi rfl rfl rfl ⟨rfl, f.2.2.2.2.2⟩ hr) ⟨mblind, (by rw [hc.2]; exact mrecv hK (h1.2.2 kd i hd) hs hc.1), fun U hU hW => ⟨rfl, by rw [hU], ⟨by rw [hU]; exact h1.re (fun _ _ _ => trivial), va_K.moved hW.alike hK⟩, hCF.go hW (by rw [hU]; exact h2.2.1) hF⟩⟩ rfl hn h3.1 rfl (lv_room hcat) d hz) h2 (fun q _ h => hF q h) hF (fun r u t H1 locs1 ht hvm hw hB hz1 hk1 hS => k r u.1 u.2.1 u.2.2 hw H1 locs1 ls (by have := hB.1; rw [ht] at this; exact this.re h1.2.1) hS h3)
theorem z_cVi0 (C : mK X own cc nL rm) (pc : Nat) {ix ny n : Nat} {kd i ci : Nat} {y : MethodName} {cy : ByteArray} {rt : FieldType} {rm' : Room} {As : List Value} {post : Int32 → mS → mL → mR → Prop} (d : decode cc pc = .ok (.invokevirtual ix, 3)) (f : mCv own ix y cy ny (some rt) n) (hM : Ki X.2.1 y cy ny rt rm' X.2.2.2.2.2.2.2.2.2.2.2.1 ad dm (.ref (ad kd i) :: As) S L R post) (hs : msh kd = .inr ci) (hc : ci < 10 ∧ y.cls = mCR ci) (hd : dm kd i) (hst : As.reverse ++ .ref (ad kd i) :: rest = st) (hn : As.length = n) (hcat : (rest.map fun v => v.category).sum ≤ 8) (hr : rm'.frames + 1 ≤ rm.frames ∧ 8 + (ny + 11) + rm'.locals ≤ rm.locals) (h0 : rm'.cells = 0 ∧ rm'.slots = 0) (hz : ce ≤ rm.cells ∧ sl ≤ rm.slots) (k : ∀ (r : Int32) (S' : mS) (L' : mL) (R' : mR), post r S' L' R' → Z X nL ad dm S' L' R' ce sl (pc + 3) lv (.int r :: rest)) : Z X nL ad dm S L R ce sl pc lv st :=
  z_cVi C pc d f hM hs hc hd hst hn hcat hr (by rw [h0.1, h0.2]; exact hz) (fun r S' L' R' hp => by rw [h0.1, h0.2]; exact k r S' L' R' hp)
theorem z_cVl (C : mK X own cc nL rm) (pc : Nat) {ix ny n : Nat} {kd i ci : Nat} {y : MethodName} {cy : ByteArray}  {rm' : Room} {As : List Value} {post : Int64 → mS → mL → mR → Prop} (d : decode cc pc = .ok (.invokevirtual ix, 3)) (f : mCv own ix y cy ny (some .long) n) (hM : Kl X.2.1 y cy ny rm' X.2.2.2.2.2.2.2.2.2.2.2.1 ad dm (.ref (ad kd i) :: As) S L R post) (hs : msh kd = .inr ci) (hc : ci < 10 ∧ y.cls = mCR ci) (hd : dm kd i) (hst : As.reverse ++ .ref (ad kd i) :: rest = st) (hn : As.length = n) (hcat : (rest.map fun v => v.category).sum ≤ 8) (hr : rm'.frames + 1 ≤ rm.frames ∧ 8 + (ny + 11) + rm'.locals ≤ rm.locals) (hz : ce + rm'.cells ≤ rm.cells ∧ sl + rm'.slots ≤ rm.slots) (k : ∀ (r : Int64) (S' : mS) (L' : mL) (R' : mR), post r S' L' R' → Z X nL ad dm S' L' R' (ce + rm'.cells) (sl + rm'.slots) (pc + 3) lv (.long r :: rest)) : Z X nL ad dm S L R ce sl pc lv st := by
  subst hst
  obtain ⟨p, l, e, Rm, s, m, args, below, meth, c, Q, G, A⟩ := X
  intro H locs ls h1 h2 h3
  have hts := C.2.2.2.2.1
  have hK := C.2.2.2.2.2.2.1
  have hAll := C.2.2.2.2.2.2.2.1
  have hCF := C.2.2.2.2.2.2.2.2
  have hRm : Rm = rm := C.2.2.2.2.2.1
  subst hRm
  have hF : ∀ q, mFr ad dm H.size q → A q := fun q hq => by
    rcases hq with ⟨k', i', hd', rfl⟩ | hq
    · exact h1.2.1 k' i' hd'
    · exact hAll q (Nat.le_trans h2.1 hq)
  refine va_calll (va_runV (As := As) (rest := rest) ⟨C.1, C.2.1, C.2.2.1, C.2.2.2.1, hts⟩ (hM H.size) (cwV n hts f.gi rfl rfl rfl ⟨rfl, f.2.2.2.2.2⟩ hr) ⟨mblind, (by rw [hc.2]; exact mrecv hK (h1.2.2 kd i hd) hs hc.1), fun U hU hW => ⟨rfl, by rw [hU], ⟨by rw [hU]; exact h1.re (fun _ _ _ => trivial), va_K.moved hW.alike hK⟩, hCF.go hW (by rw [hU]; exact h2.2.1) hF⟩⟩ rfl hn h3.1 rfl (lv_room hcat) d hz) h2 (fun q _ h => hF q h) hF (fun r u t H1 locs1 ht hvm hw hB hz1 hk1 hS => k r u.1 u.2.1 u.2.2 hw H1 locs1 ls (by have := hB.1; rw [ht] at this; exact this.re h1.2.1) hS h3)
theorem z_cVl0 (C : mK X own cc nL rm) (pc : Nat) {ix ny n : Nat} {kd i ci : Nat} {y : MethodName} {cy : ByteArray}  {rm' : Room} {As : List Value} {post : Int64 → mS → mL → mR → Prop} (d : decode cc pc = .ok (.invokevirtual ix, 3)) (f : mCv own ix y cy ny (some .long) n) (hM : Kl X.2.1 y cy ny rm' X.2.2.2.2.2.2.2.2.2.2.2.1 ad dm (.ref (ad kd i) :: As) S L R post) (hs : msh kd = .inr ci) (hc : ci < 10 ∧ y.cls = mCR ci) (hd : dm kd i) (hst : As.reverse ++ .ref (ad kd i) :: rest = st) (hn : As.length = n) (hcat : (rest.map fun v => v.category).sum ≤ 8) (hr : rm'.frames + 1 ≤ rm.frames ∧ 8 + (ny + 11) + rm'.locals ≤ rm.locals) (h0 : rm'.cells = 0 ∧ rm'.slots = 0) (hz : ce ≤ rm.cells ∧ sl ≤ rm.slots) (k : ∀ (r : Int64) (S' : mS) (L' : mL) (R' : mR), post r S' L' R' → Z X nL ad dm S' L' R' ce sl (pc + 3) lv (.long r :: rest)) : Z X nL ad dm S L R ce sl pc lv st :=
  z_cVl C pc d f hM hs hc hd hst hn hcat hr (by rw [h0.1, h0.2]; exact hz) (fun r S' L' R' hp => by rw [h0.1, h0.2]; exact k r S' L' R' hp)
theorem z_cVv (C : mK X own cc nL rm) (pc : Nat) {ix ny n : Nat} {kd i ci : Nat} {y : MethodName} {cy : ByteArray}  {rm' : Room} {As : List Value} {post : mS → mL → mR → Prop} (d : decode cc pc = .ok (.invokevirtual ix, 3)) (f : mCv own ix y cy ny none n) (hM : Kv X.2.1 y cy ny rm' X.2.2.2.2.2.2.2.2.2.2.2.1 ad dm (.ref (ad kd i) :: As) S L R post) (hs : msh kd = .inr ci) (hc : ci < 10 ∧ y.cls = mCR ci) (hd : dm kd i) (hst : As.reverse ++ .ref (ad kd i) :: rest = st) (hn : As.length = n) (hcat : (rest.map fun v => v.category).sum ≤ 8) (hr : rm'.frames + 1 ≤ rm.frames ∧ 8 + (ny + 11) + rm'.locals ≤ rm.locals) (hz : ce + rm'.cells ≤ rm.cells ∧ sl + rm'.slots ≤ rm.slots) (k : ∀ (S' : mS) (L' : mL) (R' : mR), post S' L' R' → Z X nL ad dm S' L' R' (ce + rm'.cells) (sl + rm'.slots) (pc + 3) lv (rest)) : Z X nL ad dm S L R ce sl pc lv st := by
  subst hst
  obtain ⟨p, l, e, Rm, s, m, args, below, meth, c, Q, G, A⟩ := X
  intro H locs ls h1 h2 h3
  have hts := C.2.2.2.2.1
  have hK := C.2.2.2.2.2.2.1
  have hAll := C.2.2.2.2.2.2.2.1
  have hCF := C.2.2.2.2.2.2.2.2
  have hRm : Rm = rm := C.2.2.2.2.2.1
  subst hRm
  have hF : ∀ q, mFr ad dm H.size q → A q := fun q hq => by
    rcases hq with ⟨k', i', hd', rfl⟩ | hq
    · exact h1.2.1 k' i' hd'
    · exact hAll q (Nat.le_trans h2.1 hq)
  refine va_callv (va_runV (As := As) (rest := rest) ⟨C.1, C.2.1, C.2.2.1, C.2.2.2.1, hts⟩ (hM H.size) (cwV n hts f.gi rfl rfl rfl ⟨rfl, f.2.2.2.2.2⟩ hr) ⟨mblind, (by rw [hc.2]; exact mrecv hK (h1.2.2 kd i hd) hs hc.1), fun U hU hW => ⟨rfl, by rw [hU], ⟨by rw [hU]; exact h1.re (fun _ _ _ => trivial), va_K.moved hW.alike hK⟩, hCF.go hW (by rw [hU]; exact h2.2.1) hF⟩⟩ rfl hn h3.1 rfl (lv_room hcat) d hz) h2 (fun q _ h => hF q h) hF (fun u t H1 locs1 ht hvm hw hB hz1 hk1 hS => k u.1 u.2.1 u.2.2 hw H1 locs1 ls (by have := hB.1; rw [ht] at this; exact this.re h1.2.1) hS h3)
theorem z_cVv0 (C : mK X own cc nL rm) (pc : Nat) {ix ny n : Nat} {kd i ci : Nat} {y : MethodName} {cy : ByteArray}  {rm' : Room} {As : List Value} {post : mS → mL → mR → Prop} (d : decode cc pc = .ok (.invokevirtual ix, 3)) (f : mCv own ix y cy ny none n) (hM : Kv X.2.1 y cy ny rm' X.2.2.2.2.2.2.2.2.2.2.2.1 ad dm (.ref (ad kd i) :: As) S L R post) (hs : msh kd = .inr ci) (hc : ci < 10 ∧ y.cls = mCR ci) (hd : dm kd i) (hst : As.reverse ++ .ref (ad kd i) :: rest = st) (hn : As.length = n) (hcat : (rest.map fun v => v.category).sum ≤ 8) (hr : rm'.frames + 1 ≤ rm.frames ∧ 8 + (ny + 11) + rm'.locals ≤ rm.locals) (h0 : rm'.cells = 0 ∧ rm'.slots = 0) (hz : ce ≤ rm.cells ∧ sl ≤ rm.slots) (k : ∀ (S' : mS) (L' : mL) (R' : mR), post S' L' R' → Z X nL ad dm S' L' R' ce sl (pc + 3) lv (rest)) : Z X nL ad dm S L R ce sl pc lv st :=
  z_cVv C pc d f hM hs hc hd hst hn hcat hr (by rw [h0.1, h0.2]; exact hz) (fun S' L' R' hp => by rw [h0.1, h0.2]; exact k S' L' R' hp)
theorem z_cVr (C : mK X own cc nL rm) (pc : Nat) {ix ny n : Nat} {kd i ci : Nat} {y : MethodName} {cy : ByteArray} {rt : FieldType} {rm' : Room} {As : List Value} {post : Nat × Nat → mS → mL → mR → Prop} (d : decode cc pc = .ok (.invokevirtual ix, 3)) (f : mCv own ix y cy ny (some rt) n) (hM : Kr X.2.1 y cy ny rt rm' X.2.2.2.2.2.2.2.2.2.2.2.1 ad dm (.ref (ad kd i) :: As) S L R post) (hs : msh kd = .inr ci) (hc : ci < 10 ∧ y.cls = mCR ci) (hd : dm kd i) (hst : As.reverse ++ .ref (ad kd i) :: rest = st) (hn : As.length = n) (hcat : (rest.map fun v => v.category).sum ≤ 8) (hr : rm'.frames + 1 ≤ rm.frames ∧ 8 + (ny + 11) + rm'.locals ≤ rm.locals) (hz : ce + rm'.cells ≤ rm.cells ∧ sl + rm'.slots ≤ rm.slots) (k : ∀ (k i : Nat) (S' : mS) (L' : mL) (R' : mR), post (k, i) S' L' R' → Z X nL ad dm S' L' R' (ce + rm'.cells) (sl + rm'.slots) (pc + 3) lv (.ref (ad k i) :: rest)) : Z X nL ad dm S L R ce sl pc lv st := by
  subst hst
  obtain ⟨p, l, e, Rm, s, m, args, below, meth, c, Q, G, A⟩ := X
  intro H locs ls h1 h2 h3
  have hts := C.2.2.2.2.1
  have hK := C.2.2.2.2.2.2.1
  have hAll := C.2.2.2.2.2.2.2.1
  have hCF := C.2.2.2.2.2.2.2.2
  have hRm : Rm = rm := C.2.2.2.2.2.1
  subst hRm
  have hF : ∀ q, mFr ad dm H.size q → A q := fun q hq => by
    rcases hq with ⟨k', i', hd', rfl⟩ | hq
    · exact h1.2.1 k' i' hd'
    · exact hAll q (Nat.le_trans h2.1 hq)
  refine va_callr (va_runV (As := As) (rest := rest) ⟨C.1, C.2.1, C.2.2.1, C.2.2.2.1, hts⟩ (hM H.size) (cwV n hts f.gi rfl rfl rfl ⟨rfl, f.2.2.2.2.2⟩ hr) ⟨mblind, (by rw [hc.2]; exact mrecv hK (h1.2.2 kd i hd) hs hc.1), fun U hU hW => ⟨rfl, by rw [hU], ⟨by rw [hU]; exact h1.re (fun _ _ _ => trivial), va_K.moved hW.alike hK⟩, hCF.go hW (by rw [hU]; exact h2.2.1) hF⟩⟩ rfl hn h3.1 rfl (lv_room hcat) d hz) h2 (fun q _ h => hF q h) hF (fun u ra t H1 locs1 ht hvm hw hB hz1 hk1 hS => by
    obtain ⟨rfl, hB⟩ := hB
    exact k u.1.1 u.1.2 u.2.1 u.2.2.1 u.2.2.2 hw H1 locs1 ls (by have := hB.1; rw [ht] at this; exact this.re h1.2.1) hS h3)
theorem z_cVr0 (C : mK X own cc nL rm) (pc : Nat) {ix ny n : Nat} {kd i ci : Nat} {y : MethodName} {cy : ByteArray} {rt : FieldType} {rm' : Room} {As : List Value} {post : Nat × Nat → mS → mL → mR → Prop} (d : decode cc pc = .ok (.invokevirtual ix, 3)) (f : mCv own ix y cy ny (some rt) n) (hM : Kr X.2.1 y cy ny rt rm' X.2.2.2.2.2.2.2.2.2.2.2.1 ad dm (.ref (ad kd i) :: As) S L R post) (hs : msh kd = .inr ci) (hc : ci < 10 ∧ y.cls = mCR ci) (hd : dm kd i) (hst : As.reverse ++ .ref (ad kd i) :: rest = st) (hn : As.length = n) (hcat : (rest.map fun v => v.category).sum ≤ 8) (hr : rm'.frames + 1 ≤ rm.frames ∧ 8 + (ny + 11) + rm'.locals ≤ rm.locals) (h0 : rm'.cells = 0 ∧ rm'.slots = 0) (hz : ce ≤ rm.cells ∧ sl ≤ rm.slots) (k : ∀ (k i : Nat) (S' : mS) (L' : mL) (R' : mR), post (k, i) S' L' R' → Z X nL ad dm S' L' R' ce sl (pc + 3) lv (.ref (ad k i) :: rest)) : Z X nL ad dm S L R ce sl pc lv st :=
  z_cVr C pc d f hM hs hc hd hst hn hcat hr (by rw [h0.1, h0.2]; exact hz) (fun k' i' S' L' R' hp => by rw [h0.1, h0.2]; exact k k' i' S' L' R' hp)
theorem z_cSi (C : mK X own cc nL rm) (pc : Nat) {ix ny n : Nat} {y : MethodName} {cy : ByteArray} {rt : FieldType} {rm' : Room} {As : List Value} {post : Int32 → mS → mL → mR → Prop} (d : decode cc pc = .ok (.invokestatic ix, 3)) (f : mCs own ix y cy ny (some rt) n) (hM : Ki X.2.1 y cy ny rt rm' X.2.2.2.2.2.2.2.2.2.2.2.1 ad dm (As) S L R post) (hst : As.reverse ++ rest = st) (hn : As.length = n) (hcat : (rest.map fun v => v.category).sum ≤ 8) (hr : rm'.frames + 1 ≤ rm.frames ∧ 8 + (ny + 11) + rm'.locals ≤ rm.locals) (hz : ce + rm'.cells ≤ rm.cells ∧ sl + rm'.slots ≤ rm.slots) (k : ∀ (r : Int32) (S' : mS) (L' : mL) (R' : mR), post r S' L' R' → Z X nL ad dm S' L' R' (ce + rm'.cells) (sl + rm'.slots) (pc + 3) lv (.int r :: rest)) : Z X nL ad dm S L R ce sl pc lv st := by
  subst hst
  obtain ⟨p, l, e, Rm, s, m, args, below, meth, c, Q, G, A⟩ := X
  intro H locs ls h1 h2 h3
  have hts := C.2.2.2.2.1
  have hK := C.2.2.2.2.2.2.1
  have hAll := C.2.2.2.2.2.2.2.1
  have hCF := C.2.2.2.2.2.2.2.2
  have hRm : Rm = rm := C.2.2.2.2.2.1
  subst hRm
  have hF : ∀ q, mFr ad dm H.size q → A q := fun q hq => by
    rcases hq with ⟨k', i', hd', rfl⟩ | hq
    · exact h1.2.1 k' i' hd'
    · exact hAll q (Nat.le_trans h2.1 hq)
  refine va_calli (va_runS (As := As) (rest := rest) ⟨C.1, C.2.1, C.2.2.1, C.2.2.2.1, hts⟩ (hM H.size) (cwS n hts f.gi rfl rfl rfl f.2.2.2.2 hr) ⟨mblind, fun U hU hW => ⟨rfl, by rw [hU], ⟨by rw [hU]; exact h1.re (fun _ _ _ => trivial), va_K.moved hW.alike hK⟩, hCF.go hW (by rw [hU]; exact h2.2.1) hF⟩⟩ rfl hn h3.1 rfl (lv_room hcat) d hz) h2 (fun q _ h => hF q h) hF (fun r u t H1 locs1 ht hvm hw hB hz1 hk1 hS => k r u.1 u.2.1 u.2.2 hw H1 locs1 ls (by have := hB.1; rw [ht] at this; exact this.re h1.2.1) hS h3)
theorem z_cSi0 (C : mK X own cc nL rm) (pc : Nat) {ix ny n : Nat} {y : MethodName} {cy : ByteArray} {rt : FieldType} {rm' : Room} {As : List Value} {post : Int32 → mS → mL → mR → Prop} (d : decode cc pc = .ok (.invokestatic ix, 3)) (f : mCs own ix y cy ny (some rt) n) (hM : Ki X.2.1 y cy ny rt rm' X.2.2.2.2.2.2.2.2.2.2.2.1 ad dm (As) S L R post) (hst : As.reverse ++ rest = st) (hn : As.length = n) (hcat : (rest.map fun v => v.category).sum ≤ 8) (hr : rm'.frames + 1 ≤ rm.frames ∧ 8 + (ny + 11) + rm'.locals ≤ rm.locals) (h0 : rm'.cells = 0 ∧ rm'.slots = 0) (hz : ce ≤ rm.cells ∧ sl ≤ rm.slots) (k : ∀ (r : Int32) (S' : mS) (L' : mL) (R' : mR), post r S' L' R' → Z X nL ad dm S' L' R' ce sl (pc + 3) lv (.int r :: rest)) : Z X nL ad dm S L R ce sl pc lv st :=
  z_cSi C pc d f hM hst hn hcat hr (by rw [h0.1, h0.2]; exact hz) (fun r S' L' R' hp => by rw [h0.1, h0.2]; exact k r S' L' R' hp)
theorem z_cSl (C : mK X own cc nL rm) (pc : Nat) {ix ny n : Nat} {y : MethodName} {cy : ByteArray}  {rm' : Room} {As : List Value} {post : Int64 → mS → mL → mR → Prop} (d : decode cc pc = .ok (.invokestatic ix, 3)) (f : mCs own ix y cy ny (some .long) n) (hM : Kl X.2.1 y cy ny rm' X.2.2.2.2.2.2.2.2.2.2.2.1 ad dm (As) S L R post) (hst : As.reverse ++ rest = st) (hn : As.length = n) (hcat : (rest.map fun v => v.category).sum ≤ 8) (hr : rm'.frames + 1 ≤ rm.frames ∧ 8 + (ny + 11) + rm'.locals ≤ rm.locals) (hz : ce + rm'.cells ≤ rm.cells ∧ sl + rm'.slots ≤ rm.slots) (k : ∀ (r : Int64) (S' : mS) (L' : mL) (R' : mR), post r S' L' R' → Z X nL ad dm S' L' R' (ce + rm'.cells) (sl + rm'.slots) (pc + 3) lv (.long r :: rest)) : Z X nL ad dm S L R ce sl pc lv st := by
  subst hst
  obtain ⟨p, l, e, Rm, s, m, args, below, meth, c, Q, G, A⟩ := X
  intro H locs ls h1 h2 h3
  have hts := C.2.2.2.2.1
  have hK := C.2.2.2.2.2.2.1
  have hAll := C.2.2.2.2.2.2.2.1
  have hCF := C.2.2.2.2.2.2.2.2
  have hRm : Rm = rm := C.2.2.2.2.2.1
  subst hRm
  have hF : ∀ q, mFr ad dm H.size q → A q := fun q hq => by
    rcases hq with ⟨k', i', hd', rfl⟩ | hq
    · exact h1.2.1 k' i' hd'
    · exact hAll q (Nat.le_trans h2.1 hq)
  refine va_calll (va_runS (As := As) (rest := rest) ⟨C.1, C.2.1, C.2.2.1, C.2.2.2.1, hts⟩ (hM H.size) (cwS n hts f.gi rfl rfl rfl f.2.2.2.2 hr) ⟨mblind, fun U hU hW => ⟨rfl, by rw [hU], ⟨by rw [hU]; exact h1.re (fun _ _ _ => trivial), va_K.moved hW.alike hK⟩, hCF.go hW (by rw [hU]; exact h2.2.1) hF⟩⟩ rfl hn h3.1 rfl (lv_room hcat) d hz) h2 (fun q _ h => hF q h) hF (fun r u t H1 locs1 ht hvm hw hB hz1 hk1 hS => k r u.1 u.2.1 u.2.2 hw H1 locs1 ls (by have := hB.1; rw [ht] at this; exact this.re h1.2.1) hS h3)
theorem z_cSl0 (C : mK X own cc nL rm) (pc : Nat) {ix ny n : Nat} {y : MethodName} {cy : ByteArray}  {rm' : Room} {As : List Value} {post : Int64 → mS → mL → mR → Prop} (d : decode cc pc = .ok (.invokestatic ix, 3)) (f : mCs own ix y cy ny (some .long) n) (hM : Kl X.2.1 y cy ny rm' X.2.2.2.2.2.2.2.2.2.2.2.1 ad dm (As) S L R post) (hst : As.reverse ++ rest = st) (hn : As.length = n) (hcat : (rest.map fun v => v.category).sum ≤ 8) (hr : rm'.frames + 1 ≤ rm.frames ∧ 8 + (ny + 11) + rm'.locals ≤ rm.locals) (h0 : rm'.cells = 0 ∧ rm'.slots = 0) (hz : ce ≤ rm.cells ∧ sl ≤ rm.slots) (k : ∀ (r : Int64) (S' : mS) (L' : mL) (R' : mR), post r S' L' R' → Z X nL ad dm S' L' R' ce sl (pc + 3) lv (.long r :: rest)) : Z X nL ad dm S L R ce sl pc lv st :=
  z_cSl C pc d f hM hst hn hcat hr (by rw [h0.1, h0.2]; exact hz) (fun r S' L' R' hp => by rw [h0.1, h0.2]; exact k r S' L' R' hp)
theorem z_cSv (C : mK X own cc nL rm) (pc : Nat) {ix ny n : Nat} {y : MethodName} {cy : ByteArray}  {rm' : Room} {As : List Value} {post : mS → mL → mR → Prop} (d : decode cc pc = .ok (.invokestatic ix, 3)) (f : mCs own ix y cy ny none n) (hM : Kv X.2.1 y cy ny rm' X.2.2.2.2.2.2.2.2.2.2.2.1 ad dm (As) S L R post) (hst : As.reverse ++ rest = st) (hn : As.length = n) (hcat : (rest.map fun v => v.category).sum ≤ 8) (hr : rm'.frames + 1 ≤ rm.frames ∧ 8 + (ny + 11) + rm'.locals ≤ rm.locals) (hz : ce + rm'.cells ≤ rm.cells ∧ sl + rm'.slots ≤ rm.slots) (k : ∀ (S' : mS) (L' : mL) (R' : mR), post S' L' R' → Z X nL ad dm S' L' R' (ce + rm'.cells) (sl + rm'.slots) (pc + 3) lv (rest)) : Z X nL ad dm S L R ce sl pc lv st := by
  subst hst
  obtain ⟨p, l, e, Rm, s, m, args, below, meth, c, Q, G, A⟩ := X
  intro H locs ls h1 h2 h3
  have hts := C.2.2.2.2.1
  have hK := C.2.2.2.2.2.2.1
  have hAll := C.2.2.2.2.2.2.2.1
  have hCF := C.2.2.2.2.2.2.2.2
  have hRm : Rm = rm := C.2.2.2.2.2.1
  subst hRm
  have hF : ∀ q, mFr ad dm H.size q → A q := fun q hq => by
    rcases hq with ⟨k', i', hd', rfl⟩ | hq
    · exact h1.2.1 k' i' hd'
    · exact hAll q (Nat.le_trans h2.1 hq)
  refine va_callv (va_runS (As := As) (rest := rest) ⟨C.1, C.2.1, C.2.2.1, C.2.2.2.1, hts⟩ (hM H.size) (cwS n hts f.gi rfl rfl rfl f.2.2.2.2 hr) ⟨mblind, fun U hU hW => ⟨rfl, by rw [hU], ⟨by rw [hU]; exact h1.re (fun _ _ _ => trivial), va_K.moved hW.alike hK⟩, hCF.go hW (by rw [hU]; exact h2.2.1) hF⟩⟩ rfl hn h3.1 rfl (lv_room hcat) d hz) h2 (fun q _ h => hF q h) hF (fun u t H1 locs1 ht hvm hw hB hz1 hk1 hS => k u.1 u.2.1 u.2.2 hw H1 locs1 ls (by have := hB.1; rw [ht] at this; exact this.re h1.2.1) hS h3)
theorem z_cSv0 (C : mK X own cc nL rm) (pc : Nat) {ix ny n : Nat} {y : MethodName} {cy : ByteArray}  {rm' : Room} {As : List Value} {post : mS → mL → mR → Prop} (d : decode cc pc = .ok (.invokestatic ix, 3)) (f : mCs own ix y cy ny none n) (hM : Kv X.2.1 y cy ny rm' X.2.2.2.2.2.2.2.2.2.2.2.1 ad dm (As) S L R post) (hst : As.reverse ++ rest = st) (hn : As.length = n) (hcat : (rest.map fun v => v.category).sum ≤ 8) (hr : rm'.frames + 1 ≤ rm.frames ∧ 8 + (ny + 11) + rm'.locals ≤ rm.locals) (h0 : rm'.cells = 0 ∧ rm'.slots = 0) (hz : ce ≤ rm.cells ∧ sl ≤ rm.slots) (k : ∀ (S' : mS) (L' : mL) (R' : mR), post S' L' R' → Z X nL ad dm S' L' R' ce sl (pc + 3) lv (rest)) : Z X nL ad dm S L R ce sl pc lv st :=
  z_cSv C pc d f hM hst hn hcat hr (by rw [h0.1, h0.2]; exact hz) (fun S' L' R' hp => by rw [h0.1, h0.2]; exact k S' L' R' hp)
theorem z_cSr (C : mK X own cc nL rm) (pc : Nat) {ix ny n : Nat} {y : MethodName} {cy : ByteArray} {rt : FieldType} {rm' : Room} {As : List Value} {post : Nat × Nat → mS → mL → mR → Prop} (d : decode cc pc = .ok (.invokestatic ix, 3)) (f : mCs own ix y cy ny (some rt) n) (hM : Kr X.2.1 y cy ny rt rm' X.2.2.2.2.2.2.2.2.2.2.2.1 ad dm (As) S L R post) (hst : As.reverse ++ rest = st) (hn : As.length = n) (hcat : (rest.map fun v => v.category).sum ≤ 8) (hr : rm'.frames + 1 ≤ rm.frames ∧ 8 + (ny + 11) + rm'.locals ≤ rm.locals) (hz : ce + rm'.cells ≤ rm.cells ∧ sl + rm'.slots ≤ rm.slots) (k : ∀ (k i : Nat) (S' : mS) (L' : mL) (R' : mR), post (k, i) S' L' R' → Z X nL ad dm S' L' R' (ce + rm'.cells) (sl + rm'.slots) (pc + 3) lv (.ref (ad k i) :: rest)) : Z X nL ad dm S L R ce sl pc lv st := by
  subst hst
  obtain ⟨p, l, e, Rm, s, m, args, below, meth, c, Q, G, A⟩ := X
  intro H locs ls h1 h2 h3
  have hts := C.2.2.2.2.1
  have hK := C.2.2.2.2.2.2.1
  have hAll := C.2.2.2.2.2.2.2.1
  have hCF := C.2.2.2.2.2.2.2.2
  have hRm : Rm = rm := C.2.2.2.2.2.1
  subst hRm
  have hF : ∀ q, mFr ad dm H.size q → A q := fun q hq => by
    rcases hq with ⟨k', i', hd', rfl⟩ | hq
    · exact h1.2.1 k' i' hd'
    · exact hAll q (Nat.le_trans h2.1 hq)
  refine va_callr (va_runS (As := As) (rest := rest) ⟨C.1, C.2.1, C.2.2.1, C.2.2.2.1, hts⟩ (hM H.size) (cwS n hts f.gi rfl rfl rfl f.2.2.2.2 hr) ⟨mblind, fun U hU hW => ⟨rfl, by rw [hU], ⟨by rw [hU]; exact h1.re (fun _ _ _ => trivial), va_K.moved hW.alike hK⟩, hCF.go hW (by rw [hU]; exact h2.2.1) hF⟩⟩ rfl hn h3.1 rfl (lv_room hcat) d hz) h2 (fun q _ h => hF q h) hF (fun u ra t H1 locs1 ht hvm hw hB hz1 hk1 hS => by
    obtain ⟨rfl, hB⟩ := hB
    exact k u.1.1 u.1.2 u.2.1 u.2.2.1 u.2.2.2 hw H1 locs1 ls (by have := hB.1; rw [ht] at this; exact this.re h1.2.1) hS h3)
theorem z_cSr0 (C : mK X own cc nL rm) (pc : Nat) {ix ny n : Nat} {y : MethodName} {cy : ByteArray} {rt : FieldType} {rm' : Room} {As : List Value} {post : Nat × Nat → mS → mL → mR → Prop} (d : decode cc pc = .ok (.invokestatic ix, 3)) (f : mCs own ix y cy ny (some rt) n) (hM : Kr X.2.1 y cy ny rt rm' X.2.2.2.2.2.2.2.2.2.2.2.1 ad dm (As) S L R post) (hst : As.reverse ++ rest = st) (hn : As.length = n) (hcat : (rest.map fun v => v.category).sum ≤ 8) (hr : rm'.frames + 1 ≤ rm.frames ∧ 8 + (ny + 11) + rm'.locals ≤ rm.locals) (h0 : rm'.cells = 0 ∧ rm'.slots = 0) (hz : ce ≤ rm.cells ∧ sl ≤ rm.slots) (k : ∀ (k i : Nat) (S' : mS) (L' : mL) (R' : mR), post (k, i) S' L' R' → Z X nL ad dm S' L' R' ce sl (pc + 3) lv (.ref (ad k i) :: rest)) : Z X nL ad dm S L R ce sl pc lv st :=
  z_cSr C pc d f hM hst hn hcat hr (by rw [h0.1, h0.2]; exact hz) (fun k' i' S' L' R' hp => by rw [h0.1, h0.2]; exact k k' i' S' L' R' hp)
end ZC
