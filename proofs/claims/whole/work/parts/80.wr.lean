/-! THE LAW'S OWN METHODS, that call and catch; the script -/
def Kw (l : Launch) (y : MethodName) (cy : ByteArray) (ny : Nat) (hh : List (Nat × Nat × Nat × Nat)) (rm : Room) (G : mG) (ad : mA) (dm : mD) (args : List Value) (S : mS) (L : mL) (R : mR) (post : Int32 → mS → mL → mR → Prop) : Prop :=
  ∀ sz : Nat, Met l y (Cond.codeWith y cy ny (some .int) hh :: mlw) rm (va_Pc args (fun U => U.heap.size = sz ∧ mW G ad dm (S, L, R) U ∧ CF G (mFr ad dm sz) U U.heap)) (va_Qi (fun r (u : mS × mL × mR) => post r u.1 u.2.1 u.2.2) (mW G ad dm) (mFr ad dm sz)) rm.cells rm.slots (mFr ad dm sz)
theorem Kw.of {l : Launch} {y : MethodName} {cy : ByteArray} {ny : Nat} {hh : List (Nat × Nat × Nat × Nat)} {rm : Room} {G : mG} {ad : mA} {dm : mD} {args : List Value} {S : mS} {L : mL} {R : mR} {post : Int32 → mS → mL → mR → Prop} (own : String) (hy : plainName y.cls = true) (ho : y.cls = own) (hlen : (lg_sl args).length ≤ ny)
    (body : ∀ X : mX, X.2.1 = l → X.2.2.2.2.2.2.2.2.2.2.2.1 = G → mK X own cy ny rm → X.2.2.2.2.2.2.2.2.2.1.exceptionTable.toList = tableOf hh → (∀ (pc : Nat) (v : Int32) (lv : List (Nat × Value)) (S' : mS) (L' : mL) (R' : mR), decode cy pc = .ok (.ireturn, 1) → post v S' L' R' → Z X ny ad dm S' L' R' rm.cells rm.slots pc lv [.int v]) → Z X ny ad dm S L R 0 0 0 (lv_args 0 args) []) : Kw l y cy ny hh rm G ad dm args S L R post := by
  intro sz
  subst ho
  refine va_MetW (cc := cy) (maxL := ny) (ret := some .int) (hh := hh) hy rfl ?_
  intro p e s m args' below meth c s₁ B hml hv
  obtain ⟨rfl, hsz, ⟨hH, hK⟩, hCF⟩ := hv
  subst hsz
  have hts := atoms_spec (ws := Cond.codeWith y cy ny (some .int) hh :: mlw) B.pre
  have hown : s.vm.findClass y.cls = some m.cls := findClass_of_methodNamed B.named
  have hlocks := B.notSynchronized
  have hx := B.exec
  have hb := B.bytes
  have hr := B.returns
  have htab : c.exceptionTable.toList = tableOf hh := vx_table (x := y) B (hts _ List.mem_cons_self)
  have C : mK (p, l, e, (headSpec (Cond.codeWith y cy ny (some .int) hh :: mlw) rm).room, s, m, args.toArray, below, meth, c, MQ below (va_Qi (fun r (u : mS × mL × mR) => post r u.1 u.2.1 u.2.2) (mW G ad dm) (mFr ad dm s.heap.size)) args.toArray s rm.cells rm.slots (mFr ad dm s.heap.size), G, mFr ad dm s.heap.size) y.cls cy ny rm :=
    ⟨hx, hb, hml, hown, fun w hw => hts w (List.mem_cons_of_mem _ hw), rfl, hK, fun q hq => Or.inr hq, hCF⟩
  have Z0 := body _ rfl rfl C htab (fun pc v lv S' L' R' d hp H locs ls h1 h2 h3 => W.zret hx hb hr rfl (fun t ht hW => ⟨⟨v, (S', L', R'), rfl, hp, by rw [ht]; exact h1.re (fun _ _ _ => trivial), va_K.moved hW.alike hK⟩, h2.F ht⟩) h2.2.2 d hlocks)
  rw [lg_entry_eq]
  exact Z0 s.heap [] _ (hH.re (fun k i hd => Or.inl ⟨k, i, hd, rfl⟩)) va_S.rf (lv_entry args hlen)
/-- what the law's call of its own method y needs of the tables -/
def mCw (own : String) (ix : Nat) (y : MethodName) (cy : ByteArray) (ny : Nat) (hh : List (Nat × Nat × Nat × Nat)) (n : Nat) : Prop :=
  Cond.methodLink own ix y ∈ mlw ∧ Cond.static y ∈ mlw ∧ Cond.initialized y.cls ∈ mlw ∧ Cond.codeWith y cy ny (some .int) hh ∈ mlw ∧ (y.cls ≠ "java/lang/invoke/MethodHandle" ∧ y.cls ≠ "java/lang/invoke/VarHandle" ∧ (parseMethodDescriptor y.desc).map (fun d => d.parameters.length) = some n)
theorem mCw.gi {own : String} {ix : Nat} {y : MethodName} {cy : ByteArray} {ny : Nat} {hh : List (Nat × Nat × Nat × Nat)} {n : Nat} (h : mCw own ix y cy ny hh n) : GoodIn mlw (va_wsS own ix y (Cond.codeWith y cy ny (some .int) hh :: mlw)) := by
  intro w hw
  have : w ∈ mlw := by
    unfold va_wsS at hw
    rcases List.mem_append.mp hw with hw | hw
    · simp only [List.mem_cons, List.not_mem_nil, or_false] at hw
      rcases hw with rfl | rfl | rfl
      · exact h.1
      · exact h.2.1
      · exact h.2.2.1
    · rcases List.mem_cons.mp hw with rfl | hw
      · exact h.2.2.2.1
      · exact hw
  exact ⟨this, mlw_good this⟩
section ZW
variable {X : mX} {own : String} {cc : ByteArray} {nL : Nat} {rm : Room} {ad : mA} {dm : mD} {S : mS} {L : mL} {R : mR} {ce sl : Nat} {lv : List (Nat × Value)} {rest st : List Value}
/-- a call that throws what this method catches -/
theorem z_tc (C : mK X own cc nL rm) {hh : List (Nat × Nat × Nat × Nat)} (htab : X.2.2.2.2.2.2.2.2.2.1.exceptionTable.toList = tableOf hh) (pc : Nat) (pre : List ExceptionTableEntry) (x : ExceptionTableEntry) (suf : List ExceptionTableEntry) {ix ny n : Nat} {kd i ci : Nat} {y : MethodName} {cy : ByteArray} {ret : Option FieldType} {rm' : Room} {As : List Value} {E : String} {post : mS → mL → mR → Prop} (d : decode cc pc = .ok (.invokevirtual ix, 3)) (f : mCv own ix y cy ny ret n) (hM : Kt X.2.1 y cy ny ret rm' X.2.2.2.2.2.2.2.2.2.2.2.1 ad dm (.ref (ad kd i) :: As) S L R E post) (hs : msh kd = .inr ci) (hc : ci < 10 ∧ y.cls = mCR ci) (hd : dm kd i) (hst : As.reverse ++ .ref (ad kd i) :: rest = st) (hn : As.length = n) (hcat : (rest.map fun v => v.category).sum ≤ 8) (hr : rm'.frames + 1 ≤ rm.frames ∧ 8 + (ny + 11) + rm'.locals ≤ rm.locals) (hz : ce + rm'.cells ≤ rm.cells ∧ sl + rm'.slots ≤ rm.slots) (hsplit : tableOf hh = pre ++ x :: suf) (hpass : ∀ z ∈ pre, z.catchType ≠ 0 ∧ ∃ nm, Cond.classLink own z.catchType nm ∈ mlw ∧ nm ∈ cwE ∧ E ≠ nm) (hE : E ∈ cwE) (hx : covers x pc = true) (h0 : x.catchType ≠ 0) (hlink : Cond.classLink own x.catchType E ∈ mlw)
    (k : ∀ (S' : mS) (L' : mL) (R' : mR) (q : Nat), post S' L' R' → Z X nL ad dm S' L' R' (ce + rm'.cells) (sl + rm'.slots) x.handlerPc lv [.ref q]) : Z X nL ad dm S L R ce sl pc lv st := by
  subst hst
  obtain ⟨p, l, e, Rm, s, m, args, below, meth, c, Q, G, A⟩ := X
  intro H locs ls h1 h2 h3
  have hts := C.2.2.2.2.1
  have hK := C.2.2.2.2.2.2.1
  have hAll := C.2.2.2.2.2.2.2.1
  have hCF := C.2.2.2.2.2.2.2.2
  have hCW : CW s := hCF.2.2.2.2
  have hRm : Rm = rm := C.2.2.2.2.2.1
  subst hRm
  have hF : ∀ q, mFr ad dm H.size q → A q := fun q hq => by
    rcases hq with ⟨k', i', hd', rfl⟩ | hq
    · exact h1.2.1 k' i' hd'
    · exact hAll q (Nat.le_trans h2.1 hq)
  have hr := vx_runV (e := e) (below := below) (meth := meth) (As := As) (rest := rest) (g := F0 m pc ls (As.reverse ++ .ref (ad kd i) :: rest)) (H := H) (locs := locs) ⟨C.1, C.2.1, C.2.2.1, C.2.2.2.1, hts⟩ (hM H.size) (cwV n hts f.gi rfl rfl rfl ⟨rfl, f.2.2.2.2.2⟩ hr) ⟨mblind, (by rw [hc.2]; exact mrecv hK (h1.2.2 kd i hd) hs hc.1), fun U hU hW => ⟨rfl, by rw [hU], ⟨by rw [hU]; exact h1.re (fun _ _ _ => trivial), va_K.moved hW.alike hK⟩, hCF.go hW (by rw [hU]; exact h2.2.1) hF⟩⟩ rfl hn h3.1 rfl (lv_room hcat) d hz
  intro T hT X9
  rcases hr T hT X9 with ⟨v, st₀, t, T', L9, h0, X', hL, e1, e2, hQ9, st9⟩ | ⟨q, st₀, t, T', L9, E9, ce9, h0', X', hL, e1, e2, ⟨u, hu, ⟨rfl, hb⟩, hFF⟩, hce, hcv, hcl, st9⟩
  · exact hQ9.elim
  · obtain ⟨k1, k2, k3⟩ := vx_keep h0' e1 h2 (fun q _ h => hF q h) hF hL hFF
    obtain ⟨t2, a1, b1⟩ := vx_catch (H := T'.heap) (locs := locs ++ L9) (pc := pc) (ls := ls) (rest := rest) (q := q) C.2.2.2.1 pre x suf (htab.trans hsplit) (fun z hz => by
      obtain ⟨z0, nm, z1, z2, z3⟩ := hpass z hz
      exact Or.inr ⟨z0, nm, hts _ z1, hCW.2.2.1 _ hE _ z2 z3⟩) hx h0 (hts _ hlink) (va_Nw.use rfl (hCW.2.1 _ hE)) (by rw [e1]; exact hce) hcv hcl (k _ _ _ q hu T'.heap (locs ++ L9) ls (by rw [e1]; exact hb.1.re h1.2.1) k3 h3) T' rfl X'
    exact ⟨t2, st9.trans a1, b1⟩
/-- the law's call of one of its own methods -/
theorem z_cW (C : mK X own cc nL rm) (pc : Nat) {ix ny n : Nat} {y : MethodName} {cy : ByteArray} {hh : List (Nat × Nat × Nat × Nat)} {rm' : Room} {As : List Value} {post : Int32 → mS → mL → mR → Prop} (d : decode cc pc = .ok (.invokestatic ix, 3)) (f : mCw own ix y cy ny hh n) (hM : Kw X.2.1 y cy ny hh rm' X.2.2.2.2.2.2.2.2.2.2.2.1 ad dm As S L R post) (hst : As.reverse ++ rest = st) (hn : As.length = n) (hcat : (rest.map fun v => v.category).sum ≤ 8) (hr : rm'.frames + 1 ≤ rm.frames ∧ 8 + (ny + 11) + rm'.locals ≤ rm.locals) (hz : ce + rm'.cells ≤ rm.cells ∧ sl + rm'.slots ≤ rm.slots) (k : ∀ (r : Int32) (S' : mS) (L' : mL) (R' : mR), post r S' L' R' → Z X nL ad dm S' L' R' (ce + rm'.cells) (sl + rm'.slots) (pc + 3) lv (.int r :: rest)) : Z X nL ad dm S L R ce sl pc lv st := by
  subst hst
  obtain ⟨p, l, e, Rm, s, m, args, below, meth, c, Q, G, A⟩ := X
  intro H locs ls h1 h2 h3
  have hts := C.2.2.2.2.1
  have hK := C.2.2.2.2.2.2.1
  have hAll := C.2.2.2.2.2.2.2.1
  have hCF := C.2.2.2.2.2.2.2.2
  have hRm : Rm = rm := C.2.2.2.2.2.1
  subst hRm
  have hF : ∀ q, mFr ad dm H.size q → A q := fun q hq => by
    rcases hq with ⟨k', i', hd', rfl⟩ | hq
    · exact h1.2.1 k' i' hd'
    · exact hAll q (Nat.le_trans h2.1 hq)
  refine va_calli (vx_runSW (As := As) (rest := rest) ⟨C.1, C.2.1, C.2.2.1, C.2.2.2.1, hts⟩ (hM H.size) (vx_cwSW n hts f.gi rfl rfl rfl f.2.2.2.2 hr) ⟨mblind, fun U hU hW => ⟨rfl, by rw [hU], ⟨by rw [hU]; exact h1.re (fun _ _ _ => trivial), va_K.moved hW.alike hK⟩, hCF.go hW (by rw [hU]; exact h2.2.1) hF⟩⟩ rfl hn h3.1 rfl (lv_room hcat) d hz) h2 (fun q _ h => hF q h) hF (fun r u t H1 locs1 ht hvm hw hB hz1 hk1 hS => k r u.1 u.2.1 u.2.2 hw H1 locs1 ls (by have := hB.1; rw [ht] at this; exact this.re h1.2.1) hS h3)
/-- an int of the script; its length -/
theorem z_sld (C : mK X own cc nL rm) {bs L0 : Nat} {xs : Nat → Int32} (hX : va_X bs L0 xs X.2.2.2.2.1 X.2.2.2.2.1.heap) (hb : bs < X.2.2.2.2.1.heap.size) (hA : ¬ X.2.2.2.2.2.2.2.2.2.2.2.2 bs) (pc : Nat) {x : Int32} {n : Nat} (d : decode cc pc = .ok (.iaload, 1)) (hx : x = nI n) (hn : n < L0) (hL : L0 < 2 ^ 31) (k : Z X nL ad dm S L R ce sl (pc + 1) lv (.int (xs n) :: rest)) : Z X nL ad dm S L R ce sl pc lv (.int x :: .ref bs :: rest) := by
  obtain ⟨p, l, e, Rm, s, m, args, below, meth, c, Q, G, A⟩ := X
  intro H locs ls h1 h2 h3
  subst hx
  exact va_sld C.1 C.2.1 hX hb hA h2 (vp_in_nI hn hL) d (by rw [nI_clamp (by omega)]; exact k H locs ls h1 h2 h3)
theorem z_xlen (C : mK X own cc nL rm) {bs L0 : Nat} {xs : Nat → Int32} (hX : va_X bs L0 xs X.2.2.2.2.1 X.2.2.2.2.1.heap) (hb : bs < X.2.2.2.2.1.heap.size) (hA : ¬ X.2.2.2.2.2.2.2.2.2.2.2.2 bs) (pc : Nat) (d : decode cc pc = .ok (.arraylength, 1)) (k : Z X nL ad dm S L R ce sl (pc + 1) lv (.int (nI L0) :: rest)) : Z X nL ad dm S L R ce sl pc lv (.ref bs :: rest) := by
  obtain ⟨p, l, e, Rm, s, m, args, below, meth, c, Q, G, A⟩ := X
  intro H locs ls h1 h2 h3
  exact va_slen C.1 C.2.1 hX hb hA h2 d (k H locs ls h1 h2 h3)
theorem z_wid {pc ce2 sl2 : Nat} (h1 : ce ≤ ce2) (h2 : sl ≤ sl2) (k : Z X nL ad dm S L R ce2 sl2 pc lv st) : Z X nL ad dm S L R ce sl pc lv st := by
  obtain ⟨p, l, e, Rm, s, m, args, below, meth, c, Q, G, A⟩ := X
  intro H locs ls a1 a2 a3
  exact W.widen h1 h2 (k H locs ls a1 a2 a3)
end ZW
