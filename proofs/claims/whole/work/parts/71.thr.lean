/-! METHODS THAT THROW -/
/-- method y, from this memory with these arguments, throws an E and leaves a memory so that post -/
def Kt (l : Launch) (y : MethodName) (cy : ByteArray) (ny : Nat) (ret : Option FieldType) (rm : Room) (G : mG) (ad : mA) (dm : mD) (args : List Value) (S : mS) (L : mL) (R : mR) (E : String) (post : mS → mL → mR → Prop) : Prop :=
  ∀ sz : Nat, vx_Met l y (mWs y cy ny ret) rm (va_Pc args (fun U => U.heap.size = sz ∧ mW G ad dm (S, L, R) U ∧ CF G (mFr ad dm sz) U U.heap)) (fun _ _ _ _ => False) (vx_X (fun u : mS × mL × mR => post u.1 u.2.1 u.2.2) (fun E' u t => E' = E ∧ mW G ad dm u t) (mFr ad dm sz)) rm.cells rm.slots (mFr ad dm sz)
theorem Kt.mono {l : Launch} {y : MethodName} {cy : ByteArray} {ny : Nat} {ret : Option FieldType} {rm : Room} {G : mG} {ad : mA} {dm : mD} {args : List Value} {S : mS} {L : mL} {R : mR} {E : String} {post post2 : mS → mL → mR → Prop} (h : Kt l y cy ny ret rm G ad dm args S L R E post) (hp : ∀ S2 L2 R2, post S2 L2 R2 → post2 S2 L2 R2) : Kt l y cy ny ret rm G ad dm args S L R E post2 := fun sz =>
  MetFree.mono (h sz) (fun _ _ q => q) (fun _ _ _ _ _ q => q) (fun _ _ _ _ _ q => by
    rcases q with ⟨q, _⟩ | ⟨q9, q1, E', ce, L9, ⟨u, q2, q3⟩, q4⟩
    · exact q.elim
    · exact Or.inr ⟨q9, q1, E', ce, L9, ⟨u, hp _ _ _ q2, q3⟩, q4⟩)
/-- the machine stands in a method that owes a throw of E -/
def mT (X : mX) (rm : Room) (ad : mA) (dm : mD) (E : String) (post : mS → mL → mR → Prop) : Prop := match X with
  | (_, l, _, _, s, _, args, below, meth, c, Q, G, A) => l.stackTraces = false ∧ (∀ x ∈ c.exceptionTable.toList, False) ∧ meth.locks = false ∧
    Q = vx_MQ below (fun _ _ _ _ => False) (vx_X (fun u : mS × mL × mR => post u.1 u.2.1 u.2.2) (fun E' u t => E' = E ∧ mW G ad dm u t) (mFr ad dm s.heap.size)) args s rm.cells rm.slots (mFr ad dm s.heap.size) ∧ A = mFr ad dm s.heap.size
theorem Kt.of {l : Launch} {y : MethodName} {cy : ByteArray} {ny : Nat} {ret : Option FieldType} {rm : Room} {G : mG} {ad : mA} {dm : mD} {args : List Value} {S : mS} {L : mL} {R : mR} {E : String} {post : mS → mL → mR → Prop} (own : String) (hl : l.stackTraces = false) (hy : plainName y.cls = true) (ho : y.cls = own) (hlen : (lg_sl args).length ≤ ny)
    (body : ∀ X : mX, X.2.1 = l → X.2.2.2.2.2.2.2.2.2.2.2.1 = G → mK X own cy ny rm → mT X rm ad dm E post → Z X ny ad dm S L R 0 0 0 (lv_args 0 args) []) : Kt l y cy ny ret rm G ad dm args S L R E post := by
  intro sz
  subst ho
  refine vx_ofW (cc := cy) (maxL := ny) (ret := ret) hy rfl ?_
  intro p e s m args' below meth c s₁ B hml htab hv
  obtain ⟨rfl, hsz, ⟨hH, hK⟩, hCF⟩ := hv
  subst hsz
  have hts := atoms_spec (ws := mWs y cy ny ret) B.pre
  have hown : s.vm.findClass y.cls = some m.cls := findClass_of_methodNamed B.named
  have hlocks := B.notSynchronized
  have hx := B.exec
  have hb := B.bytes
  have Z0 := body (p, l, e, (headSpec (mWs y cy ny ret) rm).room, s, m, args.toArray, below, meth, c, vx_MQ below (fun _ _ _ _ => False) (vx_X (fun u : mS × mL × mR => post u.1 u.2.1 u.2.2) (fun E' u t => E' = E ∧ mW G ad dm u t) (mFr ad dm s.heap.size)) args.toArray s rm.cells rm.slots (mFr ad dm s.heap.size), G, mFr ad dm s.heap.size) rfl rfl
    ⟨hx, hb, hml, hown, fun w hw => hts w (List.mem_cons_of_mem _ hw), rfl, hK, fun q hq => Or.inr hq, hCF⟩ ⟨hl, htab, hlocks, rfl, rfl⟩
  rw [lg_entry_eq]
  exact Z0 s.heap [] _ (hH.re (fun k i hd => Or.inl ⟨k, i, hd, rfl⟩)) va_S.rf (lv_entry args hlen)
theorem mat.lt {G : mG} {ad : mA} {S : mS} {L : mL} {R : mR} {k i : Nat} {H : Heap} (h : mat G ad S L R k i H) : ad k i < H.size := by
  unfold mat at h
  split at h
  · exact (Array.getElem?_eq_some_iff.mp h).1
  · obtain ⟨cell, h1, -⟩ := h
    exact (Array.getElem?_eq_some_iff.mp h1).1
theorem mH.grow {G : mG} {A : Nat → Prop} {ad : mA} {dm : mD} {S : mS} {L : mL} {R : mR} {H H1 : Heap} (h : mH G A ad dm S L R H) (hk : ∀ q : Nat, q < H.size → H1[q]? = H[q]?) : mH G A ad dm S L R H1 := ⟨h.1, h.2.1, fun k i hd => (h.2.2 k i hd).kept (hk _ (h.2.2 k i hd).lt)⟩
def eN : List String := ["java/lang/RuntimeException", "java/lang/Exception"]
/-- the words of a throw of E, by the constructor's place -/
def tXW (E : String) (ic : Nat) : List Cond := vx_atS RX8 ic E eN
theorem tXW_b : ∀ q ∈ [(eIA, 78), (eIO, 150), (eIS, 272)], ∀ w ∈ (tXW q.1 q.2).filter (fun w => !goodWord w), w ∈ [Cond.declares (Bundle.initS "java/lang/RuntimeException"), Cond.declares (Bundle.initS "java/lang/Exception"), Cond.declares (Bundle.initS "java/lang/Throwable"), Cond.castable q.1 q.1] := by decide +kernel
theorem tXW_g : ∀ q ∈ [(eIA, 78), (eIO, 150), (eIS, 272)], ∀ w ∈ tXW q.1 q.2, vx_ot w = true := by decide +kernel
theorem tXW_l {Ls : List Cond} (ps : List Nat) (h : Ls.filter goodWord = ps.filterMap (fun i => lw_tbl[i]?)) : ∀ w ∈ Ls.filter goodWord, w ∈ mlw := fun w hw => mlw_in (by
  have hw' := hw
  rw [h] at hw'
  obtain ⟨i, -, hi⟩ := List.mem_filterMap.mp hw'
  exact List.mem_of_getElem? hi) (List.mem_filter.mp hw).2
theorem tXW_1 : ∀ w ∈ (tXW eIA 78).filter goodWord, w ∈ mlw := tXW_l [94, 588, 597, 601, 604, 606, 589, 590, 112, 113, 591, 596, 602, 622, 578, 623, 580, 624, 582, 592, 594, 584, 618, 619, 621, 584, 609, 610, 611, 612, 612, 613, 614, 615, 615, 616, 617, 618, 608, 567, 575, 576, 577, 579, 581, 583, 587, 586, 585] (by decide +kernel)
theorem tXW_2 : ∀ w ∈ (tXW eIO 150).filter goodWord, w ∈ mlw := tXW_l [94, 588, 597, 601, 604, 606, 589, 590, 112, 113, 591, 596, 602, 622, 578, 623, 580, 624, 582, 592, 594, 584, 618, 619, 621, 584, 798, 799, 800, 612, 612, 613, 614, 615, 615, 616, 617, 618, 797, 788, 790, 600, 791, 792, 793, 794, 587, 586, 795] (by decide +kernel)
theorem tXW_3 : ∀ w ∈ (tXW eIS 272).filter goodWord, w ∈ mlw := tXW_l [94, 588, 597, 601, 604, 606, 589, 590, 112, 113, 591, 596, 602, 622, 578, 623, 580, 624, 582, 592, 594, 584, 618, 619, 621, 584, 1093, 1094, 1095, 612, 612, 613, 614, 615, 615, 616, 617, 618, 1092, 1083, 1085, 599, 1086, 1087, 1088, 1089, 587, 586, 1090] (by decide +kernel)
theorem tXW_m {E : String} {ic : Nat} (hE : (E, ic) ∈ [(eIA, 78), (eIO, 150), (eIS, 272)]) : ∀ w ∈ (tXW E ic).filter goodWord, w ∈ mlw := by
  simp only [List.mem_cons, List.not_mem_nil, or_false, Prod.mk.injEq] at hE
  rcases hE with ⟨rfl, rfl⟩ | ⟨rfl, rfl⟩ | ⟨rfl, rfl⟩
  · exact tXW_1
  · exact tXW_2
  · exact tXW_3
theorem tXW_f {E : String} {ic : Nat} (hE : (E, ic) ∈ [(eIA, 78), (eIO, 150), (eIS, 272)]) : Bundle.fit E = true := by
  simp only [List.mem_cons, List.not_mem_nil, or_false, Prod.mk.injEq] at hE
  rcases hE with ⟨rfl, rfl⟩ | ⟨rfl, rfl⟩ | ⟨rfl, rfl⟩ <;> decide +kernel
theorem tXW_at {E : String} {ic : Nat} (hE : (E, ic) ∈ [(eIA, 78), (eIO, 150), (eIS, 272)]) {args : Array Value} {s : State} (ht : ∀ w ∈ mlw, w.before args s = true) (hC : CW s) : ∀ w ∈ tXW E ic, w.before args s = true := by
  have hEm : E ∈ cwE := by
    simp only [List.mem_cons, List.not_mem_nil, or_false, Prod.mk.injEq] at hE
    rcases hE with ⟨rfl, -⟩ | ⟨rfl, -⟩ | ⟨rfl, -⟩ <;> simp [cwE]
  have h1 : ∀ w ∈ (tXW E ic).filter goodWord, w.before args s = true := fun w hw => ht w (tXW_m hE w hw)
  have h2 : ∀ w ∈ (tXW E ic).filter (fun w => !goodWord w), w ∈ [Cond.declares (Bundle.initS "java/lang/RuntimeException"), Cond.declares (Bundle.initS "java/lang/Exception"), Cond.declares (Bundle.initS "java/lang/Throwable"), Cond.castable E E] := tXW_b (E, ic) hE
  have h3 : ∀ w ∈ [Cond.declares (Bundle.initS "java/lang/RuntimeException"), Cond.declares (Bundle.initS "java/lang/Exception"), Cond.declares (Bundle.initS "java/lang/Throwable"), Cond.castable E E], w.before args s = true :=
    vx_c (va_Nw.use rfl (hC.1 _ (by simp [cwD]))) (vx_c (va_Nw.use rfl (hC.1 _ (by simp [cwD]))) (vx_c (va_Nw.use rfl (hC.1 _ (by simp [cwD]))) (vx_c (va_Nw.use rfl (hC.2.1 _ hEm)) vx_n)))
  exact vx_hat h1 h2 h3
section ZT
variable {X : mX} {cc : ByteArray} {nL : Nat} {rm : Room} {ad : mA} {dm : mD} {S : mS} {L : mL} {R : mR} {ce sl : Nat} {lv : List (Nat × Value)} {rest st : List Value} {E : String} {post : mS → mL → mR → Prop}
theorem z_thr (C : mK X RX8 cc nL rm) (T : mT X rm ad dm E post) (pc : Nat) {ik is ic n : Nat} {tx : String} (hE : (E, ic) ∈ [(eIA, 78), (eIO, 150), (eIS, 272)]) (hk : Cond.classLink RX8 ik E ∈ mlw) (hi : Cond.initialized E ∈ mlw) (hs : (RX8, is, tx, n) ∈ sR)
    (d0 : decode cc pc = .ok (.new ik, 3)) (d3 : decode cc (pc + 3) = .ok (.dup, 1)) (d4 : decode cc (pc + 4) = .ok (.ldc is, 2)) (d6 : decode cc (pc + 6) = .ok (.invokespecial ic, 3)) (d9 : decode cc (pc + 9) = .ok (.athrow, 1))
    (hr : 5 < rm.frames ∧ 82 ≤ rm.locals) (hz : ce + 1 ≤ rm.cells ∧ sl + 6 ≤ rm.slots) (hp : post S L R) : Z X nL ad dm S L R ce sl pc lv [] := by
  obtain ⟨p, l, e, Rm, s, m, args, below, meth, c, Q, G, A⟩ := X
  intro H locs ls h1 h2 h3
  obtain ⟨hl, htab, hlocks, hQ, hA⟩ := T
  have hts := C.2.2.2.2.1
  have hK := C.2.2.2.2.2.2.1
  have hCF := C.2.2.2.2.2.2.2.2
  have hRm : Rm = rm := C.2.2.2.2.2.1
  subst hRm
  subst hQ
  subst hA
  have a1 : ∀ w ∈ vx_atS RX8 ic E eN, w.before args s = true := tXW_at hE hts hCF.2.2.2.2
  have a2 : ∀ w ∈ Cond.classLink RX8 ik E :: Cond.initialized E :: vx_atS RX8 ic E eN, vx_ot w = true := by
    intro w hw
    rcases List.mem_cons.mp hw with rfl | hw
    · rfl
    · rcases List.mem_cons.mp hw with rfl | hw
      · rfl
      · exact tXW_g (E, ic) hE w hw
  have a3 : ∀ n ∈ eN, Bundle.fit n = true := by decide +kernel
  have a4 := hCF.2.2.2.1 _ hs
  exact vx_throwS (own := RX8) (cls := E) (names := eN) C.1 C.2.1 hl C.2.2.2.1 (tXW_f hE) a3 (hts _ hk) (hts _ hi) a4 a1 a2 hCF.1.1 hCF.1.2 h2 (h3.1.trans C.2.2.1.symm) d0 d3 d4 d6 d9 (fun x hx => (htab x hx).elim) hr.1 (by show 0 + (13 * (2 + 1) + 43) ≤ _; omega) hz.1 hz.2 hlocks (fun t hvm hz1 hk1 => ⟨(S, L, R), hp, ⟨rfl, (h1.grow hk1).re (fun _ _ _ => trivial), va_K.moved hvm hK⟩, Nat.le_trans h2.1 hz1, fun q hq hn => (hk1 q (Nat.lt_of_lt_of_le hq h2.1)).trans (h2.2.1 q hq hn)⟩) h2.2.2 hz.1 hz.2
theorem z_thrW (C : mK X RX8 cc nL rm) (T : mT X rm ad dm E post) (pc : Nat) {ik is ic n : Nat} {tx : String} (hE : (E, ic) ∈ [(eIA, 78), (eIO, 150), (eIS, 272)]) (hk : Cond.classLink RX8 ik E ∈ mlw) (hi : Cond.initialized E ∈ mlw) (hs : (RX8, is, tx, n) ∈ sR)
    (d0 : decode cc pc = .ok (.new ik, 3)) (d3 : decode cc (pc + 3) = .ok (.dup, 1)) (d4 : decode cc (pc + 4) = .ok (.ldc_w is, 3)) (d6 : decode cc (pc + 7) = .ok (.invokespecial ic, 3)) (d9 : decode cc (pc + 10) = .ok (.athrow, 1))
    (hr : 5 < rm.frames ∧ 82 ≤ rm.locals) (hz : ce + 1 ≤ rm.cells ∧ sl + 6 ≤ rm.slots) (hp : post S L R) : Z X nL ad dm S L R ce sl pc lv [] := by
  obtain ⟨p, l, e, Rm, s, m, args, below, meth, c, Q, G, A⟩ := X
  intro H locs ls h1 h2 h3
  obtain ⟨hl, htab, hlocks, hQ, hA⟩ := T
  have hts := C.2.2.2.2.1
  have hK := C.2.2.2.2.2.2.1
  have hCF := C.2.2.2.2.2.2.2.2
  have hRm : Rm = rm := C.2.2.2.2.2.1
  subst hRm
  subst hQ
  subst hA
  have a1 : ∀ w ∈ vx_atS RX8 ic E eN, w.before args s = true := tXW_at hE hts hCF.2.2.2.2
  have a2 : ∀ w ∈ Cond.classLink RX8 ik E :: Cond.initialized E :: vx_atS RX8 ic E eN, vx_ot w = true := by
    intro w hw
    rcases List.mem_cons.mp hw with rfl | hw
    · rfl
    · rcases List.mem_cons.mp hw with rfl | hw
      · rfl
      · exact tXW_g (E, ic) hE w hw
  have a3 : ∀ n ∈ eN, Bundle.fit n = true := by decide +kernel
  have a4 := hCF.2.2.2.1 _ hs
  exact vx_throwSW (own := RX8) (cls := E) (names := eN) C.1 C.2.1 hl C.2.2.2.1 (tXW_f hE) a3 (hts _ hk) (hts _ hi) a4 a1 a2 hCF.1.1 hCF.1.2 h2 (h3.1.trans C.2.2.1.symm) d0 d3 d4 d6 d9 (fun x hx => (htab x hx).elim) hr.1 (by show 0 + (13 * (2 + 1) + 43) ≤ _; omega) hz.1 hz.2 hlocks (fun t hvm hz1 hk1 => ⟨(S, L, R), hp, ⟨rfl, (h1.grow hk1).re (fun _ _ _ => trivial), va_K.moved hvm hK⟩, Nat.le_trans h2.1 hz1, fun q hq hn => (hk1 q (Nat.lt_of_lt_of_le hq h2.1)).trans (h2.2.1 q hq hn)⟩) h2.2.2 hz.1 hz.2
/-- a call that throws what this method owes to throw -/
theorem z_thV {own : String} (C : mK X own cc nL rm) (T : mT X rm ad dm E post) (pc : Nat) {ix ny n : Nat} {kd i ci : Nat} {y : MethodName} {cy : ByteArray} {ret : Option FieldType} {rm' : Room} {As : List Value} {post' : mS → mL → mR → Prop} (d : decode cc pc = .ok (.invokevirtual ix, 3)) (f : mCv own ix y cy ny ret n) (hM : Kt X.2.1 y cy ny ret rm' X.2.2.2.2.2.2.2.2.2.2.2.1 ad dm (.ref (ad kd i) :: As) S L R E post') (hs : msh kd = .inr ci) (hc : ci < 10 ∧ y.cls = mCR ci) (hd : dm kd i) (hst : As.reverse ++ .ref (ad kd i) :: rest = st) (hn : As.length = n) (hcat : (rest.map fun v => v.category).sum ≤ 8) (hr : rm'.frames + 1 ≤ rm.frames ∧ 8 + (ny + 11) + rm'.locals ≤ rm.locals) (hz : ce + rm'.cells ≤ rm.cells ∧ sl + rm'.slots ≤ rm.slots) (hp : ∀ S' L' R', post' S' L' R' → post S' L' R') : Z X nL ad dm S L R ce sl pc lv st := by
  subst hst
  obtain ⟨p, l, e, Rm, s, m, args, below, meth, c, Q, G, A⟩ := X
  intro H locs ls h1 h2 h3
  obtain ⟨hl, htab, hlocks, hQ, hA⟩ := T
  have hts := C.2.2.2.2.1
  have hK := C.2.2.2.2.2.2.1
  have hAll := C.2.2.2.2.2.2.2.1
  have hCF := C.2.2.2.2.2.2.2.2
  have hRm : Rm = rm := C.2.2.2.2.2.1
  subst hRm
  subst hQ
  subst hA
  have hF : ∀ q, mFr ad dm H.size q → mFr ad dm s.heap.size q := fun q hq => by
    rcases hq with ⟨k', i', hd', rfl⟩ | hq
    · exact h1.2.1 k' i' hd'
    · exact hAll q (Nat.le_trans h2.1 hq)
  have hr := vx_runV (e := e) (below := below) (meth := meth) (As := As) (rest := rest) (g := F0 m pc ls (As.reverse ++ .ref (ad kd i) :: rest)) (H := H) (locs := locs) ⟨C.1, C.2.1, C.2.2.1, C.2.2.2.1, hts⟩ (hM H.size) (cwV n hts f.gi rfl rfl rfl ⟨rfl, f.2.2.2.2.2⟩ hr) ⟨mblind, (by rw [hc.2]; exact mrecv hK (h1.2.2 kd i hd) hs hc.1), fun U hU hW => ⟨rfl, by rw [hU], ⟨by rw [hU]; exact h1.re (fun _ _ _ => trivial), va_K.moved hW.alike hK⟩, hCF.go hW (by rw [hU]; exact h2.2.1) hF⟩⟩ rfl hn h3.1 rfl (lv_room hcat) d hz
  intro T hT X9
  rcases hr T hT X9 with ⟨v, st₀, t, T', L9, h0, X', hL, e1, e2, hQ9, st9⟩ | ⟨q, st₀, t, T', L9, E9, ce9, h0, X', hL, e1, e2, ⟨u, hu, ⟨rfl, hb⟩, hFF⟩, hce, hcv, hcl, st9⟩
  · exact hQ9.elim
  · obtain ⟨k1, k2, k3⟩ := vx_keep h0 e1 h2 (fun q _ h => hF q h) hF hL hFF
    obtain ⟨t2, a1, b1⟩ := vx_out (H := T'.heap) (locs := locs ++ L9) (Qc := fun _ _ _ _ => False) (XC := vx_X (fun u : mS × mL × mR => post u.1 u.2.1 u.2.2) (fun E' u t => E' = E9 ∧ mW G ad dm u t) (mFr ad dm s.heap.size)) (free := mFr ad dm s.heap.size) (pc := pc) (ls := ls) (rest := rest) (q := q) (fun x hx => (htab x hx).elim) hlocks (by rw [e1]; exact hce) hcv hcl (fun t3 ht3 hvm3 => ⟨u, hp _ _ _ hu, ⟨rfl, by rw [ht3, e1]; exact hb.1, va_K.moved hvm3 hK⟩, by rw [ht3]; exact k3.1, fun q hq hn => by rw [ht3]; exact k3.2.1 q hq hn⟩) k3.2.2 hz.1 hz.2 T' rfl X'
    exact ⟨t2, st9.trans a1, b1⟩
theorem z_thS {own : String} (C : mK X own cc nL rm) (T : mT X rm ad dm E post) (pc : Nat) {ix ny n : Nat} {y : MethodName} {cy : ByteArray} {ret : Option FieldType} {rm' : Room} {As : List Value} {post' : mS → mL → mR → Prop} (d : decode cc pc = .ok (.invokestatic ix, 3)) (f : mCs own ix y cy ny ret n) (hM : Kt X.2.1 y cy ny ret rm' X.2.2.2.2.2.2.2.2.2.2.2.1 ad dm As S L R E post') (hst : As.reverse ++ rest = st) (hn : As.length = n) (hcat : (rest.map fun v => v.category).sum ≤ 8) (hr : rm'.frames + 1 ≤ rm.frames ∧ 8 + (ny + 11) + rm'.locals ≤ rm.locals) (hz : ce + rm'.cells ≤ rm.cells ∧ sl + rm'.slots ≤ rm.slots) (hp : ∀ S' L' R', post' S' L' R' → post S' L' R') : Z X nL ad dm S L R ce sl pc lv st := by
  subst hst
  obtain ⟨p, l, e, Rm, s, m, args, below, meth, c, Q, G, A⟩ := X
  intro H locs ls h1 h2 h3
  obtain ⟨hl, htab, hlocks, hQ, hA⟩ := T
  have hts := C.2.2.2.2.1
  have hK := C.2.2.2.2.2.2.1
  have hAll := C.2.2.2.2.2.2.2.1
  have hCF := C.2.2.2.2.2.2.2.2
  have hRm : Rm = rm := C.2.2.2.2.2.1
  subst hRm
  subst hQ
  subst hA
  have hF : ∀ q, mFr ad dm H.size q → mFr ad dm s.heap.size q := fun q hq => by
    rcases hq with ⟨k', i', hd', rfl⟩ | hq
    · exact h1.2.1 k' i' hd'
    · exact hAll q (Nat.le_trans h2.1 hq)
  have hr := vx_runS (e := e) (below := below) (meth := meth) (As := As) (rest := rest) (g := F0 m pc ls (As.reverse ++ rest)) (H := H) (locs := locs) ⟨C.1, C.2.1, C.2.2.1, C.2.2.2.1, hts⟩ (hM H.size) (cwS n hts f.gi rfl rfl rfl f.2.2.2.2 hr) ⟨mblind, fun U hU hW => ⟨rfl, by rw [hU], ⟨by rw [hU]; exact h1.re (fun _ _ _ => trivial), va_K.moved hW.alike hK⟩, hCF.go hW (by rw [hU]; exact h2.2.1) hF⟩⟩ rfl hn h3.1 rfl (lv_room hcat) d hz
  intro T hT X9
  rcases hr T hT X9 with ⟨v, st₀, t, T', L9, h0, X', hL, e1, e2, hQ9, st9⟩ | ⟨q, st₀, t, T', L9, E9, ce9, h0, X', hL, e1, e2, ⟨u, hu, ⟨rfl, hb⟩, hFF⟩, hce, hcv, hcl, st9⟩
  · exact hQ9.elim
  · obtain ⟨k1, k2, k3⟩ := vx_keep h0 e1 h2 (fun q _ h => hF q h) hF hL hFF
    obtain ⟨t2, a1, b1⟩ := vx_out (H := T'.heap) (locs := locs ++ L9) (Qc := fun _ _ _ _ => False) (XC := vx_X (fun u : mS × mL × mR => post u.1 u.2.1 u.2.2) (fun E' u t => E' = E9 ∧ mW G ad dm u t) (mFr ad dm s.heap.size)) (free := mFr ad dm s.heap.size) (pc := pc) (ls := ls) (rest := rest) (q := q) (fun x hx => (htab x hx).elim) hlocks (by rw [e1]; exact hce) hcv hcl (fun t3 ht3 hvm3 => ⟨u, hp _ _ _ hu, ⟨rfl, by rw [ht3, e1]; exact hb.1, va_K.moved hvm3 hK⟩, by rw [ht3]; exact k3.1, fun q hq hn => by rw [ht3]; exact k3.2.1 q hq hn⟩) k3.2.2 hz.1 hz.2 T' rfl X'
    exact ⟨t2, st9.trans a1, b1⟩
end ZT
theorem tk_74 : Cond.classLink RX8 74 eIA ∈ mlw := mlw_t 484 (by decide +kernel) rfl
theorem tk_146 : Cond.classLink RX8 146 eIO ∈ mlw := mlw_t 705 (by decide +kernel) rfl
theorem tk_268 : Cond.classLink RX8 268 eIS ∈ mlw := mlw_t 1000 (by decide +kernel) rfl
theorem ti_eIA : Cond.initialized eIA ∈ mlw := mlw_t 15 (by decide +kernel) rfl
theorem ti_eIO : Cond.initialized eIO ∈ mlw := mlw_t 21 (by decide +kernel) rfl
theorem ti_eIS : Cond.initialized eIS ∈ mlw := mlw_t 23 (by decide +kernel) rfl
theorem isR_0 {a b : Nat} {x : Int32} (h : ¬ isR a b x) (ha : a < 2 ^ 31) (hb : b < 2 ^ 31) (h1 : ¬ x < nI a) (h2 : ¬ nI b < x) : False := h ((isR_iff ha hb).mp ⟨Int32.not_lt.mp h1, Int32.not_lt.mp h2⟩)
theorem isP_R {n : Nat} {x : Int32} (h : ¬ isP n x) (h1 : ¬ x < 0) (h2 : x < nI n) (hn : n < 2 ^ 31) : False := h (isP_of h1 h2 hn)

def rt_X8_checkProgram : Room := { frames := 6, cells := 1, slots := 6, locals := 200 }
set_option maxHeartbeats 4000000 in
set_option maxRecDepth 100000 in
theorem c_X8_checkProgram_t {l : Launch} {G : mG} {ad : mA} {S : mS} {L : mL} {R : mR} {d n : Nat} {x : Int32} (hlf : l.stackTraces = false) (hR : mlk R) (hd : d < 2) (rD : R 0 0 2 = some (3, d)) (hcn : S 3 d 6 = nI n) (hn10 : n ≤ 10) (hx : ¬ isP n x) : Kt l yX8_checkProgram cX8_checkProgram 2 none rt_X8_checkProgram G ad mdm [.ref (ad 0 0), .int x] S L R eIO (fun S2 L2 R2 => S = S2 ∧ L = L2 ∧ R = R2) := by
  refine Kt.of RX8 hlf (by decide) rfl (Nat.le_of_ble_eq_true rfl) ?_
  intro X hXl hXG C hTX
  subst hXl; subst hXG
  change Z X 2 ad mdm S L R 0 0 0 [(0, _), (1, _)] []
  refine z_iload_n C 0 1 1 dX8_checkProgram_0 rfl rfl ?_
  refine z_if_lt C 1 15 dX8_checkProgram_1 (by decide) (fun h1 => ?_) (fun h1 => ?_)
  · exact z_thr C hTX 15 (ik := 146) (is := 148) (ic := 150) (n := 10) (tx := "no such program") (List.mem_cons_of_mem _ List.mem_cons_self) tk_146 ti_eIO (List.mem_of_getElem? (i := 18) rfl) dX8_checkProgram_15 dX8_checkProgram_18 dX8_checkProgram_19 dX8_checkProgram_21 dX8_checkProgram_24 ⟨by decide, by decide⟩ ⟨by decide, by decide⟩ (⟨rfl, rfl, rfl⟩)
  · refine z_iload_n C 4 1 1 dX8_checkProgram_4 rfl rfl ?_
    refine z_aload_n C 5 0 0 dX8_checkProgram_5 rfl rfl ?_
    refine z_getr C 6 dX8_checkProgram_6 gf_X8_23 rfl (by first | assumption | exact Nat.zero_lt_one | exact (show (15 : Nat) < 16 by decide) | exact Nat.lt_succ_of_lt (by assumption) | omega) rD ?_
    refine z_getiv C 9 dX8_checkProgram_9 gf_X8_98 rfl (by first | assumption | exact Nat.zero_lt_one | exact (show (15 : Nat) < 16 by decide) | exact Nat.lt_succ_of_lt (by assumption) | omega) hcn ?_
    first | with_reducible refine z_icmp_ltN C 12 25 dX8_checkProgram_12 (by decide) (by omega) (by omega) (fun h12 => (isP_R hx h1 h12 (by omega)).elim) (fun h12 => ?_) | refine z_icmp_lt C 12 25 dX8_checkProgram_12 (by decide) (fun h12 => (isP_R hx h1 h12 (by omega)).elim) (fun h12 => ?_)
    · exact z_thr C hTX 15 (ik := 146) (is := 148) (ic := 150) (n := 10) (tx := "no such program") (List.mem_cons_of_mem _ List.mem_cons_self) tk_146 ti_eIO (List.mem_of_getElem? (i := 18) rfl) dX8_checkProgram_15 dX8_checkProgram_18 dX8_checkProgram_19 dX8_checkProgram_21 dX8_checkProgram_24 ⟨by decide, by decide⟩ ⟨by decide, by decide⟩ (⟨rfl, rfl, rfl⟩)
def rt_X8_checkStep : Room := { frames := 6, cells := 1, slots := 6, locals := 200 }
set_option maxHeartbeats 4000000 in
set_option maxRecDepth 100000 in
theorem c_X8_checkStep_t {l : Launch} {G : mG} {ad : mA} {S : mS} {L : mL} {R : mR} {x : Int32} (hlf : l.stackTraces = false) (hx : ¬ isR 1 6 x) : Kt l yX8_checkStep cX8_checkStep 1 none rt_X8_checkStep G ad mdm [.int x] S L R eIA (fun S2 L2 R2 => S = S2 ∧ L = L2 ∧ R = R2) := by
  refine Kt.of RX8 hlf (by decide) rfl (Nat.le_of_ble_eq_true rfl) ?_
  intro X hXl hXG C hTX
  subst hXl; subst hXG
  change Z X 1 ad mdm S L R 0 0 0 [(0, _)] []
  refine z_iload_n C 0 0 0 dX8_checkStep_0 rfl rfl ?_
  refine z_iconst (v := nI 1) C 1 dX8_checkStep_1 (by decide) ?_
  first | with_reducible refine z_icmp_ltN C 2 11 dX8_checkStep_2 (by decide) (by omega) (by omega) (fun h2 => ?_) (fun h2 => ?_) | refine z_icmp_lt C 2 11 dX8_checkStep_2 (by decide) (fun h2 => ?_) (fun h2 => ?_)
  · exact z_thr C hTX 11 (ik := 74) (is := 209) (ic := 78) (n := 13) (tx := "no such kind of step") (List.mem_cons_self) tk_74 ti_eIA (List.mem_of_getElem? (i := 21) rfl) dX8_checkStep_11 dX8_checkStep_14 dX8_checkStep_15 dX8_checkStep_17 dX8_checkStep_20 ⟨by decide, by decide⟩ ⟨by decide, by decide⟩ (⟨rfl, rfl, rfl⟩)
  · refine z_iload_n C 5 0 0 dX8_checkStep_5 rfl rfl ?_
    refine z_bipush (v := nI 6) C 6 dX8_checkStep_6 (by decide +kernel) ?_
    first | with_reducible refine z_icmp_leN C 8 21 dX8_checkStep_8 (by decide) (by omega) (by omega) (fun h8 => (isR_0 hx (by decide) (by decide) h2 (Int32.not_lt.mpr h8)).elim) (fun h8 => ?_) | refine z_icmp_le C 8 21 dX8_checkStep_8 (by decide) (fun h8 => (isR_0 hx (by decide) (by decide) h2 (Int32.not_lt.mpr h8)).elim) (fun h8 => ?_)
    · exact z_thr C hTX 11 (ik := 74) (is := 209) (ic := 78) (n := 13) (tx := "no such kind of step") (List.mem_cons_self) tk_74 ti_eIA (List.mem_of_getElem? (i := 21) rfl) dX8_checkStep_11 dX8_checkStep_14 dX8_checkStep_15 dX8_checkStep_17 dX8_checkStep_20 ⟨by decide, by decide⟩ ⟨by decide, by decide⟩ (⟨rfl, rfl, rfl⟩)
def rt_X8_checkNotice : Room := { frames := 6, cells := 1, slots := 6, locals := 200 }
set_option maxHeartbeats 4000000 in
set_option maxRecDepth 100000 in
theorem c_X8_checkNotice_t {l : Launch} {G : mG} {ad : mA} {S : mS} {L : mL} {R : mR} {x : Int32} (hlf : l.stackTraces = false) (hx : ¬ isR 0 999 x) : Kt l yX8_checkNotice cX8_checkNotice 1 none rt_X8_checkNotice G ad mdm [.int x] S L R eIA (fun S2 L2 R2 => S = S2 ∧ L = L2 ∧ R = R2) := by
  refine Kt.of RX8 hlf (by decide) rfl (Nat.le_of_ble_eq_true rfl) ?_
  intro X hXl hXG C hTX
  subst hXl; subst hXG
  change Z X 1 ad mdm S L R 0 0 0 [(0, _)] []
  refine z_iload_n C 0 0 0 dX8_checkNotice_0 rfl rfl ?_
  refine z_if_lt C 1 11 dX8_checkNotice_1 (by decide) (fun h1 => ?_) (fun h1 => ?_)
  · exact z_thrW C hTX 11 (ik := 74) (is := 284) (ic := 78) (n := 19) (tx := "no such notice") (List.mem_cons_self) tk_74 ti_eIA (List.mem_of_getElem? (i := 27) rfl) dX8_checkNotice_11 dX8_checkNotice_14 dX8_checkNotice_15 dX8_checkNotice_18 dX8_checkNotice_21 ⟨by decide, by decide⟩ ⟨by decide, by decide⟩ (⟨rfl, rfl, rfl⟩)
  · refine z_iload_n C 4 0 0 dX8_checkNotice_4 rfl rfl ?_
    refine z_sipush (v := nI 999) C 5 dX8_checkNotice_5 (by decide +kernel) ?_
    first | with_reducible refine z_icmp_leN C 8 22 dX8_checkNotice_8 (by decide) (by omega) (by omega) (fun h8 => (isR_0 hx (by decide) (by decide) h1 (Int32.not_lt.mpr h8)).elim) (fun h8 => ?_) | refine z_icmp_le C 8 22 dX8_checkNotice_8 (by decide) (fun h8 => (isR_0 hx (by decide) (by decide) h1 (Int32.not_lt.mpr h8)).elim) (fun h8 => ?_)
    · exact z_thrW C hTX 11 (ik := 74) (is := 284) (ic := 78) (n := 19) (tx := "no such notice") (List.mem_cons_self) tk_74 ti_eIA (List.mem_of_getElem? (i := 27) rfl) dX8_checkNotice_11 dX8_checkNotice_14 dX8_checkNotice_15 dX8_checkNotice_18 dX8_checkNotice_21 ⟨by decide, by decide⟩ ⟨by decide, by decide⟩ (⟨rfl, rfl, rfl⟩)
def rt_X8_checkPolicy : Room := { frames := 6, cells := 1, slots := 6, locals := 200 }
set_option maxHeartbeats 4000000 in
set_option maxRecDepth 100000 in
theorem c_X8_checkPolicy_t {l : Launch} {G : mG} {ad : mA} {S : mS} {L : mL} {R : mR} {x : Int32} (hlf : l.stackTraces = false) (hx : ¬ isR 0 2 x) : Kt l yX8_checkPolicy cX8_checkPolicy 1 none rt_X8_checkPolicy G ad mdm [.int x] S L R eIA (fun S2 L2 R2 => S = S2 ∧ L = L2 ∧ R = R2) := by
  refine Kt.of RX8 hlf (by decide) rfl (Nat.le_of_ble_eq_true rfl) ?_
  intro X hXl hXG C hTX
  subst hXl; subst hXG
  change Z X 1 ad mdm S L R 0 0 0 [(0, _)] []
  refine z_iload_n C 0 0 0 dX8_checkPolicy_0 rfl rfl ?_
  refine z_if_lt C 1 9 dX8_checkPolicy_1 (by decide) (fun h1 => ?_) (fun h1 => ?_)
  · exact z_thrW C hTX 9 (ik := 74) (is := 322) (ic := 78) (n := 14) (tx := "no such policy") (List.mem_cons_self) tk_74 ti_eIA (List.mem_of_getElem? (i := 22) rfl) dX8_checkPolicy_9 dX8_checkPolicy_12 dX8_checkPolicy_13 dX8_checkPolicy_16 dX8_checkPolicy_19 ⟨by decide, by decide⟩ ⟨by decide, by decide⟩ (⟨rfl, rfl, rfl⟩)
  · refine z_iload_n C 4 0 0 dX8_checkPolicy_4 rfl rfl ?_
    refine z_iconst (v := nI 2) C 5 dX8_checkPolicy_5 (by decide) ?_
    first | with_reducible refine z_icmp_leN C 6 20 dX8_checkPolicy_6 (by decide) (by omega) (by omega) (fun h6 => (isR_0 hx (by decide) (by decide) h1 (Int32.not_lt.mpr h6)).elim) (fun h6 => ?_) | refine z_icmp_le C 6 20 dX8_checkPolicy_6 (by decide) (fun h6 => (isR_0 hx (by decide) (by decide) h1 (Int32.not_lt.mpr h6)).elim) (fun h6 => ?_)
    · exact z_thrW C hTX 9 (ik := 74) (is := 322) (ic := 78) (n := 14) (tx := "no such policy") (List.mem_cons_self) tk_74 ti_eIA (List.mem_of_getElem? (i := 22) rfl) dX8_checkPolicy_9 dX8_checkPolicy_12 dX8_checkPolicy_13 dX8_checkPolicy_16 dX8_checkPolicy_19 ⟨by decide, by decide⟩ ⟨by decide, by decide⟩ (⟨rfl, rfl, rfl⟩)
def rt_X8_checkSlot : Room := { frames := 6, cells := 1, slots := 6, locals := 200 }
set_option maxHeartbeats 4000000 in
set_option maxRecDepth 100000 in
theorem c_X8_checkSlot_t {l : Launch} {G : mG} {ad : mA} {S : mS} {L : mL} {R : mR} {x : Int32} (hlf : l.stackTraces = false) (hx : ¬ isP 2 x) : Kt l yX8_checkSlot cX8_checkSlot 1 none rt_X8_checkSlot G ad mdm [.int x] S L R eIO (fun S2 L2 R2 => S = S2 ∧ L = L2 ∧ R = R2) := by
  refine Kt.of RX8 hlf (by decide) rfl (Nat.le_of_ble_eq_true rfl) ?_
  intro X hXl hXG C hTX
  subst hXl; subst hXG
  change Z X 1 ad mdm S L R 0 0 0 [(0, _)] []
  refine z_iload_n C 0 0 0 dX8_checkSlot_0 rfl rfl ?_
  refine z_if_lt C 1 9 dX8_checkSlot_1 (by decide) (fun h1 => ?_) (fun h1 => ?_)
  · exact z_thrW C hTX 9 (ik := 146) (is := 327) (ic := 150) (n := 25) (tx := "no such slot") (List.mem_cons_of_mem _ List.mem_cons_self) tk_146 ti_eIO (List.mem_of_getElem? (i := 33) rfl) dX8_checkSlot_9 dX8_checkSlot_12 dX8_checkSlot_13 dX8_checkSlot_16 dX8_checkSlot_19 ⟨by decide, by decide⟩ ⟨by decide, by decide⟩ (⟨rfl, rfl, rfl⟩)
  · refine z_iload_n C 4 0 0 dX8_checkSlot_4 rfl rfl ?_
    refine z_iconst (v := nI 2) C 5 dX8_checkSlot_5 (by decide) ?_
    first | with_reducible refine z_icmp_ltN C 6 20 dX8_checkSlot_6 (by decide) (by omega) (by omega) (fun h6 => (isP_R hx h1 h6 (by decide)).elim) (fun h6 => ?_) | refine z_icmp_lt C 6 20 dX8_checkSlot_6 (by decide) (fun h6 => (isP_R hx h1 h6 (by decide)).elim) (fun h6 => ?_)
    · exact z_thrW C hTX 9 (ik := 146) (is := 327) (ic := 150) (n := 25) (tx := "no such slot") (List.mem_cons_of_mem _ List.mem_cons_self) tk_146 ti_eIO (List.mem_of_getElem? (i := 33) rfl) dX8_checkSlot_9 dX8_checkSlot_12 dX8_checkSlot_13 dX8_checkSlot_16 dX8_checkSlot_19 ⟨by decide, by decide⟩ ⟨by decide, by decide⟩ (⟨rfl, rfl, rfl⟩)
