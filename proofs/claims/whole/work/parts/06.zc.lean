/-! contracts over the memory, their entry and their calls -/
def mW (G : mG) (ad : mA) (dm : mD) (u : mS × mL × mR) (t : State) : Prop := mH G (fun _ => True) ad dm u.1 u.2.1 u.2.2 t.heap ∧ va_K G.1 vwCl (mtys G.2) t
def mFr (ad : mA) (dm : mD) (sz : Nat) : Nat → Prop := fun q => (∃ k i, dm k i ∧ q = ad k i) ∨ sz ≤ q
theorem mH.re {G : mG} {A B : Nat → Prop} {ad : mA} {dm : mD} {S : mS} {L : mL} {R : mR} {H : Heap} (h : mH G A ad dm S L R H) (hB : ∀ k i, dm k i → B (ad k i)) : mH G B ad dm S L R H := ⟨h.1, hB, h.2.2⟩
theorem mW.moved {G : mG} {ad : mA} {dm : mD} {u : mS × mL × mR} {s t : State} (h : mW G ad dm u s) (hh : t.heap = s.heap) (hv : s.vm.Alike t.vm) : mW G ad dm u t := ⟨by rw [hh]; exact h.1, va_K.moved hv h.2⟩
def mWs (y : MethodName) (cy : ByteArray) (ny : Nat) (ret : Option FieldType) : List Cond := Cond.code y cy ny ret :: mlw
/-- method y, from this memory with these arguments, returns an int r and leaves a memory so that post -/
def Ki (l : Launch) (y : MethodName) (cy : ByteArray) (ny : Nat) (rt : FieldType) (rm : Room) (G : mG) (ad : mA) (dm : mD) (args : List Value) (S : mS) (L : mL) (R : mR) (post : Int32 → mS → mL → mR → Prop) : Prop :=
  ∀ sz : Nat, Met l y (mWs y cy ny (some rt)) rm (va_Pc args (fun U => U.heap.size = sz ∧ mW G ad dm (S, L, R) U ∧ CF G (mFr ad dm sz) U U.heap)) (va_Qi (fun r (u : mS × mL × mR) => post r u.1 u.2.1 u.2.2) (mW G ad dm) (mFr ad dm sz)) rm.cells rm.slots (mFr ad dm sz)
def Kl (l : Launch) (y : MethodName) (cy : ByteArray) (ny : Nat) (rm : Room) (G : mG) (ad : mA) (dm : mD) (args : List Value) (S : mS) (L : mL) (R : mR) (post : Int64 → mS → mL → mR → Prop) : Prop :=
  ∀ sz : Nat, Met l y (mWs y cy ny (some .long)) rm (va_Pc args (fun U => U.heap.size = sz ∧ mW G ad dm (S, L, R) U ∧ CF G (mFr ad dm sz) U U.heap)) (va_Ql (fun r (u : mS × mL × mR) => post r u.1 u.2.1 u.2.2) (mW G ad dm) (mFr ad dm sz)) rm.cells rm.slots (mFr ad dm sz)
def Kv (l : Launch) (y : MethodName) (cy : ByteArray) (ny : Nat) (rm : Room) (G : mG) (ad : mA) (dm : mD) (args : List Value) (S : mS) (L : mL) (R : mR) (post : mS → mL → mR → Prop) : Prop :=
  ∀ sz : Nat, Met l y (mWs y cy ny none) rm (va_Pc args (fun U => U.heap.size = sz ∧ mW G ad dm (S, L, R) U ∧ CF G (mFr ad dm sz) U U.heap)) (va_Qv (fun (u : mS × mL × mR) => post u.1 u.2.1 u.2.2) (mW G ad dm) (mFr ad dm sz)) rm.cells rm.slots (mFr ad dm sz)
/-- the answer is an object of the memory -/
def Kr (l : Launch) (y : MethodName) (cy : ByteArray) (ny : Nat) (rt : FieldType) (rm : Room) (G : mG) (ad : mA) (dm : mD) (args : List Value) (S : mS) (L : mL) (R : mR) (post : Nat × Nat → mS → mL → mR → Prop) : Prop :=
  ∀ sz : Nat, Met l y (mWs y cy ny (some rt)) rm (va_Pc args (fun U => U.heap.size = sz ∧ mW G ad dm (S, L, R) U ∧ CF G (mFr ad dm sz) U U.heap)) (va_Qr (fun (u : (Nat × Nat) × mS × mL × mR) => post u.1 u.2.1 u.2.2.1 u.2.2.2) (fun u a t => a = ad u.1.1 u.1.2 ∧ mW G ad dm u.2 t) (mFr ad dm sz)) rm.cells rm.slots (mFr ad dm sz)
theorem Ki.of {l : Launch} {y : MethodName} {cy : ByteArray} {ny : Nat} {rt : FieldType} {rm : Room} {G : mG} {ad : mA} {dm : mD} {args : List Value} {S : mS} {L : mL} {R : mR} {post : Int32 → mS → mL → mR → Prop} (own : String) (hy : plainName y.cls = true) (ho : y.cls = own) (hlen : (lg_sl args).length ≤ ny)
    (body : ∀ X : mX, X.2.1 = l → X.2.2.2.2.2.2.2.2.2.2.2.1 = G → mK X own cy ny rm → (∀ (pc : Nat) (v : Int32) (lv : List (Nat × Value)) (S' : mS) (L' : mL) (R' : mR), decode cy pc = .ok (.ireturn, 1) → narrow rt (.int v) = .int v → post v S' L' R' → Z X ny ad dm S' L' R' rm.cells rm.slots pc lv [.int v]) → Z X ny ad dm S L R 0 0 0 (lv_args 0 args) []) : Ki l y cy ny rt rm G ad dm args S L R post := by
  intro sz
  subst ho
  refine Met.ofW (cc := cy) (maxL := ny) (ret := some rt) hy rfl ?_
  intro p e s m args' below meth c s₁ B hml hv
  obtain ⟨rfl, hsz, ⟨hH, hK⟩, hCF⟩ := hv
  subst hsz
  have hts := atoms_spec (ws := mWs y cy ny (some rt)) B.pre
  have hown : s.vm.findClass y.cls = some m.cls := findClass_of_methodNamed B.named
  have hlocks := B.notSynchronized
  have hx := B.exec
  have hb := B.bytes
  have hr := B.returns
  have C : mK (p, l, e, (headSpec (mWs y cy ny (some rt)) rm).room, s, m, args.toArray, below, meth, c, MQ below (va_Qi (fun r (u : mS × mL × mR) => post r u.1 u.2.1 u.2.2) (mW G ad dm) (mFr ad dm s.heap.size)) args.toArray s rm.cells rm.slots (mFr ad dm s.heap.size), G, mFr ad dm s.heap.size) y.cls cy ny rm :=
    ⟨hx, hb, hml, hown, fun w hw => hts w (List.mem_cons_of_mem _ hw), rfl, hK, fun q hq => Or.inr hq, hCF⟩
  have Z0 := body _ rfl rfl C (fun pc v lv S' L' R' d hn hp H locs ls h1 h2 h3 => W.zret hx hb hr hn (fun t ht hW => ⟨⟨v, (S', L', R'), rfl, hp, by rw [ht]; exact h1.re (fun _ _ _ => trivial), va_K.moved hW.alike hK⟩, h2.F ht⟩) h2.2.2 d hlocks)
  rw [lg_entry_eq]
  exact Z0 s.heap [] _ (hH.re (fun k i hd => Or.inl ⟨k, i, hd, rfl⟩)) va_S.rf (lv_entry args hlen)
theorem Kl.of {l : Launch} {y : MethodName} {cy : ByteArray} {ny : Nat} {rm : Room} {G : mG} {ad : mA} {dm : mD} {args : List Value} {S : mS} {L : mL} {R : mR} {post : Int64 → mS → mL → mR → Prop} (own : String) (hy : plainName y.cls = true) (ho : y.cls = own) (hlen : (lg_sl args).length ≤ ny)
    (body : ∀ X : mX, X.2.1 = l → X.2.2.2.2.2.2.2.2.2.2.2.1 = G → mK X own cy ny rm → (∀ (pc : Nat) (v : Int64) (lv : List (Nat × Value)) (S' : mS) (L' : mL) (R' : mR), decode cy pc = .ok (.lreturn, 1) → post v S' L' R' → Z X ny ad dm S' L' R' rm.cells rm.slots pc lv [.long v]) → Z X ny ad dm S L R 0 0 0 (lv_args 0 args) []) : Kl l y cy ny rm G ad dm args S L R post := by
  intro sz
  subst ho
  refine Met.ofW (cc := cy) (maxL := ny) (ret := some .long) hy rfl ?_
  intro p e s m args' below meth c s₁ B hml hv
  obtain ⟨rfl, hsz, ⟨hH, hK⟩, hCF⟩ := hv
  subst hsz
  have hts := atoms_spec (ws := mWs y cy ny (some .long)) B.pre
  have hown : s.vm.findClass y.cls = some m.cls := findClass_of_methodNamed B.named
  have hlocks := B.notSynchronized
  have hx := B.exec
  have hb := B.bytes
  have hr := B.returns
  have C : mK (p, l, e, (headSpec (mWs y cy ny (some .long)) rm).room, s, m, args.toArray, below, meth, c, MQ below (va_Ql (fun r (u : mS × mL × mR) => post r u.1 u.2.1 u.2.2) (mW G ad dm) (mFr ad dm s.heap.size)) args.toArray s rm.cells rm.slots (mFr ad dm s.heap.size), G, mFr ad dm s.heap.size) y.cls cy ny rm :=
    ⟨hx, hb, hml, hown, fun w hw => hts w (List.mem_cons_of_mem _ hw), rfl, hK, fun q hq => Or.inr hq, hCF⟩
  have Z0 := body _ rfl rfl C (fun pc v lv S' L' R' d hp H locs ls h1 h2 h3 => W.lret hx hb hr (fun t ht hW => ⟨⟨v, (S', L', R'), rfl, hp, by rw [ht]; exact h1.re (fun _ _ _ => trivial), va_K.moved hW.alike hK⟩, h2.F ht⟩) h2.2.2 d hlocks)
  rw [lg_entry_eq]
  exact Z0 s.heap [] _ (hH.re (fun k i hd => Or.inl ⟨k, i, hd, rfl⟩)) va_S.rf (lv_entry args hlen)
theorem Kv.of {l : Launch} {y : MethodName} {cy : ByteArray} {ny : Nat} {rm : Room} {G : mG} {ad : mA} {dm : mD} {args : List Value} {S : mS} {L : mL} {R : mR} {post : mS → mL → mR → Prop} (own : String) (hy : plainName y.cls = true) (ho : y.cls = own) (hlen : (lg_sl args).length ≤ ny)
    (body : ∀ X : mX, X.2.1 = l → X.2.2.2.2.2.2.2.2.2.2.2.1 = G → mK X own cy ny rm → (∀ (pc : Nat) (lv : List (Nat × Value)) (S' : mS) (L' : mL) (R' : mR), decode cy pc = .ok (.return_, 1) → post S' L' R' → Z X ny ad dm S' L' R' rm.cells rm.slots pc lv []) → Z X ny ad dm S L R 0 0 0 (lv_args 0 args) []) : Kv l y cy ny rm G ad dm args S L R post := by
  intro sz
  subst ho
  refine Met.ofW (cc := cy) (maxL := ny) (ret := none) hy rfl ?_
  intro p e s m args' below meth c s₁ B hml hv
  obtain ⟨rfl, hsz, ⟨hH, hK⟩, hCF⟩ := hv
  subst hsz
  have hts := atoms_spec (ws := mWs y cy ny none) B.pre
  have hown : s.vm.findClass y.cls = some m.cls := findClass_of_methodNamed B.named
  have hlocks := B.notSynchronized
  have hx := B.exec
  have hb := B.bytes
  have hr := B.returns
  have C : mK (p, l, e, (headSpec (mWs y cy ny none) rm).room, s, m, args.toArray, below, meth, c, MQ below (va_Qv (fun (u : mS × mL × mR) => post u.1 u.2.1 u.2.2) (mW G ad dm) (mFr ad dm s.heap.size)) args.toArray s rm.cells rm.slots (mFr ad dm s.heap.size), G, mFr ad dm s.heap.size) y.cls cy ny rm :=
    ⟨hx, hb, hml, hown, fun w hw => hts w (List.mem_cons_of_mem _ hw), rfl, hK, fun q hq => Or.inr hq, hCF⟩
  have Z0 := body _ rfl rfl C (fun pc lv S' L' R' d hp H locs ls h1 h2 h3 => W.vret hx hb hr (fun t ht hW => ⟨⟨(S', L', R'), rfl, hp, by rw [ht]; exact h1.re (fun _ _ _ => trivial), va_K.moved hW.alike hK⟩, h2.F ht⟩) h2.2.2 d hlocks)
  rw [lg_entry_eq]
  exact Z0 s.heap [] _ (hH.re (fun k i hd => Or.inl ⟨k, i, hd, rfl⟩)) va_S.rf (lv_entry args hlen)
theorem Kr.of {l : Launch} {y : MethodName} {cy : ByteArray} {ny : Nat} {rt : FieldType} {rm : Room} {G : mG} {ad : mA} {dm : mD} {args : List Value} {S : mS} {L : mL} {R : mR} {post : Nat × Nat → mS → mL → mR → Prop} (own : String) (hy : plainName y.cls = true) (ho : y.cls = own) (hlen : (lg_sl args).length ≤ ny) (hrt : (∃ n, rt = .object n) ∨ ∃ t, rt = .array t)
    (body : ∀ X : mX, X.2.1 = l → X.2.2.2.2.2.2.2.2.2.2.2.1 = G → mK X own cy ny rm → (∀ (pc : Nat) (k i : Nat) (lv : List (Nat × Value)) (S' : mS) (L' : mL) (R' : mR), decode cy pc = .ok (.areturn, 1) → post (k, i) S' L' R' → Z X ny ad dm S' L' R' rm.cells rm.slots pc lv [.ref (ad k i)]) → Z X ny ad dm S L R 0 0 0 (lv_args 0 args) []) : Kr l y cy ny rt rm G ad dm args S L R post := by
  intro sz
  subst ho
  refine Met.ofW (cc := cy) (maxL := ny) (ret := some rt) hy rfl ?_
  intro p e s m args' below meth c s₁ B hml hv
  obtain ⟨rfl, hsz, ⟨hH, hK⟩, hCF⟩ := hv
  subst hsz
  have hts := atoms_spec (ws := mWs y cy ny (some rt)) B.pre
  have hown : s.vm.findClass y.cls = some m.cls := findClass_of_methodNamed B.named
  have hlocks := B.notSynchronized
  have hx := B.exec
  have hb := B.bytes
  have hr := B.returns
  have C : mK (p, l, e, (headSpec (mWs y cy ny (some rt)) rm).room, s, m, args.toArray, below, meth, c, MQ below (va_Qr (fun (u : (Nat × Nat) × mS × mL × mR) => post u.1 u.2.1 u.2.2.1 u.2.2.2) (fun u a t => a = ad u.1.1 u.1.2 ∧ mW G ad dm u.2 t) (mFr ad dm s.heap.size)) args.toArray s rm.cells rm.slots (mFr ad dm s.heap.size), G, mFr ad dm s.heap.size) y.cls cy ny rm :=
    ⟨hx, hb, hml, hown, fun w hw => hts w (List.mem_cons_of_mem _ hw), rfl, hK, fun q hq => Or.inr hq, hCF⟩
  have Z0 := body _ rfl rfl C (fun pc k i lv S' L' R' d hp H locs ls h1 h2 h3 => W.aret hx hb hr hrt (Or.inr ⟨_, rfl⟩) (fun t ht hW => ⟨⟨((k, i), S', L', R'), ad k i, rfl, hp, rfl, by rw [ht]; exact h1.re (fun _ _ _ => trivial), va_K.moved hW.alike hK⟩, h2.F ht⟩) h2.2.2 d hlocks)
  rw [lg_entry_eq]
  exact Z0 s.heap [] _ (hH.re (fun k i hd => Or.inl ⟨k, i, hd, rfl⟩)) va_S.rf (lv_entry args hlen)
/-- what a call of y by own's pool number ix needs of the tables -/
def mCv (own : String) (ix : Nat) (y : MethodName) (cy : ByteArray) (ny : Nat) (ret : Option FieldType) (n : Nat) : Prop :=
  Cond.methodLink own ix y ∈ mlw ∧ Cond.instanceMethod y ∈ mlw ∧ Cond.selects y.cls y y ∈ mlw ∧ Cond.initialized y.cls ∈ mlw ∧ Cond.code y cy ny ret ∈ mlw ∧ (y.cls ≠ "java/lang/invoke/MethodHandle" ∧ y.cls ≠ "java/lang/invoke/VarHandle" ∧ (parseMethodDescriptor y.desc).map (fun d => d.parameters.length) = some n)
def mCs (own : String) (ix : Nat) (y : MethodName) (cy : ByteArray) (ny : Nat) (ret : Option FieldType) (n : Nat) : Prop :=
  Cond.methodLink own ix y ∈ mlw ∧ Cond.static y ∈ mlw ∧ Cond.initialized own ∈ mlw ∧ Cond.code y cy ny ret ∈ mlw ∧ (y.cls = own ∧ y.cls ≠ "java/lang/invoke/MethodHandle" ∧ y.cls ≠ "java/lang/invoke/VarHandle" ∧ (parseMethodDescriptor y.desc).map (fun d => d.parameters.length) = some n)
theorem mlw_good {w : Cond} (h : w ∈ mlw) : (w.onTables && w.keeps) = true ∨ ∃ ty, w = .arrayClass ty := good_of_word (List.mem_filter.mp h).2
theorem mlw_gi {ws : List Cond} (h : ∀ w ∈ ws, w ∈ mlw) : GoodIn mlw ws := fun w hw => ⟨h w hw, mlw_good (h w hw)⟩
theorem mWs_gi {y : MethodName} {cy : ByteArray} {ny : Nat} {ret : Option FieldType} (h : Cond.code y cy ny ret ∈ mlw) : GoodIn mlw (mWs y cy ny ret) := mlw_gi (fun w hw => by
  rcases List.mem_cons.mp hw with rfl | hw
  · exact h
  · exact hw)
theorem mCv.gi {own : String} {ix : Nat} {y : MethodName} {cy : ByteArray} {ny : Nat} {ret : Option FieldType} {n : Nat} (h : mCv own ix y cy ny ret n) : GoodIn mlw (wsV own ix y.cls y (mWs y cy ny ret)) := by
  intro w hw
  unfold wsV at hw
  rcases List.mem_append.mp hw with hw | hw
  · have : w ∈ mlw := by
      simp only [List.mem_cons, List.not_mem_nil, or_false] at hw
      rcases hw with rfl | rfl | rfl | rfl
      · exact h.1
      · exact h.2.1
      · exact h.2.2.1
      · exact h.2.2.2.1
    exact ⟨this, mlw_good this⟩
  · exact mWs_gi h.2.2.2.2.1 w hw
theorem mCs.gi {own : String} {ix : Nat} {y : MethodName} {cy : ByteArray} {ny : Nat} {ret : Option FieldType} {n : Nat} (h : mCs own ix y cy ny ret n) : GoodIn mlw (wsS own ix y (mWs y cy ny ret)) := by
  intro w hw
  unfold wsS at hw
  rcases List.mem_append.mp hw with hw | hw
  · have : w ∈ mlw := by
      simp only [List.mem_cons, List.not_mem_nil, or_false] at hw
      rcases hw with rfl | rfl | rfl
      · exact h.1
      · exact h.2.1
      · exact h.2.2.1
    exact ⟨this, mlw_good this⟩
  · exact mWs_gi h.2.2.2.1 w hw
theorem mblind {args : List Value} {sz : Nat} {G : mG} {ad : mA} {dm : mD} {u : mS × mL × mR} : FrameBlind (va_Pc args (fun U => U.heap.size = sz ∧ mW G ad dm u U ∧ CF G (mFr ad dm sz) U U.heap)) := fun a U g mk q => by
  obtain ⟨q0, q1, ⟨q2, q3⟩, q4⟩ := q
  exact ⟨q0, q1, ⟨q2, va_K.moved (u := U) (U := U.calling g mk a) (Vm.Alike.refl U.vm) q3⟩, CF.go (s := U) (U := U.calling g mk a) q4 (State.WarmedH.refl U) (fun _ _ _ => rfl) (fun _ h => h)⟩
theorem mrecv {G : mG} {ad : mA} {S : mS} {L : mL} {R : mR} {k i ci : Nat} {H : Heap} {s : State} (hK : va_K G.1 vwCl (mtys G.2) s) (hm : mat G ad S L R k i H) (hs : msh k = .inr ci) (hc : ci < 10) : ∃ cell : Cell, H[ad k i]? = some cell ∧ cell.vm.isStatics = false ∧ s.vm.findClass (mCR ci) = some cell.cls := by
  obtain ⟨cell, g1, g2, g3, -⟩ := (mat.obj hs).mp hm
  exact ⟨cell, g1, by rw [g3]; rfl, by rw [g2]; exact (hK.1 ci _ (mC_cl ci hc)).2.1⟩
