/-! WHERE ALL IS MADE: the places behind b, in the order of the making -/
def pbs (v : Nat) : Nat := if v < 3 then 52 + 19 * v else if v < 13 then 111 + 19 * (v - 3) else 303 + 19 * (v - 13)
def off (k i : Nat) : Nat := match k with
  | 0 => 0 | 1 => 1 | 2 => 2
  | 3 => if i = 0 then 3 else if i = 1 then 16 else 31
  | 4 => if i = 0 then 4 else if i = 1 then 17 else 32
  | 5 => if i = 0 then 5 else if i = 1 then 18 else 33
  | 6 => if i < 10 then 6 + i else if i < 20 then 9 + i else 14 + i
  | 7 => 29 | 8 => 48 | 9 => 49 | 10 => 50 | 11 => 51
  | 12 => if i = 15 then 30 else pbs i + 14
  | 13 => if i = 15 then 44 else pbs i + 15
  | 14 => if i = 15 then 45 else pbs i + 16
  | 15 => if i = 15 then 46 else pbs i + 17
  | 16 => if i = 15 then 47 else pbs i + 18
  | 17 => pbs i + 1 | 18 => pbs i + 2 | 19 => pbs i + 3 | 20 => pbs i + 4 | 21 => pbs i + 5 | 22 => pbs i + 6 | 23 => pbs i + 7 | 24 => pbs i + 8
  | 25 => pbs i | 26 => pbs i + 9 | 27 => pbs i + 10 | 28 => pbs i + 11 | 29 => pbs i + 12 | 30 => pbs i + 13
  | 31 => 109 | 32 => 110 | 33 => 301 | 34 => 302
  | 40 => 341 | 41 => 342 | 42 => 343 | 43 => 344 | 44 => 345 | 45 => 346 | 46 => 347 | 47 => 348 | 48 => 349 | 49 => 350 | 50 => 351 | 51 => 352 | 52 => 353 | 53 => 354
  | _ => 355
def ofl : List (Nat × Nat) := [(0, 0), (1, 0), (2, 0), (3, 0), (4, 0), (5, 0), (6, 0), (6, 1), (6, 2), (6, 3), (6, 4), (6, 5), (6, 6), (6, 7), (6, 8), (6, 9), (3, 1), (4, 1), (5, 1), (6, 10), (6, 11), (6, 12), (6, 13), (6, 14), (6, 15), (6, 16), (6, 17), (6, 18), (6, 19), (7, 0), (12, 15), (3, 2), (4, 2), (5, 2), (6, 20), (6, 21), (6, 22), (6, 23), (6, 24), (6, 25), (6, 26), (6, 27), (6, 28), (6, 29), (13, 15), (14, 15), (15, 15), (16, 15), (8, 0), (9, 0), (10, 0), (11, 0), (25, 0), (17, 0), (18, 0), (19, 0), (20, 0), (21, 0), (22, 0), (23, 0), (24, 0), (26, 0), (27, 0), (28, 0), (29, 0), (30, 0), (12, 0), (13, 0), (14, 0), (15, 0), (16, 0), (25, 1), (17, 1), (18, 1), (19, 1), (20, 1), (21, 1), (22, 1), (23, 1), (24, 1), (26, 1), (27, 1), (28, 1), (29, 1), (30, 1), (12, 1), (13, 1), (14, 1), (15, 1), (16, 1), (25, 2), (17, 2), (18, 2), (19, 2), (20, 2), (21, 2), (22, 2), (23, 2), (24, 2), (26, 2), (27, 2), (28, 2), (29, 2), (30, 2), (12, 2), (13, 2), (14, 2), (15, 2), (16, 2), (31, 0), (32, 0), (25, 3), (17, 3), (18, 3), (19, 3), (20, 3), (21, 3), (22, 3), (23, 3), (24, 3), (26, 3), (27, 3), (28, 3), (29, 3), (30, 3), (12, 3), (13, 3), (14, 3), (15, 3), (16, 3), (25, 4), (17, 4), (18, 4), (19, 4), (20, 4), (21, 4), (22, 4), (23, 4), (24, 4), (26, 4), (27, 4), (28, 4), (29, 4), (30, 4), (12, 4), (13, 4), (14, 4), (15, 4), (16, 4), (25, 5), (17, 5), (18, 5), (19, 5), (20, 5), (21, 5), (22, 5), (23, 5), (24, 5), (26, 5), (27, 5), (28, 5), (29, 5), (30, 5), (12, 5), (13, 5), (14, 5), (15, 5), (16, 5), (25, 6), (17, 6), (18, 6), (19, 6), (20, 6), (21, 6), (22, 6), (23, 6), (24, 6), (26, 6), (27, 6), (28, 6), (29, 6), (30, 6), (12, 6), (13, 6), (14, 6), (15, 6), (16, 6), (25, 7), (17, 7), (18, 7), (19, 7), (20, 7), (21, 7), (22, 7), (23, 7), (24, 7), (26, 7), (27, 7), (28, 7), (29, 7), (30, 7), (12, 7), (13, 7), (14, 7), (15, 7), (16, 7), (25, 8), (17, 8), (18, 8), (19, 8), (20, 8), (21, 8), (22, 8), (23, 8), (24, 8), (26, 8), (27, 8), (28, 8), (29, 8), (30, 8), (12, 8), (13, 8), (14, 8), (15, 8), (16, 8), (25, 9), (17, 9), (18, 9), (19, 9), (20, 9), (21, 9), (22, 9), (23, 9), (24, 9), (26, 9), (27, 9), (28, 9), (29, 9), (30, 9), (12, 9), (13, 9), (14, 9), (15, 9), (16, 9), (25, 10), (17, 10), (18, 10), (19, 10), (20, 10), (21, 10), (22, 10), (23, 10), (24, 10), (26, 10), (27, 10), (28, 10), (29, 10), (30, 10), (12, 10), (13, 10), (14, 10), (15, 10), (16, 10), (25, 11), (17, 11), (18, 11), (19, 11), (20, 11), (21, 11), (22, 11), (23, 11), (24, 11), (26, 11), (27, 11), (28, 11), (29, 11), (30, 11), (12, 11), (13, 11), (14, 11), (15, 11), (16, 11), (25, 12), (17, 12), (18, 12), (19, 12), (20, 12), (21, 12), (22, 12), (23, 12), (24, 12), (26, 12), (27, 12), (28, 12), (29, 12), (30, 12), (12, 12), (13, 12), (14, 12), (15, 12), (16, 12), (33, 0), (34, 0), (25, 13), (17, 13), (18, 13), (19, 13), (20, 13), (21, 13), (22, 13), (23, 13), (24, 13), (26, 13), (27, 13), (28, 13), (29, 13), (30, 13), (12, 13), (13, 13), (14, 13), (15, 13), (16, 13), (25, 14), (17, 14), (18, 14), (19, 14), (20, 14), (21, 14), (22, 14), (23, 14), (24, 14), (26, 14), (27, 14), (28, 14), (29, 14), (30, 14), (12, 14), (13, 14), (14, 14), (15, 14), (16, 14), (40, 0), (41, 0), (42, 0), (43, 0), (44, 0), (45, 0), (46, 0), (47, 0), (48, 0), (49, 0), (50, 0), (51, 0), (52, 0), (53, 0), (60, 0)]
theorem off_at : ∀ k, k < 61 → ∀ i, i < mcnt k → ofl[off k i]? = some (k, i) := by decide +kernel
theorem ofl_at : ∀ q, q < 356 → ((ofl[q]?).map fun x => (decide (off x.1 x.2 = q) && decide (x.2 < mcnt x.1))) = some true := by decide +kernel
theorem mcnt_hi {k : Nat} (h : 61 ≤ k) : mcnt k = 0 := by
  unfold mcnt
  split <;> first | rfl | omega
theorem mdm_k {k i : Nat} (h : mdm k i) : k < 61 := by
  unfold mdm at h
  refine Classical.byContradiction fun q => ?_
  rw [mcnt_hi (by omega)] at h
  omega
theorem off_of {k i : Nat} (h : mdm k i) : ofl[off k i]? = some (k, i) := off_at k (mdm_k h) i h
theorem off_inj {k i k' i' : Nat} (h : mdm k i) (h' : mdm k' i') (e : off k i = off k' i') : k = k' ∧ i = i' := by
  have a := off_of h
  rw [e, off_of h'] at a
  simp at a
  exact ⟨a.1.symm, a.2.symm⟩
theorem ofl_len : ofl.length = 356 := by decide +kernel
theorem off_lt {k i : Nat} (h : mdm k i) : off k i < 356 := by
  have := (List.getElem?_eq_some_iff.mp (off_of h)).1
  rw [ofl_len] at this
  exact this
theorem off_sur {q : Nat} (h : q < 356) : ∃ k i, mdm k i ∧ off k i = q := by
  have a := ofl_at q h
  cases e : ofl[q]? with
  | none => rw [e] at a; cases a
  | some x =>
    rw [e] at a
    simp at a
    exact ⟨x.1, x.2, a.2, a.1⟩
def aD (b : Nat) : mA := fun k i => b + off k i
def dN (b N : Nat) : mD := fun k i => mdm k i ∧ b + off k i < N
theorem dN_new {b N k i : Nat} (h : mdm k i) (e : b + off k i = N) : dA (dN b N) k i = dN b (N + 1) := by
  funext k' i'
  refine propext ⟨fun q => ?_, fun q => ?_⟩
  · rcases q with q | ⟨rfl, rfl⟩
    · exact ⟨q.1, Nat.lt_succ_of_lt q.2⟩
    · exact ⟨h, by omega⟩
  · by_cases e2 : b + off k' i' < N
    · exact Or.inl ⟨q.1, e2⟩
    · have := q.2
      exact Or.inr (off_inj q.1 h (by omega))
theorem off_6 {d j : Nat} (hd : d < 3) (hj : j < 10) : off 6 (10 * d + j) = off 5 d + 1 + j := by
  rcases (show d = 0 ∨ d = 1 ∨ d = 2 by omega) with rfl | rfl | rfl
  · show (if 10 * 0 + j < 10 then 6 + (10 * 0 + j) else if 10 * 0 + j < 20 then 9 + (10 * 0 + j) else 14 + (10 * 0 + j)) = 5 + 1 + j
    rw [if_pos (by omega)]
    omega
  · show (if 10 * 1 + j < 10 then 6 + (10 * 1 + j) else if 10 * 1 + j < 20 then 9 + (10 * 1 + j) else 14 + (10 * 1 + j)) = 18 + 1 + j
    rw [if_neg (by omega), if_pos (by omega)]
    omega
  · show (if 10 * 2 + j < 10 then 6 + (10 * 2 + j) else if 10 * 2 + j < 20 then 9 + (10 * 2 + j) else 14 + (10 * 2 + j)) = 33 + 1 + j
    rw [if_neg (by omega), if_neg (by omega)]
    omega
theorem mdm_6 {d j : Nat} (hd : d < 3) (hj : j < 10) : mdm 6 (10 * d + j) := show 10 * d + j < 30 by omega
theorem dN_mna {b N d : Nat} (hd : d < 3) (e : b + off 5 d = N) : dM (dN b N) d = dN b (N + 11) := by
  funext k' i'
  refine propext ⟨fun q => ?_, fun q => ?_⟩
  · rcases q with q | ⟨rfl, rfl⟩ | ⟨rfl, q1, q2⟩
    · exact ⟨q.1, Nat.lt_of_lt_of_le q.2 (by omega)⟩
    · exact ⟨hd, by omega⟩
    · have e6 := off_6 hd (j := i' - 10 * d) (by omega)
      rw [show 10 * d + (i' - 10 * d) = i' by omega] at e6
      exact ⟨show i' < 30 by omega, by omega⟩
  · have q2 := q.2
    by_cases e2 : b + off k' i' < N
    · exact Or.inl ⟨q.1, e2⟩
    · by_cases e3 : off k' i' = off 5 d
      · exact Or.inr (Or.inl (off_inj q.1 (show mdm 5 d from hd) e3))
      · have e6 := off_6 hd (j := off k' i' - off 5 d - 1) (by omega)
        obtain ⟨r1, r2⟩ := off_inj q.1 (mdm_6 hd (j := off k' i' - off 5 d - 1) (by omega)) (by omega)
        refine Or.inr (Or.inr ⟨r1, by omega, by omega⟩)
theorem mL_N {b N ce : Nat} (hb : b ≤ N) (h : N + ce ≤ b + 356) : ce = 0 ∨ mLast (aD b) (dN b (N + ce)) (N + ce) := by
  rcases Nat.eq_zero_or_pos ce with rfl | hc
  · exact Or.inl rfl
  · obtain ⟨k, i, h1, h2⟩ := off_sur (q := N + ce - 1 - b) (by omega)
    refine Or.inr ⟨k, i, ⟨h1, by omega⟩, ?_⟩
    show b + off k i + 1 = _
    omega
/-- a constructor: what is made lies behind M, in the order of the making -/
def Kn (l : Launch) (y : MethodName) (cy : ByteArray) (ny : Nat) (rm : Room) (G : mG) (b M : Nat) (args : List Value) (S : mS) (L : mL) (R : mR) (post : mS → mL → mR → Prop) : Prop :=
  Met l y (mWs y cy ny none) rm (va_Pc args (fun U => U.heap.size = M ∧ mW G (aD b) (dN b M) (S, L, R) U ∧ CF G (mFr (aD b) (dN b M) M) U U.heap)) (va_Qv (fun (u : mS × mL × mR) => post u.1 u.2.1 u.2.2) (mW G (aD b) (dN b (M + rm.cells))) (mFr (aD b) (dN b M) M)) rm.cells rm.slots (mFr (aD b) (dN b M) M)
theorem Kn.of {l : Launch} {y : MethodName} {cy : ByteArray} {ny : Nat} {rm : Room} {G : mG} {b M : Nat} {args : List Value} {S : mS} {L : mL} {R : mR} {post : mS → mL → mR → Prop} (own : String) (hy : plainName y.cls = true) (ho : y.cls = own) (hi : y.name = "<init>") (hlen : (lg_sl args).length ≤ ny)
    (body : ∀ X : mX, X.2.1 = l → X.2.2.2.2.2.2.2.2.2.2.2.1 = G → mSz X = M → X.2.2.2.2.2.2.2.2.1.name = "<init>" → mK X own cy ny rm → (∀ (pc : Nat) (lv : List (Nat × Value)) (S' : mS) (L' : mL) (R' : mR), decode cy pc = .ok (.return_, 1) → post S' L' R' → Z X ny (aD b) (dN b (M + rm.cells)) S' L' R' rm.cells rm.slots pc lv []) → Z X ny (aD b) (dN b (M + 0)) S L R 0 0 0 (lv_args 0 args) []) : Kn l y cy ny rm G b M args S L R post := by
  subst ho
  refine Met.ofW (cc := cy) (maxL := ny) (ret := none) hy rfl ?_
  intro p e s m args' below meth c s₁ B hml hv
  obtain ⟨rfl, hsz, ⟨hH, hK⟩, hCF⟩ := hv
  subst hsz
  have hts := atoms_spec (ws := mWs y cy ny none) B.pre
  have hown : s.vm.findClass y.cls = some m.cls := findClass_of_methodNamed B.named
  have hnm : meth.name = "<init>" := ((name_of_methodNamed B.named B.method).1).trans hi
  have hlocks := B.notSynchronized
  have hx := B.exec
  have hb := B.bytes
  have hr := B.returns
  have C : mK (p, l, e, (headSpec (mWs y cy ny none) rm).room, s, m, args.toArray, below, meth, c, MQ below (va_Qv (fun (u : mS × mL × mR) => post u.1 u.2.1 u.2.2) (mW G (aD b) (dN b (s.heap.size + rm.cells))) (mFr (aD b) (dN b s.heap.size) s.heap.size)) args.toArray s rm.cells rm.slots (mFr (aD b) (dN b s.heap.size) s.heap.size), G, mFr (aD b) (dN b s.heap.size) s.heap.size) y.cls cy ny rm :=
    ⟨hx, hb, hml, hown, fun w hw => hts w (List.mem_cons_of_mem _ hw), rfl, hK, fun q hq => Or.inr hq, hCF⟩
  have Z0 := body _ rfl rfl rfl hnm C (fun pc lv S' L' R' d hp H locs ls h1 h2 h3 => W.vret hx hb hr (fun t ht hW => ⟨⟨(S', L', R'), rfl, hp, by rw [ht]; exact h1.re (fun _ _ _ => trivial), va_K.moved hW.alike hK⟩, h2.F ht⟩) h2.2.2 d hlocks)
  rw [lg_entry_eq]
  exact Z0 s.heap [] _ (hH.re (fun k i hd => Or.inl ⟨k, i, hd, rfl⟩)) va_S.rf (lv_entry args hlen)
def mCi (own : String) (ix : Nat) (y : MethodName) (cy : ByteArray) (ny n : Nat) : Prop :=
  Cond.methodLink own ix y ∈ mlw ∧ Cond.instanceMethod y ∈ mlw ∧ Cond.initialized y.cls ∈ mlw ∧ Cond.code y cy ny none ∈ mlw ∧ y.name = "<init>" ∧ (y.cls ≠ "java/lang/invoke/MethodHandle" ∧ y.cls ≠ "java/lang/invoke/VarHandle" ∧ (parseMethodDescriptor y.desc).map (fun d => d.parameters.length) = some n)
def mCn (own : String) (ix : Nat) (y : MethodName) (cy : ByteArray) (ny n : Nat) : Prop :=
  (own, ix, y, RX8) ∈ cwN ∧ Cond.instanceMethod y ∈ mlw ∧ Cond.initialized y.cls ∈ mlw ∧ Cond.code y cy ny none ∈ mlw ∧ y.name = "<init>" ∧ (y.cls ≠ "java/lang/invoke/MethodHandle" ∧ y.cls ≠ "java/lang/invoke/VarHandle" ∧ (parseMethodDescriptor y.desc).map (fun d => d.parameters.length) = some n)
section ZNN
variable {X : mX} {own : String} {cc : ByteArray} {nL : Nat} {rm : Room} {b M : Nat} {S : mS} {L : mL} {R : mR} {ce sl : Nat} {lv : List (Nat × Value)} {rest st : List Value}
theorem y_new (C : mK X own cc nL rm) (hsz : mSz X = M) (hb : b ≤ M) (pc k i : Nat) {ix ci : Nat} (d : decode cc pc = .ok (.new ix, 3)) (hs : msh k = .inr ci) (hci : ci < 10) (hcl : Cond.classLink own ix (mCR ci) ∈ mlw) (hin : Cond.instantiable (mCR ci) (mCN ci) ∈ mlw) (hini : Cond.initialized (mCR ci) ∈ mlw) (hk : mdm k i) (hn : b + off k i = M + ce) (hz : ce + 1 ≤ rm.cells ∧ sl + mCN ci ≤ rm.slots)
    (kk : Z X nL (aD b) (dN b (M + (ce + 1))) (z3 S 0 k i) (z3 L 0 k i) (z3 R none k i) (ce + 1) (sl + mCN ci) (pc + 3) lv (.ref (aD b k i) :: rest)) : Z X nL (aD b) (dN b (M + ce)) S L R ce sl pc lv rest := by
  subst hsz
  have hl := off_lt hk
  refine z_new C pc d hs hci hcl hin hini (mL_N hb (by omega)) hn hz ?_
  rw [dN_new hk hn]
  exact kk
theorem y_newa (C : mK X own cc nL rm) (hsz : mSz X = M) (hb : b ≤ M) (pc k i : Nat) {at' : ArrayType} {t n : Nat} {x : Int32} (d : decode cc pc = .ok (.newarray at', 2)) (hs : msh k = .inl (t, n)) (ht : t < 4) (hty : newarray.typeOf at' = mty t) (hw : Cond.arrayClass (mty t) ∈ mlw) (hx : x = nI n) (hn31 : n < 10000) (hk : mdm k i) (hn : b + off k i = M + ce) (hz : ce + 1 ≤ rm.cells ∧ sl + n ≤ rm.slots)
    (kk : Z X nL (aD b) (dN b (M + (ce + 1))) (z3 S 0 k i) (z3 L 0 k i) (z3 R none k i) (ce + 1) (sl + n) (pc + 2) lv (.ref (aD b k i) :: rest)) : Z X nL (aD b) (dN b (M + ce)) S L R ce sl pc lv (.int x :: rest) := by
  subst hsz
  have hl := off_lt hk
  refine z_newa C pc d hs ht hty hw hx hn31 (mL_N hb (by omega)) hn hz ?_
  rw [dN_new hk hn]
  exact kk
theorem y_anew (C : mK X own cc nL rm) (hsz : mSz X = M) (hb : b ≤ M) (pc k i : Nat) {ix n : Nat} {x : Int32} (d : decode cc pc = .ok (.anewarray ix, 3)) (hs : msh k = .inl (5, n)) (hcl : Cond.classLink own ix "PhoneMemory$Phone" ∈ mlw) (hx : x = nI n) (hn31 : n < 10000) (hk : mdm k i) (hn : b + off k i = M + ce) (hz : ce + 1 ≤ rm.cells ∧ sl + n ≤ rm.slots)
    (kk : Z X nL (aD b) (dN b (M + (ce + 1))) (z3 S 0 k i) (z3 L 0 k i) (z3 R none k i) (ce + 1) (sl + n) (pc + 3) lv (.ref (aD b k i) :: rest)) : Z X nL (aD b) (dN b (M + ce)) S L R ce sl pc lv (.int x :: rest) := by
  subst hsz
  have hl := off_lt hk
  refine z_anew C pc d hs hcl hx hn31 (mL_N hb (by omega)) hn hz ?_
  rw [dN_new hk hn]
  exact kk
theorem y_mna (C : mK X own cc nL rm) (hsz : mSz X = M) (hb : b ≤ M) (pc d0 : Nat) {ix : Nat} (d : decode cc pc = .ok (.multianewarray ix 2, 4)) (hcl : Cond.classLink own ix ("[" ++ (FieldType.array .int).toString) ∈ mlw) (hw : Cond.arrayClass .int ∈ mlw) (hk : d0 < 3) (hn : b + off 5 d0 = M + ce) (hz : ce + 11 ≤ rm.cells ∧ sl + 90 ≤ rm.slots)
    (kk : Z X nL (aD b) (dN b (M + (ce + 11))) (sM S d0) L (rM R d0) (ce + 11) (sl + 90) (pc + 4) lv (.ref (aD b 5 d0) :: rest)) : Z X nL (aD b) (dN b (M + ce)) S L R ce sl pc lv (.int (nI 8) :: .int (nI 10) :: rest) := by
  subst hsz
  have hl := off_lt (show mdm 5 d0 from hk)
  refine z_mna C pc d hcl hw (mL_N hb (by omega)) hn (fun j hj => ?_) hz ?_
  · show b + off 6 (10 * d0 + j) = _
    rw [off_6 hk hj]
    omega
  · rw [dN_mna hk hn]
    exact kk
theorem y_fr {G : mG} {A : Nat → Prop} {H : Heap} {N : Nat} {s : State} (h1 : mH G A (aD b) (dN b M) S L R H) (hA : ∀ q, s.heap.size ≤ q → A q) (hN : s.heap.size ≤ M) : ∀ q, mFr (aD b) (dN b M) M q → A q := fun q hq => by
  rcases hq with ⟨k', i', hd', rfl⟩ | hq
  · exact h1.2.1 k' i' hd'
  · exact hA q (Nat.le_trans hN hq)
theorem y_cI (C : mK X own cc nL rm) (hsz : mSz X = M) (hb : b ≤ M) (pc : Nat) {ix ny n kd i : Nat} {y : MethodName} {cy : ByteArray} {rm' : Room} {As : List Value} {post : mS → mL → mR → Prop} (d : decode cc pc = .ok (.invokespecial ix, 3)) (f : mCi own ix y cy ny n) (hM : Kn X.2.1 y cy ny rm' X.2.2.2.2.2.2.2.2.2.2.2.1 b (M + ce) (.ref (aD b kd i) :: As) S L R post) (h6 : M + ce ≤ b + 356) (hst : As.reverse ++ .ref (aD b kd i) :: rest = st) (hn : As.length = n) (hcat : (rest.map fun v => v.category).sum ≤ 8) (hr : rm'.frames + 1 ≤ rm.frames ∧ 8 + (ny + 11) + rm'.locals ≤ rm.locals) (hz : ce + rm'.cells ≤ rm.cells ∧ sl + rm'.slots ≤ rm.slots) (k : ∀ (S' : mS) (L' : mL) (R' : mR), post S' L' R' → Z X nL (aD b) (dN b (M + (ce + rm'.cells))) S' L' R' (ce + rm'.cells) (sl + rm'.slots) (pc + 3) lv rest) : Z X nL (aD b) (dN b (M + ce)) S L R ce sl pc lv st := by
  subst hst
  subst hsz
  obtain ⟨p, l, e, Rm, s, m, args, below, meth, c, Q, G, A⟩ := X
  intro H locs ls h1 h2 h3 T hT X9
  have hH : H.size = s.heap.size + ce := H_size X9 hT h1 h2 (mL_N hb h6)
  have hts := C.2.2.2.2.1
  have hK := C.2.2.2.2.2.2.1
  have hAll := C.2.2.2.2.2.2.2.1
  have hCF := C.2.2.2.2.2.2.2.2
  have hRm : Rm = rm := C.2.2.2.2.2.1
  subst hRm
  have hF := y_fr (N := 0) h1 hAll (Nat.le_add_right _ _)
  have hgi : GoodIn mlw (mWs y cy ny none) := mWs_gi f.2.2.2.1
  exact va_callv (va_runI (As := As) (rest := rest) ⟨C.1, C.2.1, C.2.2.1, C.2.2.2.1, hts⟩ hM (cwI n hts hgi rfl rfl rfl (hts _ f.2.2.1) (hts _ f.1) (hts _ f.2.1) f.2.2.2.2.1 f.2.2.2.2.2 hr) ⟨mblind, fun U hU hW => ⟨rfl, by rw [hU]; exact hH, ⟨by rw [hU]; exact h1.re (fun _ _ _ => trivial), va_K.moved hW.alike hK⟩, hCF.go hW (by rw [hU]; exact h2.2.1) hF⟩⟩ rfl hn h3.1 rfl (lv_room hcat) d hz) h2 (fun q _ h => hF q h) hF (fun u t H1 locs1 ht hvm hw hB hz1 hk1 hS => k u.1 u.2.1 u.2.2 hw H1 locs1 ls (by
    have h9 := hB.1
    rw [ht] at h9
    have h9 : mH G (fun _ => True) (aD b) (dN b (s.heap.size + (ce + rm'.cells))) u.1 u.2.1 u.2.2 H1 := by
      rw [← Nat.add_assoc]
      exact h9
    refine h9.re fun k i hd => ?_
    by_cases hlt : b + off k i < s.heap.size + ce
    · exact h1.2.1 k i ⟨hd.1, hlt⟩
    · exact hAll _ (show s.heap.size ≤ b + off k i by omega)) hS h3) T hT X9
theorem y_cN (C : mK X own cc nL rm) (hsz : mSz X = M) (hb : b ≤ M) (pc : Nat) {ix ny n kd i : Nat} {y : MethodName} {cy : ByteArray} {rm' : Room} {As : List Value} {post : mS → mL → mR → Prop} (d : decode cc pc = .ok (.invokespecial ix, 3)) (f : mCn own ix y cy ny n) (hM : Kn X.2.1 y cy ny rm' X.2.2.2.2.2.2.2.2.2.2.2.1 b (M + ce) (.ref (aD b kd i) :: As) S L R post) (h6 : M + ce ≤ b + 356) (hst : As.reverse ++ .ref (aD b kd i) :: rest = st) (hn : As.length = n) (hcat : (rest.map fun v => v.category).sum ≤ 8) (hr : rm'.frames + 1 ≤ rm.frames ∧ 8 + (ny + 11) + rm'.locals ≤ rm.locals) (hz : ce + rm'.cells ≤ rm.cells ∧ sl + rm'.slots ≤ rm.slots) (k : ∀ (S' : mS) (L' : mL) (R' : mR), post S' L' R' → Z X nL (aD b) (dN b (M + (ce + rm'.cells))) S' L' R' (ce + rm'.cells) (sl + rm'.slots) (pc + 3) lv rest) : Z X nL (aD b) (dN b (M + ce)) S L R ce sl pc lv st := by
  subst hst
  subst hsz
  obtain ⟨p, l, e, Rm, s, m, args, below, meth, c, Q, G, A⟩ := X
  intro H locs ls h1 h2 h3 T hT X9
  have hH : H.size = s.heap.size + ce := H_size X9 hT h1 h2 (mL_N hb h6)
  have hts := C.2.2.2.2.1
  have hK := C.2.2.2.2.2.2.1
  have hAll := C.2.2.2.2.2.2.2.1
  have hCF := C.2.2.2.2.2.2.2.2
  have hRm : Rm = rm := C.2.2.2.2.2.1
  subst hRm
  have hF := y_fr (N := 0) h1 hAll (Nat.le_add_right _ _)
  have hgi : GoodIn mlw (mWs y cy ny none) := mWs_gi f.2.2.2.1
  have hnw : va_Nw (.methodLinkNest own ix y RX8) s := hCF.2.2.2.2.2.2.2.1 _ f.1
  exact va_callv (va_runIN (As := As) (rest := rest) ⟨C.1, C.2.1, C.2.2.1, C.2.2.2.1, hts⟩ hM ⟨va_cnB n hts hgi rfl rfl rfl hnw (hts _ f.2.2.1) f.2.2.2.2.2 hr, f.2.2.2.2.1, hts _ f.2.1⟩ ⟨mblind, fun U hU hW => ⟨rfl, by rw [hU]; exact hH, ⟨by rw [hU]; exact h1.re (fun _ _ _ => trivial), va_K.moved hW.alike hK⟩, hCF.go hW (by rw [hU]; exact h2.2.1) hF⟩⟩ rfl hn h3.1 rfl (lv_room hcat) d hz) h2 (fun q _ h => hF q h) hF (fun u t H1 locs1 ht hvm hw hB hz1 hk1 hS => k u.1 u.2.1 u.2.2 hw H1 locs1 ls (by
    have h9 := hB.1
    rw [ht] at h9
    have h9 : mH G (fun _ => True) (aD b) (dN b (s.heap.size + (ce + rm'.cells))) u.1 u.2.1 u.2.2 H1 := by
      rw [← Nat.add_assoc]
      exact h9
    refine h9.re fun k i hd => ?_
    by_cases hlt : b + off k i < s.heap.size + ce
    · exact h1.2.1 k i ⟨hd.1, hlt⟩
    · exact hAll _ (show s.heap.size ≤ b + off k i by omega)) hS h3) T hT X9
end ZNN
