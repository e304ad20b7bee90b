def RJ7 : String := "java/util/Arrays"
abbrev cJ7_fill_53178 : ByteArray := prog_23_method_103_code
def yJ7_fill_53178 : MethodName := ⟨RJ7, "fill", "([II)V"⟩
theorem wc_mmin : Cond.code Lib.Math.min.name Lib.Math.min.code 2 (some .int) ∈ mlw := mlw_t 467 (by decide +kernel) rfl
theorem wt_mmin : Cond.static Lib.Math.min.name ∈ mlw := mlw_t 466 (by decide +kernel) rfl
theorem wc_mmax : Cond.code Lib.Math.max.name Lib.Math.max.code 2 (some .int) ∈ mlw := mlw_t 782 (by decide +kernel) rfl
theorem wt_mmax : Cond.static Lib.Math.max.name ∈ mlw := mlw_t 781 (by decide +kernel) rfl
theorem wi_math : Cond.initialized "java/lang/Math" ∈ mlw := mlw_t 16 (by decide +kernel) rfl
theorem wi_system : Cond.initialized "java/lang/System" ∈ mlw := mlw_t 22 (by decide +kernel) rfl
theorem wn_copy : Cond.native arraycopyName ∈ mlw := mlw_t 441 (by decide +kernel) rfl
theorem wt_copy : Cond.static arraycopyName ∈ mlw := mlw_t 440 (by decide +kernel) rfl
theorem wc_fill : Cond.code yJ7_fill_53178 cJ7_fill_53178 4 none ∈ mlw := mlw_t 162 (by decide +kernel) rfl
theorem wt_fill : Cond.static yJ7_fill_53178 ∈ mlw := mlw_t 161 (by decide +kernel) rfl
theorem wi_arrays : Cond.initialized "java/util/Arrays" ∈ mlw := mlw_t 6 (by decide +kernel) rfl
theorem lj_X6_40 : Cond.methodLink RX6 40 yJ7_fill_53178 ∈ mlw := mlw_t 160 (by decide +kernel) rfl
theorem lj_X1_34 : Cond.methodLink RX1 34 yJ7_fill_53178 ∈ mlw := mlw_t 285 (by decide +kernel) rfl
theorem lj_X3_25 : Cond.methodLink RX3 25 yJ7_fill_53178 ∈ mlw := mlw_t 290 (by decide +kernel) rfl
theorem lj_X4_78 : Cond.methodLink RX4 78 yJ7_fill_53178 ∈ mlw := mlw_t 291 (by decide +kernel) rfl
theorem lj_X6_46 : Cond.methodLink RX6 46 arraycopyName ∈ mlw := mlw_t 439 (by decide +kernel) rfl
theorem lj_X1_40 : Cond.methodLink RX1 40 arraycopyName ∈ mlw := mlw_t 446 (by decide +kernel) rfl
theorem lj_X3_31 : Cond.methodLink RX3 31 arraycopyName ∈ mlw := mlw_t 451 (by decide +kernel) rfl
theorem lj_X4_94 : Cond.methodLink RX4 94 arraycopyName ∈ mlw := mlw_t 452 (by decide +kernel) rfl
theorem lj_X2_27 : Cond.methodLink RX2 27 Lib.Math.min.name ∈ mlw := mlw_t 465 (by decide +kernel) rfl
theorem lj_X5_23 : Cond.methodLink RX5 23 Lib.Math.min.name ∈ mlw := mlw_t 555 (by decide +kernel) rfl
theorem lj_X1_54 : Cond.methodLink RX1 54 Lib.Math.max.name ∈ mlw := mlw_t 780 (by decide +kernel) rfl
theorem lj_X3_37 : Cond.methodLink RX3 37 Lib.Math.min.name ∈ mlw := mlw_t 922 (by decide +kernel) rfl
theorem lj_X4_216 : Cond.methodLink RX4 216 Lib.Math.min.name ∈ mlw := mlw_t 1032 (by decide +kernel) rfl
/-- how many cells of a kind the built system has -/
def mcnt : Nat → Nat := fun k => match k with
  | 3 => 3 | 4 => 3 | 5 => 3 | 6 => 30
  | 12 => 16 | 13 => 16 | 14 => 16 | 15 => 16 | 16 => 16
  | 17 => 15 | 18 => 15 | 19 => 15 | 20 => 15 | 21 => 15 | 22 => 15 | 23 => 15 | 24 => 15 | 25 => 15 | 26 => 15 | 27 => 15 | 28 => 15 | 29 => 15 | 30 => 15
  | 0 => 1 | 1 => 1 | 2 => 1 | 7 => 1 | 8 => 1 | 9 => 1 | 10 => 1 | 11 => 1 | 31 => 1 | 32 => 1 | 33 => 1 | 34 => 1
  | 40 => 1 | 41 => 1 | 42 => 1 | 43 => 1 | 44 => 1 | 45 => 1 | 46 => 1 | 47 => 1 | 48 => 1 | 49 => 1 | 50 => 1 | 51 => 1 | 52 => 1 | 53 => 1 | 60 => 1
  | _ => 0
def mdm : mD := fun k i => i < mcnt k
/-- the links that never change -/
def mlf (k i j : Nat) : Option (Nat × Nat) := match k with
  | 0 => (match j with | 0 => some (1, 0) | 4 => some (7, 0) | 8 => some (31, 0) | 9 => some (33, 0) | 10 => some (34, 0) | _ => none)
  | 1 => (match j with | 0 => some (2, 0) | _ => none)
  | 3 => (match j with | 7 => some (4, i) | 8 => some (5, i) | _ => none)
  | 5 => some (6, 10 * i + j)
  | 7 => (match j with | 0 => some (12, 15) | 1 => some (8, 0) | 2 => some (9, 0) | 5 => some (10, 0) | 6 => some (11, 0) | _ => none)
  | 12 => (match j with | 2 => some (13, i) | 3 => some (14, i) | 4 => some (15, i) | 5 => some (16, i) | _ => none)
  | 17 => (match j with | 2 => some (18, i) | 3 => some (19, i) | 4 => some (20, i) | 5 => some (21, i) | _ => none)
  | 22 => (match j with | 2 => some (23, i) | 3 => some (24, i) | _ => none)
  | 25 => (match j with | 0 => some (7, 0) | 2 => some (12, i) | 3 => some (17, i) | 4 => some (22, i) | 8 => some (26, i) | 9 => some (27, i) | 10 => some (28, i) | 11 => some (29, i) | 12 => some (30, i) | _ => none)
  | 31 => (match j with | 0 => some (32, 0) | _ => none)
  | 40 => (match j with | 2 => some (41, 0) | 3 => some (42, 0) | 4 => some (43, 0) | 5 => some (44, 0) | 6 => some (45, 0) | 21 => some (46, 0) | 22 => some (47, 0) | 23 => some (48, 0) | 24 => some (49, 0) | 25 => some (50, 0) | 28 => some (51, 0) | 29 => some (52, 0) | 30 => some (53, 0) | _ => none)
  | _ => none
def mlk (R : mR) : Prop := ∀ k i j q, mlf k i j = some q → R k i j = some q
theorem mlk.up {R : mR} (h : mlk R) {k i j : Nat} {v : Option (Nat × Nat)} (hn : mlf k i j = none) : mlk (up3 R k i j v) := by
  intro k' i' j' q hq
  by_cases e : k' = k ∧ i' = i ∧ j' = j
  · obtain ⟨rfl, rfl, rfl⟩ := e
    rw [hn] at hq
    cases hq
  · show (if _ then _ else _) = _
    rw [if_neg e]
    exact h k' i' j' q hq
/-- a stretch of one array copied into another (or the same) -/
def mcp (S : mS) (k0 i0 p0 k1 i1 p1 n : Nat) : mS := fun k i j => if k = k1 ∧ i = i1 ∧ p1 ≤ j ∧ j < p1 + n then S k0 i0 (p0 + (j - p1)) else S k i j
section ZS
variable {X : mX} {own : String} {cc : ByteArray} {nL : Nat} {rm : Room} {ad : mA} {dm : mD} {S : mS} {L : mL} {R : mR} {ce sl : Nat} {lv : List (Nat × Value)} {rest : List Value}
theorem z_idivN (C : mK X own cc nL rm) (pc : Nat) (d : decode cc pc = .ok (.idiv, 1)) {a b : Nat} (ha : a < 2 ^ 31) (h0 : 0 < b) (hb : b < 2 ^ 31) (k : Z X nL ad dm S L R ce sl (pc + 1) lv (.int (nI (a / b)) :: rest)) : Z X nL ad dm S L R ce sl pc lv (.int (nI b) :: .int (nI a) :: rest) := by
  refine z_idiv C pc d (nI_ne0 h0 hb) ?_
  rw [pk_div ha h0 hb]
  exact k
theorem z_iremN (C : mK X own cc nL rm) (pc : Nat) (d : decode cc pc = .ok (.irem, 1)) {a b : Nat} (ha : a < 2 ^ 31) (h0 : 0 < b) (hb : b < 2 ^ 31) (k : Z X nL ad dm S L R ce sl (pc + 1) lv (.int (nI (a % b)) :: rest)) : Z X nL ad dm S L R ce sl pc lv (.int (nI b) :: .int (nI a) :: rest) := by
  refine z_irem C pc d (nI_ne0 h0 hb) ?_
  rw [pk_rem ha h0 hb]
  exact k
theorem z_min (C : mK X own cc nL rm) (pc : Nat) {ix : Nat} (d : decode cc pc = .ok (.invokestatic ix, 3)) (hl : Cond.methodLink own ix Lib.Math.min.name ∈ mlw) {x y : Int32} (hcat : (rest.map fun v => v.category).sum ≤ 8) (hr : 1 ≤ rm.frames ∧ 21 ≤ rm.locals) (hz : ce ≤ rm.cells ∧ sl ≤ rm.slots)
    (k : Z X nL ad dm S L R ce sl (pc + 3) lv (.int (if y < x then y else x) :: rest)) : Z X nL ad dm S L R ce sl pc lv (.int y :: .int x :: rest) := by
  obtain ⟨p, l, e, Rm, s, m, args, below, meth, c, Q, G, A⟩ := X
  intro H locs ls h1 h2 h3
  have hts := C.2.2.2.2.1
  have hRm : Rm = rm := C.2.2.2.2.2.1
  subst hRm
  exact va_mmin C.1 C.2.1 (C.2.2.1.trans h3.1.symm) C.2.2.2.1 (hts _ hl) (hts _ wt_mmin) (hts _ wi_math) (hts _ wc_mmin) hr.1 (by omega) hz.1 hz.2 d (k H locs ls h1 h2 h3)
theorem z_max (C : mK X own cc nL rm) (pc : Nat) {ix : Nat} (d : decode cc pc = .ok (.invokestatic ix, 3)) (hl : Cond.methodLink own ix Lib.Math.max.name ∈ mlw) {x y : Int32} (hcat : (rest.map fun v => v.category).sum ≤ 8) (hr : 1 ≤ rm.frames ∧ 21 ≤ rm.locals) (hz : ce ≤ rm.cells ∧ sl ≤ rm.slots)
    (k : Z X nL ad dm S L R ce sl (pc + 3) lv (.int (if x < y then y else x) :: rest)) : Z X nL ad dm S L R ce sl pc lv (.int y :: .int x :: rest) := by
  obtain ⟨p, l, e, Rm, s, m, args, below, meth, c, Q, G, A⟩ := X
  intro H locs ls h1 h2 h3
  have hts := C.2.2.2.2.1
  have hRm : Rm = rm := C.2.2.2.2.2.1
  subst hRm
  exact va_mmax C.1 C.2.1 (C.2.2.1.trans h3.1.symm) C.2.2.2.1 (hts _ hl) (hts _ wt_mmax) (hts _ wi_math) (hts _ wc_mmax) hr.1 (by omega) hz.1 hz.2 d (k H locs ls h1 h2 h3)
/-- System.arraycopy of a stretch of an int array -/
theorem z_copy (C : mK X own cc nL rm) (pc : Nat) {ix k0 i0 k1 i1 n0 n1 p0 p1 n : Nat} {xp0 xp1 xn : Int32} (d : decode cc pc = .ok (.invokestatic ix, 3)) (hl : Cond.methodLink own ix arraycopyName ∈ mlw) (hs0 : msh k0 = .inl (0, n0)) (hs1 : msh k1 = .inl (0, n1)) (hd0 : dm k0 i0) (hd1 : dm k1 i1)
    (e0 : xp0 = nI p0) (e1 : xp1 = nI p1) (en : xn = nI n) (hb0 : n0 < 2 ^ 31) (hb1 : n1 < 2 ^ 31) (h4 : p0 + n ≤ n0) (h5 : p1 + n ≤ n1) (hcat : (rest.map fun v => v.category).sum ≤ 8) (hr : 1 ≤ rm.frames ∧ 8 + (nativeFrameWords "java/lang/System" "arraycopy" 5 + 11) ≤ rm.locals)
    (k : Z X nL ad dm (mcp S k0 i0 p0 k1 i1 p1 n) L R ce sl (pc + 3) lv rest) : Z X nL ad dm S L R ce sl pc lv (.int xn :: .int xp1 :: .ref (ad k1 i1) :: .int xp0 :: .ref (ad k0 i0) :: rest) := by
  obtain ⟨p, l, e, Rm, s, m, args, below, meth, c, Q, G, A⟩ := X
  intro H locs ls h1 h2 h3 T hT X
  subst e0; subst e1; subst en
  have hts := C.2.2.2.2.1
  have hK := C.2.2.2.2.2.2.1
  have hx := C.1
  have hb := C.2.1
  have hml : c.maxLocals = nL := C.2.2.1
  have hown := C.2.2.2.1
  have hRm : Rm = rm := C.2.2.2.2.2.1
  subst hRm
  have b0 : p0 < 2 ^ 31 := by omega
  have b1 : p1 < 2 ^ 31 := by omega
  have bn : n < 2 ^ 31 := by omega
  have hc0 : H[ad k0 i0]? = some (vp_cell (G.2 0) (n0, .inl (S k0 i0))) := (mat.arr hs0).mp (h1.2.2 k0 i0 hd0)
  have hc1 : H[ad k1 i1]? = some (vp_cell (G.2 0) (n1, .inl (S k1 i1))) := (mat.arr hs1).mp (h1.2.2 k1 i1 hd1)
  obtain ⟨-, kk0, hk0, cm0, hkk0⟩ := (hK.2 0 _ rfl).1 n0 (fun j => .int (S k0 i0 j))
  obtain ⟨-, kk1, hk1, cm1, hkk1⟩ := (hK.2 0 _ rfl).1 n1 (fun j => .int (S k1 i1 j))
  obtain ⟨vm', X', step⟩ := X.arraycopy hx hown (hts _ hl) (hts _ wn_copy) (hts _ wt_copy) (hts _ wi_system) (src := ad k0 i0) (dst := ad k1 i1) (cs := vp_cell (G.2 0) (n0, .inl (S k0 i0))) (cd := vp_cell (G.2 0) (n1, .inl (S k1 i1))) (srcPos := nI p0) (destPos := nI p1) (n := nI n) (by rw [hT]; exact hc0) (by rw [hT]; exact hc1)
    (fun _ h => by cases h) (fun _ h => by cases h) (fun h => by cases h) (fun h => by cases h) hk0 hk1 hkk0 hkk1 (by simp [refKind]) (nI_pos b0) (nI_pos b1) (nI_pos bn)
    (by rw [nI_toInt b0, nI_toInt bn]; show ¬ _ > ((arrV (G.2 0) n0 (fun j => .int (S k0 i0 j))).slots.size : Int); rw [arrV_size]; omega)
    (by rw [nI_toInt b1, nI_toInt bn]; show ¬ _ > ((arrV (G.2 0) n1 (fun j => .int (S k1 i1 j))).slots.size : Int); rw [arrV_size]; omega)
    (fun vm₁ _ i hi => by
      rw [nI_clamp bn] at hi
      have e : (vp_cell (G.2 0) (n0, .inl (S k0 i0))).slots.getD ((nI p0).toNatClampNeg + i) .null = .int (S k0 i0 (p0 + i)) := by
        show (arrV (G.2 0) n0 (fun j => .int (S k0 i0 j))).slots.getD _ _ = _
        rw [nI_clamp b0, Array.getD_eq_getD_getElem?, arrV_read _ _ (by omega)]
        rfl
      refine ⟨?_, ?_⟩
      · rw [e]
        rfl
      · rw [e]
        exact trivial)
    (g := F0 m pc ls (.int (nI n) :: .int (nI p1) :: .ref (ad k1 i1) :: .int (nI p0) :: .ref (ad k0 i0) :: rest)) rfl (by rw [hml]; exact h3.1) (rest := rest) rfl (by rw [hb]; exact d) hr.1 (by show 2 * 0 + _ + _ ≤ _; omega)
  have e1 : copied (vp_cell (G.2 0) (n0, .inl (S k0 i0))) (vp_cell (G.2 0) (n1, .inl (S k1 i1))) (nI p0) (nI p1) (nI n) = vp_cell (G.2 0) (n1, .inl (va_cpy (S k0 i0) (S k1 i1) p0 p1 n)) := by
    have h := va_copied (fun z => .int z) (G.2 0) (G.2 0) (n0 := n0) (n1 := n1) (sp := p0) (dp := p1) (n := n) (S k0 i0) (S k1 i1) h4
    unfold copied
    rw [nI_clamp b0, nI_clamp b1, nI_clamp bn]
    exact h
  rw [e1] at X' step
  have hlt : ad k1 i1 < H.size := (Array.getElem?_eq_some_iff.mp hc1).1
  have hcp : va_cpy (S k0 i0) (S k1 i1) p0 p1 n = mcp S k0 i0 p0 k1 i1 p1 n k1 i1 := by
    funext j
    simp only [va_cpy, mcp]
    by_cases h : p1 ≤ j ∧ j < p1 + n
    · rw [if_pos h, if_pos ⟨trivial, trivial, h⟩]
    · rw [if_neg h, if_neg (fun q => h q.2.2)]
  rw [hcp] at X' step
  have hheap : ((T.setVm vm').setCell (ad k1 i1) (vp_cell (G.2 0) (n1, .inl (mcp S k0 i0 p0 k1 i1 p1 n k1 i1)))).heap = H.setIfInBounds (ad k1 i1) (vp_cell (G.2 0) (n1, .inl (mcp S k0 i0 p0 k1 i1 p1 n k1 i1))) := by rw [← hT]; rfl
  have oq : ∀ q : Nat, q ≠ ad k1 i1 → (H.setIfInBounds (ad k1 i1) (vp_cell (G.2 0) (n1, .inl (mcp S k0 i0 p0 k1 i1 p1 n k1 i1))))[q]? = H[q]? := fun q hq => by simp [Array.getElem?_setIfInBounds, Ne.symm hq]
  obtain ⟨t, a1, b1⟩ := k _ _ ls (h1.put hd1 oq ((mat.arr hs1).mpr (by simp [Array.getElem?_setIfInBounds, hlt]; rfl)) (fun k' i' hne => by funext j; simp only [mcp]; rw [if_neg (fun q => hne ⟨q.1, q.2.1⟩)]) (fun _ _ _ => rfl) (fun _ _ _ => rfl)) ⟨by simp; exact h2.1, fun q g1 g2 => by
      rw [oq q (fun e => g2 (by rw [e]; exact h1.2.1 k1 i1 hd1))]
      exact h2.2.1 q g1 g2, fun q hq => by
      rcases List.mem_append.mp hq with h | h
      · exact h2.2.2 q h
      · obtain ⟨z, -, hz⟩ := List.mem_map.mp h
        rw [← hz]
        exact h1.2.1 k1 i1 hd1⟩ h3 _ hheap X'
  exact ⟨t, step t a1, b1⟩
end ZS
/-- a Boolean as an int -/
noncomputable def bI (c : Prop) : Int32 := haveI := Classical.propDecidable; if c then 1 else 0
theorem bI_t {c : Prop} (h : c) : bI c = 1 := if_pos h
theorem bI_f {c : Prop} (h : ¬ c) : bI c = 0 := if_neg h
theorem bI_01 {c : Prop} : bI c = 0 ∨ bI c = 1 := by unfold bI; split <;> simp
theorem bI_n {c : Prop} : narrow .boolean (.int (bI c)) = .int (bI c) := by unfold bI; split <;> rfl
theorem bI_c {c d : Prop} (h : c ↔ d) : bI c = bI d := by rw [propext h]
theorem nIl (n : Nat) : (OfNat.ofNat n : Int32) = nI n := rfl
section ZS2
variable {X : mX} {own : String} {cc : ByteArray} {nL : Nat} {rm : Room} {ad : mA} {dm : mD} {S : mS} {L : mL} {R : mR} {ce sl : Nat} {lv : List (Nat × Value)} {rest : List Value}
theorem z_dup2 (C : mK X own cc nL rm) (pc : Nat) (d : decode cc pc = .ok (.dup2, 1)) {v w : Value} (hv : v.category = 1) (hw : w.category = 1) (k : Z X nL ad dm S L R ce sl (pc + 1) lv (v :: w :: v :: w :: rest)) : Z X nL ad dm S L R ce sl pc lv (v :: w :: rest) := by
  obtain ⟨p, l, e, Rm, s, m, args, below, meth, c, Q, G, A⟩ := X
  intro H locs ls h1 h2 h3
  exact lv_dup2_11 C.1 C.2.1 d (by assumption) (by assumption) (k H locs ls h1 h2 h3)
theorem z_if_eqB (C : mK X own cc nL rm) (pc tgt : Nat) {P : Prop} {off : Int} (d : decode cc pc = .ok (.ifCond .eq off, 3)) (ht : (pc : Int) + off = (tgt : Int)) (kt : ¬ P → Z X nL ad dm S L R ce sl tgt lv rest) (kf : P → Z X nL ad dm S L R ce sl (pc + 3) lv rest) : Z X nL ad dm S L R ce sl pc lv (.int (bI P) :: rest) := by
  refine z_if_eq C pc tgt d ht (fun h => kt (fun q => ?_)) (fun h => kf (Classical.byContradiction fun q => h (bI_f q)))
  rw [bI_t q] at h
  exact absurd h (by decide)
theorem z_if_neB (C : mK X own cc nL rm) (pc tgt : Nat) {P : Prop} {off : Int} (d : decode cc pc = .ok (.ifCond .ne off, 3)) (ht : (pc : Int) + off = (tgt : Int)) (kt : P → Z X nL ad dm S L R ce sl tgt lv rest) (kf : ¬ P → Z X nL ad dm S L R ce sl (pc + 3) lv rest) : Z X nL ad dm S L R ce sl pc lv (.int (bI P) :: rest) := by
  refine z_if_ne C pc tgt d ht (fun h => kt (Classical.byContradiction fun q => h (bI_f q))) (fun h => kf (fun q => ?_))
  rw [bI_t q] at h
  exact absurd h (by decide)
/-- a switch over lo .. hi: a branch a number, and the rest -/
theorem z_tab (C : mK X own cc nL rm) (pc lo hi tgd : Nat) (tg : Nat → Nat) {dflt : Int} {offs : Array Int} {len : Nat} {x : Int32} (d : decode cc pc = .ok (.tableswitch dflt (lo : Int) (hi : Int) offs, len)) (h31 : hi < 2 ^ 31) (ht : ∀ n, n ≤ hi → lo ≤ n → offs[n - lo]? = some ((tg n : Int) - pc)) (htd : (pc : Int) + dflt = (tgd : Int))
    (k : ∀ n, lo ≤ n → n ≤ hi → x = nI n → Z X nL ad dm S L R ce sl (tg n) lv rest) (ko : (∀ n, lo ≤ n → n ≤ hi → x ≠ nI n) → Z X nL ad dm S L R ce sl tgd lv rest) : Z X nL ad dm S L R ce sl pc lv (.int x :: rest) := by
  by_cases h : x.toInt < (lo : Int) ∨ (hi : Int) < x.toInt
  · refine z_tabOut C pc tgd d h htd (ko fun n h1 h2 e => ?_)
    rw [e, nI_toInt (by omega)] at h
    omega
  · have h1 : ¬ x.toInt < (lo : Int) := fun q => h (Or.inl q)
    have h2 : ¬ (hi : Int) < x.toInt := fun q => h (Or.inr q)
    have hx : x = nI x.toInt.toNat := by
      refine Int32.toInt_inj.mp ?_
      rw [nI_toInt (by omega)]
      omega
    have h3 : lo ≤ x.toInt.toNat := by omega
    have h4 : x.toInt.toNat ≤ hi := by omega
    refine z_tabIn C pc (tg x.toInt.toNat) d h1 h2 (off := ((tg x.toInt.toNat : Nat) : Int) - pc) ?_ (by omega) (k _ h3 h4 hx)
    rw [show (x.toInt - (lo : Int)).toNat = x.toInt.toNat - lo by omega]
    exact ht _ h4 h3
end ZS2
