/-! static calls of the JDK's own; rows filled; names searched -/
def mCj (own : String) (ix : Nat) (y : MethodName) (cy : ByteArray) (ny : Nat) (ret : Option FieldType) (n : Nat) : Prop :=
  Cond.methodLink own ix y ∈ mlw ∧ Cond.static y ∈ mlw ∧ Cond.initialized y.cls ∈ mlw ∧ Cond.code y cy ny ret ∈ mlw ∧ (y.cls ≠ "java/lang/invoke/MethodHandle" ∧ y.cls ≠ "java/lang/invoke/VarHandle" ∧ (parseMethodDescriptor y.desc).map (fun d => d.parameters.length) = some n)
theorem mCj.gi {own : String} {ix : Nat} {y : MethodName} {cy : ByteArray} {ny : Nat} {ret : Option FieldType} {n : Nat} (h : mCj own ix y cy ny ret n) : GoodIn mlw (va_wsS own ix y (mWs y cy ny ret)) := by
  intro w hw
  unfold va_wsS at hw
  rcases List.mem_append.mp hw with hw | hw
  · have : w ∈ mlw := by
      simp only [List.mem_cons, List.not_mem_nil, or_false] at hw
      rcases hw with rfl | rfl | rfl
      · exact h.1
      · exact h.2.1
      · exact h.2.2.1
    exact ⟨this, mlw_good this⟩
  · exact mWs_gi h.2.2.2.1 w hw
section ZJ
variable {X : mX} {own : String} {cc : ByteArray} {nL : Nat} {rm : Room} {ad : mA} {dm : mD} {S : mS} {L : mL} {R : mR} {ce sl : Nat} {lv : List (Nat × Value)} {rest st : List Value}
theorem z_cJv (C : mK X own cc nL rm) (pc : Nat) {ix ny n : Nat} {y : MethodName} {cy : ByteArray}  {rm' : Room} {As : List Value} {post : mS → mL → mR → Prop} (d : decode cc pc = .ok (.invokestatic ix, 3)) (f : mCj own ix y cy ny none n) (hM : Kv X.2.1 y cy ny rm' X.2.2.2.2.2.2.2.2.2.2.2.1 ad dm (As) S L R post) (hst : As.reverse ++ rest = st) (hn : As.length = n) (hcat : (rest.map fun v => v.category).sum ≤ 8) (hr : rm'.frames + 1 ≤ rm.frames ∧ 8 + (ny + 11) + rm'.locals ≤ rm.locals) (hz : ce + rm'.cells ≤ rm.cells ∧ sl + rm'.slots ≤ rm.slots) (k : ∀ (S' : mS) (L' : mL) (R' : mR), post S' L' R' → Z X nL ad dm S' L' R' (ce + rm'.cells) (sl + rm'.slots) (pc + 3) lv (rest)) : Z X nL ad dm S L R ce sl pc lv st := by
  subst hst
  obtain ⟨p, l, e, Rm, s, m, args, below, meth, c, Q, G, A⟩ := X
  intro H locs ls h1 h2 h3
  have hts := C.2.2.2.2.1
  have hK := C.2.2.2.2.2.2.1
  have hAll := C.2.2.2.2.2.2.2.1
  have hCF := C.2.2.2.2.2.2.2.2
  have hRm : Rm = rm := C.2.2.2.2.2.1
  subst hRm
  have hF : ∀ q, mFr ad dm H.size q → A q := fun q hq => by
    rcases hq with ⟨k', i', hd', rfl⟩ | hq
    · exact h1.2.1 k' i' hd'
    · exact hAll q (Nat.le_trans h2.1 hq)
  refine va_callv (va_runS (As := As) (rest := rest) ⟨C.1, C.2.1, C.2.2.1, C.2.2.2.1, hts⟩ (hM H.size) (va_cwS n hts f.gi rfl rfl rfl f.2.2.2.2 hr) ⟨mblind, fun U hU hW => ⟨rfl, by rw [hU], ⟨by rw [hU]; exact h1.re (fun _ _ _ => trivial), va_K.moved hW.alike hK⟩, hCF.go hW (by rw [hU]; exact h2.2.1) hF⟩⟩ rfl hn h3.1 rfl (lv_room hcat) d hz) h2 (fun q _ h => hF q h) hF (fun u t H1 locs1 ht hvm hw hB hz1 hk1 hS => k u.1 u.2.1 u.2.2 hw H1 locs1 ls (by have := hB.1; rw [ht] at this; exact this.re h1.2.1) hS h3)
theorem z_cJv0 (C : mK X own cc nL rm) (pc : Nat) {ix ny n : Nat} {y : MethodName} {cy : ByteArray}  {rm' : Room} {As : List Value} {post : mS → mL → mR → Prop} (d : decode cc pc = .ok (.invokestatic ix, 3)) (f : mCj own ix y cy ny none n) (hM : Kv X.2.1 y cy ny rm' X.2.2.2.2.2.2.2.2.2.2.2.1 ad dm (As) S L R post) (hst : As.reverse ++ rest = st) (hn : As.length = n) (hcat : (rest.map fun v => v.category).sum ≤ 8) (hr : rm'.frames + 1 ≤ rm.frames ∧ 8 + (ny + 11) + rm'.locals ≤ rm.locals) (h0 : rm'.cells = 0 ∧ rm'.slots = 0) (hz : ce ≤ rm.cells ∧ sl ≤ rm.slots) (k : ∀ (S' : mS) (L' : mL) (R' : mR), post S' L' R' → Z X nL ad dm S' L' R' ce sl (pc + 3) lv (rest)) : Z X nL ad dm S L R ce sl pc lv st :=
  z_cJv C pc d f hM hst hn hcat hr (by rw [h0.1, h0.2]; exact hz) (fun S' L' R' hp => by rw [h0.1, h0.2]; exact k S' L' R' hp)
end ZJ
theorem cf_X6_40 : mCj RX6 40 yJ7_fill_53178 cJ7_fill_53178 4 none 2 := ⟨lj_X6_40, wt_fill, wi_arrays, wc_fill, by decide +kernel⟩
theorem cf_X1_34 : mCj RX1 34 yJ7_fill_53178 cJ7_fill_53178 4 none 2 := ⟨lj_X1_34, wt_fill, wi_arrays, wc_fill, by decide +kernel⟩
theorem cf_X3_25 : mCj RX3 25 yJ7_fill_53178 cJ7_fill_53178 4 none 2 := ⟨lj_X3_25, wt_fill, wi_arrays, wc_fill, by decide +kernel⟩
theorem cf_X4_78 : mCj RX4 78 yJ7_fill_53178 cJ7_fill_53178 4 none 2 := ⟨lj_X4_78, wt_fill, wi_arrays, wc_fill, by decide +kernel⟩
def sFill (S : mS) (k i : Nat) (x : Int32) : mS := fun k' i' j => if k' = k ∧ i' = i then x else S k' i' j
def pF (S : mS) (k i : Nat) (x : Int32) (m : Nat) : mS := fun k' i' j => if k' = k ∧ i' = i ∧ j < m then x else S k' i' j
theorem pF_0 (S : mS) (k i : Nat) (x : Int32) : pF S k i x 0 = S := by
  funext k' i' j
  unfold pF
  rw [if_neg (by omega)]
theorem pF_up {S : mS} {k i : Nat} {x : Int32} {m : Nat} : up3 (pF S k i x m) k i m x = pF S k i x (m + 1) := by
  funext k' i' j
  simp only [up3, pF]
  by_cases h1 : k' = k ∧ i' = i ∧ j = m
  · rw [if_pos h1, if_pos (by omega)]
  · rw [if_neg h1]
    by_cases h2 : k' = k ∧ i' = i ∧ j < m
    · rw [if_pos h2, if_pos (by omega)]
    · rw [if_neg h2, if_neg (by omega)]
theorem pF_end {S : mS} {k i : Nat} {x : Int32} {m t : Nat} (h : msh k = .inl (t, m)) : ∀ k' i' j, mrg k' j → pF S k i x m k' i' j = sFill S k i x k' i' j := by
  intro k' i' j hj
  unfold pF sFill
  by_cases h1 : k' = k ∧ i' = i
  · obtain ⟨rfl, rfl⟩ := h1
    unfold mrg at hj
    rw [h] at hj
    rw [if_pos ⟨rfl, rfl, hj⟩, if_pos ⟨rfl, rfl⟩]
  · rw [if_neg (fun z => h1 ⟨z.1, z.2.1⟩), if_neg h1]
theorem sFill_s {S : mS} {k i : Nat} {x : Int32} {j : Nat} : sFill S k i x k i j = x := if_pos ⟨rfl, rfl⟩
theorem sFill_n {S : mS} {k i k' i' : Nat} {x : Int32} (h : ¬ (k' = k ∧ i' = i)) : sFill S k i x k' i' = S k' i' := by
  funext j
  exact if_neg h
/-- the first of the n places from i on that holds x -/
def nmU (f : Nat → Int64) (x : Int64) : Nat → Nat → Option Nat
  | 0, _ => none
  | m + 1, i => if f i = x then some i else nmU f x m (i + 1)
theorem nmU_t {f : Nat → Int64} {x : Int64} {m i : Nat} (h : f i = x) : nmU f x (m + 1) i = some i := if_pos h
theorem nmU_f {f : Nat → Int64} {x : Int64} {m i : Nat} (h : ¬ f i = x) : nmU f x (m + 1) i = nmU f x m (i + 1) := if_neg h
theorem nmU_lt {f : Nat → Int64} {x : Int64} : ∀ {m i p : Nat}, nmU f x m i = some p → i ≤ p ∧ p < i + m ∧ f p = x
  | 0, _, _, h => by cases h
  | m + 1, i, p, h => by
    by_cases e : f i = x
    · rw [nmU_t e] at h
      cases h
      exact ⟨Nat.le_refl _, by omega, e⟩
    · rw [nmU_f e] at h
      have := nmU_lt h
      exact ⟨by omega, by omega, this.2.2⟩
theorem nmU_cong {f g : Nat → Int64} {x y : Int64} : ∀ {m i : Nat}, (∀ k, i ≤ k → k < i + m → (f k = x ↔ g k = y)) → nmU f x m i = nmU g y m i
  | 0, _, _ => rfl
  | m + 1, i, h => by
    have h0 := h i (Nat.le_refl _) (by omega)
    by_cases e : f i = x
    · rw [nmU_t e, nmU_t (h0.mp e)]
    · rw [nmU_f e, nmU_f (fun z => e (h0.mpr z))]
      exact nmU_cong (fun k hk hk2 => h k (by omega) (by omega))
