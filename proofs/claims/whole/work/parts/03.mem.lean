/-! THE MEMORY OF THE SYSTEM as functions of (kind, instance, place); every contract of the class and of the reference speaks of it. -/
abbrev mS : Type := Nat → Nat → Nat → Int32
abbrev mL : Type := Nat → Nat → Nat → Int64
abbrev mR : Type := Nat → Nat → Nat → Option (Nat × Nat)
abbrev mA : Type := Nat → Nat → Nat
abbrev mD : Type := Nat → Nat → Prop
abbrev mG : Type := va_G × (Nat → ClassId)
/-- by kind: an array (element code: 0 int, 1 byte, 2 boolean, 3 long, 4 int[], 5 Phone; length), or an object (its class) -/
def msh : Nat → (Nat × Nat) ⊕ Nat := fun k => match k with
  | 0 => .inr 8 | 1 => .inr 5 | 2 => .inl (1, 700)
  | 3 => .inr 0 | 4 => .inl (3, 10) | 5 => .inl (4, 10) | 6 => .inl (0, 8)
  | 7 => .inr 7 | 8 => .inl (0, 10) | 9 => .inl (2, 10) | 10 => .inl (0, 50) | 11 => .inl (0, 50)
  | 12 => .inr 6 | 13 => .inl (0, 10) | 14 => .inl (0, 10) | 15 => .inl (0, 10) | 16 => .inl (2, 10)
  | 17 => .inr 1 | 18 => .inl (0, 10) | 19 => .inl (0, 10) | 20 => .inl (0, 40) | 21 => .inl (0, 100)
  | 22 => .inr 3 | 23 => .inl (0, 72) | 24 => .inl (0, 10)
  | 25 => .inr 4 | 26 => .inl (0, 10) | 27 => .inl (0, 10) | 28 => .inl (0, 10) | 29 => .inl (0, 10) | 30 => .inl (0, 50)
  | 31 => .inr 2 | 32 => .inl (5, 10) | 33 => .inl (5, 2) | 34 => .inl (2, 2)
  | 40 => .inr 9 | 41 => .inl (0, 80) | 42 => .inl (3, 10) | 43 => .inl (0, 4) | 44 => .inl (0, 438) | 45 => .inl (1, 700)
  | 46 => .inl (0, 80) | 47 => .inl (3, 10) | 48 => .inl (0, 4) | 49 => .inl (0, 438) | 50 => .inl (0, 438)
  | 51 => .inl (0, 4380) | 52 => .inl (0, 876) | 53 => .inl (2, 2)
  | _ => .inl (3, 1)
/-- a class's name, table, number of fields, types, by its number in vwCl -/
def mCR : Nat → String := fun k => match k with | 0 => RX0 | 1 => RX1 | 2 => RX2 | 3 => RX3 | 4 => RX4 | 5 => RX5 | 6 => RX6 | 7 => RX7 | 8 => RX8 | _ => RX9
def mCT : Nat → u_T := fun k => match k with | 0 => TX0 | 1 => TX1 | 2 => TX2 | 3 => TX3 | 4 => TX4 | 5 => TX5 | 6 => TX6 | 7 => TX7 | 8 => TX8 | _ => TX9
def mCy : Nat → Nat → FieldType := fun k => match k with | 0 => tyX0 | 1 => tyX1 | 2 => tyX2 | 3 => tyX3 | 4 => tyX4 | 5 => tyX5 | 6 => tyX6 | 7 => tyX7 | 8 => tyX8 | _ => tyX9
def mCN : Nat → Nat := fun k => match k with | 0 => 9 | 1 => 6 | 2 => 3 | 3 => 4 | 4 => 13 | 5 => 12 | 6 => 6 | 7 => 7 | 8 => 11 | _ => 31
/-- what a field holds: 0 an int or a boolean, 1 a long, 2 a reference -/
def mfc (t : FieldType) : Nat := match t with | .int => 0 | .boolean => 0 | .long => 1 | _ => 2
def mlw : List Cond := lw_tbl.filter goodWord
theorem mlw_in {w : Cond} (h : w ∈ lw_tbl) (hg : goodWord w = true) : w ∈ mlw := List.mem_filter.mpr ⟨h, hg⟩
theorem mlw_t {w : Cond} (i : Nat) (h : tables_1[i]? = some w) (hg : goodWord w = true) : w ∈ mlw := mlw_in (List.mem_append_right _ (List.mem_of_getElem? h)) hg
theorem mlw_s {y : MethodName} {n : Nat} (i : Nat) (h : lw_privs[i]? = some (y, n)) : Cond.selects y.cls y y ∈ mlw := mlw_in (List.mem_append_left _ (List.mem_map.mpr ⟨(y, n), List.mem_of_getElem? h, rfl⟩)) rfl
theorem mC_in : ∀ ci, ci < 10 → ∀ w ∈ u_ws (mCR ci) (mCT ci) (mCN ci), w ∈ mlw := by
  intro ci hci w hw
  have h : ∀ ci, ci < 10 → ∀ w ∈ u_ws (mCR ci) (mCT ci) (mCN ci), w ∈ lw_tbl ∧ goodWord w = true := by decide +kernel
  exact mlw_in (h ci hci w hw).1 (h ci hci w hw).2
theorem mC_ty : ∀ ci, ci < 10 → ∀ k, k < mCN ci → parseFieldDescriptor (mCT ci k).2.2.1 = some (mCy ci k) := by decide +kernel
theorem mC_nm : ∀ ci, ci < 10 → ∀ a, a < mCN ci → ∀ b, b < mCN ci → a ≠ b → (mCT ci a).2.1 ≠ (mCT ci b).2.1 := by decide +kernel
theorem mC_cl (ci : Nat) (h : ci < 10) : vwCl[ci]? = some (mCR ci, mCT ci, mCN ci) := by
  match ci, h with
  | 0, _ => rfl | 1, _ => rfl | 2, _ => rfl | 3, _ => rfl | 4, _ => rfl | 5, _ => rfl | 6, _ => rfl | 7, _ => rfl | 8, _ => rfl | 9, _ => rfl
/-- the array classes -/
def mty : Nat → FieldType := fun k => match k with | 0 => .int | 1 => .byte | 2 => .boolean | 3 => .long | 4 => .array .int | _ => .object "PhoneMemory$Phone"
def mtys (cA : Nat → ClassId) : List (ClassId × FieldType) := [(cA 0, .int), (cA 1, .byte), (cA 2, .boolean), (cA 3, .long), (cA 4, .array .int), (cA 5, .object "PhoneMemory$Phone")]
theorem mtys_at (cA : Nat → ClassId) (k : Nat) (h : k < 6) : (mtys cA)[k]? = some (cA k, mty k) := by
  match k, h with
  | 0, _ => rfl | 1, _ => rfl | 2, _ => rfl | 3, _ => rfl | 4, _ => rfl | 5, _ => rfl
def mrf (ad : mA) (r : Option (Nat × Nat)) : Option Nat := r.map (fun q => ad q.1 q.2)
def mcell (ad : mA) (S : mS) (L : mL) (R : mR) (q : Nat × Nat) (kd i : Nat) : vp_A := match q.1 with
  | 3 => (q.2, .inr (.inl (L kd i)))
  | 4 => (q.2, .inr (.inr (.inr (.inr (fun j => mrf ad (R kd i j))))))
  | 5 => (q.2, .inr (.inr (.inr (.inr (fun j => mrf ad (R kd i j))))))
  | _ => (q.2, .inl (S kd i))
def mval (ad : mA) (S : mS) (L : mL) (R : mR) (ci kd i j : Nat) : Value := match mfc (mCy ci j) with
  | 0 => .int (S kd i j)
  | 1 => .long (L kd i j)
  | _ => va_rf (mrf ad (R kd i j))
def mat (G : mG) (ad : mA) (S : mS) (L : mL) (R : mR) (kd i : Nat) (H : Heap) : Prop := match msh kd with
  | .inl q => H[ad kd i]? = some (vp_cell (G.2 q.1) (mcell ad S L R q kd i))
  | .inr ci => t_OB (ad kd i) (G.1.1 ci) (mCN ci) (G.1.2 ci) H (mval ad S L R ci kd i)
/-- the addresses are apart, lie in A, and the heap holds the cells -/
def mH (G : mG) (A : Nat → Prop) (ad : mA) (dm : mD) (S : mS) (L : mL) (R : mR) (H : Heap) : Prop :=
  (∀ k i k' i', dm k i → dm k' i' → ad k i = ad k' i' → k = k' ∧ i = i') ∧ (∀ k i, dm k i → A (ad k i)) ∧ ∀ k i, dm k i → mat G ad S L R k i H
theorem mat.kept {G : mG} {ad : mA} {S : mS} {L : mL} {R : mR} {k i : Nat} {H H1 : Heap} (h : mat G ad S L R k i H) (e : H1[ad k i]? = H[ad k i]?) : mat G ad S L R k i H1 := by
  unfold mat at h ⊢
  split at h
  · exact e.trans h
  · exact h.kept e
theorem mat.to {G : mG} {ad : mA} {S S' : mS} {L L' : mL} {R R' : mR} {k i : Nat} {H : Heap} (h : mat G ad S L R k i H) (hS : S k i = S' k i) (hL : L k i = L' k i) (hR : R k i = R' k i) : mat G ad S' L' R' k i H := by
  unfold mat mcell mval at h ⊢
  rw [← hS, ← hL, ← hR]
  exact h
theorem mat.obj {G : mG} {ad : mA} {S : mS} {L : mL} {R : mR} {k i ci : Nat} {H : Heap} (hs : msh k = .inr ci) : mat G ad S L R k i H ↔ t_OB (ad k i) (G.1.1 ci) (mCN ci) (G.1.2 ci) H (mval ad S L R ci k i) := by
  unfold mat
  rw [hs]
theorem mat.arr {G : mG} {ad : mA} {S : mS} {L : mL} {R : mR} {k i : Nat} {q : Nat × Nat} {H : Heap} (hs : msh k = .inl q) : mat G ad S L R k i H ↔ H[ad k i]? = some (vp_cell (G.2 q.1) (mcell ad S L R q k i)) := by
  unfold mat
  rw [hs]
def up3 {α : Type} (S : Nat → Nat → Nat → α) (k i j : Nat) (v : α) : Nat → Nat → Nat → α := fun k' i' j' => if k' = k ∧ i' = i ∧ j' = j then v else S k' i' j'
theorem up3_s {α : Type} (S : Nat → Nat → Nat → α) (k i j : Nat) (v : α) : up3 S k i j v k i j = v := by simp [up3]
theorem up3_k {α : Type} (S : Nat → Nat → Nat → α) {k i j : Nat} {v : α} {k' : Nat} (h : k' ≠ k) : up3 S k i j v k' = S k' := by funext i' j'; simp [up3, h]
theorem up3_i {α : Type} (S : Nat → Nat → Nat → α) {k i j : Nat} {v : α} {k' i' : Nat} (h : i' ≠ i) : up3 S k i j v k' i' = S k' i' := by funext j'; simp [up3, h]
theorem up3_j {α : Type} (S : Nat → Nat → Nat → α) {k i j : Nat} {v : α} {k' i' j' : Nat} (h : j' ≠ j) : up3 S k i j v k' i' j' = S k' i' j' := by simp [up3, h]
/-- one cell is written, the others stay -/
theorem mH.put {G : mG} {A : Nat → Prop} {ad : mA} {dm : mD} {S S' : mS} {L L' : mL} {R R' : mR} {H H1 : Heap} (h : mH G A ad dm S L R H) {k i : Nat} (hd : dm k i) (oq : ∀ q : Nat, q ≠ ad k i → H1[q]? = H[q]?) (hn : mat G ad S' L' R' k i H1)
    (hS : ∀ k' i', ¬ (k' = k ∧ i' = i) → S k' i' = S' k' i') (hL : ∀ k' i', ¬ (k' = k ∧ i' = i) → L k' i' = L' k' i') (hR : ∀ k' i', ¬ (k' = k ∧ i' = i) → R k' i' = R' k' i') : mH G A ad dm S' L' R' H1 := by
  refine ⟨h.1, h.2.1, fun k' i' hd' => ?_⟩
  by_cases e : k' = k ∧ i' = i
  · obtain ⟨rfl, rfl⟩ := e
    exact hn
  · have ne : ad k' i' ≠ ad k i := fun z => e (h.1 k' i' k i hd' hd z)
    exact ((h.2.2 k' i' hd').kept (oq _ ne)).to (hS k' i' e) (hL k' i' e) (hR k' i' e)
theorem up3_off {α : Type} (S : Nat → Nat → Nat → α) (k i j : Nat) (v : α) : ∀ k' i', ¬ (k' = k ∧ i' = i) → S k' i' = up3 S k i j v k' i' := by
  intro k' i' h
  funext j'
  simp only [up3]
  rw [if_neg (fun q => h ⟨q.1, q.2.1⟩)]
/-- the texts' bytes, keyword by keyword -/
def kwb : Nat → List Int32 := fun i => match i with
  | 0 => [112, 104, 111, 110, 101]
  | 1 => [112, 114, 111, 103, 114, 97, 109]
  | 2 => [119, 111, 114, 107]
  | 3 => [99, 111, 115, 116, 115]
  | 4 => [112, 111, 108, 105, 99, 121]
  | 5 => [112, 114, 111, 109, 105, 115, 101]
  | 6 => [115, 105, 122, 101]
  | 7 => [114, 101, 99, 101, 110, 116]
  | _ => []
/-- the String constants: class, place in its pool, text, its number -/
def sR : List (String × Nat × String × Nat) := [(RX5, 56, "phone", 0), (RX5, 78, "program", 1), (RX5, 84, "work", 2), (RX5, 89, "costs", 3), (RX5, 94, "policy", 4), (RX5, 130, "promise", 5), (RX5, 134, "size", 6), (RX5, 136, "recent", 7), (RX9, 189, "phone", 0), (RX9, 165, "program", 1), (RX9, 171, "work", 2), (RX9, 176, "costs", 3), (RX9, 180, "policy", 4), (RX9, 152, "promise", 5), (RX9, 158, "size", 6), (RX9, 160, "recent", 7), (RX8, 76, "no such length", 8), (RX8, 136, "no such count", 9), (RX8, 148, "no such program", 10), (RX8, 181, "no such property", 11), (RX8, 183, "no such number", 12), (RX8, 209, "no such kind of step", 13), (RX8, 322, "no such policy", 14), (RX8, 254, "no such part", 15), (RX8, 259, "no such kind", 16), (RX8, 270, "not enough memory", 17), (RX8, 279, "no such number of minutes", 18), (RX8, 284, "no such notice", 19), (RX8, 289, "no program is shown", 20), (RX8, 298, "no notice waits", 21), (RX8, 303, "no program can have the step", 22), (RX8, 312, "it is closed", 23), (RX8, 317, "no such limit", 24), (RX8, 327, "no such slot", 25), (RX8, 332, "the slot is empty", 26)]
/-- words of the tables that a launch keeps, but no list of good words holds: the exceptions', the nest mates', two array classes -/
def eIA : String := "java/lang/IllegalArgumentException"
def eIO : String := "java/lang/IndexOutOfBoundsException"
def eIS : String := "java/lang/IllegalStateException"
def cwE : List String := [eIA, eIO, eIS]
def cwD : List String := ["java/lang/RuntimeException", "java/lang/Exception", "java/lang/Throwable"]
def cwN : List (String × Nat × MethodName × String) := [(RX8, 15, ⟨RX5, "<init>", "()V"⟩, RX8), (RX8, 32, ⟨RX7, "<init>", "()V"⟩, RX8), (RX4, 11, ⟨RX1, "<init>", "()V"⟩, RX8), (RX4, 20, ⟨RX3, "<init>", "()V"⟩, RX8)]
def mAO (t : FieldType) (U : State) : Prop := (Cond.arrayOver (.array t)).before #[] U = true
theorem mAO.moved {t : FieldType} {u U : State} (hvm : u.vm.Alike U.vm) (h : mAO t u) : mAO t U := by
  obtain ⟨comp, c, k, h1, h2, h3, h4, h5⟩ := arrayOverA_spec h
  obtain ⟨k', hk', he⟩ := hvm.2.2 _ _ h3
  have hi : (U.vm.classes.findIdx? fun (x : Class) => match x.kind with | .array component _ => component == comp | _ => false) = some c := by
    have e := va_idx_bare U.vm comp
    first | rw [hvm.bare_eq] at e | rw [← hvm.bare_eq] at e
    exact e.symm.trans ((va_idx_bare u.vm comp).trans h2)
  have hkind : k'.kind = .array comp (.array t) := by rw [he]; exact h4
  have f1 : U.vm.findClass (FieldType.array t).toString = some comp := by rw [hvm.findClass]; exact h1
  have f2 : U.vm.findClass ("[" ++ (FieldType.array t).toString) = some c := by rw [hvm.findClass]; exact h5
  unfold mAO Cond.before Cond.holds
  simp only [Cond.value]
  rw [f1, Option.bind_some]
  refine (congrArg (fun o : Option Nat => (o.bind (fun c => (U.vm.classes[c]?).map fun (k : Class) => match k.kind with | .array _ ty => decide (ty = FieldType.array t) && decide (U.vm.findClass ("[" ++ (FieldType.array t).toString) = some c) | _ => false) == some true)) hi).trans ?_
  simp [hk', hkind, f2]
def CW (U : State) : Prop := (∀ x ∈ cwD, va_Nw (.declares (Bundle.initS x)) U) ∧ (∀ E ∈ cwE, va_Nw (.castable E E) U) ∧ (∀ a ∈ cwE, ∀ b ∈ cwE, a ≠ b → va_Nc a b U) ∧ (∀ q ∈ cwN, va_Nw (.methodLinkNest q.1 q.2.1 q.2.2.1 q.2.2.2) U) ∧ va_AO "PhoneMemory$Phone" U ∧ mAO .int U
theorem CW.go {s U : State} (h : CW s) (hW : s.WarmedH U.vm) : CW U := by
  obtain ⟨a, b, c, d, e, f⟩ := h
  exact ⟨fun x hx => (a x hx).warmD hW, fun E hE => (b E hE).warmC hW, fun x hx y hy hn => (c x hx y hy hn).moved hW.alike, fun q hq => (d q hq).warmM hW, e.moved hW.alike, f.moved hW.alike⟩
/-- what never changes: the texts and some statics, outside of what is written -/
def CF (G : va_G × (Nat → ClassId)) (A : Nat → Prop) (U : State) (H : Heap) : Prop :=
  (vx_Zq Bundle.tN "UNASSIGNED_STACK" Bundle.steD A U H ∧ vx_Zq Bundle.tN "SUPPRESSED_SENTINEL" Bundle.listD A U H) ∧
  (va_Z "java/lang/String" "COMPACT_STRINGS" "Z" (.int 1) A U H ∧ va_Zq "jdk/internal/util/Preconditions" "SIOOBE_FORMATTER" "Ljava/util/function/BiFunction;" A U H) ∧
  (∀ i, i < 8 → va_O "java/lang/String" (G.2 (100 + i)) A U H ∧ va_OF "java/lang/String" "coder" "B" (.int 0) (G.2 (100 + i)) A U H ∧ va_OF "java/lang/String" "value" "[B" (.ref (G.2 (200 + i))) (G.2 (100 + i)) A U H ∧ va_T .byte (G.2 (200 + i)) (kwb i).length (fun j => .int ((kwb i).getD j 0)) A U H) ∧
  (∀ q ∈ sR, vk_R q.1 q.2.1 q.2.2.1 (G.2 (100 + q.2.2.2)) U) ∧ CW U
theorem CF.go {G : va_G × (Nat → ClassId)} {A B : Nat → Prop} {s U : State} (h : CF G A s s.heap) (hW : s.WarmedH U.vm) (hk : ∀ a : Nat, a < s.heap.size → ¬ A a → U.heap[a]? = s.heap[a]?) (hAB : ∀ q, B q → A q) : CF G B U U.heap := by
  obtain ⟨⟨a1, a2⟩, ⟨a3, a4⟩, a5, a6, a7⟩ := h
  refine ⟨⟨((a1.kept hk).moved hW.alike).narrow hAB, ((a2.kept hk).moved hW.alike).narrow hAB⟩, ⟨(va_Z.moved hW.alike (a3.kept hk)).narrow hAB, (va_Zq.moved hW.alike (a4.kept hk)).narrow hAB⟩, fun i hi => ?_, fun q hq => (a6 q hq).warm hW, a7.go hW⟩
  obtain ⟨b1, b2, b3, b4⟩ := a5 i hi
  exact ⟨(va_O.moved hW.alike (b1.kept hk)).narrow hAB, (va_OF.moved hW.alike (b2.kept hk)).narrow hAB, (va_OF.moved hW.alike (b3.kept hk)).narrow hAB, (va_T.moved hW.alike (b4.kept hk)).narrow hAB⟩
abbrev mX : Type := Program × Launch × Env × Room × State × MethodId × Array Value × List Frame × Method × Code × (State → Prop) × mG × (Nat → Prop)
/-- the machine stands in a method of own, with code cc, nL locals and the room rm -/
def mK (X : mX) (own : String) (cc : ByteArray) (nL : Nat) (rm : Room) : Prop := match X with
  | (p, _, _, Rm, s, m, args, _, _, c, _, G, A) => p.tables.exec = Jvm.exec ∧ c.code = cc ∧ c.maxLocals = nL ∧ s.vm.findClass own = some m.cls ∧ (∀ w ∈ mlw, w.before args s = true) ∧ Rm = rm ∧ va_K G.1 vwCl (mtys G.2) s ∧ (∀ q, s.heap.size ≤ q → A q) ∧ CF G A s s.heap
/-- from here, with this memory, this frame, the machine comes to its method's end as it must -/
def Z (X : mX) (nL : Nat) (ad : mA) (dm : mD) (S : mS) (L : mL) (R : mR) (ce sl pc : Nat) (lv : List (Nat × Value)) (st : List Value) : Prop := match X with
  | (p, l, e, Rm, s, m, args, below, meth, c, Q, G, A) => ∀ (H : Heap) (locs : List Loc) (ls : Array Slot), mH G A ad dm S L R H → va_S A s.heap H locs → lv_has ls nL lv → W p l e Rm s m args below meth c H locs ce sl Q (F0 m pc ls st)
