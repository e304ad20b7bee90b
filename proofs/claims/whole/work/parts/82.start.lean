/-! THE START: what the tables and the premises say, as CF and va_K want it -/
def lwG : Jvm.Cond := Jvm.Cond.and given_1 narrow_1
def kwi : Nat → Nat := fun i => [56, 78, 84, 89, 94, 130, 134, 136].getD i 0
def kwj : Nat → Nat := fun i => [189, 165, 171, 176, 180, 152, 158, 160].getD i 0
def kwt (i : Nat) : Term := .string RX5 (kwi i)
theorem gk_ex : ∀ i, i < 8 → Cond.exactly (kwt i) "java/lang/String" ∈ flatC lwG := by decide +kernel
theorem gk_co : ∀ i, i < 8 → Cond.eq (.field (kwt i) "java/lang/String" "coder" "B") (.int 0) ∈ flatC lwG := by decide +kernel
theorem gk_ar : ∀ i, i < 8 → Cond.arrayOf (.field (kwt i) "java/lang/String" "value" "[B") .byte ∈ flatC lwG := by decide +kernel
theorem gk_le : ∀ i, i < 8 → Cond.eq (.length (.field (kwt i) "java/lang/String" "value" "[B")) (.int (Int32.ofNat (kwb i).length)) ∈ flatC lwG := by decide +kernel
theorem gk_el : ∀ i, i < 8 → ∀ j, j < (kwb i).length → Cond.eq (.elem (.field (kwt i) "java/lang/String" "value" "[B") (.int (Int32.ofNat j))) (.int ((kwb i).getD j 0)) ∈ flatC lwG := by decide +kernel
theorem gk_eq : ∀ i, i < 8 → Cond.eq (kwt i) (.string RX9 (kwj i)) ∈ flatC lwG := by decide +kernel
theorem gk_sR : ∀ q ∈ sR, Cond.exactly (.string q.1 q.2.1) "java/lang/String" ∈ flatC lwG := by decide +kernel
theorem gk_rf : ∀ q ∈ sR, Cond.stringRef q.1 q.2.1 q.2.2.1 ∈ lw_tbl := by decide +kernel
theorem gk_nc : ∀ a ∈ cwE, ∀ b ∈ cwE, a ≠ b → Cond.not (.castable a b) ∈ flatC lwG := by decide +kernel
theorem gk_cs : ∀ a ∈ cwE, Cond.castable a a ∈ lw_tbl := by decide +kernel
theorem gk_de : ∀ a ∈ cwD, Cond.declares (Bundle.initS a) ∈ lw_tbl := by decide +kernel
theorem gk_ne : ∀ q ∈ cwN, Cond.methodLinkNest q.1 q.2.1 q.2.2.1 q.2.2.2 ∈ lw_tbl := by decide +kernel
theorem gk_in : ∀ ci, ci < 10 → Cond.instantiable (mCR ci) (mCN ci) ∈ lw_tbl := by decide +kernel
theorem gk_ac : ∀ t, t < 4 → Cond.arrayClass (mty t) ∈ lw_tbl := by decide +kernel
theorem gk_a4 : Cond.arrayOver (.array .int) ∈ lw_tbl := by decide +kernel
theorem gk_a5 : Cond.arrayOver (.object "PhoneMemory$Phone") ∈ lw_tbl := by decide +kernel
/-- keyword i stands in the reader and in the reference: one object -/
theorem gk_one : ∀ q ∈ sR, ∀ r ∈ sR, q.2.2.2 = r.2.2.2 → (q.1 = r.1 ∧ q.2.1 = r.2.1) ∨ ∃ i, i < 8 ∧ ((q.1 = RX5 ∧ q.2.1 = kwi i ∧ r.1 = RX9 ∧ r.2.1 = kwj i) ∨ (r.1 = RX5 ∧ r.2.1 = kwi i ∧ q.1 = RX9 ∧ q.2.1 = kwj i)) := by decide +kernel
theorem gk_lo : ∀ q ∈ sR, q.2.2.2 < 27 := by decide +kernel
theorem gk_hi : ∀ i, i < 27 → ∃ q ∈ sR, q.2.2.2 = i := by decide +kernel
theorem gk_k5 : ∀ i, i < 8 → (RX5, kwi i, (["phone", "program", "work", "costs", "policy", "promise", "size", "recent"].getD i ""), i) ∈ sR := by decide +kernel
theorem lw_CW {args : Array Value} {s : State} (hts : ∀ w ∈ lw_tbl, w.before args s = true) (hg : ∀ w ∈ flatC lwG, w.before args s = true) : CW s :=
  ⟨fun x hx => va_Nw.of (by rfl) (hts _ (gk_de x hx)), fun E hE => va_Nw.of (by rfl) (hts _ (gk_cs E hE)), fun a ha b hb hn => va_Nc.of (hg _ (gk_nc a ha b hb hn)), fun q hq => va_Nw.of (by rfl) (hts _ (gk_ne q hq)), hts _ gk_a5, hts _ gk_a4⟩
theorem lw_arr {args : Array Value} {s : State} (hts : ∀ w ∈ lw_tbl, w.before args s = true) : ∀ t, ∃ cA : ClassId, t < 6 → ArrOfT s cA (mty t) ∧ va_RA s cA (mty t) := by
  have h4 : ∀ t, t < 4 → ∃ cA : ClassId, ArrOfT s cA (mty t) ∧ s.vm.findClass ("[" ++ (mty t).toString) = some cA := fun t ht => by
    obtain ⟨c, k, comp, h1, h2, h3⟩ := Cond.arrayClass_spec (hts _ (gk_ac t ht))
    exact ⟨c, fun n z => ⟨fun k h => (by cases h), k, h2, comp, h3⟩, h1⟩
  intro t
  by_cases ht : t < 6
  · rcases (show t = 0 ∨ t = 1 ∨ t = 2 ∨ t = 3 ∨ t = 4 ∨ t = 5 by omega) with rfl | rfl | rfl | rfl | rfl | rfl
    · obtain ⟨c, a, b⟩ := h4 0 (by omega)
      exact ⟨c, fun _ => ⟨a, b⟩⟩
    · obtain ⟨c, a, b⟩ := h4 1 (by omega)
      exact ⟨c, fun _ => ⟨a, b⟩⟩
    · obtain ⟨c, a, b⟩ := h4 2 (by omega)
      exact ⟨c, fun _ => ⟨a, b⟩⟩
    · obtain ⟨c, a, b⟩ := h4 3 (by omega)
      exact ⟨c, fun _ => ⟨a, b⟩⟩
    · obtain ⟨comp, c, k, h1, h2, h3, h4, h5⟩ := arrayOverA_spec (hts _ gk_a4)
      exact ⟨c, fun _ => ⟨fun n z => ⟨fun k h => (by cases h), k, h3, comp, h4⟩, h5⟩⟩
    · obtain ⟨comp, c, k, h1, h2, h3, h4, h5⟩ := Cond.arrayOver_spec (hts _ gk_a5)
      exact ⟨c, fun _ => ⟨fun n z => ⟨fun k h => (by cases h), k, h3, comp, h4⟩, k, comp, h3, h4, h1, h5⟩⟩
  · exact ⟨0, fun h => absurd h ht⟩
theorem lw_cls {args : Array Value} {s : State} (hts : ∀ w ∈ lw_tbl, w.before args s = true) : ∀ ci, ∃ q : ClassId × (Nat → Nat), ci < 10 → u_Kn s (mCR ci) (mCT ci) (mCN ci) q.1 q.2 := by
  intro ci
  by_cases h : ci < 10
  · obtain ⟨cC, iS, hk⟩ := u_known hts (fun w hw => (List.mem_filter.mp (mC_in ci h w hw)).1) (hts _ (gk_in ci h))
    exact ⟨(cC, iS), fun _ => hk⟩
  · exact ⟨(0, fun _ => 0), fun z => absurd z h⟩
theorem lw_str {args : Array Value} {s : State} (hg : ∀ w ∈ flatC lwG, w.before args s = true) : ∀ i, ∃ a : Nat, i < 27 → ∀ q ∈ sR, q.2.2.2 = i → (Term.string q.1 q.2.1).eval args s none [] s = some (.ref a) := by
  intro i
  by_cases hi : i < 27
  · obtain ⟨q, hq, hqi⟩ := gk_hi i hi
    obtain ⟨a, c, cA, kA, q1, -⟩ := Cond.exactly_spec (args := args) (first := s) (o := none) (s := s) (idx := []) (t := .string q.1 q.2.1) (cls := "java/lang/String") (hg _ (gk_sR q hq))
    refine ⟨a, fun _ r hr hri => ?_⟩
    rcases gk_one q hq r hr (hqi.trans hri.symm) with ⟨e1, e2⟩ | ⟨j, hj, ⟨e1, e2, e3, e4⟩ | ⟨e1, e2, e3, e4⟩⟩
    · rw [← e1, ← e2]
      exact q1
    · obtain ⟨y, h1, h2⟩ := Cond.eq_one (hg _ (gk_eq j hj))
      rw [e3, e4, h2, ← h1]
      rw [e1, e2] at q1
      exact q1
    · obtain ⟨y, h1, h2⟩ := Cond.eq_one (hg _ (gk_eq j hj))
      rw [e1, e2]
      rw [e3, e4, h2] at q1
      rw [← q1]
      exact h1
  · exact ⟨0, fun z => absurd z hi⟩
theorem lw_val {args : Array Value} {s : State} {A : Nat → Prop} (hg : ∀ w ∈ flatC lwG, w.before args s = true) (hA : ∀ a : Nat, a < s.heap.size → ¬ A a) : ∀ i, ∃ t : Nat, i < 8 → (Term.field (kwt i) "java/lang/String" "value" "[B").eval args s none [] s = some (.ref t) ∧ va_T .byte t (kwb i).length (fun j => .int ((kwb i).getD j 0)) A s s.heap := by
  intro i
  by_cases hi : i < 8
  · obtain ⟨t, ht, hT⟩ := va_Tof (f := fun j => .int ((kwb i).getD j 0)) (A := A) (N := (kwb i).length) (by rcases (show i = 0 ∨ i = 1 ∨ i = 2 ∨ i = 3 ∨ i = 4 ∨ i = 5 ∨ i = 6 ∨ i = 7 by omega) with rfl | rfl | rfl | rfl | rfl | rfl | rfl | rfl <;> decide) (hg _ (gk_ar i hi)) (va_eqt (hg _ (gk_le i hi))) (fun j hj => va_eqt (hg _ (gk_el i hi j hj))) hA
    exact ⟨t, fun _ => ⟨ht, hT⟩⟩
  · exact ⟨0, fun z => absurd z hi⟩
theorem lw_G {args : Array Value} {s : State} {A : Nat → Prop} (hts : ∀ w ∈ lw_tbl, w.before args s = true) (hg : ∀ w ∈ flatC lwG, w.before args s = true) (hA : ∀ a : Nat, a < s.heap.size → ¬ A a) : ∃ G : mG, va_K G.1 vwCl (mtys G.2) s ∧ CF G A s s.heap := by
  obtain ⟨cl, hcl⟩ := Classical.axiomOfChoice (lw_cls hts)
  obtain ⟨ar, har⟩ := Classical.axiomOfChoice (lw_arr hts)
  obtain ⟨st, hst⟩ := Classical.axiomOfChoice (lw_str hg)
  obtain ⟨va, hva⟩ := Classical.axiomOfChoice (lw_val hg hA)
  refine ⟨((fun ci => (cl ci).1, fun ci => (cl ci).2), fun k => if k < 100 then ar k else if k < 200 then st (k - 100) else va (k - 200)), ⟨fun c q hq => ?_, fun k q hk => ?_⟩, ⟨vx_Zqof (hts _ (by decide +kernel)) (hts _ (by decide +kernel)) (hg _ (by decide +kernel)) hA, vx_Zqof (hts _ (by decide +kernel)) (hts _ (by decide +kernel)) (hg _ (by decide +kernel)) hA⟩, ⟨va_Zof (hts _ (by decide +kernel)) (hts _ (by decide +kernel)) (va_eqt (hg _ (by decide +kernel))) hA, va_Zqof (hts _ (by decide +kernel)) (hts _ (by decide +kernel)) (hg _ (by decide +kernel)) hA⟩, fun i hi => ?_, fun q hq => ?_, lw_CW hts hg⟩
  · have hc : c < 10 := by
      have := (List.getElem?_eq_some_iff.mp hq).1
      exact this
    have e : (mCR c, mCT c, mCN c) = q := Option.some.inj ((mC_cl c hc).symm.trans hq)
    subst e
    exact hcl c hc
  · have hc : k < 6 := by
      have := (List.getElem?_eq_some_iff.mp hk).1
      exact this
    have e : ((if k < 100 then ar k else if k < 200 then st (k - 100) else va (k - 200)), mty k) = q := Option.some.inj ((mtys_at (fun k => if k < 100 then ar k else if k < 200 then st (k - 100) else va (k - 200)) k hc).symm.trans hk)
    subst e
    rw [if_pos (show k < 100 by omega)]
    exact har k hc
  · have e1 : (if 100 + i < 100 then ar (100 + i) else if 100 + i < 200 then st (100 + i - 100) else va (100 + i - 200)) = st i := by
      rw [if_neg (by omega), if_pos (by omega), Nat.add_sub_cancel_left]
    have e2 : (if 200 + i < 100 then ar (200 + i) else if 200 + i < 200 then st (200 + i - 100) else va (200 + i - 200)) = va i := by
      rw [if_neg (by omega), if_neg (by omega), Nat.add_sub_cancel_left]
    have hk := hst i (by omega) _ (gk_k5 i hi) rfl
    obtain ⟨v1, v2⟩ := hva i hi
    show va_O _ (if 100 + i < 100 then ar (100 + i) else if 100 + i < 200 then st (100 + i - 100) else va (100 + i - 200)) _ _ _ ∧ va_OF _ _ _ _ (if 100 + i < 100 then ar (100 + i) else if 100 + i < 200 then st (100 + i - 100) else va (100 + i - 200)) _ _ _ ∧ va_OF _ _ _ (.ref (if 200 + i < 100 then ar (200 + i) else if 200 + i < 200 then st (200 + i - 100) else va (200 + i - 200))) (if 100 + i < 100 then ar (100 + i) else if 100 + i < 200 then st (100 + i - 100) else va (100 + i - 200)) _ _ _ ∧ va_T _ (if 200 + i < 100 then ar (200 + i) else if 200 + i < 200 then st (200 + i - 100) else va (200 + i - 200)) _ _ _ _ _
    rw [e1, e2]
    exact ⟨va_Oof (hg _ (gk_ex i hi)) hk hA, vk_OFof hk (va_eqt (hg _ (gk_co i hi))) hA, vk_OFof hk v1 hA, v2⟩
  · have hl := gk_lo q hq
    have e1 : (if 100 + q.2.2.2 < 100 then ar (100 + q.2.2.2) else if 100 + q.2.2.2 < 200 then st (100 + q.2.2.2 - 100) else va (100 + q.2.2.2 - 200)) = st q.2.2.2 := by
      rw [if_neg (by omega), if_pos (by omega), Nat.add_sub_cancel_left]
    show vk_R _ _ _ (if 100 + q.2.2.2 < 100 then ar (100 + q.2.2.2) else if 100 + q.2.2.2 < 200 then st (100 + q.2.2.2 - 100) else va (100 + q.2.2.2 - 200)) _
    rw [e1]
    exact vk_R.of (hts _ (gk_rf q hq)) (hst _ hl q hq rfl)
