/-! THE MATHEMATICAL PHONE: a row N of numbers (the reference's layout), T the told numbers, c the costs, n programs -/
abbrev NN : Type := Nat → Int32
def smI (f : NN) : Nat → Int32
  | 0 => 0
  | n + 1 => smI f n + f n
theorem smI_cong {f g : NN} : ∀ {n : Nat}, (∀ k, k < n → f k = g k) → smI f n = smI g n
  | 0, _ => rfl
  | n + 1, h => by rw [smI, smI, smI_cong (fun k hk => h k (Nat.lt_succ_of_lt hk)), h n (Nat.lt_succ_self n)]
def fo (N : NN) (p w : Nat) : Int32 := N (6 + 20 * p + w)
def fset (N : NN) (p w : Nat) (v : Int32) : NN := upd N (6 + 20 * p + w) v
/-- the memory with another row for one array (instance 0) -/
def sA (S : mS) (kd : Nat) (A : NN) : mS := fun k i j => if k = kd ∧ i = 0 then A j else S k i j
theorem sA_s (S : mS) (kd : Nat) (A : NN) : sA S kd A kd 0 = A := by funext j; simp [sA]
theorem sA_n (S : mS) {kd : Nat} (A : NN) {k i : Nat} (h : k ≠ kd) : sA S kd A k i = S k i := by funext j; simp [sA, h]
theorem sA_sA (S : mS) (kd : Nat) (A B : NN) : sA (sA S kd A) kd B = sA S kd B := by funext k i j; simp only [sA]; split <;> rfl
theorem sA_id (S : mS) (kd : Nat) : sA S kd (S kd 0) = S := by
  funext k i j
  simp only [sA]
  split
  · rename_i h
    rw [h.1, h.2]
  · rfl
theorem sA_up (S : mS) (kd k : Nat) (v : Int32) : up3 S kd 0 k v = sA S kd (upd (S kd 0) k v) := by
  funext k' i' j'
  simp only [up3, sA, upd]
  by_cases h : k' = kd ∧ i' = 0
  · obtain ⟨rfl, rfl⟩ := h
    simp
  · rw [if_neg (fun q => h ⟨q.1, q.2.1⟩), if_neg h]
theorem sA_comm (S : mS) {a b : Nat} (h : a ≠ b) (A B : NN) : sA (sA S a A) b B = sA (sA S b B) a A := by
  funext k i j
  simp only [sA]
  by_cases h1 : k = b ∧ i = 0
  · rw [if_pos h1, if_neg (fun q => h (q.1.symm.trans h1.1)), if_pos h1]
  · rw [if_neg h1]
    by_cases h2 : k = a ∧ i = 0
    · rw [if_pos h2, if_pos h2]
    · rw [if_neg h2, if_neg h2, if_neg h1]
theorem upd_s (f : NN) (k : Nat) (v : Int32) : upd f k v k = v := by simp [upd]
theorem upd_n (f : NN) {k j : Nat} {v : Int32} (h : j ≠ k) : upd f k v j = f j := by simp [upd, h]
theorem fo_set_s (N : NN) (p w : Nat) (v : Int32) : fo (fset N p w v) p w = v := by simp [fo, fset, upd]
theorem fo_set_w (N : NN) {p w q x : Nat} {v : Int32} (h : x ≠ w) (hw : w < 20) (hx : x < 20) : fo (fset N p w v) q x = fo N q x := by
  unfold fo fset
  exact upd_n N (by omega)
theorem fo_set_p (N : NN) {p w q x : Nat} {v : Int32} (h : q ≠ p) (hw : w < 20) (hx : x < 20) : fo (fset N p w v) q x = fo N q x := by
  unfold fo fset
  exact upd_n N (by omega)
theorem fset_lo (N : NN) {p w j : Nat} {v : Int32} (h : j < 6) : fset N p w v j = N j := upd_n N (by omega)
theorem fset_hi (N : NN) {p w j : Nat} {v : Int32} (hp : p < 10) (hw : w < 20) (h : 206 ≤ j) : fset N p w v j = N j := upd_n N (by omega)
def fUses (N T : NN) (p : Nat) : Int32 :=
  if fo N p 0 = nI 0 then nI 0 else if fo N p 0 = nI 4 then (fo N p 1 * T (8 * p + 4) + nI 99) / nI 100 else if fo N p 0 = nI 5 then T (8 * p + 5) else fo N p 1 + fo N p 2
def fAll (N T : NN) (n : Nat) : Int32 := smI (fUses N T) n
def fHabit (N : NN) (p : Nat) : Int32 := if fo N p 10 = 0 then nI 600 else smI (fun k => fo N p (11 + k)) (fo N p 10).toNatClampNeg / fo N p 10
def fFol (N : NN) (a b : Nat) : Int32 := N (206 + 10 * a + b)
def fExp (N : NN) (n p : Nat) : Prop := ¬ N 3 = -1 ∧ 0 < fFol N (N 3).toNatClampNeg p ∧ smI (fFol N (N 3).toNatClampNeg) n ≤ nI 2 * fFol N (N 3).toNatClampNeg p
def fAway (N : NN) (p : Nat) : Int32 := if fo N p 0 = nI 1 then nI 0 else N 1 - fo N p 8
noncomputable def fProm (N : NN) (n p : Nat) : Int32 :=
  haveI := Classical.propDecidable
  if fo N p 0 = nI 1 ∨ fExp N n p then nI 0 else if fo N p 9 = 0 then nI 600 else if fHabit N p - fAway N p < 0 then nI 0 else fHabit N p - fAway N p
def fPrec (N : NN) (p : Nat) : Prop := 0 < fo N p 4 ∧ N 1 < fo N p 5 + nI 60
def fCan (N : NN) (p kind : Nat) : Prop :=
  if kind = 1 then (fo N p 0 = nI 2 ∨ fo N p 0 = nI 3) ∧ 0 < fo N p 2
  else if kind = 2 then fo N p 0 = nI 3 ∧ fo N p 6 = 0
  else if kind = 3 then fo N p 0 = nI 2 ∧ fo N p 6 = 0
  else if kind = 4 then fo N p 0 = nI 4 ∧ fo N p 6 = 0
  else if kind = 5 then fo N p 0 = nI 5 ∧ fo N p 6 = 0
  else fo N p 0 = nI 1 ∧ 0 < fo N p 2
noncomputable def fRank (N T : NN) (n p : Nat) : Int32 := if N 4 = 0 then fProm N n p else if N 4 = nI 1 then fUses N T p else fAway N p
noncomputable def fAhead (N T : NN) (n p o kind : Nat) : Prop :=
  haveI := Classical.propDecidable
  if (kind = 4 ∨ kind = 5) ∧ ¬ (fPrec N p ↔ fPrec N o) then ¬ fPrec N p else fRank N T n o < fRank N T n p
/-- the victim among the first k programs -/
noncomputable def fVicF (N T : NN) (n kind : Nat) : Nat → Option Nat
  | 0 => none
  | p + 1 =>
    haveI := Classical.propDecidable
    if fCan N p kind ∧ (∀ o, fVicF N T n kind p = some o → fAhead N T n p o kind) then some p else fVicF N T n kind p
noncomputable def fVic (N T : NN) (n kind : Nat) : Option Nat := fVicF N T n kind n
def oI (o : Option Nat) : Int32 := match o with | none => -1 | some p => nI p
/-- a new entry in the log -/
def fWr (N : NN) (kind p : Nat) : NN := fun j =>
  if 309 ≤ j ∧ j < 378 then N (j - 3) else if j = 306 then nI kind else if j = 307 then nI p else if j = 308 then N 1
  else if j = 5 then (N 5 + if N 5 < nI 24 then nI 1 else nI 0) else if j = 378 + kind then N j + nI 1 else N j
def fEmpty (N : NN) (p : Nat) : NN := fset (fset (fset (fset (fset N p 0 (nI 0)) p 1 (nI 0)) p 2 (nI 0)) p 3 (nI 0)) p 15 (nI 0)
/-- a trim step, without its entry -/
def fStep0 (N : NN) (p kind : Nat) : NN :=
  if kind = 5 then fEmpty N p else if kind = 3 then fset N p 0 (nI 3)
  else fset (fset (fset N p 2 (nI 0)) p 0 (if kind = 2 then nI 4 else if kind = 4 then nI 5 else fo N p 0)) p 1 (if kind = 4 then nI 0 else fo N p 1)
def fStep (N : NN) (p kind : Nat) : NN := fWr (fStep0 N p kind) kind p
/-- the smallest kind from k on, of m kinds, that a program can have -/
noncomputable def fKindF (N T : NN) (n : Nat) : Nat → Nat → Option (Nat × Nat)
  | 0, _ => none
  | m + 1, k => match fVic N T n k with
    | some p => some (k, p)
    | none => fKindF N T n m (k + 1)
noncomputable def fKind (N T : NN) (n : Nat) : Option (Nat × Nat) := fKindF N T n 6 1
/-- memory is made: the number of steps and the row behind them, none if it is refused -/
noncomputable def fMemF (T : NN) (n : Nat) : Nat → NN → Option (Nat × NN)
  | 0, _ => none
  | f + 1, N => if N 0 < fAll N T n then
      (match fKind N T n with
        | none => none
        | some (k, p) => (fMemF T n f (fStep N p k)).map (fun q => (q.1 + 1, q.2)))
    else some (0, N)
noncomputable def fMem (N T : NN) (n : Nat) : Option (Nat × NN) := fMemF T n 60 N
def fWait (N T c : NN) (p : Nat) : Int32 :=
  if fo N p 0 = nI 0 then c 0 * T (8 * p) else if fo N p 0 = nI 1 then nI 0 else if fo N p 0 = nI 4 then c 3 + c 1 * fo N p 1 else if fo N p 0 = nI 5 then c 2 * T (8 * p) else c 3
def fRest (N : NN) (p : Nat) : NN := fset (fset (fset N p 0 (nI 2)) p 7 (N 1)) p 8 (N 1)
/-- the shown program, if there is one, rests -/
def fRests (N : NN) : NN := if N 2 = -1 then N else fRest N (N 2).toNatClampNeg
def fLay (N T : NN) (p : Nat) : NN :=
  let M := fRests N
  let was := fo M p 0
  let M2 := if was = nI 0 ∨ was = nI 5 then fset (fset (fset M p 1 (T (8 * p))) p 2 (T (8 * p + 1))) p 3 (if was = nI 0 then nI 0 else fo M p 3) else M
  upd (upd (fset M2 p 0 (nI 1)) 2 (nI p)) 3 (nI p)
/-- a gap, if the program was shown before -/
def fGap (N : NN) (p : Nat) : NN :=
  if fo N p 9 = nI 1 then
    let M := if fo N p 10 = nI 4 then fset (fset (fset (fset N p 11 (fo N p 12)) p 12 (fo N p 13)) p 13 (fo N p 14)) p 10 (nI 3) else N
    fset (fset M p (11 + (fo M p 10).toNatClampNeg) (M 1 - fo M p 8)) p 10 (fo M p 10 + nI 1)
  else N
def fHab (N : NN) (p : Nat) (before : Int32) : NN :=
  let M := fset (fGap N p) p 9 (nI 1)
  if ¬ before = -1 ∧ ¬ before = nI p then upd M (206 + 10 * before.toNatClampNeg + p) (M (206 + 10 * before.toNatClampNeg + p) + nI 1) else M
def fComp (N : NN) (p : Nat) : NN := let M := fset N p 4 (fo N p 4 + nI 1); fWr (fset M p 5 (M 1)) 8 p
/-- a program that is not shown is shown: wait, steps, the row behind it -/
noncomputable def fShow (N T c : NN) (n p : Nat) : Option (Nat × NN) :=
  match fMem (fLay N T p) T n with
  | none => none
  | some (k, M) =>
    let M2 := fWr (fHab M p (N 3)) 7 p
    some (k, if T (8 * p + 6) < fWait N T c p then fComp M2 p else M2)
