/-! more rows: comparisons of small naturals with 0; the reference's moves of its row -/
section ZS3
variable {X : mX} {own : String} {cc : ByteArray} {nL : Nat} {rm : Room} {ad : mA} {dm : mD} {S : mS} {L : mL} {R : mR} {ce sl : Nat} {lv : List (Nat × Value)} {rest : List Value}
theorem z_if_leN (C : mK X own cc nL rm) (pc tgt : Nat) {n : Nat} {off : Int} (d : decode cc pc = .ok (.ifCond .le off, 3)) (ht : (pc : Int) + off = (tgt : Int)) (hn : n < 2 ^ 31) (kt : n = 0 → Z X nL ad dm S L R ce sl tgt lv rest) (kf : 0 < n → Z X nL ad dm S L R ce sl (pc + 3) lv rest) : Z X nL ad dm S L R ce sl pc lv (.int (nI n) :: rest) :=
  z_if_le C pc tgt d ht (fun h => kt (Nat.le_zero.mp ((nI_leI hn (by decide)).mp h))) (fun h => kf (Nat.pos_of_ne_zero fun q => h (by rw [q]; decide)))
theorem z_if_gtN (C : mK X own cc nL rm) (pc tgt : Nat) {n : Nat} {off : Int} (d : decode cc pc = .ok (.ifCond .gt off, 3)) (ht : (pc : Int) + off = (tgt : Int)) (hn : n < 2 ^ 31) (kt : 0 < n → Z X nL ad dm S L R ce sl tgt lv rest) (kf : n = 0 → Z X nL ad dm S L R ce sl (pc + 3) lv rest) : Z X nL ad dm S L R ce sl pc lv (.int (nI n) :: rest) :=
  z_if_gt C pc tgt d ht (fun h => kt ((nI_ltI (by decide) hn).mp h)) (fun h => kf (Classical.byContradiction fun q => h ((nI_ltI (a := 0) (by decide) hn).mpr (Nat.pos_of_ne_zero q))))
theorem z_if_eqN (C : mK X own cc nL rm) (pc tgt : Nat) {n : Nat} {off : Int} (d : decode cc pc = .ok (.ifCond .eq off, 3)) (ht : (pc : Int) + off = (tgt : Int)) (hn : n < 2 ^ 31) (kt : n = 0 → Z X nL ad dm S L R ce sl tgt lv rest) (kf : 0 < n → Z X nL ad dm S L R ce sl (pc + 3) lv rest) : Z X nL ad dm S L R ce sl pc lv (.int (nI n) :: rest) :=
  z_if_eq C pc tgt d ht (fun h => kt ((nI_eq hn (by decide)).mp h)) (fun h => kf (Nat.pos_of_ne_zero fun q => h (by rw [q]; decide)))
theorem z_if_neN (C : mK X own cc nL rm) (pc tgt : Nat) {n : Nat} {off : Int} (d : decode cc pc = .ok (.ifCond .ne off, 3)) (ht : (pc : Int) + off = (tgt : Int)) (hn : n < 2 ^ 31) (kt : 0 < n → Z X nL ad dm S L R ce sl tgt lv rest) (kf : n = 0 → Z X nL ad dm S L R ce sl (pc + 3) lv rest) : Z X nL ad dm S L R ce sl pc lv (.int (nI n) :: rest) :=
  z_if_ne C pc tgt d ht (fun h => kt (Nat.pos_of_ne_zero fun q => h (by rw [q]; decide))) (fun h => kf ((nI_eq hn (by decide)).mp h))
/-- a small switch by its keys: one of them, or the default -/
theorem z_look3 (C : mK X own cc nL rm) (pc t0 t1 t2 tgd a0 a1 a2 : Nat) {dflt o0 o1 o2 : Int} {len : Nat} {x : Int32} (d : decode cc pc = .ok (.lookupswitch dflt #[((a0 : Nat), o0), ((a1 : Nat), o1), ((a2 : Nat), o2)], len)) (hlt : a0 < a1 ∧ a1 < a2 ∧ a2 < 2 ^ 31) (h0 : (pc : Int) + o0 = (t0 : Int)) (h1 : (pc : Int) + o1 = (t1 : Int)) (h2 : (pc : Int) + o2 = (t2 : Int)) (hd : (pc : Int) + dflt = (tgd : Int))
    (k0 : x = nI a0 → Z X nL ad dm S L R ce sl t0 lv rest) (k1 : x = nI a1 → Z X nL ad dm S L R ce sl t1 lv rest) (k2 : x = nI a2 → Z X nL ad dm S L R ce sl t2 lv rest) (kd : ¬ x = nI a0 → ¬ x = nI a1 → ¬ x = nI a2 → Z X nL ad dm S L R ce sl tgd lv rest) : Z X nL ad dm S L R ce sl pc lv (.int x :: rest) := by
  have hp : ((#[((a0 : Nat), o0), ((a1 : Nat), o1), ((a2 : Nat), o2)] : Array (Int × Int)).toList.zip ((#[((a0 : Nat), o0), ((a1 : Nat), o1), ((a2 : Nat), o2)] : Array (Int × Int)).toList.drop 1)).all (fun (a, next) => a.1 < next.1) = true := by
    simp
    omega
  by_cases e0 : x = nI a0
  · refine z_look C pc t0 d hp (off := o0) ?_ h0 (k0 e0)
    rw [e0, nI_toInt (by omega)]
    simp [Op.lookupswitch.offset]
  by_cases e1 : x = nI a1
  · refine z_look C pc t1 d hp (off := o1) ?_ h1 (k1 e1)
    rw [e1, nI_toInt (by omega)]
    have q0 : ¬ ((a0 : Int) = (a1 : Int)) := by omega
    simp [Op.lookupswitch.offset, q0]
  by_cases e2 : x = nI a2
  · refine z_look C pc t2 d hp (off := o2) ?_ h2 (k2 e2)
    rw [e2, nI_toInt (by omega)]
    have q0 : ¬ ((a0 : Int) = (a2 : Int)) := by omega
    have q1 : ¬ ((a1 : Int) = (a2 : Int)) := by omega
    simp [Op.lookupswitch.offset, q0, q1]
  refine z_look C pc tgd d hp (off := dflt) ?_ hd (kd e0 e1 e2)
  have n0 : ¬ ((a0 : Int) = x.toInt) := fun q => e0 (Int32.toInt_inj.mp (by rw [nI_toInt (by omega)]; exact q.symm))
  have n1 : ¬ ((a1 : Int) = x.toInt) := fun q => e1 (Int32.toInt_inj.mp (by rw [nI_toInt (by omega)]; exact q.symm))
  have n2 : ¬ ((a2 : Int) = x.toInt) := fun q => e2 (Int32.toInt_inj.mp (by rw [nI_toInt (by omega)]; exact q.symm))
  simp [Op.lookupswitch.offset, n0, n1, n2]
end ZS3
theorem bI_1 {c : Prop} (h : c) : nI 1 = bI c := (bI_t h).symm
theorem bI_0 {c : Prop} (h : ¬ c) : nI 0 = bI c := (bI_f h).symm
theorem bI_inj {c d : Prop} (h : bI c = bI d) : c ↔ d := by
  by_cases hc : c <;> by_cases hd : d
  · exact ⟨fun _ => hd, fun _ => hc⟩
  · rw [bI_t hc, bI_f hd] at h; exact absurd h (by decide)
  · rw [bI_f hc, bI_t hd] at h; exact absurd h (by decide)
  · exact ⟨fun q => absurd q hc, fun q => absurd q hd⟩
/-- the log on its way down by one place -/
def fSh (N : NN) (k i : Nat) : NN := fun j => if (306 + 3 * k ≤ j ∧ j < 306 + 3 * k + i) ∨ (306 + 3 * k + 3 ≤ j ∧ j < 378) then N (j - 3) else N j
theorem fSh_0 (N : NN) : fSh N 23 0 = N := by
  funext j
  unfold fSh
  rw [if_neg (by omega)]
theorem fSh_3 (N : NN) {k : Nat} (hk : k < 23) : fSh N (k + 1) 3 = fSh N k 0 := by
  funext j
  unfold fSh
  by_cases h : 306 + 3 * k + 3 ≤ j ∧ j < 378
  · by_cases h2 : (306 + 3 * (k + 1) ≤ j ∧ j < 306 + 3 * (k + 1) + 3) ∨ (306 + 3 * (k + 1) + 3 ≤ j ∧ j < 378)
    · rw [if_pos h2, if_pos (Or.inr h)]
    · omega
  · by_cases h2 : (306 + 3 * (k + 1) ≤ j ∧ j < 306 + 3 * (k + 1) + 3) ∨ (306 + 3 * (k + 1) + 3 ≤ j ∧ j < 378)
    · rw [if_pos h2]
      by_cases h3 : j < 378
      · omega
      · rw [if_neg (by omega)]
        omega
    · rw [if_neg h2, if_neg (by omega)]
theorem fSh_up (N : NN) {k i : Nat} (hi : i < 3) (hk : 0 < k) : upd (fSh N k i) (306 + 3 * k + i) (fSh N k i (306 + 3 * k - 3 + i)) = fSh N k (i + 1) := by
  funext j
  have e : fSh N k i (306 + 3 * k - 3 + i) = N (306 + 3 * k - 3 + i) := by unfold fSh; rw [if_neg (by omega)]
  rw [e]
  unfold upd
  by_cases h : j = 306 + 3 * k + i
  · subst h
    rw [if_pos rfl]
    unfold fSh
    rw [if_pos (by omega)]
    congr 1
    omega
  · rw [if_neg h]
    unfold fSh
    by_cases h2 : (306 + 3 * k ≤ j ∧ j < 306 + 3 * k + i) ∨ (306 + 3 * k + 3 ≤ j ∧ j < 378)
    · rw [if_pos h2, if_pos (by omega)]
    · rw [if_neg h2, if_neg (by omega)]
