/-! THE TEXT, as numbers 0 .. 255, and its tokens -/
/-- a byte as the machine keeps it -/
def sb (n : Nat) : Int32 := (Int8.ofNat n).toInt32
theorem tb_ex (x : Int32) : ∃ n, n < 256 ∧ x.toInt8.toInt32 = sb n := by
  refine ⟨x.toInt8.toBitVec.toNat, x.toInt8.toBitVec.isLt, ?_⟩
  unfold sb
  congr 1
  apply Int8.toBitVec_inj.mp
  show _ = BitVec.ofNat 8 _
  simp
theorem tb_u : ∀ n, n < 256 → sb n &&& 255 = nI n := by decide +kernel
theorem tb_b : ∀ n, n < 256 → vp_nar .byte (sb n) = sb n := by decide +kernel
theorem tb_32 : ∀ n, n < 256 → (sb n = nI 32 ↔ n = 32) := by decide +kernel
theorem tb_10 : ∀ n, n < 256 → (sb n = nI 10 ↔ n = 10) := by decide +kernel
theorem tb_59 : ∀ n, n < 256 → (sb n = nI 59 ↔ n = 59) := by decide +kernel
theorem tb_lt : ∀ n, n < 256 → ((nI 97 ≤ sb n ∧ sb n ≤ nI 122) ↔ (97 ≤ n ∧ n ≤ 122)) := by decide +kernel
theorem tb_dg : ∀ n, n < 256 → ((nI 48 ≤ sb n ∧ sb n ≤ nI 57) ↔ (48 ≤ n ∧ n ≤ 57)) := by decide +kernel
theorem tb_pos : ∀ n, n < 128 → sb n = nI n := by decide +kernel
def isWs (n : Nat) : Bool := decide (n = 32 ∨ n = 10)
def isLt (n : Nat) : Bool := decide (97 ≤ n ∧ n ≤ 122)
def isDg (n : Nat) : Bool := decide (48 ≤ n ∧ n ≤ 57)
theorem isWs_i {n : Nat} : isWs n = true ↔ (n = 32 ∨ n = 10) := by unfold isWs; exact decide_eq_true_iff
theorem isLt_i {n : Nat} : isLt n = true ↔ (97 ≤ n ∧ n ≤ 122) := by unfold isLt; exact decide_eq_true_iff
theorem isDg_i {n : Nat} : isDg n = true ↔ (48 ≤ n ∧ n ≤ 57) := by unfold isDg; exact decide_eq_true_iff
/-- skips what has P -/
def skF (P : Nat → Bool) (un : Nat → Nat) (len : Nat) : Nat → Nat → Nat
  | 0, p => p
  | f + 1, p => if p < len ∧ P (un p) = true then skF P un len f (p + 1) else p
def sk (P : Nat → Bool) (un : Nat → Nat) (len p : Nat) : Nat := skF P un len (len - p) p
theorem sk_t {P : Nat → Bool} {un : Nat → Nat} {len p : Nat} (h : p < len) (hp : P (un p) = true) : sk P un len p = sk P un len (p + 1) := by
  unfold sk
  rw [show len - p = (len - (p + 1)) + 1 by omega, skF, if_pos ⟨h, hp⟩]
theorem sk_f {P : Nat → Bool} {un : Nat → Nat} {len p : Nat} (h : ¬ (p < len ∧ P (un p) = true)) : sk P un len p = p := by
  unfold sk
  cases len - p with
  | zero => rfl
  | succ k => rw [skF, if_neg h]
theorem skF_p {P : Nat → Bool} {un : Nat → Nat} {len : Nat} : ∀ (f p : Nat), p ≤ skF P un len f p ∧ (p ≤ len → skF P un len f p ≤ len) ∧ (∀ j, p ≤ j → j < skF P un len f p → P (un j) = true)
  | 0, p => ⟨Nat.le_refl _, fun h => h, fun j h1 h2 => absurd h1 (Nat.not_le.mpr h2)⟩
  | f + 1, p => by
    rw [skF]
    by_cases h : p < len ∧ P (un p) = true
    · rw [if_pos h]
      obtain ⟨a, b, c⟩ := skF_p f (p + 1)
      refine ⟨by omega, fun _ => b (by omega), fun j h1 h2 => ?_⟩
      by_cases e : j = p
      · rw [e]; exact h.2
      · exact c j (by omega) h2
    · rw [if_neg h]
      exact ⟨Nat.le_refl _, fun z => z, fun j h1 h2 => absurd h1 (Nat.not_le.mpr h2)⟩
theorem skF_e {P : Nat → Bool} {un : Nat → Nat} {len : Nat} : ∀ (f p : Nat), len - p ≤ f → ¬ (skF P un len f p < len ∧ P (un (skF P un len f p)) = true)
  | 0, p, h => by
    show ¬ (p < len ∧ _)
    omega
  | f + 1, p, h => by
    rw [skF]
    by_cases h2 : p < len ∧ P (un p) = true
    · rw [if_pos h2]
      exact skF_e f (p + 1) (by omega)
    · rw [if_neg h2]
      exact h2
theorem sk_ge {P : Nat → Bool} {un : Nat → Nat} {len p : Nat} : p ≤ sk P un len p := (skF_p _ _).1
theorem sk_le {P : Nat → Bool} {un : Nat → Nat} {len p : Nat} (h : p ≤ len) : sk P un len p ≤ len := (skF_p _ _).2.1 h
theorem sk_all {P : Nat → Bool} {un : Nat → Nat} {len p j : Nat} (h1 : p ≤ j) (h2 : j < sk P un len p) : P (un j) = true := (skF_p _ _).2.2 j h1 h2
theorem sk_end {P : Nat → Bool} {un : Nat → Nat} {len p : Nat} : ¬ (sk P un len p < len ∧ P (un (sk P un len p)) = true) := skF_e _ _ (Nat.le_refl _)
theorem sk_gt {P : Nat → Bool} {un : Nat → Nat} {len p : Nat} (h : p < len) (hp : P (un p) = true) : p < sk P un len p := by
  rw [sk_t h hp]
  have := sk_ge (P := P) (un := un) (len := len) (p := p + 1)
  omega
/-- the token behind place p: its start, its kind, its end, its value -/
def tS (un : Nat → Nat) (len p : Nat) : Nat := sk isWs un len p
def tK (un : Nat → Nat) (len p : Nat) : Nat :=
  if ¬ tS un len p < len then 0 else if isLt (un (tS un len p)) = true then (if 8 < sk isLt un len (tS un len p) - tS un len p then 4 else 1)
  else if isDg (un (tS un len p)) = true then (if 4 < sk isDg un len (tS un len p) - tS un len p then 4 else 2) else if un (tS un len p) = 59 then 3 else 4
def tE (un : Nat → Nat) (len p : Nat) : Nat :=
  if ¬ tS un len p < len then tS un len p else if isLt (un (tS un len p)) = true then sk isLt un len (tS un len p)
  else if isDg (un (tS un len p)) = true then sk isDg un len (tS un len p) else tS un len p + 1
/-- digits as a number -/
def vD (un : Nat → Nat) (s : Nat) : Nat → Nat
  | 0 => 0
  | m + 1 => 10 * vD un s m + (un (s + m) - 48)
def tV (un : Nat → Nat) (len p : Nat) : Nat := vD un (tS un len p) (tE un len p - tS un len p)
/-- letters, the last one first -/
def wl (un : Nat → Nat) (s : Nat) : Nat → List Nat
  | 0 => []
  | m + 1 => un (s + m) :: wl un s m
def wd (un : Nat → Nat) (len p : Nat) : List Nat := wl un (tS un len p) (tE un len p - tS un len p)
theorem tS_ge {un : Nat → Nat} {len p : Nat} : p ≤ tS un len p := sk_ge
theorem tS_le {un : Nat → Nat} {len p : Nat} (h : p ≤ len) : tS un len p ≤ len := sk_le h
theorem tE_ge {un : Nat → Nat} {len p : Nat} : tS un len p ≤ tE un len p := by
  unfold tE
  split
  · exact Nat.le_refl _
  · split
    · exact sk_ge
    · split
      · exact sk_ge
      · omega
theorem tE_le {un : Nat → Nat} {len p : Nat} (h : p ≤ len) : tE un len p ≤ len := by
  have h1 := tS_le (un := un) h
  unfold tE
  split
  · exact h1
  · split
    · exact sk_le h1
    · split
      · exact sk_le h1
      · omega
theorem tE_gt {un : Nat → Nat} {len p : Nat} (h : tK un len p ≠ 0) : tS un len p < tE un len p := by
  unfold tK at h
  unfold tE
  by_cases h1 : tS un len p < len
  · rw [if_neg (fun z => z h1)]
    by_cases h2 : isLt (un (tS un len p)) = true
    · rw [if_pos h2]
      exact sk_gt h1 h2
    · rw [if_neg h2]
      by_cases h3 : isDg (un (tS un len p)) = true
      · rw [if_pos h3]
        exact sk_gt h1 h3
      · rw [if_neg h3]
        omega
  · rw [if_pos h1] at h
    exact absurd rfl h
theorem vD_lt {un : Nat → Nat} {s : Nat} : ∀ m, (∀ j, s ≤ j → j < s + m → isDg (un j) = true) → vD un s m < 10 ^ m
  | 0, _ => Nat.lt_of_lt_of_le Nat.zero_lt_one (Nat.le_refl _)
  | m + 1, h => by
    have h1 := vD_lt m (fun j a b => h j a (by omega))
    have h2 := isDg_i.mp (h (s + m) (by omega) (by omega))
    rw [vD, Nat.pow_succ]
    omega
/-- words as numbers -/
def e32 : List Nat → Nat
  | [] => 0
  | c :: l => 32 * e32 l + (c - 96)
def e256 : List Nat → Nat
  | [] => 0
  | c :: l => 256 * e256 l + c
def wOK (l : List Nat) : Prop := ∀ c ∈ l, 97 ≤ c ∧ c ≤ 122
theorem wOK.tl {c : Nat} {l : List Nat} (h : wOK (c :: l)) : wOK l := fun x hx => h x (List.mem_cons_of_mem _ hx)
theorem wOK.hd {c : Nat} {l : List Nat} (h : wOK (c :: l)) : 97 ≤ c ∧ c ≤ 122 := h c List.mem_cons_self
theorem e32_inj : ∀ {a b : List Nat}, wOK a → wOK b → e32 a = e32 b → a = b
  | [], [], _, _, _ => rfl
  | [], c :: l, _, hb, h => by have := hb.hd; simp only [e32] at h; omega
  | c :: l, [], ha, _, h => by have := ha.hd; simp only [e32] at h; omega
  | c :: l, d :: m, ha, hb, h => by
    have h1 := ha.hd
    have h2 := hb.hd
    simp only [e32] at h
    rw [e32_inj ha.tl hb.tl (by omega), show c = d by omega]
theorem e256_inj : ∀ {a b : List Nat}, wOK a → wOK b → e256 a = e256 b → a = b
  | [], [], _, _, _ => rfl
  | [], c :: l, _, hb, h => by have := hb.hd; simp only [e256] at h; omega
  | c :: l, [], ha, _, h => by have := ha.hd; simp only [e256] at h; omega
  | c :: l, d :: m, ha, hb, h => by
    have h1 := ha.hd
    have h2 := hb.hd
    simp only [e256] at h
    rw [e256_inj ha.tl hb.tl (by omega), show c = d by omega]
theorem e32_lt : ∀ {a : List Nat}, wOK a → e32 a < 32 ^ a.length
  | [], _ => Nat.zero_lt_one
  | c :: l, h => by
    have h1 := h.hd
    have h2 := e32_lt h.tl
    simp only [e32, List.length_cons, Nat.pow_succ]
    omega
theorem e256_lt : ∀ {a : List Nat}, wOK a → 2 * e256 a + 1 ≤ 256 ^ a.length
  | [], _ => Nat.le_refl _
  | c :: l, h => by
    have h1 := h.hd
    have h2 := e256_lt h.tl
    simp only [e256, List.length_cons, Nat.pow_succ]
    omega
theorem e32_8 {a : List Nat} (h : wOK a) (hl : a.length ≤ 8) : e32 a < 2 ^ 40 :=
  Nat.lt_of_lt_of_le (e32_lt h) (Nat.le_trans (Nat.pow_le_pow_right (by omega) hl) (by decide))
theorem e256_8 {a : List Nat} (h : wOK a) (hl : a.length ≤ 8) : e256 a < 2 ^ 63 := by
  have h1 := e256_lt h
  have h2 : 256 ^ a.length ≤ 256 ^ 8 := Nat.pow_le_pow_right (by omega) hl
  have h3 : (256 : Nat) ^ 8 = 2 * 2 ^ 63 := by decide
  omega
theorem wl_len (un : Nat → Nat) (s : Nat) : ∀ m, (wl un s m).length = m
  | 0 => rfl
  | m + 1 => by rw [wl, List.length_cons, wl_len un s m]
theorem wl_ok {un : Nat → Nat} {s : Nat} : ∀ {m : Nat}, (∀ j, s ≤ j → j < s + m → isLt (un j) = true) → wOK (wl un s m)
  | 0, _ => fun c hc => nomatch hc
  | m + 1, h => by
    intro c hc
    rw [wl] at hc
    rcases List.mem_cons.mp hc with e | hc
    · rw [e]
      exact isLt_i.mp (h (s + m) (by omega) (by omega))
    · exact wl_ok (fun j a b => h j a (by omega)) c hc
theorem wl_c {un : Nat → Nat} {s : Nat} : ∀ {m : Nat}, wOK (wl un s m) → ∀ j, s ≤ j → j < s + m → isLt (un j) = true
  | 0, _, j, h1, h2 => by omega
  | m + 1, h, j, h1, h2 => by
    rw [wl] at h
    by_cases e : j = s + m
    · rw [e]
      exact isLt_i.mpr h.hd
    · exact wl_c h.tl j h1 (by omega)
theorem wd_1 {un : Nat → Nat} {len p : Nat} (h : tK un len p = 1) : wOK (wd un len p) ∧ (wd un len p).length = tE un len p - tS un len p ∧ tE un len p - tS un len p ≤ 8 ∧ tS un len p < tE un len p := by
  have hgt := tE_gt (un := un) (len := len) (p := p) (by omega)
  unfold wd
  rw [wl_len]
  unfold tK at h
  by_cases h1 : tS un len p < len
  · rw [if_neg (fun z => z h1)] at h
    by_cases h2 : isLt (un (tS un len p)) = true
    · rw [if_pos h2] at h
      have he : tE un len p = sk isLt un len (tS un len p) := by
        unfold tE
        rw [if_neg (fun z => z h1), if_pos h2]
      refine ⟨wl_ok (fun j a b => ?_), rfl, ?_, hgt⟩
      · exact sk_all (len := len) a (by omega)
      · by_cases h3 : 8 < sk isLt un len (tS un len p) - tS un len p
        · rw [if_pos h3] at h; omega
        · omega
    · rw [if_neg h2] at h
      split at h
      · split at h <;> omega
      · split at h <;> omega
  · rw [if_pos h1] at h
    omega
theorem tV_2 {un : Nat → Nat} {len p : Nat} (h : tK un len p = 2) : tV un len p < 10000 ∧ tE un len p = sk isDg un len (tS un len p) ∧ tE un len p - tS un len p ≤ 4 := by
  unfold tV
  unfold tK at h
  by_cases h1 : tS un len p < len
  · rw [if_neg (fun z => z h1)] at h
    by_cases h2 : isLt (un (tS un len p)) = true
    · rw [if_pos h2] at h
      split at h <;> omega
    · rw [if_neg h2] at h
      by_cases h3 : isDg (un (tS un len p)) = true
      · rw [if_pos h3] at h
        have he : tE un len p = sk isDg un len (tS un len p) := by
          unfold tE
          rw [if_neg (fun z => z h1), if_neg h2, if_pos h3]
        have h4 : tE un len p - tS un len p ≤ 4 := by
          by_cases h5 : 4 < sk isDg un len (tS un len p) - tS un len p
          · rw [if_pos h5] at h; omega
          · omega
        refine ⟨Nat.lt_of_lt_of_le (vD_lt _ (fun j a b => sk_all (len := len) a (by omega))) (Nat.le_trans (Nat.pow_le_pow_right (by omega) h4) (by decide)), he, h4⟩
      · rw [if_neg h3] at h
        split at h <;> omega
  · rw [if_pos h1] at h
    omega
/-- a keyword's letters, the last one first -/
def kwr (i : Nat) : List Nat := ((kwb i).map (fun b => b.toNatClampNeg)).reverse
theorem kwr_ok : ∀ i, i < 8 → (kwr i).all (fun c => decide (97 ≤ c ∧ c ≤ 122)) = true ∧ (kwr i).length = (kwb i).length ∧ (kwr i).length ≤ 8 ∧ 0 < (kwr i).length := by decide +kernel
theorem kwr_w {i : Nat} (hi : i < 8) : wOK (kwr i) := fun c hc => of_decide_eq_true (List.all_eq_true.mp (kwr_ok i hi).1 c hc)
theorem kwr_inj : ∀ i, i < 8 → ∀ j, j < 8 → kwr i = kwr j → i = j := by decide +kernel
/-- the token is the keyword -/
def isW (un : Nat → Nat) (len p i : Nat) : Prop := tK un len p = 1 ∧ wd un len p = kwr i
