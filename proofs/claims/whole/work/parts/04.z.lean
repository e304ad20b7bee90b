section ZR
variable {X : mX} {own : String} {cc : ByteArray} {nL : Nat} {rm : Room} {ad : mA} {dm : mD} {S : mS} {L : mL} {R : mR} {ce sl : Nat} {lv : List (Nat × Value)} {rest : List Value}
theorem z_iconst (C : mK X own cc nL rm) (pc : Nat) {n : Int} {v : Int32} (d : decode cc pc = .ok (.iconst n, 1)) (hv : Int32.ofInt n = v) (k : Z X nL ad dm S L R ce sl (pc + 1) lv (.int v :: rest)) : Z X nL ad dm S L R ce sl pc lv rest := by
  obtain ⟨p, l, e, Rm, s, m, args, below, meth, c, Q, G, A⟩ := X
  intro H locs ls h1 h2 h3
  exact lv_iconst C.1 C.2.1 d hv (k H locs ls h1 h2 h3)
theorem z_bipush (C : mK X own cc nL rm) (pc : Nat) {n : Int} {v : Int32} (d : decode cc pc = .ok (.bipush n, 2)) (hv : (Int8.ofInt n).toInt32 = v) (k : Z X nL ad dm S L R ce sl (pc + 2) lv (.int v :: rest)) : Z X nL ad dm S L R ce sl pc lv rest := by
  obtain ⟨p, l, e, Rm, s, m, args, below, meth, c, Q, G, A⟩ := X
  intro H locs ls h1 h2 h3
  exact lv_bipush C.1 C.2.1 d hv (k H locs ls h1 h2 h3)
theorem z_sipush (C : mK X own cc nL rm) (pc : Nat) {n : Int} {v : Int32} (d : decode cc pc = .ok (.sipush n, 3)) (hv : (Int16.ofInt n).toInt32 = v) (k : Z X nL ad dm S L R ce sl (pc + 3) lv (.int v :: rest)) : Z X nL ad dm S L R ce sl pc lv rest := by
  obtain ⟨p, l, e, Rm, s, m, args, below, meth, c, Q, G, A⟩ := X
  intro H locs ls h1 h2 h3
  exact lv_sipush C.1 C.2.1 d hv (k H locs ls h1 h2 h3)
theorem z_lconst (C : mK X own cc nL rm) (pc : Nat) {n : Fin 2} {v : Int64} (d : decode cc pc = .ok (.lconst n, 1)) (hv : Int64.ofNat (n : Nat) = v) (k : Z X nL ad dm S L R ce sl (pc + 1) lv (.long v :: rest)) : Z X nL ad dm S L R ce sl pc lv rest := by
  obtain ⟨p, l, e, Rm, s, m, args, below, meth, c, Q, G, A⟩ := X
  intro H locs ls h1 h2 h3
  exact lv_lconst C.1 C.2.1 d hv (k H locs ls h1 h2 h3)
theorem z_ldc2 (C : mK X own cc nL rm) (pc : Nat) {ix : Nat} {v : Int64} (d : decode cc pc = .ok (.ldc2_w ix, 3)) (hw : Cond.constantLong own ix v ∈ mlw) (k : Z X nL ad dm S L R ce sl (pc + 3) lv (.long v :: rest)) : Z X nL ad dm S L R ce sl pc lv rest := by
  obtain ⟨p, l, e, Rm, s, m, args, below, meth, c, Q, G, A⟩ := X
  intro H locs ls h1 h2 h3
  exact lv_ldc2 C.1 C.2.1 C.2.2.2.1 (C.2.2.2.2.1 _ hw) d (k H locs ls h1 h2 h3)
theorem z_iload_n (C : mK X own cc nL rm) (pc : Nat) {kk : Fin 4} (i t : Nat) {x : Int32} (d : decode cc pc = .ok (.iload_n kk, 1)) (hi : (kk : Nat) = i) (hl : lv[t]? = some (i, .int x)) (k : Z X nL ad dm S L R ce sl (pc + 1) lv (.int x :: rest)) : Z X nL ad dm S L R ce sl pc lv rest := by
  obtain ⟨p, l, e, Rm, s, m, args, below, meth, c, Q, G, A⟩ := X
  intro H locs ls h1 h2 h3
  exact lv_iload_n C.1 C.2.1 d hi (lv_at h3 t hl) (k H locs ls h1 h2 h3)
theorem z_iload (C : mK X own cc nL rm) (pc : Nat) (i t : Nat) {x : Int32} (d : decode cc pc = .ok (.iload i, 2)) (hl : lv[t]? = some (i, .int x)) (k : Z X nL ad dm S L R ce sl (pc + 2) lv (.int x :: rest)) : Z X nL ad dm S L R ce sl pc lv rest := by
  obtain ⟨p, l, e, Rm, s, m, args, below, meth, c, Q, G, A⟩ := X
  intro H locs ls h1 h2 h3
  exact lv_iload C.1 C.2.1 d (lv_at h3 t hl) (k H locs ls h1 h2 h3)
theorem z_istore_n (C : mK X own cc nL rm) (pc : Nat) {kk : Fin 4} (i : Nat) {x : Int32} (lv' : List (Nat × Value)) (d : decode cc pc = .ok (.istore_n kk, 1)) (hi : (kk : Nat) = i) (hn : i < nL) (hl : (i, .int x) :: lv.filter (fun q => !(q.1 == i) && !(q.1 + 1 == i && q.2.category == 2)) = lv') (k : Z X nL ad dm S L R ce sl (pc + 1) lv' rest) : Z X nL ad dm S L R ce sl pc lv (.int x :: rest) := by
  obtain ⟨p, l, e, Rm, s, m, args, below, meth, c, Q, G, A⟩ := X
  intro H locs ls h1 h2 h3
  exact lv_istore_n C.1 C.2.1 d hi h3 hn hl (fun ls h3 => k H locs ls h1 h2 h3)
theorem z_istore (C : mK X own cc nL rm) (pc : Nat) (i : Nat) {x : Int32} (lv' : List (Nat × Value)) (d : decode cc pc = .ok (.istore i, 2)) (hn : i < nL) (hl : (i, .int x) :: lv.filter (fun q => !(q.1 == i) && !(q.1 + 1 == i && q.2.category == 2)) = lv') (k : Z X nL ad dm S L R ce sl (pc + 2) lv' rest) : Z X nL ad dm S L R ce sl pc lv (.int x :: rest) := by
  obtain ⟨p, l, e, Rm, s, m, args, below, meth, c, Q, G, A⟩ := X
  intro H locs ls h1 h2 h3
  exact lv_istore C.1 C.2.1 d h3 hn hl (fun ls h3 => k H locs ls h1 h2 h3)
theorem z_lload_n (C : mK X own cc nL rm) (pc : Nat) {kk : Fin 4} (i t : Nat) {x : Int64} (d : decode cc pc = .ok (.lload_n kk, 1)) (hi : (kk : Nat) = i) (hl : lv[t]? = some (i, .long x)) (k : Z X nL ad dm S L R ce sl (pc + 1) lv (.long x :: rest)) : Z X nL ad dm S L R ce sl pc lv rest := by
  obtain ⟨p, l, e, Rm, s, m, args, below, meth, c, Q, G, A⟩ := X
  intro H locs ls h1 h2 h3
  exact lv_lload_n C.1 C.2.1 d hi (lv_at h3 t hl) (k H locs ls h1 h2 h3)
theorem z_lload (C : mK X own cc nL rm) (pc : Nat) (i t : Nat) {x : Int64} (d : decode cc pc = .ok (.lload i, 2)) (hl : lv[t]? = some (i, .long x)) (k : Z X nL ad dm S L R ce sl (pc + 2) lv (.long x :: rest)) : Z X nL ad dm S L R ce sl pc lv rest := by
  obtain ⟨p, l, e, Rm, s, m, args, below, meth, c, Q, G, A⟩ := X
  intro H locs ls h1 h2 h3
  exact lv_lload C.1 C.2.1 d (lv_at h3 t hl) (k H locs ls h1 h2 h3)
theorem z_lstore_n (C : mK X own cc nL rm) (pc : Nat) {kk : Fin 4} (i : Nat) {x : Int64} (lv' : List (Nat × Value)) (d : decode cc pc = .ok (.lstore_n kk, 1)) (hi : (kk : Nat) = i) (hn : i + 1 < nL) (hl : (i, .long x) :: lv.filter (fun q => !(q.1 == i) && (!(q.1 == i + 1) && !(q.1 + 1 == i && q.2.category == 2))) = lv') (k : Z X nL ad dm S L R ce sl (pc + 1) lv' rest) : Z X nL ad dm S L R ce sl pc lv (.long x :: rest) := by
  obtain ⟨p, l, e, Rm, s, m, args, below, meth, c, Q, G, A⟩ := X
  intro H locs ls h1 h2 h3
  exact lv_lstore_n C.1 C.2.1 d hi h3 hn hl (fun ls h3 => k H locs ls h1 h2 h3)
theorem z_lstore (C : mK X own cc nL rm) (pc : Nat) (i : Nat) {x : Int64} (lv' : List (Nat × Value)) (d : decode cc pc = .ok (.lstore i, 2)) (hn : i + 1 < nL) (hl : (i, .long x) :: lv.filter (fun q => !(q.1 == i) && (!(q.1 == i + 1) && !(q.1 + 1 == i && q.2.category == 2))) = lv') (k : Z X nL ad dm S L R ce sl (pc + 2) lv' rest) : Z X nL ad dm S L R ce sl pc lv (.long x :: rest) := by
  obtain ⟨p, l, e, Rm, s, m, args, below, meth, c, Q, G, A⟩ := X
  intro H locs ls h1 h2 h3
  exact lv_lstore C.1 C.2.1 d h3 hn hl (fun ls h3 => k H locs ls h1 h2 h3)
theorem z_aload_n (C : mK X own cc nL rm) (pc : Nat) {kk : Fin 4} (i t : Nat) {x : Nat} (d : decode cc pc = .ok (.aload_n kk, 1)) (hi : (kk : Nat) = i) (hl : lv[t]? = some (i, .ref x)) (k : Z X nL ad dm S L R ce sl (pc + 1) lv (.ref x :: rest)) : Z X nL ad dm S L R ce sl pc lv rest := by
  obtain ⟨p, l, e, Rm, s, m, args, below, meth, c, Q, G, A⟩ := X
  intro H locs ls h1 h2 h3
  exact lv_aload_n C.1 C.2.1 d hi (lv_at h3 t hl) (k H locs ls h1 h2 h3)
theorem z_aload (C : mK X own cc nL rm) (pc : Nat) (i t : Nat) {x : Nat} (d : decode cc pc = .ok (.aload i, 2)) (hl : lv[t]? = some (i, .ref x)) (k : Z X nL ad dm S L R ce sl (pc + 2) lv (.ref x :: rest)) : Z X nL ad dm S L R ce sl pc lv rest := by
  obtain ⟨p, l, e, Rm, s, m, args, below, meth, c, Q, G, A⟩ := X
  intro H locs ls h1 h2 h3
  exact lv_aload C.1 C.2.1 d (lv_at h3 t hl) (k H locs ls h1 h2 h3)
theorem z_astore_n (C : mK X own cc nL rm) (pc : Nat) {kk : Fin 4} (i : Nat) {x : Nat} (lv' : List (Nat × Value)) (d : decode cc pc = .ok (.astore_n kk, 1)) (hi : (kk : Nat) = i) (hn : i < nL) (hl : (i, .ref x) :: lv.filter (fun q => !(q.1 == i) && !(q.1 + 1 == i && q.2.category == 2)) = lv') (k : Z X nL ad dm S L R ce sl (pc + 1) lv' rest) : Z X nL ad dm S L R ce sl pc lv (.ref x :: rest) := by
  obtain ⟨p, l, e, Rm, s, m, args, below, meth, c, Q, G, A⟩ := X
  intro H locs ls h1 h2 h3
  exact lv_astore_n C.1 C.2.1 d hi h3 hn hl (fun ls h3 => k H locs ls h1 h2 h3)
theorem z_astore (C : mK X own cc nL rm) (pc : Nat) (i : Nat) {x : Nat} (lv' : List (Nat × Value)) (d : decode cc pc = .ok (.astore i, 2)) (hn : i < nL) (hl : (i, .ref x) :: lv.filter (fun q => !(q.1 == i) && !(q.1 + 1 == i && q.2.category == 2)) = lv') (k : Z X nL ad dm S L R ce sl (pc + 2) lv' rest) : Z X nL ad dm S L R ce sl pc lv (.ref x :: rest) := by
  obtain ⟨p, l, e, Rm, s, m, args, below, meth, c, Q, G, A⟩ := X
  intro H locs ls h1 h2 h3
  exact lv_astore C.1 C.2.1 d h3 hn hl (fun ls h3 => k H locs ls h1 h2 h3)
theorem z_iinc (C : mK X own cc nL rm) (pc : Nat) (i t : Nat) {n : Int} {x v : Int32} (lv' : List (Nat × Value)) (d : decode cc pc = .ok (.iinc i n, 3)) (hk : lv[t]? = some (i, .int x)) (hv : x + Int32.ofInt n = v) (hn : i < nL) (hl : (i, .int v) :: lv.filter (fun q => !(q.1 == i) && !(q.1 + 1 == i && q.2.category == 2)) = lv') (k : Z X nL ad dm S L R ce sl (pc + 3) lv' rest) : Z X nL ad dm S L R ce sl pc lv rest := by
  obtain ⟨p, l, e, Rm, s, m, args, below, meth, c, Q, G, A⟩ := X
  intro H locs ls h1 h2 h3
  exact lv_iinc C.1 C.2.1 d h3 hk hv hn hl (fun ls h3 => k H locs ls h1 h2 h3)
theorem z_iadd (C : mK X own cc nL rm) (pc : Nat) (d : decode cc pc = .ok (.iadd, 1)) {a b : Int32} (k : Z X nL ad dm S L R ce sl (pc + 1) lv (.int (a + b) :: rest)) : Z X nL ad dm S L R ce sl pc lv (.int b :: .int a :: rest) := by
  obtain ⟨p, l, e, Rm, s, m, args, below, meth, c, Q, G, A⟩ := X
  intro H locs ls h1 h2 h3
  exact lv_iadd C.1 C.2.1 d  (k H locs ls h1 h2 h3)
theorem z_isub (C : mK X own cc nL rm) (pc : Nat) (d : decode cc pc = .ok (.isub, 1)) {a b : Int32} (k : Z X nL ad dm S L R ce sl (pc + 1) lv (.int (a - b) :: rest)) : Z X nL ad dm S L R ce sl pc lv (.int b :: .int a :: rest) := by
  obtain ⟨p, l, e, Rm, s, m, args, below, meth, c, Q, G, A⟩ := X
  intro H locs ls h1 h2 h3
  exact lv_isub C.1 C.2.1 d  (k H locs ls h1 h2 h3)
theorem z_imul (C : mK X own cc nL rm) (pc : Nat) (d : decode cc pc = .ok (.imul, 1)) {a b : Int32} (k : Z X nL ad dm S L R ce sl (pc + 1) lv (.int (a * b) :: rest)) : Z X nL ad dm S L R ce sl pc lv (.int b :: .int a :: rest) := by
  obtain ⟨p, l, e, Rm, s, m, args, below, meth, c, Q, G, A⟩ := X
  intro H locs ls h1 h2 h3
  exact lv_imul C.1 C.2.1 d  (k H locs ls h1 h2 h3)
theorem z_iand (C : mK X own cc nL rm) (pc : Nat) (d : decode cc pc = .ok (.iand, 1)) {a b : Int32} (k : Z X nL ad dm S L R ce sl (pc + 1) lv (.int (a &&& b) :: rest)) : Z X nL ad dm S L R ce sl pc lv (.int b :: .int a :: rest) := by
  obtain ⟨p, l, e, Rm, s, m, args, below, meth, c, Q, G, A⟩ := X
  intro H locs ls h1 h2 h3
  exact lv_iand C.1 C.2.1 d  (k H locs ls h1 h2 h3)
theorem z_ior (C : mK X own cc nL rm) (pc : Nat) (d : decode cc pc = .ok (.ior, 1)) {a b : Int32} (k : Z X nL ad dm S L R ce sl (pc + 1) lv (.int (a ||| b) :: rest)) : Z X nL ad dm S L R ce sl pc lv (.int b :: .int a :: rest) := by
  obtain ⟨p, l, e, Rm, s, m, args, below, meth, c, Q, G, A⟩ := X
  intro H locs ls h1 h2 h3
  exact lv_ior C.1 C.2.1 d  (k H locs ls h1 h2 h3)
theorem z_ishr (C : mK X own cc nL rm) (pc : Nat) (d : decode cc pc = .ok (.ishr, 1)) {a b : Int32} (k : Z X nL ad dm S L R ce sl (pc + 1) lv (.int (a >>> (b &&& 31)) :: rest)) : Z X nL ad dm S L R ce sl pc lv (.int b :: .int a :: rest) := by
  obtain ⟨p, l, e, Rm, s, m, args, below, meth, c, Q, G, A⟩ := X
  intro H locs ls h1 h2 h3
  exact lv_ishr C.1 C.2.1 d  (k H locs ls h1 h2 h3)
theorem z_idiv (C : mK X own cc nL rm) (pc : Nat) (d : decode cc pc = .ok (.idiv, 1)) {a b : Int32} (hb : ¬ b = 0) (k : Z X nL ad dm S L R ce sl (pc + 1) lv (.int (a / b) :: rest)) : Z X nL ad dm S L R ce sl pc lv (.int b :: .int a :: rest) := by
  obtain ⟨p, l, e, Rm, s, m, args, below, meth, c, Q, G, A⟩ := X
  intro H locs ls h1 h2 h3
  exact lv_idiv C.1 C.2.1 d hb (k H locs ls h1 h2 h3)
theorem z_irem (C : mK X own cc nL rm) (pc : Nat) (d : decode cc pc = .ok (.irem, 1)) {a b : Int32} (hb : ¬ b = 0) (k : Z X nL ad dm S L R ce sl (pc + 1) lv (.int (a - a / b * b) :: rest)) : Z X nL ad dm S L R ce sl pc lv (.int b :: .int a :: rest) := by
  obtain ⟨p, l, e, Rm, s, m, args, below, meth, c, Q, G, A⟩ := X
  intro H locs ls h1 h2 h3
  exact lv_irem C.1 C.2.1 d hb (k H locs ls h1 h2 h3)
theorem z_iaddN (C : mK X own cc nL rm) (pc : Nat) (d : decode cc pc = .ok (.iadd, 1)) {a b : Nat} (k : Z X nL ad dm S L R ce sl (pc + 1) lv (.int (nI (a + b)) :: rest)) : Z X nL ad dm S L R ce sl pc lv (.int (nI b) :: .int (nI a) :: rest) := by
  obtain ⟨p, l, e, Rm, s, m, args, below, meth, c, Q, G, A⟩ := X
  intro H locs ls h1 h2 h3
  rw [← nI_add] at k
  exact lv_iadd C.1 C.2.1 d (k H locs ls h1 h2 h3)
theorem z_imulN (C : mK X own cc nL rm) (pc : Nat) (d : decode cc pc = .ok (.imul, 1)) {a b : Nat} (k : Z X nL ad dm S L R ce sl (pc + 1) lv (.int (nI (a * b)) :: rest)) : Z X nL ad dm S L R ce sl pc lv (.int (nI b) :: .int (nI a) :: rest) := by
  obtain ⟨p, l, e, Rm, s, m, args, below, meth, c, Q, G, A⟩ := X
  intro H locs ls h1 h2 h3
  rw [← pk_mul] at k
  exact lv_imul C.1 C.2.1 d (k H locs ls h1 h2 h3)
theorem z_isubN (C : mK X own cc nL rm) (pc : Nat) (d : decode cc pc = .ok (.isub, 1)) {a b : Nat} (h : b ≤ a) (k : Z X nL ad dm S L R ce sl (pc + 1) lv (.int (nI (a - b)) :: rest)) : Z X nL ad dm S L R ce sl pc lv (.int (nI b) :: .int (nI a) :: rest) := by
  obtain ⟨p, l, e, Rm, s, m, args, below, meth, c, Q, G, A⟩ := X
  intro H locs ls h1 h2 h3
  rw [← pk_sub h] at k
  exact lv_isub C.1 C.2.1 d (k H locs ls h1 h2 h3)
theorem z_ladd (C : mK X own cc nL rm) (pc : Nat) (d : decode cc pc = .ok (.ladd, 1)) {a b : Int64} (k : Z X nL ad dm S L R ce sl (pc + 1) lv (.long (a + b) :: rest)) : Z X nL ad dm S L R ce sl pc lv (.long b :: .long a :: rest) := by
  obtain ⟨p, l, e, Rm, s, m, args, below, meth, c, Q, G, A⟩ := X
  intro H locs ls h1 h2 h3
  exact lv_ladd C.1 C.2.1 d  (k H locs ls h1 h2 h3)
theorem z_lmul (C : mK X own cc nL rm) (pc : Nat) (d : decode cc pc = .ok (.lmul, 1)) {a b : Int64} (k : Z X nL ad dm S L R ce sl (pc + 1) lv (.long (a * b) :: rest)) : Z X nL ad dm S L R ce sl pc lv (.long b :: .long a :: rest) := by
  obtain ⟨p, l, e, Rm, s, m, args, below, meth, c, Q, G, A⟩ := X
  intro H locs ls h1 h2 h3
  exact lv_lmul C.1 C.2.1 d  (k H locs ls h1 h2 h3)
theorem z_lor (C : mK X own cc nL rm) (pc : Nat) (d : decode cc pc = .ok (.lor, 1)) {a b : Int64} (k : Z X nL ad dm S L R ce sl (pc + 1) lv (.long (a ||| b) :: rest)) : Z X nL ad dm S L R ce sl pc lv (.long b :: .long a :: rest) := by
  obtain ⟨p, l, e, Rm, s, m, args, below, meth, c, Q, G, A⟩ := X
  intro H locs ls h1 h2 h3
  exact lv_lor C.1 C.2.1 d  (k H locs ls h1 h2 h3)
theorem z_i2l (C : mK X own cc nL rm) (pc : Nat) (d : decode cc pc = .ok (.i2l, 1)) {a : Int32} {v : Int64} (hv : a.toInt64 = v) (k : Z X nL ad dm S L R ce sl (pc + 1) lv (.long v :: rest)) : Z X nL ad dm S L R ce sl pc lv (.int a :: rest) := by
  obtain ⟨p, l, e, Rm, s, m, args, below, meth, c, Q, G, A⟩ := X
  intro H locs ls h1 h2 h3
  exact lv_i2l C.1 C.2.1 d hv (k H locs ls h1 h2 h3)
theorem z_i2b (C : mK X own cc nL rm) (pc : Nat) (d : decode cc pc = .ok (.i2b, 1)) {a v : Int32} (hv : a.toInt8.toInt32 = v) (k : Z X nL ad dm S L R ce sl (pc + 1) lv (.int v :: rest)) : Z X nL ad dm S L R ce sl pc lv (.int a :: rest) := by
  obtain ⟨p, l, e, Rm, s, m, args, below, meth, c, Q, G, A⟩ := X
  intro H locs ls h1 h2 h3
  exact lv_i2b C.1 C.2.1 d hv (k H locs ls h1 h2 h3)
theorem z_i2c (C : mK X own cc nL rm) (pc : Nat) (d : decode cc pc = .ok (.i2c, 1)) {a v : Int32} (hv : (a.toUInt32 % 65536).toInt32 = v) (k : Z X nL ad dm S L R ce sl (pc + 1) lv (.int v :: rest)) : Z X nL ad dm S L R ce sl pc lv (.int a :: rest) := by
  obtain ⟨p, l, e, Rm, s, m, args, below, meth, c, Q, G, A⟩ := X
  intro H locs ls h1 h2 h3
  exact lv_i2c C.1 C.2.1 d hv (k H locs ls h1 h2 h3)
theorem z_iushr (C : mK X own cc nL rm) (pc : Nat) (d : decode cc pc = .ok (.iushr, 1)) {a b v : Int32} (hv : (a.toUInt32 >>> (b.toUInt32 &&& Int32.toUInt32 31)).toInt32 = v) (k : Z X nL ad dm S L R ce sl (pc + 1) lv (.int v :: rest)) : Z X nL ad dm S L R ce sl pc lv (.int b :: .int a :: rest) := by
  obtain ⟨p, l, e, Rm, s, m, args, below, meth, c, Q, G, A⟩ := X
  intro H locs ls h1 h2 h3
  exact lv_iushr C.1 C.2.1 d hv (k H locs ls h1 h2 h3)
theorem z_lshl (C : mK X own cc nL rm) (pc : Nat) (d : decode cc pc = .ok (.lshl, 1)) {a v : Int64} {b : Int32} (hv : a <<< (b.toInt64 &&& 63) = v) (k : Z X nL ad dm S L R ce sl (pc + 1) lv (.long v :: rest)) : Z X nL ad dm S L R ce sl pc lv (.int b :: .long a :: rest) := by
  obtain ⟨p, l, e, Rm, s, m, args, below, meth, c, Q, G, A⟩ := X
  intro H locs ls h1 h2 h3
  exact lv_lshl C.1 C.2.1 d hv (k H locs ls h1 h2 h3)
theorem z_lcmp (C : mK X own cc nL rm) (pc : Nat) (d : decode cc pc = .ok (.lcmp, 1)) {a b : Int64} (k : Z X nL ad dm S L R ce sl (pc + 1) lv (.int (lg_cmp a b) :: rest)) : Z X nL ad dm S L R ce sl pc lv (.long b :: .long a :: rest) := by
  obtain ⟨p, l, e, Rm, s, m, args, below, meth, c, Q, G, A⟩ := X
  intro H locs ls h1 h2 h3
  exact W.lcmp C.1 C.2.1 d  (k H locs ls h1 h2 h3)
theorem z_dup (C : mK X own cc nL rm) (pc : Nat) (d : decode cc pc = .ok (.dup, 1)) {v : Value} (hv : v.category = 1) (k : Z X nL ad dm S L R ce sl (pc + 1) lv (v :: v :: rest)) : Z X nL ad dm S L R ce sl pc lv (v :: rest) := by
  obtain ⟨p, l, e, Rm, s, m, args, below, meth, c, Q, G, A⟩ := X
  intro H locs ls h1 h2 h3
  exact lv_dup C.1 C.2.1 d hv (k H locs ls h1 h2 h3)
theorem z_pop (C : mK X own cc nL rm) (pc : Nat) (d : decode cc pc = .ok (.pop, 1)) {v : Value} (hv : v.category = 1) (k : Z X nL ad dm S L R ce sl (pc + 1) lv (rest)) : Z X nL ad dm S L R ce sl pc lv (v :: rest) := by
  obtain ⟨p, l, e, Rm, s, m, args, below, meth, c, Q, G, A⟩ := X
  intro H locs ls h1 h2 h3
  exact lv_pop C.1 C.2.1 d hv (k H locs ls h1 h2 h3)
theorem z_icmp_lt (C : mK X own cc nL rm) (pc tgt : Nat) {x y : Int32} {off : Int} (d : decode cc pc = .ok (.if_icmp .lt off, 3)) (ht : (pc : Int) + off = (tgt : Int)) (kt : x < y → Z X nL ad dm S L R ce sl tgt lv rest) (kf : ¬ x < y → Z X nL ad dm S L R ce sl (pc + 3) lv rest) : Z X nL ad dm S L R ce sl pc lv (.int y :: .int x :: rest) := by
  obtain ⟨p, l, e, Rm, s, m, args, below, meth, c, Q, G, A⟩ := X
  intro H locs ls h1 h2 h3
  exact lv_icmp_lt C.1 C.2.1 d ht (fun q => kt q H locs ls h1 h2 h3) (fun q => kf q H locs ls h1 h2 h3)
theorem z_icmp_ge (C : mK X own cc nL rm) (pc tgt : Nat) {x y : Int32} {off : Int} (d : decode cc pc = .ok (.if_icmp .ge off, 3)) (ht : (pc : Int) + off = (tgt : Int)) (kt : y ≤ x → Z X nL ad dm S L R ce sl tgt lv rest) (kf : ¬ y ≤ x → Z X nL ad dm S L R ce sl (pc + 3) lv rest) : Z X nL ad dm S L R ce sl pc lv (.int y :: .int x :: rest) := by
  obtain ⟨p, l, e, Rm, s, m, args, below, meth, c, Q, G, A⟩ := X
  intro H locs ls h1 h2 h3
  exact lv_icmp_ge C.1 C.2.1 d ht (fun q => kt q H locs ls h1 h2 h3) (fun q => kf q H locs ls h1 h2 h3)
theorem z_icmp_gt (C : mK X own cc nL rm) (pc tgt : Nat) {x y : Int32} {off : Int} (d : decode cc pc = .ok (.if_icmp .gt off, 3)) (ht : (pc : Int) + off = (tgt : Int)) (kt : y < x → Z X nL ad dm S L R ce sl tgt lv rest) (kf : ¬ y < x → Z X nL ad dm S L R ce sl (pc + 3) lv rest) : Z X nL ad dm S L R ce sl pc lv (.int y :: .int x :: rest) := by
  obtain ⟨p, l, e, Rm, s, m, args, below, meth, c, Q, G, A⟩ := X
  intro H locs ls h1 h2 h3
  exact lv_icmp_gt C.1 C.2.1 d ht (fun q => kt q H locs ls h1 h2 h3) (fun q => kf q H locs ls h1 h2 h3)
theorem z_icmp_le (C : mK X own cc nL rm) (pc tgt : Nat) {x y : Int32} {off : Int} (d : decode cc pc = .ok (.if_icmp .le off, 3)) (ht : (pc : Int) + off = (tgt : Int)) (kt : x ≤ y → Z X nL ad dm S L R ce sl tgt lv rest) (kf : ¬ x ≤ y → Z X nL ad dm S L R ce sl (pc + 3) lv rest) : Z X nL ad dm S L R ce sl pc lv (.int y :: .int x :: rest) := by
  obtain ⟨p, l, e, Rm, s, m, args, below, meth, c, Q, G, A⟩ := X
  intro H locs ls h1 h2 h3
  exact lv_icmp_le C.1 C.2.1 d ht (fun q => kt q H locs ls h1 h2 h3) (fun q => kf q H locs ls h1 h2 h3)
theorem z_icmp_eq (C : mK X own cc nL rm) (pc tgt : Nat) {x y : Int32} {off : Int} (d : decode cc pc = .ok (.if_icmp .eq off, 3)) (ht : (pc : Int) + off = (tgt : Int)) (kt : x = y → Z X nL ad dm S L R ce sl tgt lv rest) (kf : ¬ x = y → Z X nL ad dm S L R ce sl (pc + 3) lv rest) : Z X nL ad dm S L R ce sl pc lv (.int y :: .int x :: rest) := by
  obtain ⟨p, l, e, Rm, s, m, args, below, meth, c, Q, G, A⟩ := X
  intro H locs ls h1 h2 h3
  exact lv_icmp_eq C.1 C.2.1 d ht (fun q => kt q H locs ls h1 h2 h3) (fun q => kf q H locs ls h1 h2 h3)
theorem z_icmp_ne (C : mK X own cc nL rm) (pc tgt : Nat) {x y : Int32} {off : Int} (d : decode cc pc = .ok (.if_icmp .ne off, 3)) (ht : (pc : Int) + off = (tgt : Int)) (kt : ¬ x = y → Z X nL ad dm S L R ce sl tgt lv rest) (kf : x = y → Z X nL ad dm S L R ce sl (pc + 3) lv rest) : Z X nL ad dm S L R ce sl pc lv (.int y :: .int x :: rest) := by
  obtain ⟨p, l, e, Rm, s, m, args, below, meth, c, Q, G, A⟩ := X
  intro H locs ls h1 h2 h3
  exact lv_icmp_ne C.1 C.2.1 d ht (fun q => kt q H locs ls h1 h2 h3) (fun q => kf q H locs ls h1 h2 h3)
theorem z_if_lt (C : mK X own cc nL rm) (pc tgt : Nat) {x : Int32} {off : Int} (d : decode cc pc = .ok (.ifCond .lt off, 3)) (ht : (pc : Int) + off = (tgt : Int)) (kt : x < 0 → Z X nL ad dm S L R ce sl tgt lv rest) (kf : ¬ x < 0 → Z X nL ad dm S L R ce sl (pc + 3) lv rest) : Z X nL ad dm S L R ce sl pc lv (.int x :: rest) := by
  obtain ⟨p, l, e, Rm, s, m, args, below, meth, c, Q, G, A⟩ := X
  intro H locs ls h1 h2 h3
  exact lv_if_lt C.1 C.2.1 d ht (fun q => kt q H locs ls h1 h2 h3) (fun q => kf q H locs ls h1 h2 h3)
theorem z_if_ge (C : mK X own cc nL rm) (pc tgt : Nat) {x : Int32} {off : Int} (d : decode cc pc = .ok (.ifCond .ge off, 3)) (ht : (pc : Int) + off = (tgt : Int)) (kt : 0 ≤ x → Z X nL ad dm S L R ce sl tgt lv rest) (kf : ¬ 0 ≤ x → Z X nL ad dm S L R ce sl (pc + 3) lv rest) : Z X nL ad dm S L R ce sl pc lv (.int x :: rest) := by
  obtain ⟨p, l, e, Rm, s, m, args, below, meth, c, Q, G, A⟩ := X
  intro H locs ls h1 h2 h3
  exact lv_if_ge C.1 C.2.1 d ht (fun q => kt q H locs ls h1 h2 h3) (fun q => kf q H locs ls h1 h2 h3)
theorem z_if_gt (C : mK X own cc nL rm) (pc tgt : Nat) {x : Int32} {off : Int} (d : decode cc pc = .ok (.ifCond .gt off, 3)) (ht : (pc : Int) + off = (tgt : Int)) (kt : 0 < x → Z X nL ad dm S L R ce sl tgt lv rest) (kf : ¬ 0 < x → Z X nL ad dm S L R ce sl (pc + 3) lv rest) : Z X nL ad dm S L R ce sl pc lv (.int x :: rest) := by
  obtain ⟨p, l, e, Rm, s, m, args, below, meth, c, Q, G, A⟩ := X
  intro H locs ls h1 h2 h3
  exact lv_if_gt C.1 C.2.1 d ht (fun q => kt q H locs ls h1 h2 h3) (fun q => kf q H locs ls h1 h2 h3)
theorem z_if_le (C : mK X own cc nL rm) (pc tgt : Nat) {x : Int32} {off : Int} (d : decode cc pc = .ok (.ifCond .le off, 3)) (ht : (pc : Int) + off = (tgt : Int)) (kt : x ≤ 0 → Z X nL ad dm S L R ce sl tgt lv rest) (kf : ¬ x ≤ 0 → Z X nL ad dm S L R ce sl (pc + 3) lv rest) : Z X nL ad dm S L R ce sl pc lv (.int x :: rest) := by
  obtain ⟨p, l, e, Rm, s, m, args, below, meth, c, Q, G, A⟩ := X
  intro H locs ls h1 h2 h3
  exact lv_if_le C.1 C.2.1 d ht (fun q => kt q H locs ls h1 h2 h3) (fun q => kf q H locs ls h1 h2 h3)
theorem z_if_eq (C : mK X own cc nL rm) (pc tgt : Nat) {x : Int32} {off : Int} (d : decode cc pc = .ok (.ifCond .eq off, 3)) (ht : (pc : Int) + off = (tgt : Int)) (kt : x = 0 → Z X nL ad dm S L R ce sl tgt lv rest) (kf : ¬ x = 0 → Z X nL ad dm S L R ce sl (pc + 3) lv rest) : Z X nL ad dm S L R ce sl pc lv (.int x :: rest) := by
  obtain ⟨p, l, e, Rm, s, m, args, below, meth, c, Q, G, A⟩ := X
  intro H locs ls h1 h2 h3
  exact lv_if_eq C.1 C.2.1 d ht (fun q => kt q H locs ls h1 h2 h3) (fun q => kf q H locs ls h1 h2 h3)
theorem z_if_ne (C : mK X own cc nL rm) (pc tgt : Nat) {x : Int32} {off : Int} (d : decode cc pc = .ok (.ifCond .ne off, 3)) (ht : (pc : Int) + off = (tgt : Int)) (kt : ¬ x = 0 → Z X nL ad dm S L R ce sl tgt lv rest) (kf : x = 0 → Z X nL ad dm S L R ce sl (pc + 3) lv rest) : Z X nL ad dm S L R ce sl pc lv (.int x :: rest) := by
  obtain ⟨p, l, e, Rm, s, m, args, below, meth, c, Q, G, A⟩ := X
  intro H locs ls h1 h2 h3
  exact lv_if_ne C.1 C.2.1 d ht (fun q => kt q H locs ls h1 h2 h3) (fun q => kf q H locs ls h1 h2 h3)
theorem z_icmp_ltN (C : mK X own cc nL rm) (pc tgt : Nat) {x y : Nat} {off : Int} (d : decode cc pc = .ok (.if_icmp .lt off, 3)) (ht : (pc : Int) + off = (tgt : Int)) (hx : x < 2 ^ 31) (hy : y < 2 ^ 31) (kt : x < y → Z X nL ad dm S L R ce sl tgt lv rest) (kf : y ≤ x → Z X nL ad dm S L R ce sl (pc + 3) lv rest) : Z X nL ad dm S L R ce sl pc lv (.int (nI y) :: .int (nI x) :: rest) := by
  refine z_icmp_lt C pc tgt d ht (fun q => kt ((nI_ltI hx hy).mp q)) (fun q => ?_)
  have q' : ¬ (x < y) := fun z => q ((nI_ltI hx hy).mpr z)
  exact kf (by omega)
theorem z_icmp_geN (C : mK X own cc nL rm) (pc tgt : Nat) {x y : Nat} {off : Int} (d : decode cc pc = .ok (.if_icmp .ge off, 3)) (ht : (pc : Int) + off = (tgt : Int)) (hx : x < 2 ^ 31) (hy : y < 2 ^ 31) (kt : y ≤ x → Z X nL ad dm S L R ce sl tgt lv rest) (kf : x < y → Z X nL ad dm S L R ce sl (pc + 3) lv rest) : Z X nL ad dm S L R ce sl pc lv (.int (nI y) :: .int (nI x) :: rest) := by
  refine z_icmp_ge C pc tgt d ht (fun q => kt ((nI_leI hy hx).mp q)) (fun q => ?_)
  have q' : ¬ (y ≤ x) := fun z => q ((nI_leI hy hx).mpr z)
  exact kf (by omega)
theorem z_icmp_gtN (C : mK X own cc nL rm) (pc tgt : Nat) {x y : Nat} {off : Int} (d : decode cc pc = .ok (.if_icmp .gt off, 3)) (ht : (pc : Int) + off = (tgt : Int)) (hx : x < 2 ^ 31) (hy : y < 2 ^ 31) (kt : y < x → Z X nL ad dm S L R ce sl tgt lv rest) (kf : x ≤ y → Z X nL ad dm S L R ce sl (pc + 3) lv rest) : Z X nL ad dm S L R ce sl pc lv (.int (nI y) :: .int (nI x) :: rest) := by
  refine z_icmp_gt C pc tgt d ht (fun q => kt ((nI_ltI hy hx).mp q)) (fun q => ?_)
  have q' : ¬ (y < x) := fun z => q ((nI_ltI hy hx).mpr z)
  exact kf (by omega)
theorem z_icmp_leN (C : mK X own cc nL rm) (pc tgt : Nat) {x y : Nat} {off : Int} (d : decode cc pc = .ok (.if_icmp .le off, 3)) (ht : (pc : Int) + off = (tgt : Int)) (hx : x < 2 ^ 31) (hy : y < 2 ^ 31) (kt : x ≤ y → Z X nL ad dm S L R ce sl tgt lv rest) (kf : y < x → Z X nL ad dm S L R ce sl (pc + 3) lv rest) : Z X nL ad dm S L R ce sl pc lv (.int (nI y) :: .int (nI x) :: rest) := by
  refine z_icmp_le C pc tgt d ht (fun q => kt ((nI_leI hx hy).mp q)) (fun q => ?_)
  have q' : ¬ (x ≤ y) := fun z => q ((nI_leI hx hy).mpr z)
  exact kf (by omega)
theorem z_icmp_eqN (C : mK X own cc nL rm) (pc tgt : Nat) {x y : Nat} {off : Int} (d : decode cc pc = .ok (.if_icmp .eq off, 3)) (ht : (pc : Int) + off = (tgt : Int)) (hx : x < 2 ^ 31) (hy : y < 2 ^ 31) (kt : x = y → Z X nL ad dm S L R ce sl tgt lv rest) (kf : ¬ x = y → Z X nL ad dm S L R ce sl (pc + 3) lv rest) : Z X nL ad dm S L R ce sl pc lv (.int (nI y) :: .int (nI x) :: rest) := by
  refine z_icmp_eq C pc tgt d ht (fun q => kt ((nI_eq hx hy).mp q)) (fun q => ?_)
  have q' : ¬ (x = y) := fun z => q ((nI_eq hx hy).mpr z)
  exact kf q'
theorem z_icmp_neN (C : mK X own cc nL rm) (pc tgt : Nat) {x y : Nat} {off : Int} (d : decode cc pc = .ok (.if_icmp .ne off, 3)) (ht : (pc : Int) + off = (tgt : Int)) (hx : x < 2 ^ 31) (hy : y < 2 ^ 31) (kt : ¬ x = y → Z X nL ad dm S L R ce sl tgt lv rest) (kf : x = y → Z X nL ad dm S L R ce sl (pc + 3) lv rest) : Z X nL ad dm S L R ce sl pc lv (.int (nI y) :: .int (nI x) :: rest) := by
  exact z_icmp_ne C pc tgt d ht (fun q => kt (fun z => q ((nI_eq hx hy).mpr z))) (fun q => kf ((nI_eq hx hy).mp q))
theorem z_goto (C : mK X own cc nL rm) (pc tgt : Nat) {off : Int} (d : decode cc pc = .ok (.goto off, 3)) (ht : (pc : Int) + off = (tgt : Int)) (k : Z X nL ad dm S L R ce sl tgt lv rest) : Z X nL ad dm S L R ce sl pc lv rest := by
  obtain ⟨p, l, e, Rm, s, m, args, below, meth, c, Q, G, A⟩ := X
  intro H locs ls h1 h2 h3
  exact lv_goto C.1 C.2.1 d ht (k H locs ls h1 h2 h3)
theorem z_tabIn (C : mK X own cc nL rm) (pc tgt : Nat) {dflt lo hi : Int} {offs : Array Int} {len : Nat} {x : Int32} {off : Int} (d : decode cc pc = .ok (.tableswitch dflt lo hi offs, len)) (h1 : ¬ x.toInt < lo) (h2 : ¬ hi < x.toInt) (ho : offs[(x.toInt - lo).toNat]? = some off) (ht : (pc : Int) + off = (tgt : Int)) (k : Z X nL ad dm S L R ce sl tgt lv rest) : Z X nL ad dm S L R ce sl pc lv (.int x :: rest) := by
  obtain ⟨p, l, e, Rm, s, m, args, below, meth, c, Q, G, A⟩ := X
  intro H locs ls g1 g2 g3
  exact lv_tableIn C.1 C.2.1 d h1 h2 ho ht (k H locs ls g1 g2 g3)
theorem z_tabOut (C : mK X own cc nL rm) (pc tgt : Nat) {dflt lo hi : Int} {offs : Array Int} {len : Nat} {x : Int32} (d : decode cc pc = .ok (.tableswitch dflt lo hi offs, len)) (h : x.toInt < lo ∨ hi < x.toInt) (ht : (pc : Int) + dflt = (tgt : Int)) (k : Z X nL ad dm S L R ce sl tgt lv rest) : Z X nL ad dm S L R ce sl pc lv (.int x :: rest) := by
  obtain ⟨p, l, e, Rm, s, m, args, below, meth, c, Q, G, A⟩ := X
  intro H locs ls g1 g2 g3
  exact lv_tableOut C.1 C.2.1 d h ht (k H locs ls g1 g2 g3)
theorem z_look (C : mK X own cc nL rm) (pc tgt : Nat) {dflt : Int} {ps : Array (Int × Int)} {len : Nat} {x : Int32} {off : Int} (d : decode cc pc = .ok (.lookupswitch dflt ps, len)) (hp : (ps.toList.zip (ps.toList.drop 1)).all (fun (a, next) => a.1 < next.1) = true) (ho : Op.lookupswitch.offset ps.toList dflt x.toInt = off) (ht : (pc : Int) + off = (tgt : Int)) (k : Z X nL ad dm S L R ce sl tgt lv rest) : Z X nL ad dm S L R ce sl pc lv (.int x :: rest) := by
  obtain ⟨p, l, e, Rm, s, m, args, below, meth, c, Q, G, A⟩ := X
  intro H locs ls g1 g2 g3
  exact lv_lookup C.1 C.2.1 d hp ho ht (k H locs ls g1 g2 g3)
theorem z_sub (lv' : List (Nat × Value)) (ks : List Nat) (hk : lv_pick lv ks = lv') {st : List Value} {pc : Nat} (k : Z X nL ad dm S L R ce sl pc lv' st) : Z X nL ad dm S L R ce sl pc lv st := by
  obtain ⟨p, l, e, Rm, s, m, args, below, meth, c, Q, G, A⟩ := X
  intro H locs ls h1 h2 h3
  exact k H locs ls h1 h2 (lv_sub h3 ks hk)
end ZR
