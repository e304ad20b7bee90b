/-! STRING CONSTANTS: length() and charAt(k) of the keywords -/
def RJ0 : String := "java/lang/String"
def RJ1 : String := "java/lang/StringLatin1"
def RJ3 : String := "jdk/internal/util/Preconditions"
abbrev cJ0_length : ByteArray := prog_18_method_54_code
def yJ0_length : MethodName := ⟨RJ0, "length", "()I"⟩
abbrev cJ0_charAt : ByteArray := prog_18_method_56_code
def yJ0_charAt : MethodName := ⟨RJ0, "charAt", "(I)C"⟩
abbrev cJ0_coder : ByteArray := prog_18_method_152_code
def yJ0_coder : MethodName := ⟨RJ0, "coder", "()B"⟩
abbrev cJ0_isLatin1 : ByteArray := prog_18_method_154_code
def yJ0_isLatin1 : MethodName := ⟨RJ0, "isLatin1", "()Z"⟩
abbrev cJ0_checkIndex : ByteArray := prog_18_method_155_code
def yJ0_checkIndex : MethodName := ⟨RJ0, "checkIndex", "(II)V"⟩
abbrev cJ1_charAt : ByteArray := prog_19_method_2_code
def yJ1_charAt : MethodName := ⟨RJ1, "charAt", "([BI)C"⟩
abbrev cJ3_checkIndex : ByteArray := prog_24_method_11_code
def yJ3_checkIndex : MethodName := ⟨RJ3, "checkIndex", "(IILjava/util/function/BiFunction;)I"⟩
theorem dJ0_length_0 : decode cJ0_length 0 = .ok (.aload_n 0, 1) := by decide +kernel
theorem dJ0_length_1 : decode cJ0_length 1 = .ok (.getfield 9, 3) := by decide +kernel
theorem dJ0_length_4 : decode cJ0_length 4 = .ok (.arraylength, 1) := by decide +kernel
theorem dJ0_length_5 : decode cJ0_length 5 = .ok (.aload_n 0, 1) := by decide +kernel
theorem dJ0_length_6 : decode cJ0_length 6 = .ok (.invokevirtual 335, 3) := by decide +kernel
theorem dJ0_length_9 : decode cJ0_length 9 = .ok (.ishr, 1) := by decide +kernel
theorem dJ0_length_10 : decode cJ0_length 10 = .ok (.ireturn, 1) := by decide +kernel
theorem dJ0_charAt_0 : decode cJ0_charAt 0 = .ok (.aload_n 0, 1) := by decide +kernel
theorem dJ0_charAt_1 : decode cJ0_charAt 1 = .ok (.invokevirtual 492, 3) := by decide +kernel
theorem dJ0_charAt_4 : decode cJ0_charAt 4 = .ok (.ifCond .eq 12, 3) := by decide +kernel
theorem dJ0_charAt_7 : decode cJ0_charAt 7 = .ok (.aload_n 0, 1) := by decide +kernel
theorem dJ0_charAt_8 : decode cJ0_charAt 8 = .ok (.getfield 9, 3) := by decide +kernel
theorem dJ0_charAt_11 : decode cJ0_charAt 11 = .ok (.iload_n 1, 1) := by decide +kernel
theorem dJ0_charAt_12 : decode cJ0_charAt 12 = .ok (.invokestatic 495, 3) := by decide +kernel
theorem dJ0_charAt_15 : decode cJ0_charAt 15 = .ok (.ireturn, 1) := by decide +kernel
theorem dJ0_charAt_16 : decode cJ0_charAt 16 = .ok (.aload_n 0, 1) := by decide +kernel
theorem dJ0_charAt_17 : decode cJ0_charAt 17 = .ok (.getfield 9, 3) := by decide +kernel
theorem dJ0_charAt_20 : decode cJ0_charAt 20 = .ok (.iload_n 1, 1) := by decide +kernel
theorem dJ0_charAt_21 : decode cJ0_charAt 21 = .ok (.invokestatic 498, 3) := by decide +kernel
theorem dJ0_charAt_24 : decode cJ0_charAt 24 = .ok (.ireturn, 1) := by decide +kernel
theorem dJ0_coder_0 : decode cJ0_coder 0 = .ok (.getstatic 38, 3) := by decide +kernel
theorem dJ0_coder_3 : decode cJ0_coder 3 = .ok (.ifCond .eq 10, 3) := by decide +kernel
theorem dJ0_coder_6 : decode cJ0_coder 6 = .ok (.aload_n 0, 1) := by decide +kernel
theorem dJ0_coder_7 : decode cJ0_coder 7 = .ok (.getfield 15, 3) := by decide +kernel
theorem dJ0_coder_10 : decode cJ0_coder 10 = .ok (.goto 4, 3) := by decide +kernel
theorem dJ0_coder_13 : decode cJ0_coder 13 = .ok (.iconst 1, 1) := by decide +kernel
theorem dJ0_coder_14 : decode cJ0_coder 14 = .ok (.ireturn, 1) := by decide +kernel
theorem dJ0_isLatin1_0 : decode cJ0_isLatin1 0 = .ok (.getstatic 38, 3) := by decide +kernel
theorem dJ0_isLatin1_3 : decode cJ0_isLatin1 3 = .ok (.ifCond .eq 14, 3) := by decide +kernel
theorem dJ0_isLatin1_6 : decode cJ0_isLatin1 6 = .ok (.aload_n 0, 1) := by decide +kernel
theorem dJ0_isLatin1_7 : decode cJ0_isLatin1 7 = .ok (.getfield 15, 3) := by decide +kernel
theorem dJ0_isLatin1_10 : decode cJ0_isLatin1 10 = .ok (.ifCond .ne 7, 3) := by decide +kernel
theorem dJ0_isLatin1_13 : decode cJ0_isLatin1 13 = .ok (.iconst 1, 1) := by decide +kernel
theorem dJ0_isLatin1_14 : decode cJ0_isLatin1 14 = .ok (.goto 4, 3) := by decide +kernel
theorem dJ0_isLatin1_17 : decode cJ0_isLatin1 17 = .ok (.iconst 0, 1) := by decide +kernel
theorem dJ0_isLatin1_18 : decode cJ0_isLatin1 18 = .ok (.ireturn, 1) := by decide +kernel
theorem dJ0_checkIndex_0 : decode cJ0_checkIndex 0 = .ok (.iload_n 0, 1) := by decide +kernel
theorem dJ0_checkIndex_1 : decode cJ0_checkIndex 1 = .ok (.iload_n 1, 1) := by decide +kernel
theorem dJ0_checkIndex_2 : decode cJ0_checkIndex 2 = .ok (.getstatic 1053, 3) := by decide +kernel
theorem dJ0_checkIndex_5 : decode cJ0_checkIndex 5 = .ok (.invokestatic 1059, 3) := by decide +kernel
theorem dJ0_checkIndex_8 : decode cJ0_checkIndex 8 = .ok (.pop, 1) := by decide +kernel
theorem dJ0_checkIndex_9 : decode cJ0_checkIndex 9 = .ok (.return_, 1) := by decide +kernel
theorem dJ1_charAt_0 : decode cJ1_charAt 0 = .ok (.iload_n 1, 1) := by decide +kernel
theorem dJ1_charAt_1 : decode cJ1_charAt 1 = .ok (.aload_n 0, 1) := by decide +kernel
theorem dJ1_charAt_2 : decode cJ1_charAt 2 = .ok (.arraylength, 1) := by decide +kernel
theorem dJ1_charAt_3 : decode cJ1_charAt 3 = .ok (.invokestatic 9, 3) := by decide +kernel
theorem dJ1_charAt_6 : decode cJ1_charAt 6 = .ok (.aload_n 0, 1) := by decide +kernel
theorem dJ1_charAt_7 : decode cJ1_charAt 7 = .ok (.iload_n 1, 1) := by decide +kernel
theorem dJ1_charAt_8 : decode cJ1_charAt 8 = .ok (.baload, 1) := by decide +kernel
theorem dJ1_charAt_9 : decode cJ1_charAt 9 = .ok (.sipush 255, 3) := by decide +kernel
theorem dJ1_charAt_12 : decode cJ1_charAt 12 = .ok (.iand, 1) := by decide +kernel
theorem dJ1_charAt_13 : decode cJ1_charAt 13 = .ok (.i2c, 1) := by decide +kernel
theorem dJ1_charAt_14 : decode cJ1_charAt 14 = .ok (.ireturn, 1) := by decide +kernel
theorem dJ3_checkIndex_0 : decode cJ3_checkIndex 0 = .ok (.iload_n 0, 1) := by decide +kernel
theorem dJ3_checkIndex_1 : decode cJ3_checkIndex 1 = .ok (.ifCond .lt 8, 3) := by decide +kernel
theorem dJ3_checkIndex_4 : decode cJ3_checkIndex 4 = .ok (.iload_n 0, 1) := by decide +kernel
theorem dJ3_checkIndex_5 : decode cJ3_checkIndex 5 = .ok (.iload_n 1, 1) := by decide +kernel
theorem dJ3_checkIndex_6 : decode cJ3_checkIndex 6 = .ok (.if_icmp .lt 10, 3) := by decide +kernel
theorem dJ3_checkIndex_9 : decode cJ3_checkIndex 9 = .ok (.aload_n 2, 1) := by decide +kernel
theorem dJ3_checkIndex_10 : decode cJ3_checkIndex 10 = .ok (.iload_n 0, 1) := by decide +kernel
theorem dJ3_checkIndex_11 : decode cJ3_checkIndex 11 = .ok (.iload_n 1, 1) := by decide +kernel
theorem dJ3_checkIndex_12 : decode cJ3_checkIndex 12 = .ok (.invokestatic 95, 3) := by decide +kernel
theorem dJ3_checkIndex_15 : decode cJ3_checkIndex 15 = .ok (.athrow, 1) := by decide +kernel
theorem dJ3_checkIndex_16 : decode cJ3_checkIndex 16 = .ok (.iload_n 0, 1) := by decide +kernel
theorem dJ3_checkIndex_17 : decode cJ3_checkIndex 17 = .ok (.ireturn, 1) := by decide +kernel
theorem wc_J0_length : Cond.code yJ0_length cJ0_length 1 (some .int) ∈ mlw := mlw_t 583 (by decide +kernel) rfl
theorem wm_J0_length : Cond.instanceMethod yJ0_length ∈ mlw := mlw_t 581 (by decide +kernel) rfl
theorem we_J0_length : Cond.selects yJ0_length.cls yJ0_length yJ0_length ∈ mlw := mlw_t 582 (by decide +kernel) rfl
theorem wc_J0_charAt : Cond.code yJ0_charAt cJ0_charAt 2 (some .char) ∈ mlw := mlw_t 593 (by decide +kernel) rfl
theorem wm_J0_charAt : Cond.instanceMethod yJ0_charAt ∈ mlw := mlw_t 591 (by decide +kernel) rfl
theorem we_J0_charAt : Cond.selects yJ0_charAt.cls yJ0_charAt yJ0_charAt ∈ mlw := mlw_t 592 (by decide +kernel) rfl
theorem wc_J0_coder : Cond.code yJ0_coder cJ0_coder 1 (some .byte) ∈ mlw := mlw_t 587 (by decide +kernel) rfl
theorem wm_J0_coder : Cond.instanceMethod yJ0_coder ∈ mlw := mlw_t 585 (by decide +kernel) rfl
theorem we_J0_coder : Cond.selects yJ0_coder.cls yJ0_coder yJ0_coder ∈ mlw := mlw_t 586 (by decide +kernel) rfl
theorem wc_J0_isLatin1 : Cond.code yJ0_isLatin1 cJ0_isLatin1 1 (some .boolean) ∈ mlw := mlw_t 597 (by decide +kernel) rfl
theorem wm_J0_isLatin1 : Cond.instanceMethod yJ0_isLatin1 ∈ mlw := mlw_t 595 (by decide +kernel) rfl
theorem we_J0_isLatin1 : Cond.selects yJ0_isLatin1.cls yJ0_isLatin1 yJ0_isLatin1 ∈ mlw := mlw_t 596 (by decide +kernel) rfl
theorem wc_J0_checkIndex : Cond.code yJ0_checkIndex cJ0_checkIndex 2 none ∈ mlw := mlw_t 603 (by decide +kernel) rfl
theorem wt_J0_checkIndex : Cond.static yJ0_checkIndex ∈ mlw := mlw_t 602 (by decide +kernel) rfl
theorem wc_J1_charAt : Cond.code yJ1_charAt cJ1_charAt 2 (some .char) ∈ mlw := mlw_t 600 (by decide +kernel) rfl
theorem wt_J1_charAt : Cond.static yJ1_charAt ∈ mlw := mlw_t 599 (by decide +kernel) rfl
theorem wc_J3_checkIndex : Cond.code yJ3_checkIndex cJ3_checkIndex 3 (some .int) ∈ mlw := mlw_t 608 (by decide +kernel) rfl
theorem wt_J3_checkIndex : Cond.static yJ3_checkIndex ∈ mlw := mlw_t 607 (by decide +kernel) rfl
theorem wi_J0 : Cond.initialized RJ0 ∈ mlw := mlw_t 17 (by decide +kernel) rfl
theorem wi_J1 : Cond.initialized RJ1 ∈ mlw := mlw_t 18 (by decide +kernel) rfl
theorem wi_J3 : Cond.initialized RJ3 ∈ mlw := mlw_t 19 (by decide +kernel) rfl
theorem cv_X5_163 : mCv RX5 163 yJ0_length cJ0_length 1 (some .int) 0 := ⟨mlw_t 580 (by decide +kernel) rfl, wm_J0_length, we_J0_length, wi_J0, wc_J0_length, by decide +kernel⟩
theorem cv_X5_168 : mCv RX5 168 yJ0_charAt cJ0_charAt 2 (some .char) 1 := ⟨mlw_t 590 (by decide +kernel) rfl, wm_J0_charAt, we_J0_charAt, wi_J0, wc_J0_charAt, by decide +kernel⟩
theorem cv_X9_105 : mCv RX9 105 yJ0_length cJ0_length 1 (some .int) 0 := ⟨mlw_t 1297 (by decide +kernel) rfl, wm_J0_length, we_J0_length, wi_J0, wc_J0_length, by decide +kernel⟩
theorem cv_X9_110 : mCv RX9 110 yJ0_charAt cJ0_charAt 2 (some .char) 1 := ⟨mlw_t 1298 (by decide +kernel) rfl, wm_J0_charAt, we_J0_charAt, wi_J0, wc_J0_charAt, by decide +kernel⟩
theorem cv_J0_335 : mCv RJ0 335 yJ0_coder cJ0_coder 1 (some .byte) 0 := ⟨mlw_t 584 (by decide +kernel) rfl, wm_J0_coder, we_J0_coder, wi_J0, wc_J0_coder, by decide +kernel⟩
theorem cv_J0_492 : mCv RJ0 492 yJ0_isLatin1 cJ0_isLatin1 1 (some .boolean) 0 := ⟨mlw_t 594 (by decide +kernel) rfl, wm_J0_isLatin1, we_J0_isLatin1, wi_J0, wc_J0_isLatin1, by decide +kernel⟩
theorem cj_J0_495 : mCj RJ0 495 yJ1_charAt cJ1_charAt 2 (some .char) 2 := ⟨mlw_t 598 (by decide +kernel) rfl, wt_J1_charAt, wi_J1, wc_J1_charAt, by decide +kernel⟩
theorem cj_J1_9 : mCj RJ1 9 yJ0_checkIndex cJ0_checkIndex 2 none 2 := ⟨mlw_t 601 (by decide +kernel) rfl, wt_J0_checkIndex, wi_J0, wc_J0_checkIndex, by decide +kernel⟩
theorem cj_J0_1059 : mCj RJ0 1059 yJ3_checkIndex cJ3_checkIndex 3 (some .int) 3 := ⟨mlw_t 606 (by decide +kernel) rfl, wt_J3_checkIndex, wi_J3, wc_J3_checkIndex, by decide +kernel⟩
theorem fs_9 : Cond.fieldLink RJ0 9 "java/lang/String" "value" "[B" ∈ mlw := mlw_t 1640 (by decide +kernel) rfl
theorem fs_15 : Cond.fieldLink RJ0 15 "java/lang/String" "coder" "B" ∈ mlw := mlw_t 1641 (by decide +kernel) rfl
theorem fs_38 : Cond.fieldLink RJ0 38 "java/lang/String" "COMPACT_STRINGS" "Z" ∈ mlw := mlw_t 588 (by decide +kernel) rfl
theorem fs_1053 : Cond.fieldLink RJ0 1053 "jdk/internal/util/Preconditions" "SIOOBE_FORMATTER" "Ljava/util/function/BiFunction;" ∈ mlw := mlw_t 604 (by decide +kernel) rfl
section ZSTR
variable {X : mX} {own : String} {cc : ByteArray} {nL : Nat} {rm : Room} {ad : mA} {dm : mD} {S : mS} {L : mL} {R : mR} {ce sl : Nat} {lv : List (Nat × Value)} {rest st : List Value}
theorem z_sval (C : mK X own cc nL rm) (pc : Nat) {ix i : Nat} (d : decode cc pc = .ok (.getfield ix, 3)) (hl : Cond.fieldLink own ix "java/lang/String" "value" "[B" ∈ mlw) (hi : i < 8) (k : Z X nL ad dm S L R ce sl (pc + 3) lv (.ref (X.2.2.2.2.2.2.2.2.2.2.2.1.2 (200 + i)) :: rest)) : Z X nL ad dm S L R ce sl pc lv (.ref (X.2.2.2.2.2.2.2.2.2.2.2.1.2 (100 + i)) :: rest) := by
  obtain ⟨p, l, e, Rm, s, m, args, below, meth, c, Q, G, A⟩ := X
  intro H locs ls h1 h2 h3
  exact vk_getf C.1 C.2.1 (C.2.2.2.2.2.2.2.2.2.2.1 i hi).2.2.1 h2 C.2.2.2.1 (C.2.2.2.2.1 _ hl) (fun _ h => h) d (k H locs ls h1 h2 h3)
theorem z_scod (C : mK X own cc nL rm) (pc : Nat) {ix i : Nat} (d : decode cc pc = .ok (.getfield ix, 3)) (hl : Cond.fieldLink own ix "java/lang/String" "coder" "B" ∈ mlw) (hi : i < 8) (k : Z X nL ad dm S L R ce sl (pc + 3) lv (.int 0 :: rest)) : Z X nL ad dm S L R ce sl pc lv (.ref (X.2.2.2.2.2.2.2.2.2.2.2.1.2 (100 + i)) :: rest) := by
  obtain ⟨p, l, e, Rm, s, m, args, below, meth, c, Q, G, A⟩ := X
  intro H locs ls h1 h2 h3
  exact vk_getf C.1 C.2.1 (C.2.2.2.2.2.2.2.2.2.2.1 i hi).2.1 h2 C.2.2.2.1 (C.2.2.2.2.1 _ hl) (fun _ h => h) d (k H locs ls h1 h2 h3)
theorem z_slen (C : mK X own cc nL rm) (pc : Nat) {i : Nat} (d : decode cc pc = .ok (.arraylength, 1)) (hi : i < 8) (k : Z X nL ad dm S L R ce sl (pc + 1) lv (.int (nI (kwb i).length) :: rest)) : Z X nL ad dm S L R ce sl pc lv (.ref (X.2.2.2.2.2.2.2.2.2.2.2.1.2 (200 + i)) :: rest) := by
  obtain ⟨p, l, e, Rm, s, m, args, below, meth, c, Q, G, A⟩ := X
  intro H locs ls h1 h2 h3
  exact va_tlen C.1 C.2.1 (C.2.2.2.2.2.2.2.2.2.2.1 i hi).2.2.2 h2 rfl d (k H locs ls h1 h2 h3)
theorem z_sbal (C : mK X own cc nL rm) (pc : Nat) {i j : Nat} (d : decode cc pc = .ok (.baload, 1)) (hi : i < 8) (hj : j < (kwb i).length) (hL : (kwb i).length < 100) (k : Z X nL ad dm S L R ce sl (pc + 1) lv (.int ((kwb i).getD j 0) :: rest)) : Z X nL ad dm S L R ce sl pc lv (.int (nI j) :: .ref (X.2.2.2.2.2.2.2.2.2.2.2.1.2 (200 + i)) :: rest) := by
  obtain ⟨p, l, e, Rm, s, m, args, below, meth, c, Q, G, A⟩ := X
  intro H locs ls h1 h2 h3
  exact va_tb C.1 C.2.1 (C.2.2.2.2.2.2.2.2.2.2.1 i hi).2.2.2 h2 (vp_in_nI hj (by omega)) (by rw [nI_clamp (by omega)]) d (k H locs ls h1 h2 h3)
theorem z_scmp (C : mK X own cc nL rm) (pc : Nat) {ix : Nat} (d : decode cc pc = .ok (.getstatic ix, 3)) (hl : Cond.fieldLink own ix "java/lang/String" "COMPACT_STRINGS" "Z" ∈ mlw) (k : Z X nL ad dm S L R ce sl (pc + 3) lv (.int 1 :: rest)) : Z X nL ad dm S L R ce sl pc lv rest := by
  obtain ⟨p, l, e, Rm, s, m, args, below, meth, c, Q, G, A⟩ := X
  intro H locs ls h1 h2 h3
  exact va_gets C.1 C.2.1 C.2.2.2.2.2.2.2.2.2.1.1 h2 C.2.2.2.1 (C.2.2.2.2.1 _ hl) (fun _ h => h) d (k H locs ls h1 h2 h3)
theorem z_sfm (C : mK X own cc nL rm) (pc : Nat) {ix : Nat} (d : decode cc pc = .ok (.getstatic ix, 3)) (hl : Cond.fieldLink own ix "jdk/internal/util/Preconditions" "SIOOBE_FORMATTER" "Ljava/util/function/BiFunction;" ∈ mlw) (k : ∀ v : Value, (v = .null ∨ ∃ t, v = .ref t) → Z X nL ad dm S L R ce sl (pc + 3) lv (v :: rest)) : Z X nL ad dm S L R ce sl pc lv rest := by
  obtain ⟨p, l, e, Rm, s, m, args, below, meth, c, Q, G, A⟩ := X
  intro H locs ls h1 h2 h3
  rcases C.2.2.2.2.2.2.2.2.2.1.2 with hz | ⟨t, hz⟩
  · exact va_gets C.1 C.2.1 hz h2 C.2.2.2.1 (C.2.2.2.2.1 _ hl) (fun _ h => h) d (k _ (Or.inl rfl) H locs ls h1 h2 h3)
  · exact va_gets C.1 C.2.1 hz h2 C.2.2.2.1 (C.2.2.2.2.1 _ hl) (fun _ h => h) d (k _ (Or.inr ⟨t, rfl⟩) H locs ls h1 h2 h3)
theorem z_sldc (C : mK X own cc nL rm) (pc : Nat) {ix n : Nat} {tx : String} (d : decode cc pc = .ok (.ldc ix, 2)) (hl : (own, ix, tx, n) ∈ sR) (k : Z X nL ad dm S L R ce sl (pc + 2) lv (.ref (X.2.2.2.2.2.2.2.2.2.2.2.1.2 (100 + n)) :: rest)) : Z X nL ad dm S L R ce sl pc lv rest := by
  obtain ⟨p, l, e, Rm, s, m, args, below, meth, c, Q, G, A⟩ := X
  intro H locs ls h1 h2 h3
  exact va_ldcS C.1 C.2.1 C.2.2.2.1 (C.2.2.2.2.2.2.2.2.2.2.2.1 _ hl) d (k H locs ls h1 h2 h3)
theorem z_sVi (C : mK X own cc nL rm) (pc : Nat) {ix ny n : Nat} {i : Nat} {y : MethodName} {cy : ByteArray} {rt : FieldType} {rm' : Room} {As : List Value} {post : Int32 → mS → mL → mR → Prop} (d : decode cc pc = .ok (.invokevirtual ix, 3)) (f : mCv own ix y cy ny (some rt) n) (hM : Ki X.2.1 y cy ny rt rm' X.2.2.2.2.2.2.2.2.2.2.2.1 ad dm (.ref (X.2.2.2.2.2.2.2.2.2.2.2.1.2 (100 + i)) :: As) S L R post) (hy : y.cls = "java/lang/String") (hi : i < 8) (hst : As.reverse ++ .ref (X.2.2.2.2.2.2.2.2.2.2.2.1.2 (100 + i)) :: rest = st) (hn : As.length = n) (hcat : (rest.map fun v => v.category).sum ≤ 8) (hr : rm'.frames + 1 ≤ rm.frames ∧ 8 + (ny + 11) + rm'.locals ≤ rm.locals) (hz : ce + rm'.cells ≤ rm.cells ∧ sl + rm'.slots ≤ rm.slots) (k : ∀ (r : Int32) (S' : mS) (L' : mL) (R' : mR), post r S' L' R' → Z X nL ad dm S' L' R' (ce + rm'.cells) (sl + rm'.slots) (pc + 3) lv (.int r :: rest)) : Z X nL ad dm S L R ce sl pc lv st := by
  subst hst
  obtain ⟨p, l, e, Rm, s, m, args, below, meth, c, Q, G, A⟩ := X
  intro H locs ls h1 h2 h3
  have hts := C.2.2.2.2.1
  have hK := C.2.2.2.2.2.2.1
  have hAll := C.2.2.2.2.2.2.2.1
  have hCF := C.2.2.2.2.2.2.2.2
  have hRm : Rm = rm := C.2.2.2.2.2.1
  subst hRm
  have hF : ∀ q, mFr ad dm H.size q → A q := fun q hq => by
    rcases hq with ⟨k', i', hd', rfl⟩ | hq
    · exact h1.2.1 k' i' hd'
    · exact hAll q (Nat.le_trans h2.1 hq)
  refine va_calli (va_runV (As := As) (rest := rest) ⟨C.1, C.2.1, C.2.2.1, C.2.2.2.1, hts⟩ (hM H.size) (cwV n hts f.gi rfl rfl rfl ⟨rfl, f.2.2.2.2.2⟩ hr) ⟨mblind, (by rw [hy]; obtain ⟨cell, g1, g2, g3, -⟩ := (hCF.2.2.1 i hi).1.kept h2.2.1; exact ⟨cell, g1, g2, g3⟩), fun U hU hW => ⟨rfl, by rw [hU], ⟨by rw [hU]; exact h1.re (fun _ _ _ => trivial), va_K.moved hW.alike hK⟩, hCF.go hW (by rw [hU]; exact h2.2.1) hF⟩⟩ rfl hn h3.1 rfl (lv_room hcat) d hz) h2 (fun q _ h => hF q h) hF (fun r u t H1 locs1 ht hvm hw hB hz1 hk1 hS => k r u.1 u.2.1 u.2.2 hw H1 locs1 ls (by have := hB.1; rw [ht] at this; exact this.re h1.2.1) hS h3)
theorem z_sVi0 (C : mK X own cc nL rm) (pc : Nat) {ix ny n : Nat} {i : Nat} {y : MethodName} {cy : ByteArray} {rt : FieldType} {rm' : Room} {As : List Value} {post : Int32 → mS → mL → mR → Prop} (d : decode cc pc = .ok (.invokevirtual ix, 3)) (f : mCv own ix y cy ny (some rt) n) (hM : Ki X.2.1 y cy ny rt rm' X.2.2.2.2.2.2.2.2.2.2.2.1 ad dm (.ref (X.2.2.2.2.2.2.2.2.2.2.2.1.2 (100 + i)) :: As) S L R post) (hy : y.cls = "java/lang/String") (hi : i < 8) (hst : As.reverse ++ .ref (X.2.2.2.2.2.2.2.2.2.2.2.1.2 (100 + i)) :: rest = st) (hn : As.length = n) (hcat : (rest.map fun v => v.category).sum ≤ 8) (hr : rm'.frames + 1 ≤ rm.frames ∧ 8 + (ny + 11) + rm'.locals ≤ rm.locals) (h0 : rm'.cells = 0 ∧ rm'.slots = 0) (hz : ce ≤ rm.cells ∧ sl ≤ rm.slots) (k : ∀ (r : Int32) (S' : mS) (L' : mL) (R' : mR), post r S' L' R' → Z X nL ad dm S' L' R' ce sl (pc + 3) lv (.int r :: rest)) : Z X nL ad dm S L R ce sl pc lv st :=
  z_sVi C pc d f hM hy hi hst hn hcat hr (by rw [h0.1, h0.2]; exact hz) (fun r S' L' R' hp => by rw [h0.1, h0.2]; exact k r S' L' R' hp)
theorem z_cJi (C : mK X own cc nL rm) (pc : Nat) {ix ny n : Nat} {y : MethodName} {cy : ByteArray} {rt : FieldType} {rm' : Room} {As : List Value} {post : Int32 → mS → mL → mR → Prop} (d : decode cc pc = .ok (.invokestatic ix, 3)) (f : mCj own ix y cy ny (some rt) n) (hM : Ki X.2.1 y cy ny rt rm' X.2.2.2.2.2.2.2.2.2.2.2.1 ad dm (As) S L R post) (hst : As.reverse ++ rest = st) (hn : As.length = n) (hcat : (rest.map fun v => v.category).sum ≤ 8) (hr : rm'.frames + 1 ≤ rm.frames ∧ 8 + (ny + 11) + rm'.locals ≤ rm.locals) (hz : ce + rm'.cells ≤ rm.cells ∧ sl + rm'.slots ≤ rm.slots) (k : ∀ (r : Int32) (S' : mS) (L' : mL) (R' : mR), post r S' L' R' → Z X nL ad dm S' L' R' (ce + rm'.cells) (sl + rm'.slots) (pc + 3) lv (.int r :: rest)) : Z X nL ad dm S L R ce sl pc lv st := by
  subst hst
  obtain ⟨p, l, e, Rm, s, m, args, below, meth, c, Q, G, A⟩ := X
  intro H locs ls h1 h2 h3
  have hts := C.2.2.2.2.1
  have hK := C.2.2.2.2.2.2.1
  have hAll := C.2.2.2.2.2.2.2.1
  have hCF := C.2.2.2.2.2.2.2.2
  have hRm : Rm = rm := C.2.2.2.2.2.1
  subst hRm
  have hF : ∀ q, mFr ad dm H.size q → A q := fun q hq => by
    rcases hq with ⟨k', i', hd', rfl⟩ | hq
    · exact h1.2.1 k' i' hd'
    · exact hAll q (Nat.le_trans h2.1 hq)
  refine va_calli (va_runS (As := As) (rest := rest) ⟨C.1, C.2.1, C.2.2.1, C.2.2.2.1, hts⟩ (hM H.size) (va_cwS n hts f.gi rfl rfl rfl f.2.2.2.2 hr) ⟨mblind, fun U hU hW => ⟨rfl, by rw [hU], ⟨by rw [hU]; exact h1.re (fun _ _ _ => trivial), va_K.moved hW.alike hK⟩, hCF.go hW (by rw [hU]; exact h2.2.1) hF⟩⟩ rfl hn h3.1 rfl (lv_room hcat) d hz) h2 (fun q _ h => hF q h) hF (fun r u t H1 locs1 ht hvm hw hB hz1 hk1 hS => k r u.1 u.2.1 u.2.2 hw H1 locs1 ls (by have := hB.1; rw [ht] at this; exact this.re h1.2.1) hS h3)
theorem z_cJi0 (C : mK X own cc nL rm) (pc : Nat) {ix ny n : Nat} {y : MethodName} {cy : ByteArray} {rt : FieldType} {rm' : Room} {As : List Value} {post : Int32 → mS → mL → mR → Prop} (d : decode cc pc = .ok (.invokestatic ix, 3)) (f : mCj own ix y cy ny (some rt) n) (hM : Ki X.2.1 y cy ny rt rm' X.2.2.2.2.2.2.2.2.2.2.2.1 ad dm (As) S L R post) (hst : As.reverse ++ rest = st) (hn : As.length = n) (hcat : (rest.map fun v => v.category).sum ≤ 8) (hr : rm'.frames + 1 ≤ rm.frames ∧ 8 + (ny + 11) + rm'.locals ≤ rm.locals) (h0 : rm'.cells = 0 ∧ rm'.slots = 0) (hz : ce ≤ rm.cells ∧ sl ≤ rm.slots) (k : ∀ (r : Int32) (S' : mS) (L' : mL) (R' : mR), post r S' L' R' → Z X nL ad dm S' L' R' ce sl (pc + 3) lv (.int r :: rest)) : Z X nL ad dm S L R ce sl pc lv st :=
  z_cJi C pc d f hM hst hn hcat hr (by rw [h0.1, h0.2]; exact hz) (fun r S' L' R' hp => by rw [h0.1, h0.2]; exact k r S' L' R' hp)
end ZSTR
theorem kwl : ∀ i, i < 8 → (kwb i).length < 100 := by decide
theorem kwc : ∀ i, i < 8 → ∀ j, j < (kwb i).length → (((kwb i).getD j 0 &&& 255).toUInt32 % 65536).toInt32 = (kwb i).getD j 0 := by decide +kernel
theorem kwn : ∀ i, i < 8 → ∀ j, j < (kwb i).length → narrow .char (.int ((kwb i).getD j 0)) = .int ((kwb i).getD j 0) := by decide +kernel
theorem kw_sh (i : Nat) : nI (kwb i).length >>> ((0 : Int32) &&& 31) = nI (kwb i).length := by simp
def rm_J0_coder : Room := { frames := 0, cells := 0, slots := 0, locals := 0 }
set_option maxHeartbeats 1000000 in
theorem c_J0_coder {l : Launch} {G : mG} {ad : mA} {S : mS} {L : mL} {R : mR} {i : Nat} (hi : i < 8) : Ki l yJ0_coder cJ0_coder 1 .byte rm_J0_coder G ad mdm [.ref (G.2 (100 + i))] S L R (fun r_ S2 L2 R2 => r_ = 0 ∧ S = S2 ∧ L = L2 ∧ R = R2) := by
  refine Ki.of RJ0 (by decide) rfl (Nat.le_of_ble_eq_true rfl) ?_
  intro X hXl hXG C ret
  subst hXl; subst hXG
  change Z X 1 ad mdm S L R 0 0 0 [(0, _)] []
  refine z_scmp C 0 dJ0_coder_0 fs_38 ?_
  refine z_if_eq C 3 13 dJ0_coder_3 (by decide) (fun h => absurd h (by decide)) (fun _ => ?_)
  refine z_aload_n C 6 0 0 dJ0_coder_6 rfl rfl ?_
  refine z_scod C 7 dJ0_coder_7 fs_15 hi ?_
  refine z_goto C 10 14 dJ0_coder_10 (by decide) ?_
  exact ret 14 _ _ _ _ _ dJ0_coder_14 rfl ⟨rfl, rfl, rfl, rfl⟩
def rm_J0_length : Room := { frames := 1, cells := 0, slots := 0, locals := 20 }
set_option maxHeartbeats 1000000 in
theorem c_J0_length {l : Launch} {G : mG} {ad : mA} {S : mS} {L : mL} {R : mR} {i : Nat} (hi : i < 8) : Ki l yJ0_length cJ0_length 1 .int rm_J0_length G ad mdm [.ref (G.2 (100 + i))] S L R (fun r_ S2 L2 R2 => r_ = nI (kwb i).length ∧ S = S2 ∧ L = L2 ∧ R = R2) := by
  refine Ki.of RJ0 (by decide) rfl (Nat.le_of_ble_eq_true rfl) ?_
  intro X hXl hXG C ret
  subst hXl; subst hXG
  change Z X 1 ad mdm S L R 0 0 0 [(0, _)] []
  refine z_aload_n C 0 0 0 dJ0_length_0 rfl rfl ?_
  refine z_sval C 1 dJ0_length_1 fs_9 hi ?_
  refine z_slen C 4 dJ0_length_4 hi ?_
  refine z_aload_n C 5 0 0 dJ0_length_5 rfl rfl ?_
  refine z_sVi0 C 6 dJ0_length_6 cv_J0_335 (c_J0_coder hi) rfl hi rfl rfl (Nat.le_of_ble_eq_true rfl) ⟨by decide, by decide⟩ ⟨rfl, rfl⟩ ⟨by decide, by decide⟩ ?_
  intro r6 S6 L6 R6 p6
  obtain ⟨rfl, rfl, rfl, rfl⟩ := p6
  refine z_ishr C 9 dJ0_length_9 ?_
  rw [kw_sh]
  exact ret 10 _ _ _ _ _ dJ0_length_10 rfl ⟨rfl, rfl, rfl, rfl⟩
def rm_J0_isLatin1 : Room := { frames := 0, cells := 0, slots := 0, locals := 0 }
set_option maxHeartbeats 1000000 in
theorem c_J0_isLatin1 {l : Launch} {G : mG} {ad : mA} {S : mS} {L : mL} {R : mR} {i : Nat} (hi : i < 8) : Ki l yJ0_isLatin1 cJ0_isLatin1 1 .boolean rm_J0_isLatin1 G ad mdm [.ref (G.2 (100 + i))] S L R (fun r_ S2 L2 R2 => r_ = 1 ∧ S = S2 ∧ L = L2 ∧ R = R2) := by
  refine Ki.of RJ0 (by decide) rfl (Nat.le_of_ble_eq_true rfl) ?_
  intro X hXl hXG C ret
  subst hXl; subst hXG
  change Z X 1 ad mdm S L R 0 0 0 [(0, _)] []
  refine z_scmp C 0 dJ0_isLatin1_0 fs_38 ?_
  refine z_if_eq C 3 17 dJ0_isLatin1_3 (by decide) (fun h => absurd h (by decide)) (fun _ => ?_)
  refine z_aload_n C 6 0 0 dJ0_isLatin1_6 rfl rfl ?_
  refine z_scod C 7 dJ0_isLatin1_7 fs_15 hi ?_
  refine z_if_ne C 10 17 dJ0_isLatin1_10 (by decide) (fun h => absurd rfl h) (fun _ => ?_)
  refine z_iconst (v := nI 1) C 13 dJ0_isLatin1_13 (by decide) ?_
  refine z_goto C 14 18 dJ0_isLatin1_14 (by decide) ?_
  exact ret 18 _ _ _ _ _ dJ0_isLatin1_18 rfl ⟨rfl, rfl, rfl, rfl⟩
def rm_J3_checkIndex : Room := { frames := 0, cells := 0, slots := 0, locals := 0 }
set_option maxHeartbeats 1000000 in
theorem c_J3_checkIndex {l : Launch} {G : mG} {ad : mA} {S : mS} {L : mL} {R : mR} {a b : Nat} {v : Value} (hab : a < b) (hb : b < 1000) (hv : v = .null ∨ ∃ t, v = .ref t) : Ki l yJ3_checkIndex cJ3_checkIndex 3 .int rm_J3_checkIndex G ad mdm [.int (nI a), .int (nI b), v] S L R (fun r_ S2 L2 R2 => r_ = nI a ∧ S = S2 ∧ L = L2 ∧ R = R2) := by
  rcases hv with rfl | ⟨t, rfl⟩
  all_goals
    refine Ki.of RJ3 (by decide) rfl (Nat.le_of_ble_eq_true rfl) ?_
    intro X hXl hXG C ret
    subst hXl; subst hXG
    change Z X 3 ad mdm S L R 0 0 0 [(0, _), (1, _), (2, _)] []
    refine z_iload_n C 0 0 0 dJ3_checkIndex_0 rfl rfl ?_
    refine z_if_lt C 1 9 dJ3_checkIndex_1 (by decide) (fun h => absurd h (nI_pos (by omega))) (fun _ => ?_)
    refine z_iload_n C 4 0 0 dJ3_checkIndex_4 rfl rfl ?_
    refine z_iload_n C 5 1 1 dJ3_checkIndex_5 rfl rfl ?_
    refine z_icmp_lt C 6 16 dJ3_checkIndex_6 (by decide) (fun _ => ?_) (fun h => absurd (nI_lt hab (by omega)) h)
    refine z_iload_n C 16 0 0 dJ3_checkIndex_16 rfl rfl ?_
    exact ret 17 _ _ _ _ _ dJ3_checkIndex_17 rfl ⟨rfl, rfl, rfl, rfl⟩
def rm_J0_checkIndex : Room := { frames := 1, cells := 0, slots := 0, locals := 30 }
set_option maxHeartbeats 1000000 in
theorem c_J0_checkIndex {l : Launch} {G : mG} {ad : mA} {S : mS} {L : mL} {R : mR} {a b : Nat} (hab : a < b) (hb : b < 1000) : Kv l yJ0_checkIndex cJ0_checkIndex 2 rm_J0_checkIndex G ad mdm [.int (nI a), .int (nI b)] S L R (fun S2 L2 R2 => S = S2 ∧ L = L2 ∧ R = R2) := by
  refine Kv.of RJ0 (by decide) rfl (Nat.le_of_ble_eq_true rfl) ?_
  intro X hXl hXG C ret
  subst hXl; subst hXG
  change Z X 2 ad mdm S L R 0 0 0 [(0, _), (1, _)] []
  refine z_iload_n C 0 0 0 dJ0_checkIndex_0 rfl rfl ?_
  refine z_iload_n C 1 1 1 dJ0_checkIndex_1 rfl rfl ?_
  refine z_sfm C 2 dJ0_checkIndex_2 fs_1053 (fun v hv => ?_)
  refine z_cJi0 C 5 dJ0_checkIndex_5 cj_J0_1059 (c_J3_checkIndex (v := v) hab hb hv) rfl rfl (Nat.le_of_ble_eq_true rfl) ⟨by decide, by decide⟩ ⟨rfl, rfl⟩ ⟨by decide, by decide⟩ ?_
  intro r5 S5 L5 R5 p5
  obtain ⟨rfl, rfl, rfl, rfl⟩ := p5
  refine z_pop C 8 dJ0_checkIndex_8 rfl ?_
  exact ret 9 _ _ _ _ dJ0_checkIndex_9 ⟨rfl, rfl, rfl⟩
def rm_J1_charAt : Room := { frames := 2, cells := 0, slots := 0, locals := 60 }
set_option maxHeartbeats 1000000 in
theorem c_J1_charAt {l : Launch} {G : mG} {ad : mA} {S : mS} {L : mL} {R : mR} {i j : Nat} (hi : i < 8) (hj : j < (kwb i).length) : Ki l yJ1_charAt cJ1_charAt 2 .char rm_J1_charAt G ad mdm [.ref (G.2 (200 + i)), .int (nI j)] S L R (fun r_ S2 L2 R2 => r_ = (kwb i).getD j 0 ∧ S = S2 ∧ L = L2 ∧ R = R2) := by
  refine Ki.of RJ1 (by decide) rfl (Nat.le_of_ble_eq_true rfl) ?_
  intro X hXl hXG C ret
  subst hXl; subst hXG
  change Z X 2 ad mdm S L R 0 0 0 [(0, _), (1, _)] []
  have hL := kwl i hi
  refine z_iload_n C 0 1 1 dJ1_charAt_0 rfl rfl ?_
  refine z_aload_n C 1 0 0 dJ1_charAt_1 rfl rfl ?_
  refine z_slen C 2 dJ1_charAt_2 hi ?_
  refine z_cJv0 C 3 dJ1_charAt_3 cj_J1_9 (c_J0_checkIndex hj (by omega)) rfl rfl (Nat.le_of_ble_eq_true rfl) ⟨by decide, by decide⟩ ⟨rfl, rfl⟩ ⟨by decide, by decide⟩ ?_
  intro S3 L3 R3 p3
  obtain ⟨rfl, rfl, rfl⟩ := p3
  refine z_aload_n C 6 0 0 dJ1_charAt_6 rfl rfl ?_
  refine z_iload_n C 7 1 1 dJ1_charAt_7 rfl rfl ?_
  refine z_sbal C 8 dJ1_charAt_8 hi hj hL ?_
  refine z_sipush (v := nI 255) C 9 dJ1_charAt_9 (by decide +kernel) ?_
  refine z_iand C 12 dJ1_charAt_12 ?_
  refine z_i2c C 13 dJ1_charAt_13 (kwc i hi j hj) ?_
  exact ret 14 _ _ _ _ _ dJ1_charAt_14 (kwn i hi j hj) ⟨rfl, rfl, rfl, rfl⟩
def rm_J0_charAt : Room := { frames := 3, cells := 0, slots := 0, locals := 90 }
set_option maxHeartbeats 1000000 in
theorem c_J0_charAt {l : Launch} {G : mG} {ad : mA} {S : mS} {L : mL} {R : mR} {i j : Nat} (hi : i < 8) (hj : j < (kwb i).length) : Ki l yJ0_charAt cJ0_charAt 2 .char rm_J0_charAt G ad mdm [.ref (G.2 (100 + i)), .int (nI j)] S L R (fun r_ S2 L2 R2 => r_ = (kwb i).getD j 0 ∧ S = S2 ∧ L = L2 ∧ R = R2) := by
  refine Ki.of RJ0 (by decide) rfl (Nat.le_of_ble_eq_true rfl) ?_
  intro X hXl hXG C ret
  subst hXl; subst hXG
  change Z X 2 ad mdm S L R 0 0 0 [(0, _), (1, _)] []
  refine z_aload_n C 0 0 0 dJ0_charAt_0 rfl rfl ?_
  refine z_sVi0 C 1 dJ0_charAt_1 cv_J0_492 (c_J0_isLatin1 hi) rfl hi rfl rfl (Nat.le_of_ble_eq_true rfl) ⟨by decide, by decide⟩ ⟨rfl, rfl⟩ ⟨by decide, by decide⟩ ?_
  intro r1 S1 L1 R1 p1
  obtain ⟨rfl, rfl, rfl, rfl⟩ := p1
  refine z_if_eq C 4 16 dJ0_charAt_4 (by decide) (fun h => absurd h (by decide)) (fun _ => ?_)
  refine z_aload_n C 7 0 0 dJ0_charAt_7 rfl rfl ?_
  refine z_sval C 8 dJ0_charAt_8 fs_9 hi ?_
  refine z_iload_n C 11 1 1 dJ0_charAt_11 rfl rfl ?_
  refine z_cJi0 C 12 dJ0_charAt_12 cj_J0_495 (c_J1_charAt hi hj) rfl rfl (Nat.le_of_ble_eq_true rfl) ⟨by decide, by decide⟩ ⟨rfl, rfl⟩ ⟨by decide, by decide⟩ ?_
  intro r12 S12 L12 R12 p12
  obtain ⟨rfl, rfl, rfl, rfl⟩ := p12
  exact ret 15 _ _ _ _ _ dJ0_charAt_15 (kwn i hi j hj) ⟨rfl, rfl, rfl, rfl⟩
