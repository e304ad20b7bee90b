/-! call by call: class and reference answer alike -/
theorem parse_q {l : Launch} {G : mG} {ad : mA} {S1 : mS} {L1 : mL} {R1 : mR} {un : Nat → Nat} {f : Nat} {y : Int32} (hR1 : mlk R1) (hT : TV S1 un f) (h : ¬ isR 0 f y) : Ki l yX9_parse cX9_parse 3 .int rm_X9_parse G ad mdm [.ref (ad 40 0), .int y] S1 L1 R1 (fun b S2 L2 R2 => rQ S1 S2 1 ∧ L1 = L2 ∧ R1 = R2) :=
  Ki.mono (c_X9_parse_1 hR1 hT.2.2.1 hT.2.2.2.1 h) (fun b S2 L2 R2 q => ⟨by rw [← q.2.1]; exact rQ_t _ _, q.2.2.1, q.2.2.2⟩)
theorem isPR {k : Nat} {y : Int32} (h : ¬ isR 0 k y) : ¬ isP (k + 1) y := fun z => by
  obtain ⟨p, hp, e⟩ := z
  exact h ⟨p, Nat.zero_le _, by omega, e⟩
theorem show_none {N T c : NN} {n p B : Nat} (hc : cO c) (ht : tI T n) (hJ : JI N T n B) (hp : p < n) (h : (fShowR N T c n p).1 = -1) : ¬ fo N p 0 = nI 1 ∧ fShow N T c n p = none := by
  have h1 : ¬ fo N p 0 = nI 1 := fun z => by
    rw [fShowR_1 z] at h
    exact absurd h (by decide)
  refine ⟨h1, ?_⟩
  unfold fShowR at h
  rw [if_neg h1] at h
  cases e : fShow N T c n p with
  | none => rfl
  | some q =>
    rw [e] at h
    obtain ⟨w, hw, ew⟩ := fWait_N hc ht hJ.2.1 hp
    have h' : fWait N T c p = -1 := h
    rw [ew] at h'
    exact absurd h' (nI_m1 (by omega))
theorem showR_2 {N T c : NN} {n p : Nat} (h0 : ¬ fo N p 0 = nI 1) (h : fShow N T c n p = none) : (fShowR N T c n p).2.2 = N := by
  unfold fShowR
  rw [if_neg h0, h]
set_option maxRecDepth 100000 in
theorem cs_size {l : Launch} {G : mG} {ad : mA} {S : mS} {L : mL} {R : mR} {t : Nat} (hlf : l.stackTraces = false) (ht : t ≤ 512) (hI : IVt S L R t) (a0 : Int32) : CaseW l G ad S L R i2 yL_size cL_size 4 [(0, 9, 12, 13)] [.ref (ad 0 0), .int a0, .ref (ad 60 0)] yX9_size cX9_size 2 .int rm_X9_size [.ref (ad 40 0), .int a0] t := by
  obtain ⟨T, c, N, d, n, B, u, UR, SR, sf, un, f, nm, hI, hB⟩ := hI
  obtain ⟨x, ph, hC⟩ := id hI.1
  obtain ⟨hR, hn, hu, hrI, htI, hJ⟩ := hC.facts
  have hcO : cO c := hI.2.1.2.2.2.2.2.1
  by_cases h : isR 0 8 a0
  · obtain ⟨w, hw0, hw, rfl⟩ := h
    exact case_q (v := cSize N T n u w) hI hB ⟨by decide, by decide⟩ ⟨by decide, by decide⟩ (w_size_ok (Ki.mono (c_X8_size hC hw) (fun r S2 L2 R2 p => by obtain ⟨rfl, rfl, rfl, rfl⟩ := p; exact ⟨rfl, CQ.of hC, LQ.rf _⟩))) (fun S1 L1 R1 hR1 hV => Ki.mono (c_X9_size hR1 hV.2.1 hn (by rw [hV.1]; exact hrI) hw) (fun b S2 L2 R2 q => ⟨q.2.1.trans (qSize_T hV.1 hV.2.2.1 hV.2.2.2.1), q.1, q.2.2.1, q.2.2.2⟩))
  · exact case_t (k := 1) (by omega) (by omega) hI hB ⟨by decide, by decide⟩ ⟨by decide, by decide⟩ (w_size_t1 (c_X8_size_t hlf hC h)) (fun S1 L1 R1 hR1 hV _ => Ki.mono (c_X9_size_1 hR1 h) (fun b S2 L2 R2 q => q))
set_option maxRecDepth 100000 in
theorem cs_program {l : Launch} {G : mG} {ad : mA} {S : mS} {L : mL} {R : mR} {t : Nat} (hlf : l.stackTraces = false) (ht : t ≤ 512) (hI : IVt S L R t) (a0 a1 : Int32) : CaseW l G ad S L R i2 yL_program cL_program 5 [(0, 10, 13, 22), (0, 10, 17, 13)] [.ref (ad 0 0), .int a0, .int a1, .ref (ad 60 0)] yX9_program cX9_program 3 .int rm_X9_program [.ref (ad 40 0), .int a0, .int a1] t := by
  obtain ⟨T, c, N, d, n, B, u, UR, SR, sf, un, f, nm, hI, hB⟩ := hI
  obtain ⟨x, ph, hC⟩ := id hI.1
  obtain ⟨hR, hn, hu, hrI, htI, hJ⟩ := hC.facts
  have hcO : cO c := hI.2.1.2.2.2.2.2.1
  by_cases h : isP n a0
  · obtain ⟨p, hp, rfl⟩ := h
    by_cases h : isR 0 7 a1
    · obtain ⟨w, _, hw, rfl⟩ := h
      exact case_q (v := qProg N T p w) hI hB ⟨by decide, by decide⟩ ⟨by decide, by decide⟩ (w_program_ok (Ki.mono (c_X8_program hC hp hw) (fun r S2 L2 R2 p => by obtain ⟨rfl, rfl, rfl, rfl⟩ := p; exact ⟨rfl, CQ.of hC, LQ.rf _⟩))) (fun S1 L1 R1 hR1 hV => Ki.mono (c_X9_program hR1 hV.2.1 hn (by rw [hV.1]; exact hrI) hp hw) (fun b S2 L2 R2 q => ⟨q.2.1.trans (by rw [hV.1, qProg_T hV.2.2.2.1 hp]), q.1, q.2.2.1, q.2.2.2⟩))
    · exact case_t (k := 2) (by omega) (by omega) hI hB ⟨by decide, by decide⟩ ⟨by decide, by decide⟩ (w_program_t2 (c_X8_program_t2 hlf hC hp h)) (fun S1 L1 R1 hR1 hV _ => Ki.mono (c_X9_program_2 hR1 hV.2.1 hn hp h) (fun b S2 L2 R2 q => q))
  · exact case_t (k := 1) (by omega) (by omega) hI hB ⟨by decide, by decide⟩ ⟨by decide, by decide⟩ (w_program_t1 (c_X8_program_t hlf hC h)) (fun S1 L1 R1 hR1 hV _ => Ki.mono (c_X9_program_1 hR1 hV.2.1 hn h) (fun b S2 L2 R2 q => q))
set_option maxRecDepth 100000 in
theorem cs_told {l : Launch} {G : mG} {ad : mA} {S : mS} {L : mL} {R : mR} {t : Nat} (hlf : l.stackTraces = false) (ht : t ≤ 512) (hI : IVt S L R t) (a0 a1 : Int32) : CaseW l G ad S L R i2 yL_told cL_told 5 [(0, 10, 13, 22), (0, 10, 17, 13)] [.ref (ad 0 0), .int a0, .int a1, .ref (ad 60 0)] yX9_told cX9_told 3 .int rm_X9_told [.ref (ad 40 0), .int a0, .int a1] t := by
  obtain ⟨T, c, N, d, n, B, u, UR, SR, sf, un, f, nm, hI, hB⟩ := hI
  obtain ⟨x, ph, hC⟩ := id hI.1
  obtain ⟨hR, hn, hu, hrI, htI, hJ⟩ := hC.facts
  have hcO : cO c := hI.2.1.2.2.2.2.2.1
  by_cases h : isP n a0
  · obtain ⟨p, hp, rfl⟩ := h
    by_cases h : isR 0 7 a1
    · obtain ⟨w, _, hw, rfl⟩ := h
      exact case_q (v := T (8 * p + w)) hI hB ⟨by decide, by decide⟩ ⟨by decide, by decide⟩ (w_told_ok (Ki.mono (c_X8_told hC hp hw) (fun r S2 L2 R2 p => by obtain ⟨rfl, rfl, rfl, rfl⟩ := p; exact ⟨rfl, CQ.of hC, LQ.rf _⟩))) (fun S1 L1 R1 hR1 hV => Ki.mono (c_X9_told hR1 hV.2.1 hn hp hw) (fun b S2 L2 R2 q => ⟨q.2.1.trans (hV.2.2.2.1 p w hp (by omega)).symm, q.1, q.2.2.1, q.2.2.2⟩))
    · exact case_t (k := 2) (by omega) (by omega) hI hB ⟨by decide, by decide⟩ ⟨by decide, by decide⟩ (w_told_t2 (c_X8_told_t2 hlf hC hp (isPR h))) (fun S1 L1 R1 hR1 hV _ => Ki.mono (c_X9_told_2 hR1 hV.2.1 hn hp h) (fun b S2 L2 R2 q => q))
  · exact case_t (k := 1) (by omega) (by omega) hI hB ⟨by decide, by decide⟩ ⟨by decide, by decide⟩ (w_told_t1 (c_X8_told_t hlf hC h)) (fun S1 L1 R1 hR1 hV _ => Ki.mono (c_X9_told_1 hR1 hV.2.1 hn h) (fun b S2 L2 R2 q => q))
set_option maxRecDepth 100000 in
theorem cs_picture {l : Launch} {G : mG} {ad : mA} {S : mS} {L : mL} {R : mR} {t : Nat} (hlf : l.stackTraces = false) (ht : t ≤ 512) (hI : IVt S L R t) (a0 : Int32) : CaseW l G ad S L R i2 yL_picture cL_picture 4 [(0, 9, 12, 22)] [.ref (ad 0 0), .int a0, .ref (ad 60 0)] yX9_picture cX9_picture 2 .int rm_X9_picture [.ref (ad 40 0), .int a0] t := by
  obtain ⟨T, c, N, d, n, B, u, UR, SR, sf, un, f, nm, hI, hB⟩ := hI
  obtain ⟨x, ph, hC⟩ := id hI.1
  obtain ⟨hR, hn, hu, hrI, htI, hJ⟩ := hC.facts
  have hcO : cO c := hI.2.1.2.2.2.2.2.1
  by_cases h : isP n a0
  · obtain ⟨p, hp, rfl⟩ := h
    exact case_q (v := fo N p 3) hI hB ⟨by decide, by decide⟩ ⟨by decide, by decide⟩ (w_picture_ok (Ki.mono (c_X8_picture hC hp) (fun r S2 L2 R2 p => by obtain ⟨rfl, rfl, rfl, rfl⟩ := p; exact ⟨rfl, CQ.of hC, LQ.rf _⟩))) (fun S1 L1 R1 hR1 hV => Ki.mono (c_X9_picture hR1 hV.2.1 hn (by rw [hV.1]; exact hrI) hp) (fun b S2 L2 R2 q => ⟨q.2.1.trans (by rw [hV.1]), q.1, q.2.2.1, q.2.2.2⟩))
  · exact case_t (k := 1) (by omega) (by omega) hI hB ⟨by decide, by decide⟩ ⟨by decide, by decide⟩ (w_picture_t1 (c_X8_picture_t hlf hC h)) (fun S1 L1 R1 hR1 hV _ => Ki.mono (c_X9_picture_1 hR1 hV.2.1 hn h) (fun b S2 L2 R2 q => q))
set_option maxRecDepth 100000 in
theorem cs_habit {l : Launch} {G : mG} {ad : mA} {S : mS} {L : mL} {R : mR} {t : Nat} (hlf : l.stackTraces = false) (ht : t ≤ 512) (hI : IVt S L R t) (a0 : Int32) : CaseW l G ad S L R i2 yL_habit cL_habit 4 [(0, 9, 12, 22)] [.ref (ad 0 0), .int a0, .ref (ad 60 0)] yX9_habit cX9_habit 2 .int rm_X9_habit [.ref (ad 40 0), .int a0] t := by
  obtain ⟨T, c, N, d, n, B, u, UR, SR, sf, un, f, nm, hI, hB⟩ := hI
  obtain ⟨x, ph, hC⟩ := id hI.1
  obtain ⟨hR, hn, hu, hrI, htI, hJ⟩ := hC.facts
  have hcO : cO c := hI.2.1.2.2.2.2.2.1
  by_cases h : isP n a0
  · obtain ⟨p, hp, rfl⟩ := h
    exact case_q (v := fHabit N p) hI hB ⟨by decide, by decide⟩ ⟨by decide, by decide⟩ (w_habit_ok (Ki.mono (c_X8_habit hC hp) (fun r S2 L2 R2 p => by obtain ⟨rfl, rfl, rfl, rfl⟩ := p; exact ⟨rfl, CQ.of hC, LQ.rf _⟩))) (fun S1 L1 R1 hR1 hV => Ki.mono (c_X9_habit hR1 hV.2.1 hn (by rw [hV.1]; exact hrI) hp) (fun b S2 L2 R2 q => ⟨q.2.1.trans (by rw [hV.1]), q.1, q.2.2.1, q.2.2.2⟩))
  · exact case_t (k := 1) (by omega) (by omega) hI hB ⟨by decide, by decide⟩ ⟨by decide, by decide⟩ (w_habit_t1 (c_X8_habit_t hlf hC h)) (fun S1 L1 R1 hR1 hV _ => Ki.mono (c_X9_habit_1 hR1 hV.2.1 hn h) (fun b S2 L2 R2 q => q))
set_option maxRecDepth 100000 in
theorem cs_promise {l : Launch} {G : mG} {ad : mA} {S : mS} {L : mL} {R : mR} {t : Nat} (hlf : l.stackTraces = false) (ht : t ≤ 512) (hI : IVt S L R t) (a0 : Int32) : CaseW l G ad S L R i2 yL_promise cL_promise 4 [(0, 9, 12, 22)] [.ref (ad 0 0), .int a0, .ref (ad 60 0)] yX9_promise cX9_promise 2 .int rm_X9_promise [.ref (ad 40 0), .int a0] t := by
  obtain ⟨T, c, N, d, n, B, u, UR, SR, sf, un, f, nm, hI, hB⟩ := hI
  obtain ⟨x, ph, hC⟩ := id hI.1
  obtain ⟨hR, hn, hu, hrI, htI, hJ⟩ := hC.facts
  have hcO : cO c := hI.2.1.2.2.2.2.2.1
  by_cases h : isP n a0
  · obtain ⟨p, hp, rfl⟩ := h
    exact case_q (v := fProm N n p) hI hB ⟨by decide, by decide⟩ ⟨by decide, by decide⟩ (w_promise_ok (Ki.mono (c_X8_promise hC hp) (fun r S2 L2 R2 p => by obtain ⟨rfl, rfl, rfl, rfl⟩ := p; exact ⟨rfl, CQ.of hC, LQ.rf _⟩))) (fun S1 L1 R1 hR1 hV => Ki.mono (c_X9_promise hR1 hV.2.1 hn (by rw [hV.1]; exact hrI) hp) (fun b S2 L2 R2 q => ⟨q.2.1.trans (by rw [hV.1]), q.1, q.2.2.1, q.2.2.2⟩))
  · exact case_t (k := 1) (by omega) (by omega) hI hB ⟨by decide, by decide⟩ ⟨by decide, by decide⟩ (w_promise_t1 (c_X8_promise_t hlf hC h)) (fun S1 L1 R1 hR1 hV _ => Ki.mono (c_X9_promise_1 hR1 hV.2.1 hn h) (fun b S2 L2 R2 q => q))
set_option maxRecDepth 100000 in
theorem cs_waitOf {l : Launch} {G : mG} {ad : mA} {S : mS} {L : mL} {R : mR} {t : Nat} (hlf : l.stackTraces = false) (ht : t ≤ 512) (hI : IVt S L R t) (a0 : Int32) : CaseW l G ad S L R i2 yL_waitOf cL_waitOf 4 [(0, 9, 12, 22)] [.ref (ad 0 0), .int a0, .ref (ad 60 0)] yX9_waitOf cX9_waitOf 2 .int rm_X9_waitOf [.ref (ad 40 0), .int a0] t := by
  obtain ⟨T, c, N, d, n, B, u, UR, SR, sf, un, f, nm, hI, hB⟩ := hI
  obtain ⟨x, ph, hC⟩ := id hI.1
  obtain ⟨hR, hn, hu, hrI, htI, hJ⟩ := hC.facts
  have hcO : cO c := hI.2.1.2.2.2.2.2.1
  by_cases h : isP n a0
  · obtain ⟨p, hp, rfl⟩ := h
    exact case_q (v := fWait N T c p) hI hB ⟨by decide, by decide⟩ ⟨by decide, by decide⟩ (w_waitOf_ok (Ki.mono (c_X8_waitOf hC hp) (fun r S2 L2 R2 p => by obtain ⟨rfl, rfl, rfl, rfl⟩ := p; exact ⟨rfl, CQ.of hC, LQ.rf _⟩))) (fun S1 L1 R1 hR1 hV => Ki.mono (c_X9_waitOf hR1 hV.2.1 hn (by rw [hV.1]; exact hrI) hp) (fun b S2 L2 R2 q => ⟨q.2.1.trans (by rw [hV.1, hV.2.2.2.2.1, fWait_T hV.2.2.2.1 hp]), q.1, q.2.2.1, q.2.2.2⟩))
  · exact case_t (k := 1) (by omega) (by omega) hI hB ⟨by decide, by decide⟩ ⟨by decide, by decide⟩ (w_waitOf_t1 (c_X8_waitOf_t hlf hC h)) (fun S1 L1 R1 hR1 hV _ => Ki.mono (c_X9_waitOf_1 hR1 hV.2.1 hn h) (fun b S2 L2 R2 q => q))
set_option maxRecDepth 100000 in
theorem cs_likeliest {l : Launch} {G : mG} {ad : mA} {S : mS} {L : mL} {R : mR} {t : Nat} (hlf : l.stackTraces = false) (ht : t ≤ 512) (hI : IVt S L R t) (a0 : Int32) : CaseW l G ad S L R i2 yL_likeliest cL_likeliest 4 [(0, 9, 12, 22)] [.ref (ad 0 0), .int a0, .ref (ad 60 0)] yX9_likeliest cX9_likeliest 5 .int rm_X9_likeliest [.ref (ad 40 0), .int a0] t := by
  obtain ⟨T, c, N, d, n, B, u, UR, SR, sf, un, f, nm, hI, hB⟩ := hI
  obtain ⟨x, ph, hC⟩ := id hI.1
  obtain ⟨hR, hn, hu, hrI, htI, hJ⟩ := hC.facts
  have hcO : cO c := hI.2.1.2.2.2.2.2.1
  by_cases h : isP n a0
  · obtain ⟨p, hp, rfl⟩ := h
    exact case_q (v := oI (fLikF N p n)) hI hB ⟨by decide, by decide⟩ ⟨by decide, by decide⟩ (w_likeliest_ok (Ki.mono (c_X8_likeliest hC hp) (fun r S2 L2 R2 p => by obtain ⟨rfl, rfl, rfl, rfl⟩ := p; exact ⟨rfl, CQ.of hC, LQ.rf _⟩))) (fun S1 L1 R1 hR1 hV => Ki.mono (c_X9_likeliest hR1 hV.2.1 hn hp) (fun b S2 L2 R2 q => ⟨q.2.1.trans (by rw [hV.1]), q.1, q.2.2.1, q.2.2.2⟩))
  · exact case_t (k := 1) (by omega) (by omega) hI hB ⟨by decide, by decide⟩ ⟨by decide, by decide⟩ (w_likeliest_t1 (c_X8_likeliest_t hlf hC h)) (fun S1 L1 R1 hR1 hV _ => Ki.mono (c_X9_likeliest_1 hR1 hV.2.1 hn h) (fun b S2 L2 R2 q => q))
set_option maxRecDepth 100000 in
theorem cs_followed {l : Launch} {G : mG} {ad : mA} {S : mS} {L : mL} {R : mR} {t : Nat} (hlf : l.stackTraces = false) (ht : t ≤ 512) (hI : IVt S L R t) (a0 a1 : Int32) : CaseW l G ad S L R i2 yL_followed cL_followed 5 [(0, 10, 13, 22)] [.ref (ad 0 0), .int a0, .int a1, .ref (ad 60 0)] yX9_followed cX9_followed 3 .int rm_X9_followed [.ref (ad 40 0), .int a0, .int a1] t := by
  obtain ⟨T, c, N, d, n, B, u, UR, SR, sf, un, f, nm, hI, hB⟩ := hI
  obtain ⟨x, ph, hC⟩ := id hI.1
  obtain ⟨hR, hn, hu, hrI, htI, hJ⟩ := hC.facts
  have hcO : cO c := hI.2.1.2.2.2.2.2.1
  by_cases h : isP n a0
  · obtain ⟨p, hp, rfl⟩ := h
    by_cases h : isP n a1
    · obtain ⟨w, hw, rfl⟩ := h
      exact case_q (v := fFol N p w) hI hB ⟨by decide, by decide⟩ ⟨by decide, by decide⟩ (w_followed_ok (Ki.mono (c_X8_followed hC hp hw) (fun r S2 L2 R2 p => by obtain ⟨rfl, rfl, rfl, rfl⟩ := p; exact ⟨rfl, CQ.of hC, LQ.rf _⟩))) (fun S1 L1 R1 hR1 hV => Ki.mono (c_X9_followed hR1 hV.2.1 hn hp hw) (fun b S2 L2 R2 q => ⟨q.2.1.trans (by rw [hV.1]), q.1, q.2.2.1, q.2.2.2⟩))
    · exact case_t (k := 1) (by omega) (by omega) hI hB ⟨by decide, by decide⟩ ⟨by decide, by decide⟩ (w_followed_t1 (c_X8_followed_t2 hlf hC hp h)) (fun S1 L1 R1 hR1 hV _ => Ki.mono (c_X9_followed_2 hR1 hV.2.1 hn hp h) (fun b S2 L2 R2 q => q))
  · exact case_t (k := 1) (by omega) (by omega) hI hB ⟨by decide, by decide⟩ ⟨by decide, by decide⟩ (w_followed_t1 (c_X8_followed_t hlf hC h)) (fun S1 L1 R1 hR1 hV _ => Ki.mono (c_X9_followed_1 hR1 hV.2.1 hn h) (fun b S2 L2 R2 q => q))
set_option maxRecDepth 100000 in
theorem cs_victim {l : Launch} {G : mG} {ad : mA} {S : mS} {L : mL} {R : mR} {t : Nat} (hlf : l.stackTraces = false) (ht : t ≤ 512) (hI : IVt S L R t) (a0 : Int32) : CaseW l G ad S L R i2 yL_victim cL_victim 4 [(0, 9, 12, 13)] [.ref (ad 0 0), .int a0, .ref (ad 60 0)] yX9_victim cX9_victim 2 .int rm_X9_victim [.ref (ad 40 0), .int a0] t := by
  obtain ⟨T, c, N, d, n, B, u, UR, SR, sf, un, f, nm, hI, hB⟩ := hI
  obtain ⟨x, ph, hC⟩ := id hI.1
  obtain ⟨hR, hn, hu, hrI, htI, hJ⟩ := hC.facts
  have hcO : cO c := hI.2.1.2.2.2.2.2.1
  by_cases h : isR 1 6 a0
  · obtain ⟨w, hw0, hw, rfl⟩ := h
    exact case_q (v := oI (fVic N T n w)) hI hB ⟨by decide, by decide⟩ ⟨by decide, by decide⟩ (w_victim_ok (Ki.mono (c_X8_victim hC hw0 hw) (fun r S2 L2 R2 p => ⟨p.1, ⟨p.2.1.1, x, ph, p.2.1.2⟩, LQ.of p.2.2⟩))) (fun S1 L1 R1 hR1 hV => Ki.mono (c_X9_victim hR1 hV.2.1 hn (by rw [hV.1]; exact hrI) hw0 hw) (fun b S2 L2 R2 q => ⟨q.2.1.trans (by rw [hV.1, fVic_T hV.2.2.2.1]), q.1, q.2.2.1, q.2.2.2⟩))
  · exact case_t (k := 1) (by omega) (by omega) hI hB ⟨by decide, by decide⟩ ⟨by decide, by decide⟩ (w_victim_t1 (c_X8_victim_t hlf hC h)) (fun S1 L1 R1 hR1 hV _ => Ki.mono (c_X9_victim_1 hR1 h) (fun b S2 L2 R2 q => q))
set_option maxRecDepth 100000 in
theorem cs_freed {l : Launch} {G : mG} {ad : mA} {S : mS} {L : mL} {R : mR} {t : Nat} (hlf : l.stackTraces = false) (ht : t ≤ 512) (hI : IVt S L R t) (a0 : Int32) : CaseW l G ad S L R i2 yL_freed cL_freed 4 [(0, 9, 12, 13)] [.ref (ad 0 0), .int a0, .ref (ad 60 0)] yX9_freed cX9_freed 4 .int rm_X9_freed [.ref (ad 40 0), .int a0] t := by
  obtain ⟨T, c, N, d, n, B, u, UR, SR, sf, un, f, nm, hI, hB⟩ := hI
  obtain ⟨x, ph, hC⟩ := id hI.1
  obtain ⟨hR, hn, hu, hrI, htI, hJ⟩ := hC.facts
  have hcO : cO c := hI.2.1.2.2.2.2.2.1
  by_cases h : isR 1 6 a0
  · obtain ⟨w, hw0, hw, rfl⟩ := h
    exact case_q (v := qFreed N T n w) hI hB ⟨by decide, by decide⟩ ⟨by decide, by decide⟩ (w_freed_ok (Ki.mono (c_X8_freed hC hw0 hw) (fun r S2 L2 R2 p => ⟨p.1, ⟨p.2.1.1, x, ph, p.2.1.2⟩, LQ.of p.2.2⟩))) (fun S1 L1 R1 hR1 hV => Ki.mono (c_X9_freed hR1 hV.2.1 hn (by rw [hV.1]; exact hrI) hw0 hw) (fun b S2 L2 R2 q => ⟨q.2.1.trans (by rw [hV.1, qFreed_T hV.2.2.2.1]), q.1, q.2.2.1, q.2.2.2⟩))
  · exact case_t (k := 1) (by omega) (by omega) hI hB ⟨by decide, by decide⟩ ⟨by decide, by decide⟩ (w_freed_t1 (c_X8_freed_t hlf hC h)) (fun S1 L1 R1 hR1 hV _ => Ki.mono (c_X9_freed_1 hR1 h) (fun b S2 L2 R2 q => q))
set_option maxRecDepth 100000 in
theorem cs_account {l : Launch} {G : mG} {ad : mA} {S : mS} {L : mL} {R : mR} {t : Nat} (hlf : l.stackTraces = false) (ht : t ≤ 512) (hI : IVt S L R t) (a0 : Int32) : CaseW l G ad S L R i2 yL_account cL_account 4 [(0, 9, 12, 13)] [.ref (ad 0 0), .int a0, .ref (ad 60 0)] yX9_account cX9_account 2 .int rm_X9_account [.ref (ad 40 0), .int a0] t := by
  obtain ⟨T, c, N, d, n, B, u, UR, SR, sf, un, f, nm, hI, hB⟩ := hI
  obtain ⟨x, ph, hC⟩ := id hI.1
  obtain ⟨hR, hn, hu, hrI, htI, hJ⟩ := hC.facts
  have hcO : cO c := hI.2.1.2.2.2.2.2.1
  by_cases h : isR 1 9 a0
  · obtain ⟨w, hw0, hw, rfl⟩ := h
    exact case_q (v := N (378 + w)) hI hB ⟨by decide, by decide⟩ ⟨by decide, by decide⟩ (w_account_ok (Ki.mono (c_X8_account hC hw0 hw) (fun r S2 L2 R2 p => by obtain ⟨rfl, rfl, rfl, rfl⟩ := p; exact ⟨rfl, CQ.of hC, LQ.rf _⟩))) (fun S1 L1 R1 hR1 hV => Ki.mono (c_X9_account hR1 hw0 hw) (fun b S2 L2 R2 q => ⟨q.2.1.trans (by rw [hV.1]), q.1, q.2.2.1, q.2.2.2⟩))
  · exact case_t (k := 1) (by omega) (by omega) hI hB ⟨by decide, by decide⟩ ⟨by decide, by decide⟩ (w_account_t1 (c_X8_account_t hlf hC h)) (fun S1 L1 R1 hR1 hV _ => Ki.mono (c_X9_account_1 hR1 h) (fun b S2 L2 R2 q => q))
set_option maxRecDepth 100000 in
theorem cs_whyNotShow {l : Launch} {G : mG} {ad : mA} {S : mS} {L : mL} {R : mR} {t : Nat} (hlf : l.stackTraces = false) (ht : t ≤ 512) (hI : IVt S L R t) (a0 : Int32) : CaseW l G ad S L R i2 yL_whyNotShow cL_whyNotShow 4 [(0, 9, 12, 22)] [.ref (ad 0 0), .int a0, .ref (ad 60 0)] yX9_whyNotShow cX9_whyNotShow 3 .int rm_X9_whyNotShow [.ref (ad 40 0), .int a0] t := by
  obtain ⟨T, c, N, d, n, B, u, UR, SR, sf, un, f, nm, hI, hB⟩ := hI
  obtain ⟨x, ph, hC⟩ := id hI.1
  obtain ⟨hR, hn, hu, hrI, htI, hJ⟩ := hC.facts
  have hcO : cO c := hI.2.1.2.2.2.2.2.1
  by_cases h : isP n a0
  · obtain ⟨p, hp, rfl⟩ := h
    exact case_q (v := qWhy N T c n p) hI hB ⟨by decide, by decide⟩ ⟨by decide, by decide⟩ (w_whyNotShow_ok (Ki.mono (c_X8_whyNotShow hC hp hcO) (fun r S2 L2 R2 p => ⟨p.1, ⟨p.2.1.1, x, ph, p.2.1.2⟩, LQ.of p.2.2⟩))) (fun S1 L1 R1 hR1 hV => Ki.mono (c_X9_whyNotShow hR1 hV.2.1 hn (by rw [hV.1]; exact hrI) hp) (fun b S2 L2 R2 q => ⟨q.2.1.trans (by rw [hV.1, hV.2.2.2.2.1, qWhy_T hV.2.2.2.1 hp]), q.1, q.2.2.1, q.2.2.2⟩))
  · exact case_t (k := 1) (by omega) (by omega) hI hB ⟨by decide, by decide⟩ ⟨by decide, by decide⟩ (w_whyNotShow_t1 (c_X8_whyNotShow_t hlf hC h)) (fun S1 L1 R1 hR1 hV _ => Ki.mono (c_X9_whyNotShow_1 hR1 hV.2.1 hn h) (fun b S2 L2 R2 q => q))
set_option maxRecDepth 100000 in
theorem cs_trimsFor {l : Launch} {G : mG} {ad : mA} {S : mS} {L : mL} {R : mR} {t : Nat} (hlf : l.stackTraces = false) (ht : t ≤ 512) (hI : IVt S L R t) (a0 : Int32) : CaseW l G ad S L R i2 yL_trimsFor cL_trimsFor 4 [(0, 9, 12, 22)] [.ref (ad 0 0), .int a0, .ref (ad 60 0)] yX9_trimsFor cX9_trimsFor 3 .int rm_X9_trimsFor [.ref (ad 40 0), .int a0] t := by
  obtain ⟨T, c, N, d, n, B, u, UR, SR, sf, un, f, nm, hI, hB⟩ := hI
  obtain ⟨x, ph, hC⟩ := id hI.1
  obtain ⟨hR, hn, hu, hrI, htI, hJ⟩ := hC.facts
  have hcO : cO c := hI.2.1.2.2.2.2.2.1
  by_cases h : isP n a0
  · obtain ⟨p, hp, rfl⟩ := h
    exact case_q (v := qTrims N T c n p) hI hB ⟨by decide, by decide⟩ ⟨by decide, by decide⟩ (w_trimsFor_ok (Ki.mono (c_X8_trimsFor hC hp hcO) (fun r S2 L2 R2 p => ⟨p.1, ⟨p.2.1.1, x, ph, p.2.1.2⟩, LQ.of p.2.2⟩))) (fun S1 L1 R1 hR1 hV => Ki.mono (c_X9_trimsFor hR1 hV.2.1 hn (by rw [hV.1]; exact hrI) hp) (fun b S2 L2 R2 q => ⟨q.2.1.trans (by rw [hV.1, hV.2.2.2.2.1, qTrims_T hV.2.2.2.1 hp]), q.1, q.2.2.1, q.2.2.2⟩))
  · exact case_t (k := 1) (by omega) (by omega) hI hB ⟨by decide, by decide⟩ ⟨by decide, by decide⟩ (w_trimsFor_t1 (c_X8_trimsFor_t hlf hC h)) (fun S1 L1 R1 hR1 hV _ => Ki.mono (c_X9_trimsFor_1 hR1 hV.2.1 hn h) (fun b S2 L2 R2 q => q))
set_option maxRecDepth 100000 in
theorem cs_stateAfter {l : Launch} {G : mG} {ad : mA} {S : mS} {L : mL} {R : mR} {t : Nat} (hlf : l.stackTraces = false) (ht : t ≤ 512) (hI : IVt S L R t) (a0 a1 : Int32) : CaseW l G ad S L R i2 yL_stateAfter cL_stateAfter 5 [(0, 10, 13, 22)] [.ref (ad 0 0), .int a0, .int a1, .ref (ad 60 0)] yX9_stateAfter cX9_stateAfter 5 .int rm_X9_stateAfter [.ref (ad 40 0), .int a0, .int a1] t := by
  obtain ⟨T, c, N, d, n, B, u, UR, SR, sf, un, f, nm, hI, hB⟩ := hI
  obtain ⟨x, ph, hC⟩ := id hI.1
  obtain ⟨hR, hn, hu, hrI, htI, hJ⟩ := hC.facts
  have hcO : cO c := hI.2.1.2.2.2.2.2.1
  by_cases h : isP n a0
  · obtain ⟨p, hp, rfl⟩ := h
    by_cases h : isP n a1
    · obtain ⟨w, hw, rfl⟩ := h
      exact case_q (v := qState N T c n p w) hI hB ⟨by decide, by decide⟩ ⟨by decide, by decide⟩ (w_stateAfter_ok (Ki.mono (c_X8_stateAfter hC hp hw hcO) (fun r S2 L2 R2 p => ⟨p.1, ⟨p.2.1.1, x, ph, p.2.1.2⟩, LQ.of p.2.2⟩))) (fun S1 L1 R1 hR1 hV => Ki.mono (c_X9_stateAfter hR1 hV.2.1 hn (by rw [hV.1]; exact hrI) hp hw) (fun b S2 L2 R2 q => ⟨q.2.1.trans (by rw [hV.1, hV.2.2.2.2.1, qState_T hV.2.2.2.1 hp]), q.1, q.2.2.1, q.2.2.2⟩))
    · exact case_t (k := 1) (by omega) (by omega) hI hB ⟨by decide, by decide⟩ ⟨by decide, by decide⟩ (w_stateAfter_t1 (c_X8_stateAfter_t2 hlf hC hp h)) (fun S1 L1 R1 hR1 hV _ => Ki.mono (c_X9_stateAfter_2 hR1 hV.2.1 hn hp h) (fun b S2 L2 R2 q => q))
  · exact case_t (k := 1) (by omega) (by omega) hI hB ⟨by decide, by decide⟩ ⟨by decide, by decide⟩ (w_stateAfter_t1 (c_X8_stateAfter_t hlf hC h)) (fun S1 L1 R1 hR1 hV _ => Ki.mono (c_X9_stateAfter_1 hR1 hV.2.1 hn h) (fun b S2 L2 R2 q => q))
set_option maxRecDepth 100000 in
theorem cs_waitsFor {l : Launch} {G : mG} {ad : mA} {S : mS} {L : mL} {R : mR} {t : Nat} (hlf : l.stackTraces = false) (ht : t ≤ 512) (hI : IVt S L R t) (a0 a1 a2 a3 : Int32) : CaseW l G ad S L R i2 yL_waitsFor cL_waitsFor 7 [(0, 14, 17, 22), (0, 14, 21, 13)] [.ref (ad 0 0), .int a0, .int a1, .int a2, .int a3, .ref (ad 60 0)] yX9_waitsFor cX9_waitsFor 6 .int rm_X9_waitsFor [.ref (ad 40 0), .int a0, .int a1, .int a2, .int a3] t := by
  obtain ⟨T, c, N, d, n, B, u, UR, SR, sf, un, f, nm, hI, hB⟩ := hI
  obtain ⟨x, ph, hC⟩ := id hI.1
  obtain ⟨hR, hn, hu, hrI, htI, hJ⟩ := hC.facts
  have hcO : cO c := hI.2.1.2.2.2.2.2.1
  by_cases h : isP n a1
  · obtain ⟨p, hp, rfl⟩ := h
    by_cases h : isP n a2
    · obtain ⟨q, hq, rfl⟩ := h
      by_cases h : isP n a3
      · obtain ⟨e, he, rfl⟩ := h
        by_cases h : isR 0 2 a0
        · obtain ⟨w, _, hw, rfl⟩ := h
          exact case_q (v := qWaits N T c n (nI w) p q e) hI hB ⟨by decide, by decide⟩ ⟨by decide, by decide⟩ (w_waitsFor_ok (Ki.mono (c_X8_waitsFor hC hp hq he hw hcO) (fun r S2 L2 R2 p => ⟨p.1, p.2.1, LQ.of p.2.2⟩))) (fun S1 L1 R1 hR1 hV => Ki.mono (c_X9_waitsFor hR1 hV.2.1 hn (by rw [hV.1]; exact hrI) hp hq he hw) (fun b S2 L2 R2 q9 => ⟨q9.2.1.trans (by rw [hV.1, hV.2.2.2.2.1, qWaits_T hV.2.2.2.1 hp hq he]), q9.1, q9.2.2.1, q9.2.2.2⟩))
        · exact case_t (k := 2) (by omega) (by omega) hI hB ⟨by decide, by decide⟩ ⟨by decide, by decide⟩ (w_waitsFor_t2 (c_X8_waitsFor_t4 hlf hC hp hq he h)) (fun S1 L1 R1 hR1 hV _ => Ki.mono (c_X9_waitsFor_4 hR1 hV.2.1 hn hp hq he h) (fun b S2 L2 R2 q => q))
      · exact case_t (k := 1) (by omega) (by omega) hI hB ⟨by decide, by decide⟩ ⟨by decide, by decide⟩ (w_waitsFor_t1 (c_X8_waitsFor_t3 hlf hC hp hq h)) (fun S1 L1 R1 hR1 hV _ => Ki.mono (c_X9_waitsFor_3 hR1 hV.2.1 hn hp hq h) (fun b S2 L2 R2 q => q))
    · exact case_t (k := 1) (by omega) (by omega) hI hB ⟨by decide, by decide⟩ ⟨by decide, by decide⟩ (w_waitsFor_t1 (c_X8_waitsFor_t2 hlf hC hp h)) (fun S1 L1 R1 hR1 hV _ => Ki.mono (c_X9_waitsFor_2 hR1 hV.2.1 hn hp h) (fun b S2 L2 R2 q => q))
  · exact case_t (k := 1) (by omega) (by omega) hI hB ⟨by decide, by decide⟩ ⟨by decide, by decide⟩ (w_waitsFor_t1 (c_X8_waitsFor_t hlf hC h)) (fun S1 L1 R1 hR1 hV _ => Ki.mono (c_X9_waitsFor_1 hR1 hV.2.1 hn h) (fun b S2 L2 R2 q => q))
set_option maxRecDepth 100000 in
theorem cs_notice {l : Launch} {G : mG} {ad : mA} {S : mS} {L : mL} {R : mR} {t : Nat} (hlf : l.stackTraces = false) (ht : t ≤ 512) (hI : IVt S L R t) (a0 a1 : Int32) : CaseW l G ad S L R i2 yL_notice cL_notice 5 [(0, 10, 13, 22)] [.ref (ad 0 0), .int a0, .int a1, .ref (ad 60 0)] yX9_notice cX9_notice 3 .int rm_X9_notice [.ref (ad 40 0), .int a0, .int a1] t := by
  obtain ⟨T, c, N, d, n, B, u, UR, SR, sf, un, f, nm, hI, hB⟩ := hI
  obtain ⟨x, ph, hC⟩ := id hI.1
  obtain ⟨hR, hn, hu, hrI, htI, hJ⟩ := hC.facts
  have hcO : cO c := hI.2.1.2.2.2.2.2.1
  by_cases h : isP n a0
  · obtain ⟨p, hp, rfl⟩ := h
    obtain ⟨w, hw5, hw⟩ := hrI.2.2.2.2.2.1 p (by omega)
    by_cases h2 : isP w a1
    · obtain ⟨j, hj, rfl⟩ := h2
      exact case_q (v := N (388 + 5 * p + j)) hI hB ⟨by decide, by decide⟩ ⟨by decide, by decide⟩ (w_notice_ok (Ki.mono (c_X8_notice hC hp hw hw5) (fun r S2 L2 R2 p => by obtain ⟨p1, p2, rfl, rfl, rfl⟩ := p; exact ⟨p1 j hj rfl, CQ.of hC, LQ.rf _⟩))) (fun S1 L1 R1 hR1 hV => Ki.mono (c_X9_notice hR1 hV.2.1 hn hp (by rw [hV.1]; exact hw) hw5) (fun b S2 L2 R2 q => ⟨(q.2.1 j hj rfl).trans (by rw [hV.1]), q.1, q.2.2.2.1, q.2.2.2.2⟩))
    · exact case_q (v := -1) hI hB ⟨by decide, by decide⟩ ⟨by decide, by decide⟩ (w_notice_ok (Ki.mono (c_X8_notice hC hp hw hw5) (fun r S2 L2 R2 p => by obtain ⟨p1, p2, rfl, rfl, rfl⟩ := p; exact ⟨p2 h2, CQ.of hC, LQ.rf _⟩))) (fun S1 L1 R1 hR1 hV => Ki.mono (c_X9_notice hR1 hV.2.1 hn hp (by rw [hV.1]; exact hw) hw5) (fun b S2 L2 R2 q => ⟨q.2.2.1 h2, q.1, q.2.2.2.1, q.2.2.2.2⟩))
  · exact case_t (k := 1) (by omega) (by omega) hI hB ⟨by decide, by decide⟩ ⟨by decide, by decide⟩ (w_notice_t1 (c_X8_notice_t hlf hC h)) (fun S1 L1 R1 hR1 hV _ => Ki.mono (c_X9_notice_1 hR1 hV.2.1 hn h) (fun b S2 L2 R2 q => q))
set_option maxRecDepth 100000 in
theorem cs_log {l : Launch} {G : mG} {ad : mA} {S : mS} {L : mL} {R : mR} {t : Nat} (hlf : l.stackTraces = false) (ht : t ≤ 512) (hI : IVt S L R t) (a0 a1 : Int32) : CaseW l G ad S L R i2 yL_log cL_log 5 [(0, 10, 13, 13)] [.ref (ad 0 0), .int a0, .int a1, .ref (ad 60 0)] yX9_log cX9_log 3 .int rm_X9_log [.ref (ad 40 0), .int a0, .int a1] t := by
  obtain ⟨T, c, N, d, n, B, u, UR, SR, sf, un, f, nm, hI, hB⟩ := hI
  obtain ⟨x, ph, hC⟩ := id hI.1
  obtain ⟨hR, hn, hu, hrI, htI, hJ⟩ := hC.facts
  have hcO : cO c := hI.2.1.2.2.2.2.2.1
  by_cases h : isR 0 2 a1
  · obtain ⟨w, _, hw, rfl⟩ := h
    obtain ⟨m, hm24, hm⟩ := hrI.2.2.2.2.2.2.2.2
    by_cases h2 : isP m a0
    · obtain ⟨j, hj, rfl⟩ := h2
      exact case_q (v := N (306 + 3 * j + w)) hI hB ⟨by decide, by decide⟩ ⟨by decide, by decide⟩ (w_log_ok (Ki.mono (c_X8_log hC (by omega) hm hm24) (fun r S2 L2 R2 p => by obtain ⟨p1, p2, rfl, rfl, rfl⟩ := p; exact ⟨p1 j hj rfl, CQ.of hC, LQ.rf _⟩))) (fun S1 L1 R1 hR1 hV => Ki.mono (c_X9_log hR1 (by rw [hV.1]; exact hm) hm24 hw) (fun b S2 L2 R2 q => ⟨(q.2.1 j hj rfl).trans (by rw [hV.1]), q.1, q.2.2.2.1, q.2.2.2.2⟩))
    · exact case_q (v := -1) hI hB ⟨by decide, by decide⟩ ⟨by decide, by decide⟩ (w_log_ok (Ki.mono (c_X8_log hC (by omega) hm hm24) (fun r S2 L2 R2 p => by obtain ⟨p1, p2, rfl, rfl, rfl⟩ := p; exact ⟨p2 h2, CQ.of hC, LQ.rf _⟩))) (fun S1 L1 R1 hR1 hV => Ki.mono (c_X9_log hR1 (by rw [hV.1]; exact hm) hm24 hw) (fun b S2 L2 R2 q => ⟨q.2.2.1 h2, q.1, q.2.2.2.1, q.2.2.2.2⟩))
  · exact case_t (k := 1) (by omega) (by omega) hI hB ⟨by decide, by decide⟩ ⟨by decide, by decide⟩ (w_log_t1 (c_X8_log_t hlf hC (isPR h))) (fun S1 L1 R1 hR1 hV _ => Ki.mono (c_X9_log_1 hR1 h) (fun b S2 L2 R2 q => q))
set_option maxRecDepth 100000 in
theorem cs_show {l : Launch} {G : mG} {ad : mA} {S : mS} {L : mL} {R : mR} {t : Nat} (hlf : l.stackTraces = false) (ht : t ≤ 512) (hI : IVt S L R t) (a0 : Int32) : CaseW l G ad S L R i2 yL_show cL_show 4 [(0, 9, 12, 22), (0, 9, 15, 76)] [.ref (ad 0 0), .int a0, .ref (ad 60 0)] yX9_show cX9_show 3 .int rm_X9_show [.ref (ad 40 0), .int a0] t := by
  obtain ⟨T, c, N, d, n, B, u, UR, SR, sf, un, f, nm, hI, hB⟩ := hI
  obtain ⟨x, ph, hC⟩ := id hI.1
  obtain ⟨hR, hn, hu, hrI, htI, hJ⟩ := hC.facts
  have hcO : cO c := hI.2.1.2.2.2.2.2.1
  by_cases h : isP n a0
  · obtain ⟨p, hp, rfl⟩ := h
    by_cases h2 : (fShowR N T c n p).1 = -1
    · obtain ⟨h3, h4⟩ := show_none hcO htI hJ hp h2
      exact case_t (k := 2) (by omega) (by omega) hI hB ⟨by decide, by decide⟩ ⟨by decide, by decide⟩ (w_show_t2 (c_X8_show_t2 hlf hC hp h3 h4)) (fun S1 L1 R1 hR1 hV _ => Ki.mono (c_X9_show_2 hR1 hV.2.2.1 hu hV.2.1 hn (by rw [hV.1]; exact hrI) hp (by rw [hV.1, hV.2.2.2.2.1, ← fShowR_T hV.2.2.2.1 hp]; exact h2) (by rw [hV.1, hV.2.2.2.2.1, ← fShowR_T hV.2.2.2.1 hp]; exact showR_2 h3 h4)) (fun b S2 L2 R2 q => q))
    · exact case_c (v := (fShowR N T c n p).1) (B2 := B) (M := (fShowR N T c n p).2.2) hI (by omega) hu ⟨by decide, by decide⟩ ⟨by decide, by decide⟩ (w_show_ok (Ki.mono (c_X8_show hC hp h2) (fun r S2 L2 R2 p => ⟨p.1, p.2.1, LQ.of p.2.2⟩))) (fun S1 L1 R1 hR1 hV => Ki.mono (c_X9_show hR1 hV.2.2.1 hu hV.2.1 hn (by rw [hV.1]; exact hrI) hp (by rw [hV.1, hV.2.2.2.2.1, ← fShowR_T hV.2.2.2.1 hp]; exact h2)) (fun b S2 L2 R2 q => ⟨q.2.1.trans (by rw [hV.1, hV.2.2.2.2.1, ← fShowR_T hV.2.2.2.1 hp]), (by have := q.1; rw [hV.1, hV.2.2.2.2.1, ← fShowR_T hV.2.2.2.1 hp] at this; exact this), q.2.2.1, q.2.2.2⟩))
  · exact case_t (k := 1) (by omega) (by omega) hI hB ⟨by decide, by decide⟩ ⟨by decide, by decide⟩ (w_show_t1 (c_X8_show_t hlf hC h)) (fun S1 L1 R1 hR1 hV _ => Ki.mono (c_X9_show_1 hR1 hV.2.1 hn h) (fun b S2 L2 R2 q => q))
set_option maxRecDepth 100000 in
theorem cs_pass {l : Launch} {G : mG} {ad : mA} {S : mS} {L : mL} {R : mR} {t : Nat} (hlf : l.stackTraces = false) (ht : t ≤ 512) (hI : IVt S L R t) (a0 : Int32) : CaseW l G ad S L R i2 yL_pass cL_pass 4 [(0, 9, 12, 13)] [.ref (ad 0 0), .int a0, .ref (ad 60 0)] yX9_pass cX9_pass 4 .int rm_X9_pass [.ref (ad 40 0), .int a0] t := by
  obtain ⟨T, c, N, d, n, B, u, UR, SR, sf, un, f, nm, hI, hB⟩ := hI
  obtain ⟨x, ph, hC⟩ := id hI.1
  obtain ⟨hR, hn, hu, hrI, htI, hJ⟩ := hC.facts
  have hcO : cO c := hI.2.1.2.2.2.2.2.1
  by_cases h : isR 1 240 a0
  · obtain ⟨w, hw0, hw, rfl⟩ := h
    exact case_c (v := nI (fPassN N T n w).1) (B2 := B + 240) (M := (fPassN N T n w).2) hI (by omega) hu ⟨by decide, by decide⟩ ⟨by decide, by decide⟩ (w_pass_ok (Ki.mono (c_X8_pass hC hw0 hw (by omega)) (fun r S2 L2 R2 p => ⟨p.1, p.2.1, LQ.of p.2.2⟩))) (fun S1 L1 R1 hR1 hV => Ki.mono (c_X9_pass hR1 hV.2.2.1 hu hV.2.1 hn (by rw [hV.1]; exact hrI) hw0 hw) (fun b S2 L2 R2 q => ⟨q.2.1.trans (by rw [hV.1, ← fPassN_T hrI hn hV.2.2.2.1 w]), (by have := q.1; rw [hV.1, ← fPassN_T hrI hn hV.2.2.2.1 w] at this; exact this), q.2.2.1, q.2.2.2⟩))
  · exact case_t (k := 1) (by omega) (by omega) hI hB ⟨by decide, by decide⟩ ⟨by decide, by decide⟩ (w_pass_t1 (c_X8_pass_t hlf hC h)) (fun S1 L1 R1 hR1 hV _ => Ki.mono (c_X9_pass_1 hR1 h) (fun b S2 L2 R2 q => q))
set_option maxRecDepth 100000 in
theorem cs_touch {l : Launch} {G : mG} {ad : mA} {S : mS} {L : mL} {R : mR} {t : Nat} (hlf : l.stackTraces = false) (ht : t ≤ 512) (hI : IVt S L R t) (a0 : Int32) : CaseW l G ad S L R i2 yL_touch cL_touch 4 [(0, 9, 12, 13), (0, 9, 15, 76)] [.ref (ad 0 0), .int a0, .ref (ad 60 0)] yX9_touch cX9_touch 2 .int rm_X9_touch [.ref (ad 40 0), .int a0] t := by
  obtain ⟨T, c, N, d, n, B, u, UR, SR, sf, un, f, nm, hI, hB⟩ := hI
  obtain ⟨x, ph, hC⟩ := id hI.1
  obtain ⟨hR, hn, hu, hrI, htI, hJ⟩ := hC.facts
  have hcO : cO c := hI.2.1.2.2.2.2.2.1
  by_cases h : isR 0 999 a0
  · obtain ⟨w, hw0, hw, rfl⟩ := h
    rcases hrI.1 with h2 | ⟨p, hp, h2⟩
    · exact case_t (k := 2) (by omega) (by omega) hI hB ⟨by decide, by decide⟩ ⟨by decide, by decide⟩ (w_touch_t2 (c_X8_touch_t2 hlf hC hw h2)) (fun S1 L1 R1 hR1 hV _ => Ki.mono (c_X9_touch_2 hR1 hw (by rw [hV.1]; exact h2)) (fun b S2 L2 R2 q => q))
    · exact case_c (v := nI 31 * fo N p 3 + nI w) (B2 := B) (M := fTake N p (nI w)) hI (by omega) hu ⟨by decide, by decide⟩ ⟨by decide, by decide⟩ (w_touch_ok (Ki.mono (c_X8_touch hC hp h2 hw) (fun r S2 L2 R2 p => ⟨p.1, p.2.1, LQ.of p.2.2⟩))) (fun S1 L1 R1 hR1 hV => Ki.mono (c_X9_touch hR1 hV.2.2.1 hu (by rw [hV.1]; exact hrI) hn hp (by rw [hV.1]; exact h2) hw) (fun b S2 L2 R2 q => ⟨q.2.1.trans (by rw [hV.1]), (by have := q.1; rw [hV.1] at this; exact this), q.2.2.1, q.2.2.2⟩))
  · exact case_t (k := 1) (by omega) (by omega) hI hB ⟨by decide, by decide⟩ ⟨by decide, by decide⟩ (w_touch_t1 (c_X8_touch_t hlf hC h)) (fun S1 L1 R1 hR1 hV _ => Ki.mono (c_X9_touch_1 hR1 h) (fun b S2 L2 R2 q => q))
set_option maxRecDepth 100000 in
theorem cs_send {l : Launch} {G : mG} {ad : mA} {S : mS} {L : mL} {R : mR} {t : Nat} (hlf : l.stackTraces = false) (ht : t ≤ 512) (hI : IVt S L R t) (a0 a1 : Int32) : CaseW l G ad S L R i2 yL_send cL_send 5 [(0, 10, 13, 22), (0, 10, 17, 13)] [.ref (ad 0 0), .int a0, .int a1, .ref (ad 60 0)] yX9_send cX9_send 5 .int rm_X9_send [.ref (ad 40 0), .int a0, .int a1] t := by
  obtain ⟨T, c, N, d, n, B, u, UR, SR, sf, un, f, nm, hI, hB⟩ := hI
  obtain ⟨x, ph, hC⟩ := id hI.1
  obtain ⟨hR, hn, hu, hrI, htI, hJ⟩ := hC.facts
  have hcO : cO c := hI.2.1.2.2.2.2.2.1
  by_cases h : isP n a0
  · obtain ⟨p, hp, rfl⟩ := h
    by_cases h : isR 0 999 a1
    · obtain ⟨w, _, hw, rfl⟩ := h
      obtain ⟨g, hg5, hg⟩ := hrI.2.2.2.2.2.1 p (by omega)
      exact case_c (v := fo (fSend N p g (nI w)) p 15) (B2 := B) (M := fSend N p g (nI w)) hI (by omega) hu ⟨by decide, by decide⟩ ⟨by decide, by decide⟩ (w_send_ok (Ki.mono (c_X8_send hC hp hw hg hg5) (fun r S2 L2 R2 p => ⟨p.1, p.2.1, LQ.of p.2.2⟩))) (fun S1 L1 R1 hR1 hV => Ki.mono (c_X9_send hR1 hV.2.2.1 hu hV.2.1 hn (by rw [hV.1]; exact hrI) hp (by rw [hV.1]; exact hg) hg5 hw) (fun b S2 L2 R2 q => ⟨q.2.1.trans (by rw [hV.1]), (by have := q.1; rw [hV.1] at this; exact this), q.2.2.1, q.2.2.2⟩))
    · exact case_t (k := 2) (by omega) (by omega) hI hB ⟨by decide, by decide⟩ ⟨by decide, by decide⟩ (w_send_t2 (c_X8_send_t2 hlf hC hp h)) (fun S1 L1 R1 hR1 hV _ => Ki.mono (c_X9_send_2 hR1 hV.2.1 hn hp h) (fun b S2 L2 R2 q => q))
  · exact case_t (k := 1) (by omega) (by omega) hI hB ⟨by decide, by decide⟩ ⟨by decide, by decide⟩ (w_send_t1 (c_X8_send_t hlf hC h)) (fun S1 L1 R1 hR1 hV _ => Ki.mono (c_X9_send_1 hR1 hV.2.1 hn h) (fun b S2 L2 R2 q => q))
set_option maxRecDepth 100000 in
theorem cs_read {l : Launch} {G : mG} {ad : mA} {S : mS} {L : mL} {R : mR} {t : Nat} (hlf : l.stackTraces = false) (ht : t ≤ 512) (hI : IVt S L R t) : CaseW l G ad S L R i2 yL_read cL_read 3 [(0, 8, 11, 76)] [.ref (ad 0 0), .ref (ad 60 0)] yX9_read cX9_read 3 .int rm_X9_read [.ref (ad 40 0)] t := by
  obtain ⟨T, c, N, d, n, B, u, UR, SR, sf, un, f, nm, hI, hB⟩ := hI
  obtain ⟨x, ph, hC⟩ := id hI.1
  obtain ⟨hR, hn, hu, hrI, htI, hJ⟩ := hC.facts
  have hcO : cO c := hI.2.1.2.2.2.2.2.1
  rcases hrI.1 with h2 | ⟨p, hp, h2⟩
  · exact case_t (k := 1) (by omega) (by omega) hI hB ⟨by decide, by decide⟩ ⟨by decide, by decide⟩ (w_read_t1 (c_X8_read_t hlf hC h2)) (fun S1 L1 R1 hR1 hV _ => Ki.mono (c_X9_read_1 hR1 (by rw [hV.1]; exact h2)) (fun b S2 L2 R2 q => q))
  · obtain ⟨w, hw5, hw⟩ := hrI.2.2.2.2.2.1 p (by omega)
    rcases Nat.eq_zero_or_pos w with rfl | hw0
    · exact case_t (k := 1) (by omega) (by omega) hI hB ⟨by decide, by decide⟩ ⟨by decide, by decide⟩ (w_read_t1 (c_X8_read_t2 hlf hC hp h2 hw)) (fun S1 L1 R1 hR1 hV _ => Ki.mono (c_X9_read_2 hR1 hn hp (by rw [hV.1]; exact h2) (by rw [hV.1]; exact hw)) (fun b S2 L2 R2 q => q))
    · exact case_c (v := nI 31 * fo (fLeave N p w) p 3 + N (388 + 5 * p)) (B2 := B) (M := fTake (fLeave N p w) p (N (388 + 5 * p))) hI (by omega) hu ⟨by decide, by decide⟩ ⟨by decide, by decide⟩ (w_read_ok (Ki.mono (c_X8_read hC hp h2 hw hw0 hw5) (fun r S2 L2 R2 p => ⟨p.1, p.2.1, LQ.of p.2.2⟩))) (fun S1 L1 R1 hR1 hV => Ki.mono (c_X9_read hR1 hV.2.2.1 hu (by rw [hV.1]; exact hrI) hn hp (by rw [hV.1]; exact h2) (by rw [hV.1]; exact hw) hw0 hw5) (fun b S2 L2 R2 q => ⟨q.2.1.trans (by rw [hV.1]), (by have := q.1; rw [hV.1] at this; exact this), q.2.2.1, q.2.2.2⟩))
theorem pin_b {x : Int32} (h : x = 0 ∨ x = 1) : bI (x = nI 1) = x := by
  rcases h with rfl | rfl
  · exact bI_f (by decide)
  · exact bI_t rfl
set_option maxRecDepth 100000 in
theorem cs_pin {l : Launch} {G : mG} {ad : mA} {S : mS} {L : mL} {R : mR} {t : Nat} (hlf : l.stackTraces = false) (ht : t ≤ 512) (hI : IVt S L R t) (a0 : Int32) {b : Nat} (hb : b ≤ 1) : CaseW l G ad S L R b2 yL_pin cL_pin 5 [(0, 17, 20, 22)] [.ref (ad 0 0), .int a0, .int (nI b), .ref (ad 60 0)] yX9_pin cX9_pin 4 .boolean rm_X9_pin [.ref (ad 40 0), .int a0, .int (nI b)] t := by
  obtain ⟨T, c, N, d, n, B, u, UR, SR, sf, un, f, nm, hI, hB⟩ := hI
  obtain ⟨x, ph, hC⟩ := id hI.1
  obtain ⟨hR, hn, hu, hrI, htI, hJ⟩ := hC.facts
  have hcO : cO c := hI.2.1.2.2.2.2.2.1
  by_cases h : isP n a0
  · obtain ⟨p, hp, rfl⟩ := h
    exact case_c (v := fo N p 6) (B2 := B) (M := fset N p 6 (nI b)) hI (by omega) hu ⟨by decide, by decide⟩ ⟨by decide, by decide⟩ (w_pin_ok (Ki.mono (c_X8_pin hC hp hb) (fun r S2 L2 R2 p => ⟨p.1, p.2.1, LQ.of p.2.2⟩))) (fun S1 L1 R1 hR1 hV => Ki.mono (c_X9_pin hR1 hV.2.2.1 hu hV.2.1 hn hp hb) (fun b S2 L2 R2 q => ⟨q.2.1.trans (by rw [hV.1]; exact pin_b (hrI.2.2.2.2.2.2.1 p (by omega))), (by have := q.1; rw [hV.1] at this; exact this), q.2.2.1, q.2.2.2⟩))
  · exact case_t (k := 1) (by omega) (by omega) hI hB ⟨by decide, by decide⟩ ⟨by decide, by decide⟩ (w_pin_t1 (c_X8_pin_t hlf hC h)) (fun S1 L1 R1 hR1 hV _ => Ki.mono (c_X9_pin_1 hR1 hV.2.1 hn h) (fun b S2 L2 R2 q => q))
set_option maxRecDepth 100000 in
theorem cs_trim {l : Launch} {G : mG} {ad : mA} {S : mS} {L : mL} {R : mR} {t : Nat} (hlf : l.stackTraces = false) (ht : t ≤ 512) (hI : IVt S L R t) (a0 : Int32) : CaseW l G ad S L R i2 yL_trim cL_trim 4 [(0, 9, 12, 13), (0, 9, 15, 76)] [.ref (ad 0 0), .int a0, .ref (ad 60 0)] yX9_trim cX9_trim 3 .int rm_X9_trim [.ref (ad 40 0), .int a0] t := by
  obtain ⟨T, c, N, d, n, B, u, UR, SR, sf, un, f, nm, hI, hB⟩ := hI
  obtain ⟨x, ph, hC⟩ := id hI.1
  obtain ⟨hR, hn, hu, hrI, htI, hJ⟩ := hC.facts
  have hcO : cO c := hI.2.1.2.2.2.2.2.1
  by_cases h : isR 1 6 a0
  · obtain ⟨w, hw0, hw, rfl⟩ := h
    cases h2 : fVic N T n w with
    | none => exact case_t (k := 2) (by omega) (by omega) hI hB ⟨by decide, by decide⟩ ⟨by decide, by decide⟩ (w_trim_t2 (c_X8_trim_t2 hlf hC hw0 hw h2)) (fun S1 L1 R1 hR1 hV _ => Ki.mono (c_X9_trim_2 hR1 hV.2.1 hn (by rw [hV.1]; exact hrI) hw0 hw (by rw [hV.1, ← fVic_T hV.2.2.2.1]; exact h2)) (fun b S2 L2 R2 q => q))
    | some p =>
      by_cases h3 : fStep N p w 0 < fAll (fStep N p w) T n
      · exact case_t (k := 2) (by omega) (by omega) hI hB ⟨by decide, by decide⟩ ⟨by decide, by decide⟩ (w_trim_t2 (c_X8_trim_t3 hlf hC hw0 hw h2 h3)) (fun S1 L1 R1 hR1 hV _ => Ki.mono (c_X9_trim_3 hR1 hV.2.1 hn (by rw [hV.1]; exact hrI) hw0 hw (by rw [hV.1, ← fVic_T hV.2.2.2.1]; exact h2) (by rw [hV.1, ← fAll_T hV.2.2.2.1]; exact h3)) (fun b S2 L2 R2 q => q))
      · exact case_c (v := nI p) (B2 := B) (M := fStep N p w) hI (by omega) hu ⟨by decide, by decide⟩ ⟨by decide, by decide⟩ (w_trim_ok (Ki.mono (c_X8_trim hC hw0 hw h2 h3) (fun r S2 L2 R2 p => ⟨p.1, p.2.1, LQ.of p.2.2⟩))) (fun S1 L1 R1 hR1 hV => Ki.mono (c_X9_trim hR1 hV.2.2.1 hu hV.2.1 hn (by rw [hV.1]; exact hrI) hw0 hw (by rw [hV.1, ← fVic_T hV.2.2.2.1]; exact h2) (by rw [hV.1, ← fAll_T hV.2.2.2.1]; exact h3)) (fun b S2 L2 R2 q => ⟨q.2.1, (by have := q.1; rw [hV.1] at this; exact this), q.2.2.1, q.2.2.2⟩))
  · exact case_t (k := 1) (by omega) (by omega) hI hB ⟨by decide, by decide⟩ ⟨by decide, by decide⟩ (w_trim_t1 (c_X8_trim_t hlf hC h)) (fun S1 L1 R1 hR1 hV _ => Ki.mono (c_X9_trim_1 hR1 h) (fun b S2 L2 R2 q => q))
set_option maxRecDepth 100000 in
theorem cs_close {l : Launch} {G : mG} {ad : mA} {S : mS} {L : mL} {R : mR} {t : Nat} (hlf : l.stackTraces = false) (ht : t ≤ 512) (hI : IVt S L R t) (a0 : Int32) : CaseW l G ad S L R i2 yL_close cL_close 4 [(0, 9, 12, 22), (0, 9, 15, 76)] [.ref (ad 0 0), .int a0, .ref (ad 60 0)] yX9_close cX9_close 3 .int rm_X9_close [.ref (ad 40 0), .int a0] t := by
  obtain ⟨T, c, N, d, n, B, u, UR, SR, sf, un, f, nm, hI, hB⟩ := hI
  obtain ⟨x, ph, hC⟩ := id hI.1
  obtain ⟨hR, hn, hu, hrI, htI, hJ⟩ := hC.facts
  have hcO : cO c := hI.2.1.2.2.2.2.2.1
  by_cases h : isP n a0
  · obtain ⟨p, hp, rfl⟩ := h
    by_cases h2 : fo N p 0 = 0
    · exact case_t (k := 2) (by omega) (by omega) hI hB ⟨by decide, by decide⟩ ⟨by decide, by decide⟩ (w_close_t2 (c_X8_close_t2 hlf hC hp h2)) (fun S1 L1 R1 hR1 hV _ => Ki.mono (c_X9_close_2 hR1 hV.2.1 hn hp (by rw [hV.1]; exact h2)) (fun b S2 L2 R2 q => q))
    · exact case_c (v := fUses N T p) (B2 := B) (M := fShut N p) hI (by omega) hu ⟨by decide, by decide⟩ ⟨by decide, by decide⟩ (w_close_ok (Ki.mono (c_X8_close hC hp h2) (fun r S2 L2 R2 p => ⟨p.1, p.2.1, LQ.of p.2.2⟩))) (fun S1 L1 R1 hR1 hV => Ki.mono (c_X9_close hR1 hV.2.2.1 hu hV.2.1 hn (by rw [hV.1]; exact hrI) hp (by rw [hV.1]; exact h2)) (fun b S2 L2 R2 q => ⟨q.2.1.trans (by rw [hV.1, fUses_T hV.2.2.2.1 hp]), (by have := q.1; rw [hV.1] at this; exact this), q.2.2.1, q.2.2.2⟩))
  · exact case_t (k := 1) (by omega) (by omega) hI hB ⟨by decide, by decide⟩ ⟨by decide, by decide⟩ (w_close_t1 (c_X8_close_t hlf hC h)) (fun S1 L1 R1 hR1 hV _ => Ki.mono (c_X9_close_1 hR1 hV.2.1 hn h) (fun b S2 L2 R2 q => q))
set_option maxRecDepth 100000 in
theorem cs_setLimit {l : Launch} {G : mG} {ad : mA} {S : mS} {L : mL} {R : mR} {t : Nat} (hlf : l.stackTraces = false) (ht : t ≤ 512) (hI : IVt S L R t) (a0 : Int32) : CaseW l G ad S L R i2 yL_setLimit cL_setLimit 4 [(0, 9, 12, 13), (0, 9, 15, 76)] [.ref (ad 0 0), .int a0, .ref (ad 60 0)] yX9_setLimit cX9_setLimit 3 .int rm_X9_setLimit [.ref (ad 40 0), .int a0] t := by
  obtain ⟨T, c, N, d, n, B, u, UR, SR, sf, un, f, nm, hI, hB⟩ := hI
  obtain ⟨x, ph, hC⟩ := id hI.1
  obtain ⟨hR, hn, hu, hrI, htI, hJ⟩ := hC.facts
  have hcO : cO c := hI.2.1.2.2.2.2.2.1
  by_cases h : isR 50 2000 a0
  · obtain ⟨w, hw0, hw, rfl⟩ := h
    cases h2 : fMem (upd N 0 (nI w)) T n with
    | none => exact case_t (k := 2) (by omega) (by omega) hI hB ⟨by decide, by decide⟩ ⟨by decide, by decide⟩ (w_setLimit_t2 (c_X8_setLimit_t2 hlf hC hw0 hw h2)) (fun S1 L1 R1 hR1 hV _ => Ki.mono (c_X9_setLimit_2 hR1 hV.2.1 hn (by rw [hV.1]; exact hrI) hw0 hw (by rw [hV.1, ← fMem_T hV.2.2.2.1]; exact h2)) (fun b S2 L2 R2 q => q))
    | some q =>
      obtain ⟨m, M⟩ := q
      exact case_c (v := nI m) (B2 := B) (M := M) hI (by omega) hu ⟨by decide, by decide⟩ ⟨by decide, by decide⟩ (w_setLimit_ok (Ki.mono (c_X8_setLimit hC hw0 hw h2) (fun r S2 L2 R2 p => ⟨p.1, p.2.1, LQ.of p.2.2⟩))) (fun S1 L1 R1 hR1 hV => Ki.mono (c_X9_setLimit hR1 hV.2.2.1 hu hV.2.1 hn (by rw [hV.1]; exact hrI) hw0 hw (by rw [hV.1, ← fMem_T hV.2.2.2.1]; exact h2)) (fun b S2 L2 R2 q => ⟨q.2.1, q.1, q.2.2.1, q.2.2.2⟩))
  · exact case_t (k := 1) (by omega) (by omega) hI hB ⟨by decide, by decide⟩ ⟨by decide, by decide⟩ (w_setLimit_t1 (c_X8_setLimit_t hlf hC h)) (fun S1 L1 R1 hR1 hV _ => Ki.mono (c_X9_setLimit_1 hR1 h) (fun b S2 L2 R2 q => q))
set_option maxRecDepth 100000 in
theorem cs_setPolicy {l : Launch} {G : mG} {ad : mA} {S : mS} {L : mL} {R : mR} {t : Nat} (hlf : l.stackTraces = false) (ht : t ≤ 512) (hI : IVt S L R t) (a0 : Int32) : CaseW l G ad S L R i2 yL_setPolicy cL_setPolicy 4 [(0, 9, 12, 13)] [.ref (ad 0 0), .int a0, .ref (ad 60 0)] yX9_setPolicy cX9_setPolicy 3 .int rm_X9_setPolicy [.ref (ad 40 0), .int a0] t := by
  obtain ⟨T, c, N, d, n, B, u, UR, SR, sf, un, f, nm, hI, hB⟩ := hI
  obtain ⟨x, ph, hC⟩ := id hI.1
  obtain ⟨hR, hn, hu, hrI, htI, hJ⟩ := hC.facts
  have hcO : cO c := hI.2.1.2.2.2.2.2.1
  by_cases h : isR 0 2 a0
  · obtain ⟨w, hw0, hw, rfl⟩ := h
    exact case_c (v := N 4) (B2 := B) (M := upd N 4 (nI w)) hI (by omega) hu ⟨by decide, by decide⟩ ⟨by decide, by decide⟩ (w_setPolicy_ok (Ki.mono (c_X8_setPolicy hC hw) (fun r S2 L2 R2 p => ⟨p.1, p.2.1, LQ.of p.2.2⟩))) (fun S1 L1 R1 hR1 hV => Ki.mono (c_X9_setPolicy hR1 hV.2.2.1 hu hw) (fun b S2 L2 R2 q => ⟨q.2.1.trans (by rw [hV.1]), (by have := q.1; rw [hV.1] at this; exact this), q.2.2.1, q.2.2.2⟩))
  · exact case_t (k := 1) (by omega) (by omega) hI hB ⟨by decide, by decide⟩ ⟨by decide, by decide⟩ (w_setPolicy_t1 (c_X8_setPolicy_t hlf hC h)) (fun S1 L1 R1 hR1 hV _ => Ki.mono (c_X9_setPolicy_1 hR1 h) (fun b S2 L2 R2 q => q))
set_option maxRecDepth 100000 in
theorem cs_saveSnapshot {l : Launch} {G : mG} {ad : mA} {S : mS} {L : mL} {R : mR} {t : Nat} (hlf : l.stackTraces = false) (ht : t ≤ 512) (hI : IVt S L R t) (a0 : Int32) : CaseW l G ad S L R b2 yL_saveSnapshot cL_saveSnapshot 4 [(0, 16, 19, 22)] [.ref (ad 0 0), .int a0, .ref (ad 60 0)] yX9_saveSnapshot cX9_saveSnapshot 3 .boolean rm_X9_saveSnapshot [.ref (ad 40 0), .int a0] t := by
  obtain ⟨T, c, N, d, n, B, u, UR, SR, sf, un, f, nm, hI, hB⟩ := hI
  obtain ⟨x, ph, hC⟩ := id hI.1
  obtain ⟨hR, hn, hu, hrI, htI, hJ⟩ := hC.facts
  have hcO : cO c := hI.2.1.2.2.2.2.2.1
  by_cases h : isP 2 a0
  · obtain ⟨s, hs, rfl⟩ := h
    have h53 := hI.2.1.2.2.2.2.2.2.2.1
    refine ⟨0, rw_saveSnapshot, _, ⟨by decide, by decide⟩, ⟨by decide, by decide⟩, by omega, w_saveSnapshot_ok (c_X8_saveSnapshot hC hs), fun r S1 L1 R1 p => ?_⟩
    obtain ⟨p1, r', L', ⟨rfl, p2, rfl⟩, rfl⟩ := p
    obtain ⟨hF, x2, ph2, hC2⟩ := id p2
    obtain ⟨a1, -⟩ := iv_fc hI hF ((LQ.rf L).up (j := 0) (v := b2 (nI (sf s))))
    refine ⟨p1, _, c_X9_saveSnapshot hC2.1 hs (a1.2.2.2.2.2.2.2.1 s hs).1 (hC.2.2.2.2.2.2.1 s hs).2.1, fun b S2 L2 R2 q => ?_⟩
    obtain ⟨rfl, ⟨W, q2, q3, q4⟩, rfl, rfl⟩ := q
    have e0 : S2 40 0 0 = nI 0 := by rw [← q2, up3_k _ (by omega), sA_n _ _ (by omega)]; exact up3_s _ _ _ _ _
    exact ⟨hC2.1, e0, fun _ => up3_s _ _ _ _ _, S2, fun _ _ _ _ => rfl, e0, T, c, N, d, n, B, u, UR, _, _, un, f, nm, iv_save hs hI p2 ((LQ.rf L).up) q2 q3 q4, by omega⟩
  · exact case_t (k := 1) (by omega) (by omega) hI hB ⟨by decide, by decide⟩ ⟨by decide, by decide⟩ (w_saveSnapshot_t1 (c_X8_saveSnapshot_t hlf hC h)) (fun S1 L1 R1 hR1 hV _ => Ki.mono (c_X9_saveSnapshot_1 hR1 h) (fun b S2 L2 R2 q => q))
set_option maxRecDepth 100000 in
theorem cs_restoreSnapshot {l : Launch} {G : mG} {ad : mA} {S : mS} {L : mL} {R : mR} {t : Nat} (hlf : l.stackTraces = false) (ht : t ≤ 512) (hI : IVt S L R t) (a0 : Int32) : CaseW l G ad S L R i2 yL_restoreSnapshot cL_restoreSnapshot 4 [(0, 9, 12, 22), (0, 9, 15, 76)] [.ref (ad 0 0), .int a0, .ref (ad 60 0)] yX9_restoreSnapshot cX9_restoreSnapshot 2 .int rm_X9_restoreSnapshot [.ref (ad 40 0), .int a0] t := by
  obtain ⟨T, c, N, d, n, B, u, UR, SR, sf, un, f, nm, hI, hB⟩ := hI
  obtain ⟨x, ph, hC⟩ := id hI.1
  obtain ⟨hR, hn, hu, hrI, htI, hJ⟩ := hC.facts
  have hcO : cO c := hI.2.1.2.2.2.2.2.1
  by_cases h : isP 2 a0
  · obtain ⟨s, hs, rfl⟩ := h
    have h53 := hI.2.1.2.2.2.2.2.2.2.1 s hs
    obtain ⟨-, hs1, -⟩ := hC.2.2.2.2.2.2.1 s hs
    by_cases hf : sf s = 1
    · refine ⟨0, rw_restoreSnapshot, _, ⟨by decide, by decide⟩, ⟨by decide, by decide⟩, by omega, w_restoreSnapshot_ok (c_X8_restoreSnapshot hC hs hf), fun r S1 L1 R1 p => ?_⟩
      obtain ⟨p1, r', L', ⟨rfl, p2, rfl⟩, rfl⟩ := p
      obtain ⟨hF, x2, ph2, hC2⟩ := id p2
      obtain ⟨a1, -⟩ := iv_fc hI hF ((LQ.rf L).up (j := 0) (v := i2 (SR s 1)))
      have a52 := a1.2.2.2.2.2.2.2.1 s hs
      refine ⟨p1, _, c_X9_restoreSnapshot hC2.1 hs (by rw [a52.1, hf]), fun b S2 L2 R2 q => ?_⟩
      obtain ⟨q1, rfl, rfl, rfl⟩ := q
      obtain ⟨b1, b2⟩ := iv_b hI p2 ((LQ.rf L).up (j := 0) (v := (SR s 1).toInt64)) q1 (fun w hw => a52.2 hf w hw) (Nat.zero_le _)
      exact ⟨hC2.1, q1.1, fun _ => (up3_s _ _ _ _ _).trans (by rw [a52.2 hf 1 (by omega)]; rfl), _, b1, (by rw [sA_n _ _ (by omega)]; exact q1.1), T, c, _, d, n, B, 0, UR, SR, sf, un, f, nm, b2, by omega⟩
    · have h0 : sf s = 0 := by omega
      exact case_t (k := 2) (by omega) (by omega) hI hB ⟨by decide, by decide⟩ ⟨by decide, by decide⟩ (w_restoreSnapshot_t2 (c_X8_restoreSnapshot_t2 hlf hC hs h0)) (fun S1 L1 R1 hR1 hV _ => Ki.mono (c_X9_restoreSnapshot_2 hR1 hs (by rw [(hV.2.2.2.2.2.2.2.1 s hs).1, h0]; rfl)) (fun b S2 L2 R2 q => q))
  · exact case_t (k := 1) (by omega) (by omega) hI hB ⟨by decide, by decide⟩ ⟨by decide, by decide⟩ (w_restoreSnapshot_t1 (c_X8_restoreSnapshot_t hlf hC h)) (fun S1 L1 R1 hR1 hV _ => Ki.mono (c_X9_restoreSnapshot_1 hR1 h) (fun b S2 L2 R2 q => q))
set_option maxRecDepth 100000 in
theorem cs_parse {l : Launch} {G : mG} {ad : mA} {S : mS} {L : mL} {R : mR} {t : Nat} (hlf : l.stackTraces = false) (ht : t ≤ 512) (hI : IVt S L R t) (a0 : Int32) : CaseW l G ad S L R i2 yL_parse cL_parse 4 [(0, 9, 12, 13)] [.ref (ad 0 0), .int a0, .ref (ad 60 0)] yX9_parse cX9_parse 3 .int rm_X9_parse [.ref (ad 40 0), .int a0] t := by
  obtain ⟨T, c, N, d, n, B, u, UR, SR, sf, un, f, nm, hI, hB⟩ := hI
  obtain ⟨x, ph, hC⟩ := id hI.1
  obtain ⟨hR, hn, hu, hrI, htI, hJ⟩ := hC.facts
  have hcO : cO c := hI.2.1.2.2.2.2.2.1
  by_cases h : isR 0 f a0
  · obtain ⟨w, _, hw, rfl⟩ := h
    refine ⟨0, rw_parse, _, ⟨by decide, by decide⟩, ⟨by decide, by decide⟩, by omega, w_parse_ok (c_X8_parse hC hI.2.2.2.1 hw), fun r S1 L1 R1 p => ?_⟩
    obtain ⟨p1, r', L', ⟨rfl, p2⟩, rfl⟩ := p
    have hR1 : mlk R1 := by
      by_cases hb : (yPh un w).1.1 = 0
      · obtain ⟨T', ⟨x2, ph2, h2⟩, -⟩ := p2.2.2.2.2.2 hb
        exact h2.1
      · obtain ⟨⟨x2, ph2, h2⟩, -⟩ := p2.2.2.2.2.1 hb
        exact h2.1
    have hTx : rTx S1 un f := by
      have h := hI.2.2.2.2
      unfold rTx at h ⊢
      rw [p2.2.2.1 40 (by omega), p2.2.2.1 45 (by omega)]
      exact h
    refine ⟨p1, _, c_X9_parse hR1 hTx hw, fun b S2 L2 R2 q => ?_⟩
    obtain ⟨rfl, q2, rfl⟩ := q
    have e60 : L2 60 0 0 = i2 (nI (yPh un w).1.1) := by rw [q2.2.2.2.2.1 60 0 (by omega)]; exact up3_s _ _ _ _ _
    by_cases hb : (yPh un w).1.1 = 0
    · obtain ⟨b1, T', b2⟩ := iv_parse_y hI hb p2 ((LQ.rf L').up) q2
      exact ⟨hR1, q2.1, fun _ => e60, _, b1, (by rw [sA_n _ _ (by omega)]; exact q2.1), T', _, _, 1 - d, _, B, 0, UR, SR, _, un, 0, _, b2, by omega⟩
    · have b2 := iv_parse_n hI hb p2 ((LQ.rf L').up) q2
      exact ⟨hR1, q2.1, fun _ => e60, S2, fun _ _ _ _ => rfl, q2.1, T, c, N, d, n, B, u, UR, SR, sf, un, 0, nm, b2, by omega⟩
  · exact case_t (k := 1) (by omega) (by omega) hI hB ⟨by decide, by decide⟩ ⟨by decide, by decide⟩ (w_parse_t1 (c_X8_parse_t hlf hC hI.2.2.2.1 h)) (fun S1 L1 R1 hR1 _ hT => parse_q hR1 hT h)
set_option maxRecDepth 100000 in
theorem cs_errorPosition {l : Launch} {G : mG} {ad : mA} {S : mS} {L : mL} {R : mR} {t : Nat} (hI : IVt S L R t) : CaseD l G ad S L R yX8_errorPosition cX8_errorPosition 1 rm_X8_errorPosition [.ref (ad 0 0)] yX9_errorPosition cX9_errorPosition 1 rm_X9_errorPosition [.ref (ad 40 0)] t := by
  obtain ⟨T, c, N, d, n, B, u, UR, SR, sf, un, f, nm, hI, hB⟩ := hI
  obtain ⟨x, ph, hC⟩ := id hI.1
  obtain ⟨hR, hn, hu, hrI, htI, hJ⟩ := hC.facts
  refine ⟨_, c_X8_errorPosition hR, fun r S1 L1 R1 p => ?_⟩
  obtain ⟨rfl, rfl, rfl, rfl⟩ := p
  refine ⟨_, c_X9_errorPosition hR, fun b S2 L2 R2 q => ?_⟩
  obtain ⟨q1, rfl, rfl, rfl⟩ := q
  exact ⟨hI.2.2.1, S2, fun _ _ _ _ => rfl, T, c, N, d, n, B, u, UR, SR, sf, un, f, nm, iv_q hI (CQ.of hC) (LQ.rf _) q1, by omega⟩
set_option maxRecDepth 100000 in
theorem cs_home {l : Launch} {G : mG} {ad : mA} {S : mS} {L : mL} {R : mR} {t : Nat} (hI : IVt S L R t) : CaseD l G ad S L R yX8_home cX8_home 2 rm_X8_home [.ref (ad 0 0)] yX9_home cX9_home 2 rm_X9_home [.ref (ad 40 0)] t := by
  obtain ⟨T, c, N, d, n, B, u, UR, SR, sf, un, f, nm, hI, hB⟩ := hI
  obtain ⟨x, ph, hC⟩ := id hI.1
  obtain ⟨hR, hn, hu, hrI, htI, hJ⟩ := hC.facts
  exact case_dc (v := N 2) (B2 := B) (M := fHome N) hI (by omega) hu (Ki.mono (c_X8_home hC) (fun r S2 L2 R2 p => p)) (fun S1 L1 R1 hR1 hV => Ki.mono (c_X9_home hR1 hV.2.2.1 hu (by rw [hV.1]; exact hrI) hn) (fun b S2 L2 R2 q => ⟨q.2.1.trans (by rw [hV.1]), (by have := q.1; rw [hV.1] at this; exact this), q.2.2.1, q.2.2.2⟩))
set_option maxRecDepth 100000 in
theorem cs_undo {l : Launch} {G : mG} {ad : mA} {S : mS} {L : mL} {R : mR} {t : Nat} (hI : IVt S L R t) : CaseD l G ad S L R yX8_undo cX8_undo 1 rm_X8_undo [.ref (ad 0 0)] yX9_undo cX9_undo 1 rm_X9_undo [.ref (ad 40 0)] t := by
  obtain ⟨T, c, N, d, n, B, u, UR, SR, sf, un, f, nm, hI, hB⟩ := hI
  obtain ⟨x, ph, hC⟩ := id hI.1
  obtain ⟨hR, hn, hu, hrI, htI, hJ⟩ := hC.facts
  rcases Nat.eq_zero_or_pos u with rfl | hu0
  · exact case_dq (v := -1) hI hB (Ki.mono (c_X8_undo hC rfl) (fun r S2 L2 R2 p => by obtain ⟨rfl, rfl, rfl, rfl⟩ := p; exact ⟨rfl, CQ.of hC, rfl⟩)) (fun S1 L1 R1 hR1 hV hT => Ki.mono (c_X9_undo hR1 hV.2.2.1) (fun b S2 L2 R2 q => ⟨q.2.1, q.1, q.2.2.1, q.2.2.2⟩))
  · obtain ⟨v, rfl⟩ : ∃ v, u = v + 1 := ⟨u - 1, by omega⟩
    refine ⟨_, c_X8_undo_1 hC, fun r S1 L1 R1 p => ?_⟩
    obtain ⟨rfl, p2, rfl⟩ := p
    obtain ⟨hF, x2, ph2, hC2⟩ := id p2
    obtain ⟨a1, -⟩ := iv_fc hI hF (LQ.rf L)
    refine ⟨_, c_X9_undo_1 hC2.1 a1.2.2.1 hu, fun b S2 L2 R2 q => ?_⟩
    obtain ⟨q1, rfl, rfl, rfl⟩ := q
    obtain ⟨b1, b2⟩ := iv_b hI p2 (LQ.rf L) q1 (fun w hw => a1.2.2.2.2.2.2.1 v (by omega) w hw) (by omega)
    exact ⟨rfl, _, b1, T, c, _, d, n, B, v, UR, SR, sf, un, f, nm, b2, by omega⟩
set_option maxRecDepth 100000 in
theorem cs_find {l : Launch} {G : mG} {ad : mA} {S : mS} {L : mL} {R : mR} {t : Nat} (hI : IVt S L R t) : CaseD l G ad S L R yX8_find cX8_find 2 rm_X8_find [.ref (ad 0 0)] yX9_find cX9_find 2 rm_X9_find [.ref (ad 40 0)] t := by
  obtain ⟨T, c, N, d, n, B, u, UR, SR, sf, un, f, nm, hI, hB⟩ := hI
  obtain ⟨x, ph, hC⟩ := id hI.1
  obtain ⟨hR, hn, hu, hrI, htI, hJ⟩ := hC.facts
  refine ⟨_, c_X8_find hC hI.2.2.2.1, fun r S1 L1 R1 p => ?_⟩
  obtain ⟨⟨e, he, h1, h2, rfl⟩, p2, rfl, rfl⟩ := p
  have hV := hI.2.1
  have hTx : rTx S1 un f := by
    have h := hI.2.2.2.2
    unfold rTx at h ⊢
    rw [← p2, up3_k _ (by omega), up3_k _ (by omega)]
    exact h
  refine ⟨_, c_X9_find hR hTx (by rw [← p2, up3_k _ (by omega)]; exact hV.2.1) hn (fun j hj => ⟨(hV.2.2.2.2.2.2.2.2 j hj).2.2, (hV.2.2.2.2.2.2.2.2 j hj).1⟩), fun b S2 L2 R2 q => ?_⟩
  obtain ⟨rfl, q2, q3, rfl⟩ := q
  exact ⟨by rw [find_c he h1 h2 (fun j hj => ⟨(hV.2.2.2.2.2.2.2.2 j hj).2.1, (hV.2.2.2.2.2.2.2.2 j hj).1⟩)], S2, fun _ _ _ _ => rfl, T, c, N, d, n, B, u, UR, SR, sf, un, 0, nm, iv_find hI p2 q2 q3, by omega⟩
set_option maxRecDepth 100000 in
theorem cs_append {l : Launch} {G : mG} {ad : mA} {S : mS} {L : mL} {R : mR} {t : Nat} (hI : IVt S L R t) (a0 a1 a2 a3 a4 : Int32) : CaseD l G ad S L R yX8_append cX8_append 6 rm_X8_append [.ref (ad 0 0), .int a0, .int a1, .int a2, .int a3, .int a4] yX9_append cX9_append 6 rm_X9_append [.ref (ad 40 0), .int a0, .int a1, .int a2, .int a3, .int a4] t := by
  obtain ⟨T, c, N, d, n, B, u, UR, SR, sf, un, f, nm, hI, hB⟩ := hI
  obtain ⟨x, ph, hC⟩ := id hI.1
  obtain ⟨hR, hn, hu, hrI, htI, hJ⟩ := hC.facts
  by_cases hf : f ≤ 680
  · refine ⟨_, c_X8_append hR hI.2.2.2.1 hf, fun r S1 L1 R1 p => ?_⟩
    obtain ⟨rfl, p2, p3, rfl, rfl⟩ := p
    have hTx : rTx S1 un f := by
      have h := hI.2.2.2.2
      unfold rTx at h ⊢
      rw [p3 40 0 (by omega) (by omega), p3 45 0 (by omega) (by omega)]
      exact h
    refine ⟨_, c_X9_append hR hTx hf, fun b S2 L2 R2 q => ?_⟩
    obtain ⟨rfl, q2, q3, q4, rfl, rfl⟩ := q
    exact ⟨rfl, S2, fun _ _ _ _ => rfl, T, c, N, d, n, B, u, UR, SR, sf, _, _, nm, iv_append hI p2 p3 q2 q4, by omega⟩
  · refine case_dq (v := -1) hI hB (Ki.mono (c_X8_append_n hR hI.2.2.2.1 (by omega)) (fun r S2 L2 R2 p => by obtain ⟨rfl, rfl, rfl, rfl⟩ := p; exact ⟨rfl, CQ.of hC, rfl⟩)) (fun S1 L1 R1 hR1 hV hT => Ki.mono (c_X9_append_n hR1 hT.2.2 (by omega)) (fun b S2 L2 R2 q => ⟨q.1, by rw [← q.2.1]; exact rQ_t _ _, q.2.2.1, q.2.2.2⟩))
