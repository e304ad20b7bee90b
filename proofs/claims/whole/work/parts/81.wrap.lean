/-! the law's methods: what they answer, when their call returns and when it throws -/
theorem kl_L_13 : Cond.classLink RL 13 eIA ∈ mlw := mlw_t 479 (by decide +kernel) rfl
theorem kl_L_22 : Cond.classLink RL 22 eIO ∈ mlw := mlw_t 696 (by decide +kernel) rfl
theorem kl_L_76 : Cond.classLink RL 76 eIS ∈ mlw := mlw_t 995 (by decide +kernel) rfl
theorem ww_account : mCw RL 193 yL_account cL_account 4 [(0, 9, 12, 13)] 3 := ⟨mlw_t 984 (by decide +kernel) rfl, mlw_t 985 (by decide +kernel) rfl, wi_L, mlw_t 986 (by decide +kernel) rfl, by decide +kernel⟩
def rw_account : Room := { frames := rm_X8_account.frames + 1, cells := rm_X8_account.cells, slots := rm_X8_account.slots, locals := 8 + (2 + 11) + rm_X8_account.locals }
set_option maxHeartbeats 4000000 in
set_option maxRecDepth 100000 in
theorem w_account_ok {l : Launch} {G : mG} {ad : mA} {S : mS} {L : mL} {R : mR} {a0 : Int32} {post : Int32 → mS → mL → mR → Prop} (hM : Ki l yX8_account cX8_account 2 .int rm_X8_account G ad mdm [.ref (ad 0 0), .int a0] S L R post) : Kw l yL_account cL_account 4 [(0, 9, 12, 13)] rw_account G ad mdm [.ref (ad 0 0), .int a0, .ref (ad 60 0)] S L R (fun r_ S2 L2 R2 => r_ = nI 0 ∧ ∃ r L1, post r S2 L1 R2 ∧ up3 L1 60 0 0 r.toInt64 = L2) := by
  refine Kw.of RL (by decide) rfl (Nat.le_of_ble_eq_true rfl) ?_
  intro X hXl hXG C htab ret
  subst hXl; subst hXG
  change Z X 4 ad mdm S L R 0 0 0 [(0, _), (1, _), (2, _)] []
  refine z_aload_n C 0 2 2 dL_account_0 rfl rfl ?_
  refine z_iconst (v := nI 0) C 1 dL_account_1 (by decide) ?_
  refine z_aload_n C 2 0 0 dL_account_2 rfl rfl ?_
  refine z_iload_n C 3 1 1 dL_account_3 rfl rfl ?_
  refine z_cVi0 C 4 dL_account_4 cv_L_70 hM rfl ⟨by decide, rfl⟩ Nat.zero_lt_one rfl rfl (Nat.le_of_ble_eq_true rfl) ⟨Nat.le_refl _, Nat.le_refl _⟩ ⟨rfl, rfl⟩ ⟨by decide, by decide⟩ ?_
  intro r S1 L1 R1 hp
  refine z_i2l C 7 dL_account_7 rfl ?_
  refine z_last C 8 dL_account_8 rfl Nat.zero_lt_one rfl (by decide) (by decide) ?_
  refine z_goto C 9 15 dL_account_9 (by decide) ?_
  refine z_iconst (v := nI 0) C 15 dL_account_15 (by decide) ?_
  exact ret 16 _ _ _ _ _ dL_account_16 ⟨rfl, r, L1, hp, rfl⟩
def rwt_account : Room := { frames := rt_X8_account.frames + 1, cells := rt_X8_account.cells, slots := rt_X8_account.slots, locals := 8 + (2 + 11) + rt_X8_account.locals }
set_option maxHeartbeats 4000000 in
set_option maxRecDepth 100000 in
theorem w_account_t1 {l : Launch} {G : mG} {ad : mA} {S : mS} {L : mL} {R : mR} {a0 : Int32} {post : mS → mL → mR → Prop} (hM : Kt l yX8_account cX8_account 2 (some .int) rt_X8_account G ad mdm [.ref (ad 0 0), .int a0] S L R eIA post) : Kw l yL_account cL_account 4 [(0, 9, 12, 13)] rwt_account G ad mdm [.ref (ad 0 0), .int a0, .ref (ad 60 0)] S L R (fun r_ S2 L2 R2 => r_ = nI 1 ∧ post S2 L2 R2) := by
  refine Kw.of RL (by decide) rfl (Nat.le_of_ble_eq_true rfl) ?_
  intro X hXl hXG C htab ret
  subst hXl; subst hXG
  change Z X 4 ad mdm S L R 0 0 0 [(0, _), (1, _), (2, _)] []
  refine z_aload_n C 0 2 2 dL_account_0 rfl rfl ?_
  refine z_iconst (v := nI 0) C 1 dL_account_1 (by decide) ?_
  refine z_aload_n C 2 0 0 dL_account_2 rfl rfl ?_
  refine z_iload_n C 3 1 1 dL_account_3 rfl rfl ?_
  refine z_tc C htab 4 [] ⟨0, 9, 12, 13⟩ [] dL_account_4 cv_L_70 hM rfl ⟨by decide, rfl⟩ Nat.zero_lt_one rfl rfl (Nat.le_of_ble_eq_true rfl) ⟨Nat.le_refl _, Nat.le_refl _⟩ ⟨by decide, by decide⟩ rfl (fun z hz => nomatch hz) (by unfold cwE; decide) (by decide) (by decide) kl_L_13 ?_
  intro S1 L1 R1 q hp
  refine z_astore_n C 12 3 [(3, _), (0, _), (1, _), (2, _)] dL_account_12 rfl (by decide) rfl ?_
  refine z_iconst (v := nI 1) C 13 dL_account_13 (by decide) ?_
  exact ret 14 _ _ _ _ _ dL_account_14 ⟨rfl, hp⟩
theorem ww_close : mCw RL 223 yL_close cL_close 4 [(0, 9, 12, 22), (0, 9, 15, 76)] 3 := ⟨mlw_t 1098 (by decide +kernel) rfl, mlw_t 1099 (by decide +kernel) rfl, wi_L, mlw_t 1100 (by decide +kernel) rfl, by decide +kernel⟩
def rw_close : Room := { frames := rm_X8_close.frames + 1, cells := rm_X8_close.cells, slots := rm_X8_close.slots, locals := 8 + (3 + 11) + rm_X8_close.locals }
set_option maxHeartbeats 4000000 in
set_option maxRecDepth 100000 in
theorem w_close_ok {l : Launch} {G : mG} {ad : mA} {S : mS} {L : mL} {R : mR} {a0 : Int32} {post : Int32 → mS → mL → mR → Prop} (hM : Ki l yX8_close cX8_close 3 .int rm_X8_close G ad mdm [.ref (ad 0 0), .int a0] S L R post) : Kw l yL_close cL_close 4 [(0, 9, 12, 22), (0, 9, 15, 76)] rw_close G ad mdm [.ref (ad 0 0), .int a0, .ref (ad 60 0)] S L R (fun r_ S2 L2 R2 => r_ = nI 0 ∧ ∃ r L1, post r S2 L1 R2 ∧ up3 L1 60 0 0 r.toInt64 = L2) := by
  refine Kw.of RL (by decide) rfl (Nat.le_of_ble_eq_true rfl) ?_
  intro X hXl hXG C htab ret
  subst hXl; subst hXG
  change Z X 4 ad mdm S L R 0 0 0 [(0, _), (1, _), (2, _)] []
  refine z_aload_n C 0 2 2 dL_close_0 rfl rfl ?_
  refine z_iconst (v := nI 0) C 1 dL_close_1 (by decide) ?_
  refine z_aload_n C 2 0 0 dL_close_2 rfl rfl ?_
  refine z_iload_n C 3 1 1 dL_close_3 rfl rfl ?_
  refine z_cVi0 C 4 dL_close_4 cv_L_98 hM rfl ⟨by decide, rfl⟩ Nat.zero_lt_one rfl rfl (Nat.le_of_ble_eq_true rfl) ⟨Nat.le_refl _, Nat.le_refl _⟩ ⟨rfl, rfl⟩ ⟨by decide, by decide⟩ ?_
  intro r S1 L1 R1 hp
  refine z_i2l C 7 dL_close_7 rfl ?_
  refine z_last C 8 dL_close_8 rfl Nat.zero_lt_one rfl (by decide) (by decide) ?_
  refine z_goto C 9 18 dL_close_9 (by decide) ?_
  refine z_iconst (v := nI 0) C 18 dL_close_18 (by decide) ?_
  exact ret 19 _ _ _ _ _ dL_close_19 ⟨rfl, r, L1, hp, rfl⟩
def rwt_close : Room := { frames := rt_X8_close.frames + 1, cells := rt_X8_close.cells, slots := rt_X8_close.slots, locals := 8 + (3 + 11) + rt_X8_close.locals }
set_option maxHeartbeats 4000000 in
set_option maxRecDepth 100000 in
theorem w_close_t1 {l : Launch} {G : mG} {ad : mA} {S : mS} {L : mL} {R : mR} {a0 : Int32} {post : mS → mL → mR → Prop} (hM : Kt l yX8_close cX8_close 3 (some .int) rt_X8_close G ad mdm [.ref (ad 0 0), .int a0] S L R eIO post) : Kw l yL_close cL_close 4 [(0, 9, 12, 22), (0, 9, 15, 76)] rwt_close G ad mdm [.ref (ad 0 0), .int a0, .ref (ad 60 0)] S L R (fun r_ S2 L2 R2 => r_ = nI 1 ∧ post S2 L2 R2) := by
  refine Kw.of RL (by decide) rfl (Nat.le_of_ble_eq_true rfl) ?_
  intro X hXl hXG C htab ret
  subst hXl; subst hXG
  change Z X 4 ad mdm S L R 0 0 0 [(0, _), (1, _), (2, _)] []
  refine z_aload_n C 0 2 2 dL_close_0 rfl rfl ?_
  refine z_iconst (v := nI 0) C 1 dL_close_1 (by decide) ?_
  refine z_aload_n C 2 0 0 dL_close_2 rfl rfl ?_
  refine z_iload_n C 3 1 1 dL_close_3 rfl rfl ?_
  refine z_tc C htab 4 [] ⟨0, 9, 12, 22⟩ [⟨0, 9, 15, 76⟩] dL_close_4 cv_L_98 hM rfl ⟨by decide, rfl⟩ Nat.zero_lt_one rfl rfl (Nat.le_of_ble_eq_true rfl) ⟨Nat.le_refl _, Nat.le_refl _⟩ ⟨by decide, by decide⟩ rfl (fun z hz => nomatch hz) (by unfold cwE; decide) (by decide) (by decide) kl_L_22 ?_
  intro S1 L1 R1 q hp
  refine z_astore_n C 12 3 [(3, _), (0, _), (1, _), (2, _)] dL_close_12 rfl (by decide) rfl ?_
  refine z_iconst (v := nI 1) C 13 dL_close_13 (by decide) ?_
  exact ret 14 _ _ _ _ _ dL_close_14 ⟨rfl, hp⟩
set_option maxHeartbeats 4000000 in
set_option maxRecDepth 100000 in
theorem w_close_t2 {l : Launch} {G : mG} {ad : mA} {S : mS} {L : mL} {R : mR} {a0 : Int32} {post : mS → mL → mR → Prop} (hM : Kt l yX8_close cX8_close 3 (some .int) rt_X8_close G ad mdm [.ref (ad 0 0), .int a0] S L R eIS post) : Kw l yL_close cL_close 4 [(0, 9, 12, 22), (0, 9, 15, 76)] rwt_close G ad mdm [.ref (ad 0 0), .int a0, .ref (ad 60 0)] S L R (fun r_ S2 L2 R2 => r_ = nI 2 ∧ post S2 L2 R2) := by
  refine Kw.of RL (by decide) rfl (Nat.le_of_ble_eq_true rfl) ?_
  intro X hXl hXG C htab ret
  subst hXl; subst hXG
  change Z X 4 ad mdm S L R 0 0 0 [(0, _), (1, _), (2, _)] []
  refine z_aload_n C 0 2 2 dL_close_0 rfl rfl ?_
  refine z_iconst (v := nI 0) C 1 dL_close_1 (by decide) ?_
  refine z_aload_n C 2 0 0 dL_close_2 rfl rfl ?_
  refine z_iload_n C 3 1 1 dL_close_3 rfl rfl ?_
  refine z_tc C htab 4 [⟨0, 9, 12, 22⟩] ⟨0, 9, 15, 76⟩ [] dL_close_4 cv_L_98 hM rfl ⟨by decide, rfl⟩ Nat.zero_lt_one rfl rfl (Nat.le_of_ble_eq_true rfl) ⟨Nat.le_refl _, Nat.le_refl _⟩ ⟨by decide, by decide⟩ rfl (fun z hz => by rw [List.mem_singleton.mp hz]; exact ⟨by decide, eIO, kl_L_22, by unfold cwE; decide, by decide⟩) (by unfold cwE; decide) (by decide) (by decide) kl_L_76 ?_
  intro S1 L1 R1 q hp
  refine z_astore_n C 15 3 [(3, _), (0, _), (1, _), (2, _)] dL_close_15 rfl (by decide) rfl ?_
  refine z_iconst (v := nI 2) C 16 dL_close_16 (by decide) ?_
  exact ret 17 _ _ _ _ _ dL_close_17 ⟨rfl, hp⟩
theorem ww_followed : mCw RL 162 yL_followed cL_followed 5 [(0, 10, 13, 22)] 4 := ⟨mlw_t 783 (by decide +kernel) rfl, mlw_t 784 (by decide +kernel) rfl, wi_L, mlw_t 785 (by decide +kernel) rfl, by decide +kernel⟩
def rw_followed : Room := { frames := rm_X8_followed.frames + 1, cells := rm_X8_followed.cells, slots := rm_X8_followed.slots, locals := 8 + (3 + 11) + rm_X8_followed.locals }
set_option maxHeartbeats 4000000 in
set_option maxRecDepth 100000 in
theorem w_followed_ok {l : Launch} {G : mG} {ad : mA} {S : mS} {L : mL} {R : mR} {a0 a1 : Int32} {post : Int32 → mS → mL → mR → Prop} (hM : Ki l yX8_followed cX8_followed 3 .int rm_X8_followed G ad mdm [.ref (ad 0 0), .int a0, .int a1] S L R post) : Kw l yL_followed cL_followed 5 [(0, 10, 13, 22)] rw_followed G ad mdm [.ref (ad 0 0), .int a0, .int a1, .ref (ad 60 0)] S L R (fun r_ S2 L2 R2 => r_ = nI 0 ∧ ∃ r L1, post r S2 L1 R2 ∧ up3 L1 60 0 0 r.toInt64 = L2) := by
  refine Kw.of RL (by decide) rfl (Nat.le_of_ble_eq_true rfl) ?_
  intro X hXl hXG C htab ret
  subst hXl; subst hXG
  change Z X 5 ad mdm S L R 0 0 0 [(0, _), (1, _), (2, _), (3, _)] []
  refine z_aload_n C 0 3 3 dL_followed_0 rfl rfl ?_
  refine z_iconst (v := nI 0) C 1 dL_followed_1 (by decide) ?_
  refine z_aload_n C 2 0 0 dL_followed_2 rfl rfl ?_
  refine z_iload_n C 3 1 1 dL_followed_3 rfl rfl ?_
  refine z_iload_n C 4 2 2 dL_followed_4 rfl rfl ?_
  refine z_cVi0 C 5 dL_followed_5 cv_L_39 hM rfl ⟨by decide, rfl⟩ Nat.zero_lt_one rfl rfl (Nat.le_of_ble_eq_true rfl) ⟨Nat.le_refl _, Nat.le_refl _⟩ ⟨rfl, rfl⟩ ⟨by decide, by decide⟩ ?_
  intro r S1 L1 R1 hp
  refine z_i2l C 8 dL_followed_8 rfl ?_
  refine z_last C 9 dL_followed_9 rfl Nat.zero_lt_one rfl (by decide) (by decide) ?_
  refine z_goto C 10 17 dL_followed_10 (by decide) ?_
  refine z_iconst (v := nI 0) C 17 dL_followed_17 (by decide) ?_
  exact ret 18 _ _ _ _ _ dL_followed_18 ⟨rfl, r, L1, hp, rfl⟩
def rwt_followed : Room := { frames := rt_X8_followed.frames + 1, cells := rt_X8_followed.cells, slots := rt_X8_followed.slots, locals := 8 + (3 + 11) + rt_X8_followed.locals }
set_option maxHeartbeats 4000000 in
set_option maxRecDepth 100000 in
theorem w_followed_t1 {l : Launch} {G : mG} {ad : mA} {S : mS} {L : mL} {R : mR} {a0 a1 : Int32} {post : mS → mL → mR → Prop} (hM : Kt l yX8_followed cX8_followed 3 (some .int) rt_X8_followed G ad mdm [.ref (ad 0 0), .int a0, .int a1] S L R eIO post) : Kw l yL_followed cL_followed 5 [(0, 10, 13, 22)] rwt_followed G ad mdm [.ref (ad 0 0), .int a0, .int a1, .ref (ad 60 0)] S L R (fun r_ S2 L2 R2 => r_ = nI 1 ∧ post S2 L2 R2) := by
  refine Kw.of RL (by decide) rfl (Nat.le_of_ble_eq_true rfl) ?_
  intro X hXl hXG C htab ret
  subst hXl; subst hXG
  change Z X 5 ad mdm S L R 0 0 0 [(0, _), (1, _), (2, _), (3, _)] []
  refine z_aload_n C 0 3 3 dL_followed_0 rfl rfl ?_
  refine z_iconst (v := nI 0) C 1 dL_followed_1 (by decide) ?_
  refine z_aload_n C 2 0 0 dL_followed_2 rfl rfl ?_
  refine z_iload_n C 3 1 1 dL_followed_3 rfl rfl ?_
  refine z_iload_n C 4 2 2 dL_followed_4 rfl rfl ?_
  refine z_tc C htab 5 [] ⟨0, 10, 13, 22⟩ [] dL_followed_5 cv_L_39 hM rfl ⟨by decide, rfl⟩ Nat.zero_lt_one rfl rfl (Nat.le_of_ble_eq_true rfl) ⟨Nat.le_refl _, Nat.le_refl _⟩ ⟨by decide, by decide⟩ rfl (fun z hz => nomatch hz) (by unfold cwE; decide) (by decide) (by decide) kl_L_22 ?_
  intro S1 L1 R1 q hp
  refine z_astore C 13 4 [(4, _), (0, _), (1, _), (2, _), (3, _)] dL_followed_13 (by decide) rfl ?_
  refine z_iconst (v := nI 1) C 15 dL_followed_15 (by decide) ?_
  exact ret 16 _ _ _ _ _ dL_followed_16 ⟨rfl, hp⟩
theorem ww_freed : mCw RL 171 yL_freed cL_freed 4 [(0, 9, 12, 13)] 3 := ⟨mlw_t 840 (by decide +kernel) rfl, mlw_t 841 (by decide +kernel) rfl, wi_L, mlw_t 842 (by decide +kernel) rfl, by decide +kernel⟩
def rw_freed : Room := { frames := rm_X8_freed.frames + 1, cells := rm_X8_freed.cells, slots := rm_X8_freed.slots, locals := 8 + (3 + 11) + rm_X8_freed.locals }
set_option maxHeartbeats 4000000 in
set_option maxRecDepth 100000 in
theorem w_freed_ok {l : Launch} {G : mG} {ad : mA} {S : mS} {L : mL} {R : mR} {a0 : Int32} {post : Int32 → mS → mL → mR → Prop} (hM : Ki l yX8_freed cX8_freed 3 .int rm_X8_freed G ad mdm [.ref (ad 0 0), .int a0] S L R post) : Kw l yL_freed cL_freed 4 [(0, 9, 12, 13)] rw_freed G ad mdm [.ref (ad 0 0), .int a0, .ref (ad 60 0)] S L R (fun r_ S2 L2 R2 => r_ = nI 0 ∧ ∃ r L1, post r S2 L1 R2 ∧ up3 L1 60 0 0 r.toInt64 = L2) := by
  refine Kw.of RL (by decide) rfl (Nat.le_of_ble_eq_true rfl) ?_
  intro X hXl hXG C htab ret
  subst hXl; subst hXG
  change Z X 4 ad mdm S L R 0 0 0 [(0, _), (1, _), (2, _)] []
  refine z_aload_n C 0 2 2 dL_freed_0 rfl rfl ?_
  refine z_iconst (v := nI 0) C 1 dL_freed_1 (by decide) ?_
  refine z_aload_n C 2 0 0 dL_freed_2 rfl rfl ?_
  refine z_iload_n C 3 1 1 dL_freed_3 rfl rfl ?_
  refine z_cVi0 C 4 dL_freed_4 cv_L_48 hM rfl ⟨by decide, rfl⟩ Nat.zero_lt_one rfl rfl (Nat.le_of_ble_eq_true rfl) ⟨Nat.le_refl _, Nat.le_refl _⟩ ⟨rfl, rfl⟩ ⟨by decide, by decide⟩ ?_
  intro r S1 L1 R1 hp
  refine z_i2l C 7 dL_freed_7 rfl ?_
  refine z_last C 8 dL_freed_8 rfl Nat.zero_lt_one rfl (by decide) (by decide) ?_
  refine z_goto C 9 15 dL_freed_9 (by decide) ?_
  refine z_iconst (v := nI 0) C 15 dL_freed_15 (by decide) ?_
  exact ret 16 _ _ _ _ _ dL_freed_16 ⟨rfl, r, L1, hp, rfl⟩
def rwt_freed : Room := { frames := rt_X8_freed.frames + 1, cells := rt_X8_freed.cells, slots := rt_X8_freed.slots, locals := 8 + (3 + 11) + rt_X8_freed.locals }
set_option maxHeartbeats 4000000 in
set_option maxRecDepth 100000 in
theorem w_freed_t1 {l : Launch} {G : mG} {ad : mA} {S : mS} {L : mL} {R : mR} {a0 : Int32} {post : mS → mL → mR → Prop} (hM : Kt l yX8_freed cX8_freed 3 (some .int) rt_X8_freed G ad mdm [.ref (ad 0 0), .int a0] S L R eIA post) : Kw l yL_freed cL_freed 4 [(0, 9, 12, 13)] rwt_freed G ad mdm [.ref (ad 0 0), .int a0, .ref (ad 60 0)] S L R (fun r_ S2 L2 R2 => r_ = nI 1 ∧ post S2 L2 R2) := by
  refine Kw.of RL (by decide) rfl (Nat.le_of_ble_eq_true rfl) ?_
  intro X hXl hXG C htab ret
  subst hXl; subst hXG
  change Z X 4 ad mdm S L R 0 0 0 [(0, _), (1, _), (2, _)] []
  refine z_aload_n C 0 2 2 dL_freed_0 rfl rfl ?_
  refine z_iconst (v := nI 0) C 1 dL_freed_1 (by decide) ?_
  refine z_aload_n C 2 0 0 dL_freed_2 rfl rfl ?_
  refine z_iload_n C 3 1 1 dL_freed_3 rfl rfl ?_
  refine z_tc C htab 4 [] ⟨0, 9, 12, 13⟩ [] dL_freed_4 cv_L_48 hM rfl ⟨by decide, rfl⟩ Nat.zero_lt_one rfl rfl (Nat.le_of_ble_eq_true rfl) ⟨Nat.le_refl _, Nat.le_refl _⟩ ⟨by decide, by decide⟩ rfl (fun z hz => nomatch hz) (by unfold cwE; decide) (by decide) (by decide) kl_L_13 ?_
  intro S1 L1 R1 q hp
  refine z_astore_n C 12 3 [(3, _), (0, _), (1, _), (2, _)] dL_freed_12 rfl (by decide) rfl ?_
  refine z_iconst (v := nI 1) C 13 dL_freed_13 (by decide) ?_
  exact ret 14 _ _ _ _ _ dL_freed_14 ⟨rfl, hp⟩
theorem ww_habit : mCw RL 156 yL_habit cL_habit 4 [(0, 9, 12, 22)] 3 := ⟨mlw_t 753 (by decide +kernel) rfl, mlw_t 754 (by decide +kernel) rfl, wi_L, mlw_t 755 (by decide +kernel) rfl, by decide +kernel⟩
def rw_habit : Room := { frames := rm_X8_habit.frames + 1, cells := rm_X8_habit.cells, slots := rm_X8_habit.slots, locals := 8 + (2 + 11) + rm_X8_habit.locals }
set_option maxHeartbeats 4000000 in
set_option maxRecDepth 100000 in
theorem w_habit_ok {l : Launch} {G : mG} {ad : mA} {S : mS} {L : mL} {R : mR} {a0 : Int32} {post : Int32 → mS → mL → mR → Prop} (hM : Ki l yX8_habit cX8_habit 2 .int rm_X8_habit G ad mdm [.ref (ad 0 0), .int a0] S L R post) : Kw l yL_habit cL_habit 4 [(0, 9, 12, 22)] rw_habit G ad mdm [.ref (ad 0 0), .int a0, .ref (ad 60 0)] S L R (fun r_ S2 L2 R2 => r_ = nI 0 ∧ ∃ r L1, post r S2 L1 R2 ∧ up3 L1 60 0 0 r.toInt64 = L2) := by
  refine Kw.of RL (by decide) rfl (Nat.le_of_ble_eq_true rfl) ?_
  intro X hXl hXG C htab ret
  subst hXl; subst hXG
  change Z X 4 ad mdm S L R 0 0 0 [(0, _), (1, _), (2, _)] []
  refine z_aload_n C 0 2 2 dL_habit_0 rfl rfl ?_
  refine z_iconst (v := nI 0) C 1 dL_habit_1 (by decide) ?_
  refine z_aload_n C 2 0 0 dL_habit_2 rfl rfl ?_
  refine z_iload_n C 3 1 1 dL_habit_3 rfl rfl ?_
  refine z_cVi0 C 4 dL_habit_4 cv_L_33 hM rfl ⟨by decide, rfl⟩ Nat.zero_lt_one rfl rfl (Nat.le_of_ble_eq_true rfl) ⟨Nat.le_refl _, Nat.le_refl _⟩ ⟨rfl, rfl⟩ ⟨by decide, by decide⟩ ?_
  intro r S1 L1 R1 hp
  refine z_i2l C 7 dL_habit_7 rfl ?_
  refine z_last C 8 dL_habit_8 rfl Nat.zero_lt_one rfl (by decide) (by decide) ?_
  refine z_goto C 9 15 dL_habit_9 (by decide) ?_
  refine z_iconst (v := nI 0) C 15 dL_habit_15 (by decide) ?_
  exact ret 16 _ _ _ _ _ dL_habit_16 ⟨rfl, r, L1, hp, rfl⟩
def rwt_habit : Room := { frames := rt_X8_habit.frames + 1, cells := rt_X8_habit.cells, slots := rt_X8_habit.slots, locals := 8 + (2 + 11) + rt_X8_habit.locals }
set_option maxHeartbeats 4000000 in
set_option maxRecDepth 100000 in
theorem w_habit_t1 {l : Launch} {G : mG} {ad : mA} {S : mS} {L : mL} {R : mR} {a0 : Int32} {post : mS → mL → mR → Prop} (hM : Kt l yX8_habit cX8_habit 2 (some .int) rt_X8_habit G ad mdm [.ref (ad 0 0), .int a0] S L R eIO post) : Kw l yL_habit cL_habit 4 [(0, 9, 12, 22)] rwt_habit G ad mdm [.ref (ad 0 0), .int a0, .ref (ad 60 0)] S L R (fun r_ S2 L2 R2 => r_ = nI 1 ∧ post S2 L2 R2) := by
  refine Kw.of RL (by decide) rfl (Nat.le_of_ble_eq_true rfl) ?_
  intro X hXl hXG C htab ret
  subst hXl; subst hXG
  change Z X 4 ad mdm S L R 0 0 0 [(0, _), (1, _), (2, _)] []
  refine z_aload_n C 0 2 2 dL_habit_0 rfl rfl ?_
  refine z_iconst (v := nI 0) C 1 dL_habit_1 (by decide) ?_
  refine z_aload_n C 2 0 0 dL_habit_2 rfl rfl ?_
  refine z_iload_n C 3 1 1 dL_habit_3 rfl rfl ?_
  refine z_tc C htab 4 [] ⟨0, 9, 12, 22⟩ [] dL_habit_4 cv_L_33 hM rfl ⟨by decide, rfl⟩ Nat.zero_lt_one rfl rfl (Nat.le_of_ble_eq_true rfl) ⟨Nat.le_refl _, Nat.le_refl _⟩ ⟨by decide, by decide⟩ rfl (fun z hz => nomatch hz) (by unfold cwE; decide) (by decide) (by decide) kl_L_22 ?_
  intro S1 L1 R1 q hp
  refine z_astore_n C 12 3 [(3, _), (0, _), (1, _), (2, _)] dL_habit_12 rfl (by decide) rfl ?_
  refine z_iconst (v := nI 1) C 13 dL_habit_13 (by decide) ?_
  exact ret 14 _ _ _ _ _ dL_habit_14 ⟨rfl, hp⟩
theorem ww_likeliest : mCw RL 165 yL_likeliest cL_likeliest 4 [(0, 9, 12, 22)] 3 := ⟨mlw_t 794 (by decide +kernel) rfl, mlw_t 795 (by decide +kernel) rfl, wi_L, mlw_t 796 (by decide +kernel) rfl, by decide +kernel⟩
def rw_likeliest : Room := { frames := rm_X8_likeliest.frames + 1, cells := rm_X8_likeliest.cells, slots := rm_X8_likeliest.slots, locals := 8 + (2 + 11) + rm_X8_likeliest.locals }
set_option maxHeartbeats 4000000 in
set_option maxRecDepth 100000 in
theorem w_likeliest_ok {l : Launch} {G : mG} {ad : mA} {S : mS} {L : mL} {R : mR} {a0 : Int32} {post : Int32 → mS → mL → mR → Prop} (hM : Ki l yX8_likeliest cX8_likeliest 2 .int rm_X8_likeliest G ad mdm [.ref (ad 0 0), .int a0] S L R post) : Kw l yL_likeliest cL_likeliest 4 [(0, 9, 12, 22)] rw_likeliest G ad mdm [.ref (ad 0 0), .int a0, .ref (ad 60 0)] S L R (fun r_ S2 L2 R2 => r_ = nI 0 ∧ ∃ r L1, post r S2 L1 R2 ∧ up3 L1 60 0 0 r.toInt64 = L2) := by
  refine Kw.of RL (by decide) rfl (Nat.le_of_ble_eq_true rfl) ?_
  intro X hXl hXG C htab ret
  subst hXl; subst hXG
  change Z X 4 ad mdm S L R 0 0 0 [(0, _), (1, _), (2, _)] []
  refine z_aload_n C 0 2 2 dL_likeliest_0 rfl rfl ?_
  refine z_iconst (v := nI 0) C 1 dL_likeliest_1 (by decide) ?_
  refine z_aload_n C 2 0 0 dL_likeliest_2 rfl rfl ?_
  refine z_iload_n C 3 1 1 dL_likeliest_3 rfl rfl ?_
  refine z_cVi0 C 4 dL_likeliest_4 cv_L_42 hM rfl ⟨by decide, rfl⟩ Nat.zero_lt_one rfl rfl (Nat.le_of_ble_eq_true rfl) ⟨Nat.le_refl _, Nat.le_refl _⟩ ⟨rfl, rfl⟩ ⟨by decide, by decide⟩ ?_
  intro r S1 L1 R1 hp
  refine z_i2l C 7 dL_likeliest_7 rfl ?_
  refine z_last C 8 dL_likeliest_8 rfl Nat.zero_lt_one rfl (by decide) (by decide) ?_
  refine z_goto C 9 15 dL_likeliest_9 (by decide) ?_
  refine z_iconst (v := nI 0) C 15 dL_likeliest_15 (by decide) ?_
  exact ret 16 _ _ _ _ _ dL_likeliest_16 ⟨rfl, r, L1, hp, rfl⟩
def rwt_likeliest : Room := { frames := rt_X8_likeliest.frames + 1, cells := rt_X8_likeliest.cells, slots := rt_X8_likeliest.slots, locals := 8 + (2 + 11) + rt_X8_likeliest.locals }
set_option maxHeartbeats 4000000 in
set_option maxRecDepth 100000 in
theorem w_likeliest_t1 {l : Launch} {G : mG} {ad : mA} {S : mS} {L : mL} {R : mR} {a0 : Int32} {post : mS → mL → mR → Prop} (hM : Kt l yX8_likeliest cX8_likeliest 2 (some .int) rt_X8_likeliest G ad mdm [.ref (ad 0 0), .int a0] S L R eIO post) : Kw l yL_likeliest cL_likeliest 4 [(0, 9, 12, 22)] rwt_likeliest G ad mdm [.ref (ad 0 0), .int a0, .ref (ad 60 0)] S L R (fun r_ S2 L2 R2 => r_ = nI 1 ∧ post S2 L2 R2) := by
  refine Kw.of RL (by decide) rfl (Nat.le_of_ble_eq_true rfl) ?_
  intro X hXl hXG C htab ret
  subst hXl; subst hXG
  change Z X 4 ad mdm S L R 0 0 0 [(0, _), (1, _), (2, _)] []
  refine z_aload_n C 0 2 2 dL_likeliest_0 rfl rfl ?_
  refine z_iconst (v := nI 0) C 1 dL_likeliest_1 (by decide) ?_
  refine z_aload_n C 2 0 0 dL_likeliest_2 rfl rfl ?_
  refine z_iload_n C 3 1 1 dL_likeliest_3 rfl rfl ?_
  refine z_tc C htab 4 [] ⟨0, 9, 12, 22⟩ [] dL_likeliest_4 cv_L_42 hM rfl ⟨by decide, rfl⟩ Nat.zero_lt_one rfl rfl (Nat.le_of_ble_eq_true rfl) ⟨Nat.le_refl _, Nat.le_refl _⟩ ⟨by decide, by decide⟩ rfl (fun z hz => nomatch hz) (by unfold cwE; decide) (by decide) (by decide) kl_L_22 ?_
  intro S1 L1 R1 q hp
  refine z_astore_n C 12 3 [(3, _), (0, _), (1, _), (2, _)] dL_likeliest_12 rfl (by decide) rfl ?_
  refine z_iconst (v := nI 1) C 13 dL_likeliest_13 (by decide) ?_
  exact ret 14 _ _ _ _ _ dL_likeliest_14 ⟨rfl, hp⟩
theorem ww_log : mCw RL 190 yL_log cL_log 5 [(0, 10, 13, 13)] 4 := ⟨mlw_t 972 (by decide +kernel) rfl, mlw_t 973 (by decide +kernel) rfl, wi_L, mlw_t 974 (by decide +kernel) rfl, by decide +kernel⟩
def rw_log : Room := { frames := rm_X8_log.frames + 1, cells := rm_X8_log.cells, slots := rm_X8_log.slots, locals := 8 + (3 + 11) + rm_X8_log.locals }
set_option maxHeartbeats 4000000 in
set_option maxRecDepth 100000 in
theorem w_log_ok {l : Launch} {G : mG} {ad : mA} {S : mS} {L : mL} {R : mR} {a0 a1 : Int32} {post : Int32 → mS → mL → mR → Prop} (hM : Ki l yX8_log cX8_log 3 .int rm_X8_log G ad mdm [.ref (ad 0 0), .int a0, .int a1] S L R post) : Kw l yL_log cL_log 5 [(0, 10, 13, 13)] rw_log G ad mdm [.ref (ad 0 0), .int a0, .int a1, .ref (ad 60 0)] S L R (fun r_ S2 L2 R2 => r_ = nI 0 ∧ ∃ r L1, post r S2 L1 R2 ∧ up3 L1 60 0 0 r.toInt64 = L2) := by
  refine Kw.of RL (by decide) rfl (Nat.le_of_ble_eq_true rfl) ?_
  intro X hXl hXG C htab ret
  subst hXl; subst hXG
  change Z X 5 ad mdm S L R 0 0 0 [(0, _), (1, _), (2, _), (3, _)] []
  refine z_aload_n C 0 3 3 dL_log_0 rfl rfl ?_
  refine z_iconst (v := nI 0) C 1 dL_log_1 (by decide) ?_
  refine z_aload_n C 2 0 0 dL_log_2 rfl rfl ?_
  refine z_iload_n C 3 1 1 dL_log_3 rfl rfl ?_
  refine z_iload_n C 4 2 2 dL_log_4 rfl rfl ?_
  refine z_cVi0 C 5 dL_log_5 cv_L_67 hM rfl ⟨by decide, rfl⟩ Nat.zero_lt_one rfl rfl (Nat.le_of_ble_eq_true rfl) ⟨Nat.le_refl _, Nat.le_refl _⟩ ⟨rfl, rfl⟩ ⟨by decide, by decide⟩ ?_
  intro r S1 L1 R1 hp
  refine z_i2l C 8 dL_log_8 rfl ?_
  refine z_last C 9 dL_log_9 rfl Nat.zero_lt_one rfl (by decide) (by decide) ?_
  refine z_goto C 10 17 dL_log_10 (by decide) ?_
  refine z_iconst (v := nI 0) C 17 dL_log_17 (by decide) ?_
  exact ret 18 _ _ _ _ _ dL_log_18 ⟨rfl, r, L1, hp, rfl⟩
def rwt_log : Room := { frames := rt_X8_log.frames + 1, cells := rt_X8_log.cells, slots := rt_X8_log.slots, locals := 8 + (3 + 11) + rt_X8_log.locals }
set_option maxHeartbeats 4000000 in
set_option maxRecDepth 100000 in
theorem w_log_t1 {l : Launch} {G : mG} {ad : mA} {S : mS} {L : mL} {R : mR} {a0 a1 : Int32} {post : mS → mL → mR → Prop} (hM : Kt l yX8_log cX8_log 3 (some .int) rt_X8_log G ad mdm [.ref (ad 0 0), .int a0, .int a1] S L R eIA post) : Kw l yL_log cL_log 5 [(0, 10, 13, 13)] rwt_log G ad mdm [.ref (ad 0 0), .int a0, .int a1, .ref (ad 60 0)] S L R (fun r_ S2 L2 R2 => r_ = nI 1 ∧ post S2 L2 R2) := by
  refine Kw.of RL (by decide) rfl (Nat.le_of_ble_eq_true rfl) ?_
  intro X hXl hXG C htab ret
  subst hXl; subst hXG
  change Z X 5 ad mdm S L R 0 0 0 [(0, _), (1, _), (2, _), (3, _)] []
  refine z_aload_n C 0 3 3 dL_log_0 rfl rfl ?_
  refine z_iconst (v := nI 0) C 1 dL_log_1 (by decide) ?_
  refine z_aload_n C 2 0 0 dL_log_2 rfl rfl ?_
  refine z_iload_n C 3 1 1 dL_log_3 rfl rfl ?_
  refine z_iload_n C 4 2 2 dL_log_4 rfl rfl ?_
  refine z_tc C htab 5 [] ⟨0, 10, 13, 13⟩ [] dL_log_5 cv_L_67 hM rfl ⟨by decide, rfl⟩ Nat.zero_lt_one rfl rfl (Nat.le_of_ble_eq_true rfl) ⟨Nat.le_refl _, Nat.le_refl _⟩ ⟨by decide, by decide⟩ rfl (fun z hz => nomatch hz) (by unfold cwE; decide) (by decide) (by decide) kl_L_13 ?_
  intro S1 L1 R1 q hp
  refine z_astore C 13 4 [(4, _), (0, _), (1, _), (2, _), (3, _)] dL_log_13 (by decide) rfl ?_
  refine z_iconst (v := nI 1) C 15 dL_log_15 (by decide) ?_
  exact ret 16 _ _ _ _ _ dL_log_16 ⟨rfl, hp⟩
theorem ww_notice : mCw RL 153 yL_notice cL_notice 5 [(0, 10, 13, 22)] 4 := ⟨mlw_t 742 (by decide +kernel) rfl, mlw_t 743 (by decide +kernel) rfl, wi_L, mlw_t 744 (by decide +kernel) rfl, by decide +kernel⟩
def rw_notice : Room := { frames := rm_X8_notice.frames + 1, cells := rm_X8_notice.cells, slots := rm_X8_notice.slots, locals := 8 + (3 + 11) + rm_X8_notice.locals }
set_option maxHeartbeats 4000000 in
set_option maxRecDepth 100000 in
theorem w_notice_ok {l : Launch} {G : mG} {ad : mA} {S : mS} {L : mL} {R : mR} {a0 a1 : Int32} {post : Int32 → mS → mL → mR → Prop} (hM : Ki l yX8_notice cX8_notice 3 .int rm_X8_notice G ad mdm [.ref (ad 0 0), .int a0, .int a1] S L R post) : Kw l yL_notice cL_notice 5 [(0, 10, 13, 22)] rw_notice G ad mdm [.ref (ad 0 0), .int a0, .int a1, .ref (ad 60 0)] S L R (fun r_ S2 L2 R2 => r_ = nI 0 ∧ ∃ r L1, post r S2 L1 R2 ∧ up3 L1 60 0 0 r.toInt64 = L2) := by
  refine Kw.of RL (by decide) rfl (Nat.le_of_ble_eq_true rfl) ?_
  intro X hXl hXG C htab ret
  subst hXl; subst hXG
  change Z X 5 ad mdm S L R 0 0 0 [(0, _), (1, _), (2, _), (3, _)] []
  refine z_aload_n C 0 3 3 dL_notice_0 rfl rfl ?_
  refine z_iconst (v := nI 0) C 1 dL_notice_1 (by decide) ?_
  refine z_aload_n C 2 0 0 dL_notice_2 rfl rfl ?_
  refine z_iload_n C 3 1 1 dL_notice_3 rfl rfl ?_
  refine z_iload_n C 4 2 2 dL_notice_4 rfl rfl ?_
  refine z_cVi0 C 5 dL_notice_5 cv_L_30 hM rfl ⟨by decide, rfl⟩ Nat.zero_lt_one rfl rfl (Nat.le_of_ble_eq_true rfl) ⟨Nat.le_refl _, Nat.le_refl _⟩ ⟨rfl, rfl⟩ ⟨by decide, by decide⟩ ?_
  intro r S1 L1 R1 hp
  refine z_i2l C 8 dL_notice_8 rfl ?_
  refine z_last C 9 dL_notice_9 rfl Nat.zero_lt_one rfl (by decide) (by decide) ?_
  refine z_goto C 10 17 dL_notice_10 (by decide) ?_
  refine z_iconst (v := nI 0) C 17 dL_notice_17 (by decide) ?_
  exact ret 18 _ _ _ _ _ dL_notice_18 ⟨rfl, r, L1, hp, rfl⟩
def rwt_notice : Room := { frames := rt_X8_notice.frames + 1, cells := rt_X8_notice.cells, slots := rt_X8_notice.slots, locals := 8 + (3 + 11) + rt_X8_notice.locals }
set_option maxHeartbeats 4000000 in
set_option maxRecDepth 100000 in
theorem w_notice_t1 {l : Launch} {G : mG} {ad : mA} {S : mS} {L : mL} {R : mR} {a0 a1 : Int32} {post : mS → mL → mR → Prop} (hM : Kt l yX8_notice cX8_notice 3 (some .int) rt_X8_notice G ad mdm [.ref (ad 0 0), .int a0, .int a1] S L R eIO post) : Kw l yL_notice cL_notice 5 [(0, 10, 13, 22)] rwt_notice G ad mdm [.ref (ad 0 0), .int a0, .int a1, .ref (ad 60 0)] S L R (fun r_ S2 L2 R2 => r_ = nI 1 ∧ post S2 L2 R2) := by
  refine Kw.of RL (by decide) rfl (Nat.le_of_ble_eq_true rfl) ?_
  intro X hXl hXG C htab ret
  subst hXl; subst hXG
  change Z X 5 ad mdm S L R 0 0 0 [(0, _), (1, _), (2, _), (3, _)] []
  refine z_aload_n C 0 3 3 dL_notice_0 rfl rfl ?_
  refine z_iconst (v := nI 0) C 1 dL_notice_1 (by decide) ?_
  refine z_aload_n C 2 0 0 dL_notice_2 rfl rfl ?_
  refine z_iload_n C 3 1 1 dL_notice_3 rfl rfl ?_
  refine z_iload_n C 4 2 2 dL_notice_4 rfl rfl ?_
  refine z_tc C htab 5 [] ⟨0, 10, 13, 22⟩ [] dL_notice_5 cv_L_30 hM rfl ⟨by decide, rfl⟩ Nat.zero_lt_one rfl rfl (Nat.le_of_ble_eq_true rfl) ⟨Nat.le_refl _, Nat.le_refl _⟩ ⟨by decide, by decide⟩ rfl (fun z hz => nomatch hz) (by unfold cwE; decide) (by decide) (by decide) kl_L_22 ?_
  intro S1 L1 R1 q hp
  refine z_astore C 13 4 [(4, _), (0, _), (1, _), (2, _), (3, _)] dL_notice_13 (by decide) rfl ?_
  refine z_iconst (v := nI 1) C 15 dL_notice_15 (by decide) ?_
  exact ret 16 _ _ _ _ _ dL_notice_16 ⟨rfl, hp⟩
theorem ww_parse : mCw RL 123 yL_parse cL_parse 4 [(0, 9, 12, 13)] 3 := ⟨mlw_t 476 (by decide +kernel) rfl, mlw_t 477 (by decide +kernel) rfl, wi_L, mlw_t 478 (by decide +kernel) rfl, by decide +kernel⟩
def rw_parse : Room := { frames := rm_X8_parse.frames + 1, cells := rm_X8_parse.cells, slots := rm_X8_parse.slots, locals := 8 + (3 + 11) + rm_X8_parse.locals }
set_option maxHeartbeats 4000000 in
set_option maxRecDepth 100000 in
theorem w_parse_ok {l : Launch} {G : mG} {ad : mA} {S : mS} {L : mL} {R : mR} {a0 : Int32} {post : Int32 → mS → mL → mR → Prop} (hM : Ki l yX8_parse cX8_parse 3 .int rm_X8_parse G ad mdm [.ref (ad 0 0), .int a0] S L R post) : Kw l yL_parse cL_parse 4 [(0, 9, 12, 13)] rw_parse G ad mdm [.ref (ad 0 0), .int a0, .ref (ad 60 0)] S L R (fun r_ S2 L2 R2 => r_ = nI 0 ∧ ∃ r L1, post r S2 L1 R2 ∧ up3 L1 60 0 0 r.toInt64 = L2) := by
  refine Kw.of RL (by decide) rfl (Nat.le_of_ble_eq_true rfl) ?_
  intro X hXl hXG C htab ret
  subst hXl; subst hXG
  change Z X 4 ad mdm S L R 0 0 0 [(0, _), (1, _), (2, _)] []
  refine z_aload_n C 0 2 2 dL_parse_0 rfl rfl ?_
  refine z_iconst (v := nI 0) C 1 dL_parse_1 (by decide) ?_
  refine z_aload_n C 2 0 0 dL_parse_2 rfl rfl ?_
  refine z_iload_n C 3 1 1 dL_parse_3 rfl rfl ?_
  refine z_cVi0 C 4 dL_parse_4 cv_L_7 hM rfl ⟨by decide, rfl⟩ Nat.zero_lt_one rfl rfl (Nat.le_of_ble_eq_true rfl) ⟨Nat.le_refl _, Nat.le_refl _⟩ ⟨rfl, rfl⟩ ⟨by decide, by decide⟩ ?_
  intro r S1 L1 R1 hp
  refine z_i2l C 7 dL_parse_7 rfl ?_
  refine z_last C 8 dL_parse_8 rfl Nat.zero_lt_one rfl (by decide) (by decide) ?_
  refine z_goto C 9 15 dL_parse_9 (by decide) ?_
  refine z_iconst (v := nI 0) C 15 dL_parse_15 (by decide) ?_
  exact ret 16 _ _ _ _ _ dL_parse_16 ⟨rfl, r, L1, hp, rfl⟩
def rwt_parse : Room := { frames := rt_X8_parse.frames + 1, cells := rt_X8_parse.cells, slots := rt_X8_parse.slots, locals := 8 + (3 + 11) + rt_X8_parse.locals }
set_option maxHeartbeats 4000000 in
set_option maxRecDepth 100000 in
theorem w_parse_t1 {l : Launch} {G : mG} {ad : mA} {S : mS} {L : mL} {R : mR} {a0 : Int32} {post : mS → mL → mR → Prop} (hM : Kt l yX8_parse cX8_parse 3 (some .int) rt_X8_parse G ad mdm [.ref (ad 0 0), .int a0] S L R eIA post) : Kw l yL_parse cL_parse 4 [(0, 9, 12, 13)] rwt_parse G ad mdm [.ref (ad 0 0), .int a0, .ref (ad 60 0)] S L R (fun r_ S2 L2 R2 => r_ = nI 1 ∧ post S2 L2 R2) := by
  refine Kw.of RL (by decide) rfl (Nat.le_of_ble_eq_true rfl) ?_
  intro X hXl hXG C htab ret
  subst hXl; subst hXG
  change Z X 4 ad mdm S L R 0 0 0 [(0, _), (1, _), (2, _)] []
  refine z_aload_n C 0 2 2 dL_parse_0 rfl rfl ?_
  refine z_iconst (v := nI 0) C 1 dL_parse_1 (by decide) ?_
  refine z_aload_n C 2 0 0 dL_parse_2 rfl rfl ?_
  refine z_iload_n C 3 1 1 dL_parse_3 rfl rfl ?_
  refine z_tc C htab 4 [] ⟨0, 9, 12, 13⟩ [] dL_parse_4 cv_L_7 hM rfl ⟨by decide, rfl⟩ Nat.zero_lt_one rfl rfl (Nat.le_of_ble_eq_true rfl) ⟨Nat.le_refl _, Nat.le_refl _⟩ ⟨by decide, by decide⟩ rfl (fun z hz => nomatch hz) (by unfold cwE; decide) (by decide) (by decide) kl_L_13 ?_
  intro S1 L1 R1 q hp
  refine z_astore_n C 12 3 [(3, _), (0, _), (1, _), (2, _)] dL_parse_12 rfl (by decide) rfl ?_
  refine z_iconst (v := nI 1) C 13 dL_parse_13 (by decide) ?_
  exact ret 14 _ _ _ _ _ dL_parse_14 ⟨rfl, hp⟩
theorem ww_pass : mCw RL 203 yL_pass cL_pass 4 [(0, 9, 12, 13)] 3 := ⟨mlw_t 1016 (by decide +kernel) rfl, mlw_t 1017 (by decide +kernel) rfl, wi_L, mlw_t 1018 (by decide +kernel) rfl, by decide +kernel⟩
def rw_pass : Room := { frames := rm_X8_pass.frames + 1, cells := rm_X8_pass.cells, slots := rm_X8_pass.slots, locals := 8 + (4 + 11) + rm_X8_pass.locals }
set_option maxHeartbeats 4000000 in
set_option maxRecDepth 100000 in
theorem w_pass_ok {l : Launch} {G : mG} {ad : mA} {S : mS} {L : mL} {R : mR} {a0 : Int32} {post : Int32 → mS → mL → mR → Prop} (hM : Ki l yX8_pass cX8_pass 4 .int rm_X8_pass G ad mdm [.ref (ad 0 0), .int a0] S L R post) : Kw l yL_pass cL_pass 4 [(0, 9, 12, 13)] rw_pass G ad mdm [.ref (ad 0 0), .int a0, .ref (ad 60 0)] S L R (fun r_ S2 L2 R2 => r_ = nI 0 ∧ ∃ r L1, post r S2 L1 R2 ∧ up3 L1 60 0 0 r.toInt64 = L2) := by
  refine Kw.of RL (by decide) rfl (Nat.le_of_ble_eq_true rfl) ?_
  intro X hXl hXG C htab ret
  subst hXl; subst hXG
  change Z X 4 ad mdm S L R 0 0 0 [(0, _), (1, _), (2, _)] []
  refine z_aload_n C 0 2 2 dL_pass_0 rfl rfl ?_
  refine z_iconst (v := nI 0) C 1 dL_pass_1 (by decide) ?_
  refine z_aload_n C 2 0 0 dL_pass_2 rfl rfl ?_
  refine z_iload_n C 3 1 1 dL_pass_3 rfl rfl ?_
  refine z_cVi0 C 4 dL_pass_4 cv_L_78 hM rfl ⟨by decide, rfl⟩ Nat.zero_lt_one rfl rfl (Nat.le_of_ble_eq_true rfl) ⟨Nat.le_refl _, Nat.le_refl _⟩ ⟨rfl, rfl⟩ ⟨by decide, by decide⟩ ?_
  intro r S1 L1 R1 hp
  refine z_i2l C 7 dL_pass_7 rfl ?_
  refine z_last C 8 dL_pass_8 rfl Nat.zero_lt_one rfl (by decide) (by decide) ?_
  refine z_goto C 9 15 dL_pass_9 (by decide) ?_
  refine z_iconst (v := nI 0) C 15 dL_pass_15 (by decide) ?_
  exact ret 16 _ _ _ _ _ dL_pass_16 ⟨rfl, r, L1, hp, rfl⟩
def rwt_pass : Room := { frames := rt_X8_pass.frames + 1, cells := rt_X8_pass.cells, slots := rt_X8_pass.slots, locals := 8 + (4 + 11) + rt_X8_pass.locals }
set_option maxHeartbeats 4000000 in
set_option maxRecDepth 100000 in
theorem w_pass_t1 {l : Launch} {G : mG} {ad : mA} {S : mS} {L : mL} {R : mR} {a0 : Int32} {post : mS → mL → mR → Prop} (hM : Kt l yX8_pass cX8_pass 4 (some .int) rt_X8_pass G ad mdm [.ref (ad 0 0), .int a0] S L R eIA post) : Kw l yL_pass cL_pass 4 [(0, 9, 12, 13)] rwt_pass G ad mdm [.ref (ad 0 0), .int a0, .ref (ad 60 0)] S L R (fun r_ S2 L2 R2 => r_ = nI 1 ∧ post S2 L2 R2) := by
  refine Kw.of RL (by decide) rfl (Nat.le_of_ble_eq_true rfl) ?_
  intro X hXl hXG C htab ret
  subst hXl; subst hXG
  change Z X 4 ad mdm S L R 0 0 0 [(0, _), (1, _), (2, _)] []
  refine z_aload_n C 0 2 2 dL_pass_0 rfl rfl ?_
  refine z_iconst (v := nI 0) C 1 dL_pass_1 (by decide) ?_
  refine z_aload_n C 2 0 0 dL_pass_2 rfl rfl ?_
  refine z_iload_n C 3 1 1 dL_pass_3 rfl rfl ?_
  refine z_tc C htab 4 [] ⟨0, 9, 12, 13⟩ [] dL_pass_4 cv_L_78 hM rfl ⟨by decide, rfl⟩ Nat.zero_lt_one rfl rfl (Nat.le_of_ble_eq_true rfl) ⟨Nat.le_refl _, Nat.le_refl _⟩ ⟨by decide, by decide⟩ rfl (fun z hz => nomatch hz) (by unfold cwE; decide) (by decide) (by decide) kl_L_13 ?_
  intro S1 L1 R1 q hp
  refine z_astore_n C 12 3 [(3, _), (0, _), (1, _), (2, _)] dL_pass_12 rfl (by decide) rfl ?_
  refine z_iconst (v := nI 1) C 13 dL_pass_13 (by decide) ?_
  exact ret 14 _ _ _ _ _ dL_pass_14 ⟨rfl, hp⟩
theorem ww_picture : mCw RL 150 yL_picture cL_picture 4 [(0, 9, 12, 22)] 3 := ⟨mlw_t 735 (by decide +kernel) rfl, mlw_t 736 (by decide +kernel) rfl, wi_L, mlw_t 737 (by decide +kernel) rfl, by decide +kernel⟩
def rw_picture : Room := { frames := rm_X8_picture.frames + 1, cells := rm_X8_picture.cells, slots := rm_X8_picture.slots, locals := 8 + (2 + 11) + rm_X8_picture.locals }
set_option maxHeartbeats 4000000 in
set_option maxRecDepth 100000 in
theorem w_picture_ok {l : Launch} {G : mG} {ad : mA} {S : mS} {L : mL} {R : mR} {a0 : Int32} {post : Int32 → mS → mL → mR → Prop} (hM : Ki l yX8_picture cX8_picture 2 .int rm_X8_picture G ad mdm [.ref (ad 0 0), .int a0] S L R post) : Kw l yL_picture cL_picture 4 [(0, 9, 12, 22)] rw_picture G ad mdm [.ref (ad 0 0), .int a0, .ref (ad 60 0)] S L R (fun r_ S2 L2 R2 => r_ = nI 0 ∧ ∃ r L1, post r S2 L1 R2 ∧ up3 L1 60 0 0 r.toInt64 = L2) := by
  refine Kw.of RL (by decide) rfl (Nat.le_of_ble_eq_true rfl) ?_
  intro X hXl hXG C htab ret
  subst hXl; subst hXG
  change Z X 4 ad mdm S L R 0 0 0 [(0, _), (1, _), (2, _)] []
  refine z_aload_n C 0 2 2 dL_picture_0 rfl rfl ?_
  refine z_iconst (v := nI 0) C 1 dL_picture_1 (by decide) ?_
  refine z_aload_n C 2 0 0 dL_picture_2 rfl rfl ?_
  refine z_iload_n C 3 1 1 dL_picture_3 rfl rfl ?_
  refine z_cVi0 C 4 dL_picture_4 cv_L_27 hM rfl ⟨by decide, rfl⟩ Nat.zero_lt_one rfl rfl (Nat.le_of_ble_eq_true rfl) ⟨Nat.le_refl _, Nat.le_refl _⟩ ⟨rfl, rfl⟩ ⟨by decide, by decide⟩ ?_
  intro r S1 L1 R1 hp
  refine z_i2l C 7 dL_picture_7 rfl ?_
  refine z_last C 8 dL_picture_8 rfl Nat.zero_lt_one rfl (by decide) (by decide) ?_
  refine z_goto C 9 15 dL_picture_9 (by decide) ?_
  refine z_iconst (v := nI 0) C 15 dL_picture_15 (by decide) ?_
  exact ret 16 _ _ _ _ _ dL_picture_16 ⟨rfl, r, L1, hp, rfl⟩
def rwt_picture : Room := { frames := rt_X8_picture.frames + 1, cells := rt_X8_picture.cells, slots := rt_X8_picture.slots, locals := 8 + (2 + 11) + rt_X8_picture.locals }
set_option maxHeartbeats 4000000 in
set_option maxRecDepth 100000 in
theorem w_picture_t1 {l : Launch} {G : mG} {ad : mA} {S : mS} {L : mL} {R : mR} {a0 : Int32} {post : mS → mL → mR → Prop} (hM : Kt l yX8_picture cX8_picture 2 (some .int) rt_X8_picture G ad mdm [.ref (ad 0 0), .int a0] S L R eIO post) : Kw l yL_picture cL_picture 4 [(0, 9, 12, 22)] rwt_picture G ad mdm [.ref (ad 0 0), .int a0, .ref (ad 60 0)] S L R (fun r_ S2 L2 R2 => r_ = nI 1 ∧ post S2 L2 R2) := by
  refine Kw.of RL (by decide) rfl (Nat.le_of_ble_eq_true rfl) ?_
  intro X hXl hXG C htab ret
  subst hXl; subst hXG
  change Z X 4 ad mdm S L R 0 0 0 [(0, _), (1, _), (2, _)] []
  refine z_aload_n C 0 2 2 dL_picture_0 rfl rfl ?_
  refine z_iconst (v := nI 0) C 1 dL_picture_1 (by decide) ?_
  refine z_aload_n C 2 0 0 dL_picture_2 rfl rfl ?_
  refine z_iload_n C 3 1 1 dL_picture_3 rfl rfl ?_
  refine z_tc C htab 4 [] ⟨0, 9, 12, 22⟩ [] dL_picture_4 cv_L_27 hM rfl ⟨by decide, rfl⟩ Nat.zero_lt_one rfl rfl (Nat.le_of_ble_eq_true rfl) ⟨Nat.le_refl _, Nat.le_refl _⟩ ⟨by decide, by decide⟩ rfl (fun z hz => nomatch hz) (by unfold cwE; decide) (by decide) (by decide) kl_L_22 ?_
  intro S1 L1 R1 q hp
  refine z_astore_n C 12 3 [(3, _), (0, _), (1, _), (2, _)] dL_picture_12 rfl (by decide) rfl ?_
  refine z_iconst (v := nI 1) C 13 dL_picture_13 (by decide) ?_
  exact ret 14 _ _ _ _ _ dL_picture_14 ⟨rfl, hp⟩
theorem ww_pin : mCw RL 216 yL_pin cL_pin 5 [(0, 17, 20, 22)] 4 := ⟨mlw_t 1081 (by decide +kernel) rfl, mlw_t 1082 (by decide +kernel) rfl, wi_L, mlw_t 1083 (by decide +kernel) rfl, by decide +kernel⟩
def rw_pin : Room := { frames := rm_X8_pin.frames + 1, cells := rm_X8_pin.cells, slots := rm_X8_pin.slots, locals := 8 + (4 + 11) + rm_X8_pin.locals }
set_option maxHeartbeats 4000000 in
set_option maxRecDepth 100000 in
theorem w_pin_ok {l : Launch} {G : mG} {ad : mA} {S : mS} {L : mL} {R : mR} {a0 a1 : Int32} {post : Int32 → mS → mL → mR → Prop} (hM : Ki l yX8_pin cX8_pin 4 .boolean rm_X8_pin G ad mdm [.ref (ad 0 0), .int a0, .int a1] S L R post) : Kw l yL_pin cL_pin 5 [(0, 17, 20, 22)] rw_pin G ad mdm [.ref (ad 0 0), .int a0, .int a1, .ref (ad 60 0)] S L R (fun r_ S2 L2 R2 => r_ = nI 0 ∧ ∃ r L1, post r S2 L1 R2 ∧ up3 L1 60 0 0 (if r = 0 then 0 else 1) = L2) := by
  refine Kw.of RL (by decide) rfl (Nat.le_of_ble_eq_true rfl) ?_
  intro X hXl hXG C htab ret
  subst hXl; subst hXG
  change Z X 5 ad mdm S L R 0 0 0 [(0, _), (1, _), (2, _), (3, _)] []
  refine z_aload_n C 0 3 3 dL_pin_0 rfl rfl ?_
  refine z_iconst (v := nI 0) C 1 dL_pin_1 (by decide) ?_
  refine z_aload_n C 2 0 0 dL_pin_2 rfl rfl ?_
  refine z_iload_n C 3 1 1 dL_pin_3 rfl rfl ?_
  refine z_iload_n C 4 2 2 dL_pin_4 rfl rfl ?_
  refine z_cVi0 C 5 dL_pin_5 cv_L_91 hM rfl ⟨by decide, rfl⟩ Nat.zero_lt_one rfl rfl (Nat.le_of_ble_eq_true rfl) ⟨Nat.le_refl _, Nat.le_refl _⟩ ⟨rfl, rfl⟩ ⟨by decide, by decide⟩ ?_
  intro r S1 L1 R1 hp
  refine z_if_eq C 8 15 dL_pin_8 (by decide) (fun h8 => ?_) (fun h8 => ?_)
  · refine z_lconst (v := 0) C 15 dL_pin_15 (by decide) ?_
    refine z_last C 16 dL_pin_16 rfl Nat.zero_lt_one rfl (by decide) (by decide) ?_
    refine z_goto C 17 24 dL_pin_17 (by decide) ?_
    refine z_iconst (v := nI 0) C 24 dL_pin_24 (by decide) ?_
    exact ret 25 _ _ _ _ _ dL_pin_25 ⟨rfl, r, L1, hp, by rw [if_pos h8]⟩
  · refine z_lconst (v := 1) C 11 dL_pin_11 (by decide) ?_
    refine z_goto C 12 16 dL_pin_12 (by decide) ?_
    refine z_last C 16 dL_pin_16 rfl Nat.zero_lt_one rfl (by decide) (by decide) ?_
    refine z_goto C 17 24 dL_pin_17 (by decide) ?_
    refine z_iconst (v := nI 0) C 24 dL_pin_24 (by decide) ?_
    exact ret 25 _ _ _ _ _ dL_pin_25 ⟨rfl, r, L1, hp, by rw [if_neg h8]⟩
def rwt_pin : Room := { frames := rt_X8_pin.frames + 1, cells := rt_X8_pin.cells, slots := rt_X8_pin.slots, locals := 8 + (4 + 11) + rt_X8_pin.locals }
set_option maxHeartbeats 4000000 in
set_option maxRecDepth 100000 in
theorem w_pin_t1 {l : Launch} {G : mG} {ad : mA} {S : mS} {L : mL} {R : mR} {a0 a1 : Int32} {post : mS → mL → mR → Prop} (hM : Kt l yX8_pin cX8_pin 4 (some .boolean) rt_X8_pin G ad mdm [.ref (ad 0 0), .int a0, .int a1] S L R eIO post) : Kw l yL_pin cL_pin 5 [(0, 17, 20, 22)] rwt_pin G ad mdm [.ref (ad 0 0), .int a0, .int a1, .ref (ad 60 0)] S L R (fun r_ S2 L2 R2 => r_ = nI 1 ∧ post S2 L2 R2) := by
  refine Kw.of RL (by decide) rfl (Nat.le_of_ble_eq_true rfl) ?_
  intro X hXl hXG C htab ret
  subst hXl; subst hXG
  change Z X 5 ad mdm S L R 0 0 0 [(0, _), (1, _), (2, _), (3, _)] []
  refine z_aload_n C 0 3 3 dL_pin_0 rfl rfl ?_
  refine z_iconst (v := nI 0) C 1 dL_pin_1 (by decide) ?_
  refine z_aload_n C 2 0 0 dL_pin_2 rfl rfl ?_
  refine z_iload_n C 3 1 1 dL_pin_3 rfl rfl ?_
  refine z_iload_n C 4 2 2 dL_pin_4 rfl rfl ?_
  refine z_tc C htab 5 [] ⟨0, 17, 20, 22⟩ [] dL_pin_5 cv_L_91 hM rfl ⟨by decide, rfl⟩ Nat.zero_lt_one rfl rfl (Nat.le_of_ble_eq_true rfl) ⟨Nat.le_refl _, Nat.le_refl _⟩ ⟨by decide, by decide⟩ rfl (fun z hz => nomatch hz) (by unfold cwE; decide) (by decide) (by decide) kl_L_22 ?_
  intro S1 L1 R1 q hp
  refine z_astore C 20 4 [(4, _), (0, _), (1, _), (2, _), (3, _)] dL_pin_20 (by decide) rfl ?_
  refine z_iconst (v := nI 1) C 22 dL_pin_22 (by decide) ?_
  exact ret 23 _ _ _ _ _ dL_pin_23 ⟨rfl, hp⟩
theorem ww_program : mCw RL 143 yL_program cL_program 5 [(0, 10, 13, 22), (0, 10, 17, 13)] 4 := ⟨mlw_t 693 (by decide +kernel) rfl, mlw_t 694 (by decide +kernel) rfl, wi_L, mlw_t 695 (by decide +kernel) rfl, by decide +kernel⟩
def rw_program : Room := { frames := rm_X8_program.frames + 1, cells := rm_X8_program.cells, slots := rm_X8_program.slots, locals := 8 + (3 + 11) + rm_X8_program.locals }
set_option maxHeartbeats 4000000 in
set_option maxRecDepth 100000 in
theorem w_program_ok {l : Launch} {G : mG} {ad : mA} {S : mS} {L : mL} {R : mR} {a0 a1 : Int32} {post : Int32 → mS → mL → mR → Prop} (hM : Ki l yX8_program cX8_program 3 .int rm_X8_program G ad mdm [.ref (ad 0 0), .int a0, .int a1] S L R post) : Kw l yL_program cL_program 5 [(0, 10, 13, 22), (0, 10, 17, 13)] rw_program G ad mdm [.ref (ad 0 0), .int a0, .int a1, .ref (ad 60 0)] S L R (fun r_ S2 L2 R2 => r_ = nI 0 ∧ ∃ r L1, post r S2 L1 R2 ∧ up3 L1 60 0 0 r.toInt64 = L2) := by
  refine Kw.of RL (by decide) rfl (Nat.le_of_ble_eq_true rfl) ?_
  intro X hXl hXG C htab ret
  subst hXl; subst hXG
  change Z X 5 ad mdm S L R 0 0 0 [(0, _), (1, _), (2, _), (3, _)] []
  refine z_aload_n C 0 3 3 dL_program_0 rfl rfl ?_
  refine z_iconst (v := nI 0) C 1 dL_program_1 (by decide) ?_
  refine z_aload_n C 2 0 0 dL_program_2 rfl rfl ?_
  refine z_iload_n C 3 1 1 dL_program_3 rfl rfl ?_
  refine z_iload_n C 4 2 2 dL_program_4 rfl rfl ?_
  refine z_cVi0 C 5 dL_program_5 cv_L_18 hM rfl ⟨by decide, rfl⟩ Nat.zero_lt_one rfl rfl (Nat.le_of_ble_eq_true rfl) ⟨Nat.le_refl _, Nat.le_refl _⟩ ⟨rfl, rfl⟩ ⟨by decide, by decide⟩ ?_
  intro r S1 L1 R1 hp
  refine z_i2l C 8 dL_program_8 rfl ?_
  refine z_last C 9 dL_program_9 rfl Nat.zero_lt_one rfl (by decide) (by decide) ?_
  refine z_goto C 10 21 dL_program_10 (by decide) ?_
  refine z_iconst (v := nI 0) C 21 dL_program_21 (by decide) ?_
  exact ret 22 _ _ _ _ _ dL_program_22 ⟨rfl, r, L1, hp, rfl⟩
def rwt_program : Room := { frames := rt_X8_program.frames + 1, cells := rt_X8_program.cells, slots := rt_X8_program.slots, locals := 8 + (3 + 11) + rt_X8_program.locals }
set_option maxHeartbeats 4000000 in
set_option maxRecDepth 100000 in
theorem w_program_t1 {l : Launch} {G : mG} {ad : mA} {S : mS} {L : mL} {R : mR} {a0 a1 : Int32} {post : mS → mL → mR → Prop} (hM : Kt l yX8_program cX8_program 3 (some .int) rt_X8_program G ad mdm [.ref (ad 0 0), .int a0, .int a1] S L R eIO post) : Kw l yL_program cL_program 5 [(0, 10, 13, 22), (0, 10, 17, 13)] rwt_program G ad mdm [.ref (ad 0 0), .int a0, .int a1, .ref (ad 60 0)] S L R (fun r_ S2 L2 R2 => r_ = nI 1 ∧ post S2 L2 R2) := by
  refine Kw.of RL (by decide) rfl (Nat.le_of_ble_eq_true rfl) ?_
  intro X hXl hXG C htab ret
  subst hXl; subst hXG
  change Z X 5 ad mdm S L R 0 0 0 [(0, _), (1, _), (2, _), (3, _)] []
  refine z_aload_n C 0 3 3 dL_program_0 rfl rfl ?_
  refine z_iconst (v := nI 0) C 1 dL_program_1 (by decide) ?_
  refine z_aload_n C 2 0 0 dL_program_2 rfl rfl ?_
  refine z_iload_n C 3 1 1 dL_program_3 rfl rfl ?_
  refine z_iload_n C 4 2 2 dL_program_4 rfl rfl ?_
  refine z_tc C htab 5 [] ⟨0, 10, 13, 22⟩ [⟨0, 10, 17, 13⟩] dL_program_5 cv_L_18 hM rfl ⟨by decide, rfl⟩ Nat.zero_lt_one rfl rfl (Nat.le_of_ble_eq_true rfl) ⟨Nat.le_refl _, Nat.le_refl _⟩ ⟨by decide, by decide⟩ rfl (fun z hz => nomatch hz) (by unfold cwE; decide) (by decide) (by decide) kl_L_22 ?_
  intro S1 L1 R1 q hp
  refine z_astore C 13 4 [(4, _), (0, _), (1, _), (2, _), (3, _)] dL_program_13 (by decide) rfl ?_
  refine z_iconst (v := nI 1) C 15 dL_program_15 (by decide) ?_
  exact ret 16 _ _ _ _ _ dL_program_16 ⟨rfl, hp⟩
set_option maxHeartbeats 4000000 in
set_option maxRecDepth 100000 in
theorem w_program_t2 {l : Launch} {G : mG} {ad : mA} {S : mS} {L : mL} {R : mR} {a0 a1 : Int32} {post : mS → mL → mR → Prop} (hM : Kt l yX8_program cX8_program 3 (some .int) rt_X8_program G ad mdm [.ref (ad 0 0), .int a0, .int a1] S L R eIA post) : Kw l yL_program cL_program 5 [(0, 10, 13, 22), (0, 10, 17, 13)] rwt_program G ad mdm [.ref (ad 0 0), .int a0, .int a1, .ref (ad 60 0)] S L R (fun r_ S2 L2 R2 => r_ = nI 2 ∧ post S2 L2 R2) := by
  refine Kw.of RL (by decide) rfl (Nat.le_of_ble_eq_true rfl) ?_
  intro X hXl hXG C htab ret
  subst hXl; subst hXG
  change Z X 5 ad mdm S L R 0 0 0 [(0, _), (1, _), (2, _), (3, _)] []
  refine z_aload_n C 0 3 3 dL_program_0 rfl rfl ?_
  refine z_iconst (v := nI 0) C 1 dL_program_1 (by decide) ?_
  refine z_aload_n C 2 0 0 dL_program_2 rfl rfl ?_
  refine z_iload_n C 3 1 1 dL_program_3 rfl rfl ?_
  refine z_iload_n C 4 2 2 dL_program_4 rfl rfl ?_
  refine z_tc C htab 5 [⟨0, 10, 13, 22⟩] ⟨0, 10, 17, 13⟩ [] dL_program_5 cv_L_18 hM rfl ⟨by decide, rfl⟩ Nat.zero_lt_one rfl rfl (Nat.le_of_ble_eq_true rfl) ⟨Nat.le_refl _, Nat.le_refl _⟩ ⟨by decide, by decide⟩ rfl (fun z hz => by rw [List.mem_singleton.mp hz]; exact ⟨by decide, eIO, kl_L_22, by unfold cwE; decide, by decide⟩) (by unfold cwE; decide) (by decide) (by decide) kl_L_13 ?_
  intro S1 L1 R1 q hp
  refine z_astore C 17 4 [(4, _), (0, _), (1, _), (2, _), (3, _)] dL_program_17 (by decide) rfl ?_
  refine z_iconst (v := nI 2) C 19 dL_program_19 (by decide) ?_
  exact ret 20 _ _ _ _ _ dL_program_20 ⟨rfl, hp⟩
theorem ww_promise : mCw RL 159 yL_promise cL_promise 4 [(0, 9, 12, 22)] 3 := ⟨mlw_t 764 (by decide +kernel) rfl, mlw_t 765 (by decide +kernel) rfl, wi_L, mlw_t 766 (by decide +kernel) rfl, by decide +kernel⟩
def rw_promise : Room := { frames := rm_X8_promise.frames + 1, cells := rm_X8_promise.cells, slots := rm_X8_promise.slots, locals := 8 + (2 + 11) + rm_X8_promise.locals }
set_option maxHeartbeats 4000000 in
set_option maxRecDepth 100000 in
theorem w_promise_ok {l : Launch} {G : mG} {ad : mA} {S : mS} {L : mL} {R : mR} {a0 : Int32} {post : Int32 → mS → mL → mR → Prop} (hM : Ki l yX8_promise cX8_promise 2 .int rm_X8_promise G ad mdm [.ref (ad 0 0), .int a0] S L R post) : Kw l yL_promise cL_promise 4 [(0, 9, 12, 22)] rw_promise G ad mdm [.ref (ad 0 0), .int a0, .ref (ad 60 0)] S L R (fun r_ S2 L2 R2 => r_ = nI 0 ∧ ∃ r L1, post r S2 L1 R2 ∧ up3 L1 60 0 0 r.toInt64 = L2) := by
  refine Kw.of RL (by decide) rfl (Nat.le_of_ble_eq_true rfl) ?_
  intro X hXl hXG C htab ret
  subst hXl; subst hXG
  change Z X 4 ad mdm S L R 0 0 0 [(0, _), (1, _), (2, _)] []
  refine z_aload_n C 0 2 2 dL_promise_0 rfl rfl ?_
  refine z_iconst (v := nI 0) C 1 dL_promise_1 (by decide) ?_
  refine z_aload_n C 2 0 0 dL_promise_2 rfl rfl ?_
  refine z_iload_n C 3 1 1 dL_promise_3 rfl rfl ?_
  refine z_cVi0 C 4 dL_promise_4 cv_L_36 hM rfl ⟨by decide, rfl⟩ Nat.zero_lt_one rfl rfl (Nat.le_of_ble_eq_true rfl) ⟨Nat.le_refl _, Nat.le_refl _⟩ ⟨rfl, rfl⟩ ⟨by decide, by decide⟩ ?_
  intro r S1 L1 R1 hp
  refine z_i2l C 7 dL_promise_7 rfl ?_
  refine z_last C 8 dL_promise_8 rfl Nat.zero_lt_one rfl (by decide) (by decide) ?_
  refine z_goto C 9 15 dL_promise_9 (by decide) ?_
  refine z_iconst (v := nI 0) C 15 dL_promise_15 (by decide) ?_
  exact ret 16 _ _ _ _ _ dL_promise_16 ⟨rfl, r, L1, hp, rfl⟩
def rwt_promise : Room := { frames := rt_X8_promise.frames + 1, cells := rt_X8_promise.cells, slots := rt_X8_promise.slots, locals := 8 + (2 + 11) + rt_X8_promise.locals }
set_option maxHeartbeats 4000000 in
set_option maxRecDepth 100000 in
theorem w_promise_t1 {l : Launch} {G : mG} {ad : mA} {S : mS} {L : mL} {R : mR} {a0 : Int32} {post : mS → mL → mR → Prop} (hM : Kt l yX8_promise cX8_promise 2 (some .int) rt_X8_promise G ad mdm [.ref (ad 0 0), .int a0] S L R eIO post) : Kw l yL_promise cL_promise 4 [(0, 9, 12, 22)] rwt_promise G ad mdm [.ref (ad 0 0), .int a0, .ref (ad 60 0)] S L R (fun r_ S2 L2 R2 => r_ = nI 1 ∧ post S2 L2 R2) := by
  refine Kw.of RL (by decide) rfl (Nat.le_of_ble_eq_true rfl) ?_
  intro X hXl hXG C htab ret
  subst hXl; subst hXG
  change Z X 4 ad mdm S L R 0 0 0 [(0, _), (1, _), (2, _)] []
  refine z_aload_n C 0 2 2 dL_promise_0 rfl rfl ?_
  refine z_iconst (v := nI 0) C 1 dL_promise_1 (by decide) ?_
  refine z_aload_n C 2 0 0 dL_promise_2 rfl rfl ?_
  refine z_iload_n C 3 1 1 dL_promise_3 rfl rfl ?_
  refine z_tc C htab 4 [] ⟨0, 9, 12, 22⟩ [] dL_promise_4 cv_L_36 hM rfl ⟨by decide, rfl⟩ Nat.zero_lt_one rfl rfl (Nat.le_of_ble_eq_true rfl) ⟨Nat.le_refl _, Nat.le_refl _⟩ ⟨by decide, by decide⟩ rfl (fun z hz => nomatch hz) (by unfold cwE; decide) (by decide) (by decide) kl_L_22 ?_
  intro S1 L1 R1 q hp
  refine z_astore_n C 12 3 [(3, _), (0, _), (1, _), (2, _)] dL_promise_12 rfl (by decide) rfl ?_
  refine z_iconst (v := nI 1) C 13 dL_promise_13 (by decide) ?_
  exact ret 14 _ _ _ _ _ dL_promise_14 ⟨rfl, hp⟩
theorem ww_read : mCw RL 212 yL_read cL_read 3 [(0, 8, 11, 76)] 2 := ⟨mlw_t 1069 (by decide +kernel) rfl, mlw_t 1070 (by decide +kernel) rfl, wi_L, mlw_t 1071 (by decide +kernel) rfl, by decide +kernel⟩
def rw_read : Room := { frames := rm_X8_read.frames + 1, cells := rm_X8_read.cells, slots := rm_X8_read.slots, locals := 8 + (2 + 11) + rm_X8_read.locals }
set_option maxHeartbeats 4000000 in
set_option maxRecDepth 100000 in
theorem w_read_ok {l : Launch} {G : mG} {ad : mA} {S : mS} {L : mL} {R : mR} {post : Int32 → mS → mL → mR → Prop} (hM : Ki l yX8_read cX8_read 2 .int rm_X8_read G ad mdm [.ref (ad 0 0)] S L R post) : Kw l yL_read cL_read 3 [(0, 8, 11, 76)] rw_read G ad mdm [.ref (ad 0 0), .ref (ad 60 0)] S L R (fun r_ S2 L2 R2 => r_ = nI 0 ∧ ∃ r L1, post r S2 L1 R2 ∧ up3 L1 60 0 0 r.toInt64 = L2) := by
  refine Kw.of RL (by decide) rfl (Nat.le_of_ble_eq_true rfl) ?_
  intro X hXl hXG C htab ret
  subst hXl; subst hXG
  change Z X 3 ad mdm S L R 0 0 0 [(0, _), (1, _)] []
  refine z_aload_n C 0 1 1 dL_read_0 rfl rfl ?_
  refine z_iconst (v := nI 0) C 1 dL_read_1 (by decide) ?_
  refine z_aload_n C 2 0 0 dL_read_2 rfl rfl ?_
  refine z_cVi0 C 3 dL_read_3 cv_L_87 hM rfl ⟨by decide, rfl⟩ Nat.zero_lt_one rfl rfl (Nat.le_of_ble_eq_true rfl) ⟨Nat.le_refl _, Nat.le_refl _⟩ ⟨rfl, rfl⟩ ⟨by decide, by decide⟩ ?_
  intro r S1 L1 R1 hp
  refine z_i2l C 6 dL_read_6 rfl ?_
  refine z_last C 7 dL_read_7 rfl Nat.zero_lt_one rfl (by decide) (by decide) ?_
  refine z_goto C 8 14 dL_read_8 (by decide) ?_
  refine z_iconst (v := nI 0) C 14 dL_read_14 (by decide) ?_
  exact ret 15 _ _ _ _ _ dL_read_15 ⟨rfl, r, L1, hp, rfl⟩
def rwt_read : Room := { frames := rt_X8_read.frames + 1, cells := rt_X8_read.cells, slots := rt_X8_read.slots, locals := 8 + (2 + 11) + rt_X8_read.locals }
set_option maxHeartbeats 4000000 in
set_option maxRecDepth 100000 in
theorem w_read_t1 {l : Launch} {G : mG} {ad : mA} {S : mS} {L : mL} {R : mR} {post : mS → mL → mR → Prop} (hM : Kt l yX8_read cX8_read 2 (some .int) rt_X8_read G ad mdm [.ref (ad 0 0)] S L R eIS post) : Kw l yL_read cL_read 3 [(0, 8, 11, 76)] rwt_read G ad mdm [.ref (ad 0 0), .ref (ad 60 0)] S L R (fun r_ S2 L2 R2 => r_ = nI 1 ∧ post S2 L2 R2) := by
  refine Kw.of RL (by decide) rfl (Nat.le_of_ble_eq_true rfl) ?_
  intro X hXl hXG C htab ret
  subst hXl; subst hXG
  change Z X 3 ad mdm S L R 0 0 0 [(0, _), (1, _)] []
  refine z_aload_n C 0 1 1 dL_read_0 rfl rfl ?_
  refine z_iconst (v := nI 0) C 1 dL_read_1 (by decide) ?_
  refine z_aload_n C 2 0 0 dL_read_2 rfl rfl ?_
  refine z_tc C htab 3 [] ⟨0, 8, 11, 76⟩ [] dL_read_3 cv_L_87 hM rfl ⟨by decide, rfl⟩ Nat.zero_lt_one rfl rfl (Nat.le_of_ble_eq_true rfl) ⟨Nat.le_refl _, Nat.le_refl _⟩ ⟨by decide, by decide⟩ rfl (fun z hz => nomatch hz) (by unfold cwE; decide) (by decide) (by decide) kl_L_76 ?_
  intro S1 L1 R1 q hp
  refine z_astore_n C 11 2 [(2, _), (0, _), (1, _)] dL_read_11 rfl (by decide) rfl ?_
  refine z_iconst (v := nI 1) C 12 dL_read_12 (by decide) ?_
  exact ret 13 _ _ _ _ _ dL_read_13 ⟨rfl, hp⟩
theorem ww_restoreSnapshot : mCw RL 239 yL_restoreSnapshot cL_restoreSnapshot 4 [(0, 9, 12, 22), (0, 9, 15, 76)] 3 := ⟨mlw_t 1141 (by decide +kernel) rfl, mlw_t 1142 (by decide +kernel) rfl, wi_L, mlw_t 1143 (by decide +kernel) rfl, by decide +kernel⟩
def rw_restoreSnapshot : Room := { frames := rm_X8_restoreSnapshot.frames + 1, cells := rm_X8_restoreSnapshot.cells, slots := rm_X8_restoreSnapshot.slots, locals := 8 + (2 + 11) + rm_X8_restoreSnapshot.locals }
set_option maxHeartbeats 4000000 in
set_option maxRecDepth 100000 in
theorem w_restoreSnapshot_ok {l : Launch} {G : mG} {ad : mA} {S : mS} {L : mL} {R : mR} {a0 : Int32} {post : Int32 → mS → mL → mR → Prop} (hM : Ki l yX8_restoreSnapshot cX8_restoreSnapshot 2 .int rm_X8_restoreSnapshot G ad mdm [.ref (ad 0 0), .int a0] S L R post) : Kw l yL_restoreSnapshot cL_restoreSnapshot 4 [(0, 9, 12, 22), (0, 9, 15, 76)] rw_restoreSnapshot G ad mdm [.ref (ad 0 0), .int a0, .ref (ad 60 0)] S L R (fun r_ S2 L2 R2 => r_ = nI 0 ∧ ∃ r L1, post r S2 L1 R2 ∧ up3 L1 60 0 0 r.toInt64 = L2) := by
  refine Kw.of RL (by decide) rfl (Nat.le_of_ble_eq_true rfl) ?_
  intro X hXl hXG C htab ret
  subst hXl; subst hXG
  change Z X 4 ad mdm S L R 0 0 0 [(0, _), (1, _), (2, _)] []
  refine z_aload_n C 0 2 2 dL_restoreSnapshot_0 rfl rfl ?_
  refine z_iconst (v := nI 0) C 1 dL_restoreSnapshot_1 (by decide) ?_
  refine z_aload_n C 2 0 0 dL_restoreSnapshot_2 rfl rfl ?_
  refine z_iload_n C 3 1 1 dL_restoreSnapshot_3 rfl rfl ?_
  refine z_cVi0 C 4 dL_restoreSnapshot_4 cv_L_111 hM rfl ⟨by decide, rfl⟩ Nat.zero_lt_one rfl rfl (Nat.le_of_ble_eq_true rfl) ⟨Nat.le_refl _, Nat.le_refl _⟩ ⟨rfl, rfl⟩ ⟨by decide, by decide⟩ ?_
  intro r S1 L1 R1 hp
  refine z_i2l C 7 dL_restoreSnapshot_7 rfl ?_
  refine z_last C 8 dL_restoreSnapshot_8 rfl Nat.zero_lt_one rfl (by decide) (by decide) ?_
  refine z_goto C 9 18 dL_restoreSnapshot_9 (by decide) ?_
  refine z_iconst (v := nI 0) C 18 dL_restoreSnapshot_18 (by decide) ?_
  exact ret 19 _ _ _ _ _ dL_restoreSnapshot_19 ⟨rfl, r, L1, hp, rfl⟩
def rwt_restoreSnapshot : Room := { frames := rt_X8_restoreSnapshot.frames + 1, cells := rt_X8_restoreSnapshot.cells, slots := rt_X8_restoreSnapshot.slots, locals := 8 + (2 + 11) + rt_X8_restoreSnapshot.locals }
set_option maxHeartbeats 4000000 in
set_option maxRecDepth 100000 in
theorem w_restoreSnapshot_t1 {l : Launch} {G : mG} {ad : mA} {S : mS} {L : mL} {R : mR} {a0 : Int32} {post : mS → mL → mR → Prop} (hM : Kt l yX8_restoreSnapshot cX8_restoreSnapshot 2 (some .int) rt_X8_restoreSnapshot G ad mdm [.ref (ad 0 0), .int a0] S L R eIO post) : Kw l yL_restoreSnapshot cL_restoreSnapshot 4 [(0, 9, 12, 22), (0, 9, 15, 76)] rwt_restoreSnapshot G ad mdm [.ref (ad 0 0), .int a0, .ref (ad 60 0)] S L R (fun r_ S2 L2 R2 => r_ = nI 1 ∧ post S2 L2 R2) := by
  refine Kw.of RL (by decide) rfl (Nat.le_of_ble_eq_true rfl) ?_
  intro X hXl hXG C htab ret
  subst hXl; subst hXG
  change Z X 4 ad mdm S L R 0 0 0 [(0, _), (1, _), (2, _)] []
  refine z_aload_n C 0 2 2 dL_restoreSnapshot_0 rfl rfl ?_
  refine z_iconst (v := nI 0) C 1 dL_restoreSnapshot_1 (by decide) ?_
  refine z_aload_n C 2 0 0 dL_restoreSnapshot_2 rfl rfl ?_
  refine z_iload_n C 3 1 1 dL_restoreSnapshot_3 rfl rfl ?_
  refine z_tc C htab 4 [] ⟨0, 9, 12, 22⟩ [⟨0, 9, 15, 76⟩] dL_restoreSnapshot_4 cv_L_111 hM rfl ⟨by decide, rfl⟩ Nat.zero_lt_one rfl rfl (Nat.le_of_ble_eq_true rfl) ⟨Nat.le_refl _, Nat.le_refl _⟩ ⟨by decide, by decide⟩ rfl (fun z hz => nomatch hz) (by unfold cwE; decide) (by decide) (by decide) kl_L_22 ?_
  intro S1 L1 R1 q hp
  refine z_astore_n C 12 3 [(3, _), (0, _), (1, _), (2, _)] dL_restoreSnapshot_12 rfl (by decide) rfl ?_
  refine z_iconst (v := nI 1) C 13 dL_restoreSnapshot_13 (by decide) ?_
  exact ret 14 _ _ _ _ _ dL_restoreSnapshot_14 ⟨rfl, hp⟩
set_option maxHeartbeats 4000000 in
set_option maxRecDepth 100000 in
theorem w_restoreSnapshot_t2 {l : Launch} {G : mG} {ad : mA} {S : mS} {L : mL} {R : mR} {a0 : Int32} {post : mS → mL → mR → Prop} (hM : Kt l yX8_restoreSnapshot cX8_restoreSnapshot 2 (some .int) rt_X8_restoreSnapshot G ad mdm [.ref (ad 0 0), .int a0] S L R eIS post) : Kw l yL_restoreSnapshot cL_restoreSnapshot 4 [(0, 9, 12, 22), (0, 9, 15, 76)] rwt_restoreSnapshot G ad mdm [.ref (ad 0 0), .int a0, .ref (ad 60 0)] S L R (fun r_ S2 L2 R2 => r_ = nI 2 ∧ post S2 L2 R2) := by
  refine Kw.of RL (by decide) rfl (Nat.le_of_ble_eq_true rfl) ?_
  intro X hXl hXG C htab ret
  subst hXl; subst hXG
  change Z X 4 ad mdm S L R 0 0 0 [(0, _), (1, _), (2, _)] []
  refine z_aload_n C 0 2 2 dL_restoreSnapshot_0 rfl rfl ?_
  refine z_iconst (v := nI 0) C 1 dL_restoreSnapshot_1 (by decide) ?_
  refine z_aload_n C 2 0 0 dL_restoreSnapshot_2 rfl rfl ?_
  refine z_iload_n C 3 1 1 dL_restoreSnapshot_3 rfl rfl ?_
  refine z_tc C htab 4 [⟨0, 9, 12, 22⟩] ⟨0, 9, 15, 76⟩ [] dL_restoreSnapshot_4 cv_L_111 hM rfl ⟨by decide, rfl⟩ Nat.zero_lt_one rfl rfl (Nat.le_of_ble_eq_true rfl) ⟨Nat.le_refl _, Nat.le_refl _⟩ ⟨by decide, by decide⟩ rfl (fun z hz => by rw [List.mem_singleton.mp hz]; exact ⟨by decide, eIO, kl_L_22, by unfold cwE; decide, by decide⟩) (by unfold cwE; decide) (by decide) (by decide) kl_L_76 ?_
  intro S1 L1 R1 q hp
  refine z_astore_n C 15 3 [(3, _), (0, _), (1, _), (2, _)] dL_restoreSnapshot_15 rfl (by decide) rfl ?_
  refine z_iconst (v := nI 2) C 16 dL_restoreSnapshot_16 (by decide) ?_
  exact ret 17 _ _ _ _ _ dL_restoreSnapshot_17 ⟨rfl, hp⟩
theorem ww_saveSnapshot : mCw RL 236 yL_saveSnapshot cL_saveSnapshot 4 [(0, 16, 19, 22)] 3 := ⟨mlw_t 1130 (by decide +kernel) rfl, mlw_t 1131 (by decide +kernel) rfl, wi_L, mlw_t 1132 (by decide +kernel) rfl, by decide +kernel⟩
def rw_saveSnapshot : Room := { frames := rm_X8_saveSnapshot.frames + 1, cells := rm_X8_saveSnapshot.cells, slots := rm_X8_saveSnapshot.slots, locals := 8 + (3 + 11) + rm_X8_saveSnapshot.locals }
set_option maxHeartbeats 4000000 in
set_option maxRecDepth 100000 in
theorem w_saveSnapshot_ok {l : Launch} {G : mG} {ad : mA} {S : mS} {L : mL} {R : mR} {a0 : Int32} {post : Int32 → mS → mL → mR → Prop} (hM : Ki l yX8_saveSnapshot cX8_saveSnapshot 3 .boolean rm_X8_saveSnapshot G ad mdm [.ref (ad 0 0), .int a0] S L R post) : Kw l yL_saveSnapshot cL_saveSnapshot 4 [(0, 16, 19, 22)] rw_saveSnapshot G ad mdm [.ref (ad 0 0), .int a0, .ref (ad 60 0)] S L R (fun r_ S2 L2 R2 => r_ = nI 0 ∧ ∃ r L1, post r S2 L1 R2 ∧ up3 L1 60 0 0 (if r = 0 then 0 else 1) = L2) := by
  refine Kw.of RL (by decide) rfl (Nat.le_of_ble_eq_true rfl) ?_
  intro X hXl hXG C htab ret
  subst hXl; subst hXG
  change Z X 4 ad mdm S L R 0 0 0 [(0, _), (1, _), (2, _)] []
  refine z_aload_n C 0 2 2 dL_saveSnapshot_0 rfl rfl ?_
  refine z_iconst (v := nI 0) C 1 dL_saveSnapshot_1 (by decide) ?_
  refine z_aload_n C 2 0 0 dL_saveSnapshot_2 rfl rfl ?_
  refine z_iload_n C 3 1 1 dL_saveSnapshot_3 rfl rfl ?_
  refine z_cVi0 C 4 dL_saveSnapshot_4 cv_L_107 hM rfl ⟨by decide, rfl⟩ Nat.zero_lt_one rfl rfl (Nat.le_of_ble_eq_true rfl) ⟨Nat.le_refl _, Nat.le_refl _⟩ ⟨rfl, rfl⟩ ⟨by decide, by decide⟩ ?_
  intro r S1 L1 R1 hp
  refine z_if_eq C 7 14 dL_saveSnapshot_7 (by decide) (fun h7 => ?_) (fun h7 => ?_)
  · refine z_lconst (v := 0) C 14 dL_saveSnapshot_14 (by decide) ?_
    refine z_last C 15 dL_saveSnapshot_15 rfl Nat.zero_lt_one rfl (by decide) (by decide) ?_
    refine z_goto C 16 22 dL_saveSnapshot_16 (by decide) ?_
    refine z_iconst (v := nI 0) C 22 dL_saveSnapshot_22 (by decide) ?_
    exact ret 23 _ _ _ _ _ dL_saveSnapshot_23 ⟨rfl, r, L1, hp, by rw [if_pos h7]⟩
  · refine z_lconst (v := 1) C 10 dL_saveSnapshot_10 (by decide) ?_
    refine z_goto C 11 15 dL_saveSnapshot_11 (by decide) ?_
    refine z_last C 15 dL_saveSnapshot_15 rfl Nat.zero_lt_one rfl (by decide) (by decide) ?_
    refine z_goto C 16 22 dL_saveSnapshot_16 (by decide) ?_
    refine z_iconst (v := nI 0) C 22 dL_saveSnapshot_22 (by decide) ?_
    exact ret 23 _ _ _ _ _ dL_saveSnapshot_23 ⟨rfl, r, L1, hp, by rw [if_neg h7]⟩
def rwt_saveSnapshot : Room := { frames := rt_X8_saveSnapshot.frames + 1, cells := rt_X8_saveSnapshot.cells, slots := rt_X8_saveSnapshot.slots, locals := 8 + (3 + 11) + rt_X8_saveSnapshot.locals }
set_option maxHeartbeats 4000000 in
set_option maxRecDepth 100000 in
theorem w_saveSnapshot_t1 {l : Launch} {G : mG} {ad : mA} {S : mS} {L : mL} {R : mR} {a0 : Int32} {post : mS → mL → mR → Prop} (hM : Kt l yX8_saveSnapshot cX8_saveSnapshot 3 (some .boolean) rt_X8_saveSnapshot G ad mdm [.ref (ad 0 0), .int a0] S L R eIO post) : Kw l yL_saveSnapshot cL_saveSnapshot 4 [(0, 16, 19, 22)] rwt_saveSnapshot G ad mdm [.ref (ad 0 0), .int a0, .ref (ad 60 0)] S L R (fun r_ S2 L2 R2 => r_ = nI 1 ∧ post S2 L2 R2) := by
  refine Kw.of RL (by decide) rfl (Nat.le_of_ble_eq_true rfl) ?_
  intro X hXl hXG C htab ret
  subst hXl; subst hXG
  change Z X 4 ad mdm S L R 0 0 0 [(0, _), (1, _), (2, _)] []
  refine z_aload_n C 0 2 2 dL_saveSnapshot_0 rfl rfl ?_
  refine z_iconst (v := nI 0) C 1 dL_saveSnapshot_1 (by decide) ?_
  refine z_aload_n C 2 0 0 dL_saveSnapshot_2 rfl rfl ?_
  refine z_iload_n C 3 1 1 dL_saveSnapshot_3 rfl rfl ?_
  refine z_tc C htab 4 [] ⟨0, 16, 19, 22⟩ [] dL_saveSnapshot_4 cv_L_107 hM rfl ⟨by decide, rfl⟩ Nat.zero_lt_one rfl rfl (Nat.le_of_ble_eq_true rfl) ⟨Nat.le_refl _, Nat.le_refl _⟩ ⟨by decide, by decide⟩ rfl (fun z hz => nomatch hz) (by unfold cwE; decide) (by decide) (by decide) kl_L_22 ?_
  intro S1 L1 R1 q hp
  refine z_astore_n C 19 3 [(3, _), (0, _), (1, _), (2, _)] dL_saveSnapshot_19 rfl (by decide) rfl ?_
  refine z_iconst (v := nI 1) C 20 dL_saveSnapshot_20 (by decide) ?_
  exact ret 21 _ _ _ _ _ dL_saveSnapshot_21 ⟨rfl, hp⟩
theorem ww_send : mCw RL 209 yL_send cL_send 5 [(0, 10, 13, 22), (0, 10, 17, 13)] 4 := ⟨mlw_t 1053 (by decide +kernel) rfl, mlw_t 1054 (by decide +kernel) rfl, wi_L, mlw_t 1055 (by decide +kernel) rfl, by decide +kernel⟩
def rw_send : Room := { frames := rm_X8_send.frames + 1, cells := rm_X8_send.cells, slots := rm_X8_send.slots, locals := 8 + (3 + 11) + rm_X8_send.locals }
set_option maxHeartbeats 4000000 in
set_option maxRecDepth 100000 in
theorem w_send_ok {l : Launch} {G : mG} {ad : mA} {S : mS} {L : mL} {R : mR} {a0 a1 : Int32} {post : Int32 → mS → mL → mR → Prop} (hM : Ki l yX8_send cX8_send 3 .int rm_X8_send G ad mdm [.ref (ad 0 0), .int a0, .int a1] S L R post) : Kw l yL_send cL_send 5 [(0, 10, 13, 22), (0, 10, 17, 13)] rw_send G ad mdm [.ref (ad 0 0), .int a0, .int a1, .ref (ad 60 0)] S L R (fun r_ S2 L2 R2 => r_ = nI 0 ∧ ∃ r L1, post r S2 L1 R2 ∧ up3 L1 60 0 0 r.toInt64 = L2) := by
  refine Kw.of RL (by decide) rfl (Nat.le_of_ble_eq_true rfl) ?_
  intro X hXl hXG C htab ret
  subst hXl; subst hXG
  change Z X 5 ad mdm S L R 0 0 0 [(0, _), (1, _), (2, _), (3, _)] []
  refine z_aload_n C 0 3 3 dL_send_0 rfl rfl ?_
  refine z_iconst (v := nI 0) C 1 dL_send_1 (by decide) ?_
  refine z_aload_n C 2 0 0 dL_send_2 rfl rfl ?_
  refine z_iload_n C 3 1 1 dL_send_3 rfl rfl ?_
  refine z_iload_n C 4 2 2 dL_send_4 rfl rfl ?_
  refine z_cVi0 C 5 dL_send_5 cv_L_84 hM rfl ⟨by decide, rfl⟩ Nat.zero_lt_one rfl rfl (Nat.le_of_ble_eq_true rfl) ⟨Nat.le_refl _, Nat.le_refl _⟩ ⟨rfl, rfl⟩ ⟨by decide, by decide⟩ ?_
  intro r S1 L1 R1 hp
  refine z_i2l C 8 dL_send_8 rfl ?_
  refine z_last C 9 dL_send_9 rfl Nat.zero_lt_one rfl (by decide) (by decide) ?_
  refine z_goto C 10 21 dL_send_10 (by decide) ?_
  refine z_iconst (v := nI 0) C 21 dL_send_21 (by decide) ?_
  exact ret 22 _ _ _ _ _ dL_send_22 ⟨rfl, r, L1, hp, rfl⟩
def rwt_send : Room := { frames := rt_X8_send.frames + 1, cells := rt_X8_send.cells, slots := rt_X8_send.slots, locals := 8 + (3 + 11) + rt_X8_send.locals }
set_option maxHeartbeats 4000000 in
set_option maxRecDepth 100000 in
theorem w_send_t1 {l : Launch} {G : mG} {ad : mA} {S : mS} {L : mL} {R : mR} {a0 a1 : Int32} {post : mS → mL → mR → Prop} (hM : Kt l yX8_send cX8_send 3 (some .int) rt_X8_send G ad mdm [.ref (ad 0 0), .int a0, .int a1] S L R eIO post) : Kw l yL_send cL_send 5 [(0, 10, 13, 22), (0, 10, 17, 13)] rwt_send G ad mdm [.ref (ad 0 0), .int a0, .int a1, .ref (ad 60 0)] S L R (fun r_ S2 L2 R2 => r_ = nI 1 ∧ post S2 L2 R2) := by
  refine Kw.of RL (by decide) rfl (Nat.le_of_ble_eq_true rfl) ?_
  intro X hXl hXG C htab ret
  subst hXl; subst hXG
  change Z X 5 ad mdm S L R 0 0 0 [(0, _), (1, _), (2, _), (3, _)] []
  refine z_aload_n C 0 3 3 dL_send_0 rfl rfl ?_
  refine z_iconst (v := nI 0) C 1 dL_send_1 (by decide) ?_
  refine z_aload_n C 2 0 0 dL_send_2 rfl rfl ?_
  refine z_iload_n C 3 1 1 dL_send_3 rfl rfl ?_
  refine z_iload_n C 4 2 2 dL_send_4 rfl rfl ?_
  refine z_tc C htab 5 [] ⟨0, 10, 13, 22⟩ [⟨0, 10, 17, 13⟩] dL_send_5 cv_L_84 hM rfl ⟨by decide, rfl⟩ Nat.zero_lt_one rfl rfl (Nat.le_of_ble_eq_true rfl) ⟨Nat.le_refl _, Nat.le_refl _⟩ ⟨by decide, by decide⟩ rfl (fun z hz => nomatch hz) (by unfold cwE; decide) (by decide) (by decide) kl_L_22 ?_
  intro S1 L1 R1 q hp
  refine z_astore C 13 4 [(4, _), (0, _), (1, _), (2, _), (3, _)] dL_send_13 (by decide) rfl ?_
  refine z_iconst (v := nI 1) C 15 dL_send_15 (by decide) ?_
  exact ret 16 _ _ _ _ _ dL_send_16 ⟨rfl, hp⟩
set_option maxHeartbeats 4000000 in
set_option maxRecDepth 100000 in
theorem w_send_t2 {l : Launch} {G : mG} {ad : mA} {S : mS} {L : mL} {R : mR} {a0 a1 : Int32} {post : mS → mL → mR → Prop} (hM : Kt l yX8_send cX8_send 3 (some .int) rt_X8_send G ad mdm [.ref (ad 0 0), .int a0, .int a1] S L R eIA post) : Kw l yL_send cL_send 5 [(0, 10, 13, 22), (0, 10, 17, 13)] rwt_send G ad mdm [.ref (ad 0 0), .int a0, .int a1, .ref (ad 60 0)] S L R (fun r_ S2 L2 R2 => r_ = nI 2 ∧ post S2 L2 R2) := by
  refine Kw.of RL (by decide) rfl (Nat.le_of_ble_eq_true rfl) ?_
  intro X hXl hXG C htab ret
  subst hXl; subst hXG
  change Z X 5 ad mdm S L R 0 0 0 [(0, _), (1, _), (2, _), (3, _)] []
  refine z_aload_n C 0 3 3 dL_send_0 rfl rfl ?_
  refine z_iconst (v := nI 0) C 1 dL_send_1 (by decide) ?_
  refine z_aload_n C 2 0 0 dL_send_2 rfl rfl ?_
  refine z_iload_n C 3 1 1 dL_send_3 rfl rfl ?_
  refine z_iload_n C 4 2 2 dL_send_4 rfl rfl ?_
  refine z_tc C htab 5 [⟨0, 10, 13, 22⟩] ⟨0, 10, 17, 13⟩ [] dL_send_5 cv_L_84 hM rfl ⟨by decide, rfl⟩ Nat.zero_lt_one rfl rfl (Nat.le_of_ble_eq_true rfl) ⟨Nat.le_refl _, Nat.le_refl _⟩ ⟨by decide, by decide⟩ rfl (fun z hz => by rw [List.mem_singleton.mp hz]; exact ⟨by decide, eIO, kl_L_22, by unfold cwE; decide, by decide⟩) (by unfold cwE; decide) (by decide) (by decide) kl_L_13 ?_
  intro S1 L1 R1 q hp
  refine z_astore C 17 4 [(4, _), (0, _), (1, _), (2, _), (3, _)] dL_send_17 (by decide) rfl ?_
  refine z_iconst (v := nI 2) C 19 dL_send_19 (by decide) ?_
  exact ret 20 _ _ _ _ _ dL_send_20 ⟨rfl, hp⟩
theorem ww_setLimit : mCw RL 226 yL_setLimit cL_setLimit 4 [(0, 9, 12, 13), (0, 9, 15, 76)] 3 := ⟨mlw_t 1114 (by decide +kernel) rfl, mlw_t 1115 (by decide +kernel) rfl, wi_L, mlw_t 1116 (by decide +kernel) rfl, by decide +kernel⟩
def rw_setLimit : Room := { frames := rm_X8_setLimit.frames + 1, cells := rm_X8_setLimit.cells, slots := rm_X8_setLimit.slots, locals := 8 + (3 + 11) + rm_X8_setLimit.locals }
set_option maxHeartbeats 4000000 in
set_option maxRecDepth 100000 in
theorem w_setLimit_ok {l : Launch} {G : mG} {ad : mA} {S : mS} {L : mL} {R : mR} {a0 : Int32} {post : Int32 → mS → mL → mR → Prop} (hM : Ki l yX8_setLimit cX8_setLimit 3 .int rm_X8_setLimit G ad mdm [.ref (ad 0 0), .int a0] S L R post) : Kw l yL_setLimit cL_setLimit 4 [(0, 9, 12, 13), (0, 9, 15, 76)] rw_setLimit G ad mdm [.ref (ad 0 0), .int a0, .ref (ad 60 0)] S L R (fun r_ S2 L2 R2 => r_ = nI 0 ∧ ∃ r L1, post r S2 L1 R2 ∧ up3 L1 60 0 0 r.toInt64 = L2) := by
  refine Kw.of RL (by decide) rfl (Nat.le_of_ble_eq_true rfl) ?_
  intro X hXl hXG C htab ret
  subst hXl; subst hXG
  change Z X 4 ad mdm S L R 0 0 0 [(0, _), (1, _), (2, _)] []
  refine z_aload_n C 0 2 2 dL_setLimit_0 rfl rfl ?_
  refine z_iconst (v := nI 0) C 1 dL_setLimit_1 (by decide) ?_
  refine z_aload_n C 2 0 0 dL_setLimit_2 rfl rfl ?_
  refine z_iload_n C 3 1 1 dL_setLimit_3 rfl rfl ?_
  refine z_cVi0 C 4 dL_setLimit_4 cv_L_101 hM rfl ⟨by decide, rfl⟩ Nat.zero_lt_one rfl rfl (Nat.le_of_ble_eq_true rfl) ⟨Nat.le_refl _, Nat.le_refl _⟩ ⟨rfl, rfl⟩ ⟨by decide, by decide⟩ ?_
  intro r S1 L1 R1 hp
  refine z_i2l C 7 dL_setLimit_7 rfl ?_
  refine z_last C 8 dL_setLimit_8 rfl Nat.zero_lt_one rfl (by decide) (by decide) ?_
  refine z_goto C 9 18 dL_setLimit_9 (by decide) ?_
  refine z_iconst (v := nI 0) C 18 dL_setLimit_18 (by decide) ?_
  exact ret 19 _ _ _ _ _ dL_setLimit_19 ⟨rfl, r, L1, hp, rfl⟩
def rwt_setLimit : Room := { frames := rt_X8_setLimit.frames + 1, cells := rt_X8_setLimit.cells, slots := rt_X8_setLimit.slots, locals := 8 + (3 + 11) + rt_X8_setLimit.locals }
set_option maxHeartbeats 4000000 in
set_option maxRecDepth 100000 in
theorem w_setLimit_t1 {l : Launch} {G : mG} {ad : mA} {S : mS} {L : mL} {R : mR} {a0 : Int32} {post : mS → mL → mR → Prop} (hM : Kt l yX8_setLimit cX8_setLimit 3 (some .int) rt_X8_setLimit G ad mdm [.ref (ad 0 0), .int a0] S L R eIA post) : Kw l yL_setLimit cL_setLimit 4 [(0, 9, 12, 13), (0, 9, 15, 76)] rwt_setLimit G ad mdm [.ref (ad 0 0), .int a0, .ref (ad 60 0)] S L R (fun r_ S2 L2 R2 => r_ = nI 1 ∧ post S2 L2 R2) := by
  refine Kw.of RL (by decide) rfl (Nat.le_of_ble_eq_true rfl) ?_
  intro X hXl hXG C htab ret
  subst hXl; subst hXG
  change Z X 4 ad mdm S L R 0 0 0 [(0, _), (1, _), (2, _)] []
  refine z_aload_n C 0 2 2 dL_setLimit_0 rfl rfl ?_
  refine z_iconst (v := nI 0) C 1 dL_setLimit_1 (by decide) ?_
  refine z_aload_n C 2 0 0 dL_setLimit_2 rfl rfl ?_
  refine z_iload_n C 3 1 1 dL_setLimit_3 rfl rfl ?_
  refine z_tc C htab 4 [] ⟨0, 9, 12, 13⟩ [⟨0, 9, 15, 76⟩] dL_setLimit_4 cv_L_101 hM rfl ⟨by decide, rfl⟩ Nat.zero_lt_one rfl rfl (Nat.le_of_ble_eq_true rfl) ⟨Nat.le_refl _, Nat.le_refl _⟩ ⟨by decide, by decide⟩ rfl (fun z hz => nomatch hz) (by unfold cwE; decide) (by decide) (by decide) kl_L_13 ?_
  intro S1 L1 R1 q hp
  refine z_astore_n C 12 3 [(3, _), (0, _), (1, _), (2, _)] dL_setLimit_12 rfl (by decide) rfl ?_
  refine z_iconst (v := nI 1) C 13 dL_setLimit_13 (by decide) ?_
  exact ret 14 _ _ _ _ _ dL_setLimit_14 ⟨rfl, hp⟩
set_option maxHeartbeats 4000000 in
set_option maxRecDepth 100000 in
theorem w_setLimit_t2 {l : Launch} {G : mG} {ad : mA} {S : mS} {L : mL} {R : mR} {a0 : Int32} {post : mS → mL → mR → Prop} (hM : Kt l yX8_setLimit cX8_setLimit 3 (some .int) rt_X8_setLimit G ad mdm [.ref (ad 0 0), .int a0] S L R eIS post) : Kw l yL_setLimit cL_setLimit 4 [(0, 9, 12, 13), (0, 9, 15, 76)] rwt_setLimit G ad mdm [.ref (ad 0 0), .int a0, .ref (ad 60 0)] S L R (fun r_ S2 L2 R2 => r_ = nI 2 ∧ post S2 L2 R2) := by
  refine Kw.of RL (by decide) rfl (Nat.le_of_ble_eq_true rfl) ?_
  intro X hXl hXG C htab ret
  subst hXl; subst hXG
  change Z X 4 ad mdm S L R 0 0 0 [(0, _), (1, _), (2, _)] []
  refine z_aload_n C 0 2 2 dL_setLimit_0 rfl rfl ?_
  refine z_iconst (v := nI 0) C 1 dL_setLimit_1 (by decide) ?_
  refine z_aload_n C 2 0 0 dL_setLimit_2 rfl rfl ?_
  refine z_iload_n C 3 1 1 dL_setLimit_3 rfl rfl ?_
  refine z_tc C htab 4 [⟨0, 9, 12, 13⟩] ⟨0, 9, 15, 76⟩ [] dL_setLimit_4 cv_L_101 hM rfl ⟨by decide, rfl⟩ Nat.zero_lt_one rfl rfl (Nat.le_of_ble_eq_true rfl) ⟨Nat.le_refl _, Nat.le_refl _⟩ ⟨by decide, by decide⟩ rfl (fun z hz => by rw [List.mem_singleton.mp hz]; exact ⟨by decide, eIA, kl_L_13, by unfold cwE; decide, by decide⟩) (by unfold cwE; decide) (by decide) (by decide) kl_L_76 ?_
  intro S1 L1 R1 q hp
  refine z_astore_n C 15 3 [(3, _), (0, _), (1, _), (2, _)] dL_setLimit_15 rfl (by decide) rfl ?_
  refine z_iconst (v := nI 2) C 16 dL_setLimit_16 (by decide) ?_
  exact ret 17 _ _ _ _ _ dL_setLimit_17 ⟨rfl, hp⟩
theorem ww_setPolicy : mCw RL 229 yL_setPolicy cL_setPolicy 4 [(0, 9, 12, 13)] 3 := ⟨mlw_t 1123 (by decide +kernel) rfl, mlw_t 1124 (by decide +kernel) rfl, wi_L, mlw_t 1125 (by decide +kernel) rfl, by decide +kernel⟩
def rw_setPolicy : Room := { frames := rm_X8_setPolicy.frames + 1, cells := rm_X8_setPolicy.cells, slots := rm_X8_setPolicy.slots, locals := 8 + (3 + 11) + rm_X8_setPolicy.locals }
set_option maxHeartbeats 4000000 in
set_option maxRecDepth 100000 in
theorem w_setPolicy_ok {l : Launch} {G : mG} {ad : mA} {S : mS} {L : mL} {R : mR} {a0 : Int32} {post : Int32 → mS → mL → mR → Prop} (hM : Ki l yX8_setPolicy cX8_setPolicy 3 .int rm_X8_setPolicy G ad mdm [.ref (ad 0 0), .int a0] S L R post) : Kw l yL_setPolicy cL_setPolicy 4 [(0, 9, 12, 13)] rw_setPolicy G ad mdm [.ref (ad 0 0), .int a0, .ref (ad 60 0)] S L R (fun r_ S2 L2 R2 => r_ = nI 0 ∧ ∃ r L1, post r S2 L1 R2 ∧ up3 L1 60 0 0 r.toInt64 = L2) := by
  refine Kw.of RL (by decide) rfl (Nat.le_of_ble_eq_true rfl) ?_
  intro X hXl hXG C htab ret
  subst hXl; subst hXG
  change Z X 4 ad mdm S L R 0 0 0 [(0, _), (1, _), (2, _)] []
  refine z_aload_n C 0 2 2 dL_setPolicy_0 rfl rfl ?_
  refine z_iconst (v := nI 0) C 1 dL_setPolicy_1 (by decide) ?_
  refine z_aload_n C 2 0 0 dL_setPolicy_2 rfl rfl ?_
  refine z_iload_n C 3 1 1 dL_setPolicy_3 rfl rfl ?_
  refine z_cVi0 C 4 dL_setPolicy_4 cv_L_104 hM rfl ⟨by decide, rfl⟩ Nat.zero_lt_one rfl rfl (Nat.le_of_ble_eq_true rfl) ⟨Nat.le_refl _, Nat.le_refl _⟩ ⟨rfl, rfl⟩ ⟨by decide, by decide⟩ ?_
  intro r S1 L1 R1 hp
  refine z_i2l C 7 dL_setPolicy_7 rfl ?_
  refine z_last C 8 dL_setPolicy_8 rfl Nat.zero_lt_one rfl (by decide) (by decide) ?_
  refine z_goto C 9 15 dL_setPolicy_9 (by decide) ?_
  refine z_iconst (v := nI 0) C 15 dL_setPolicy_15 (by decide) ?_
  exact ret 16 _ _ _ _ _ dL_setPolicy_16 ⟨rfl, r, L1, hp, rfl⟩
def rwt_setPolicy : Room := { frames := rt_X8_setPolicy.frames + 1, cells := rt_X8_setPolicy.cells, slots := rt_X8_setPolicy.slots, locals := 8 + (3 + 11) + rt_X8_setPolicy.locals }
set_option maxHeartbeats 4000000 in
set_option maxRecDepth 100000 in
theorem w_setPolicy_t1 {l : Launch} {G : mG} {ad : mA} {S : mS} {L : mL} {R : mR} {a0 : Int32} {post : mS → mL → mR → Prop} (hM : Kt l yX8_setPolicy cX8_setPolicy 3 (some .int) rt_X8_setPolicy G ad mdm [.ref (ad 0 0), .int a0] S L R eIA post) : Kw l yL_setPolicy cL_setPolicy 4 [(0, 9, 12, 13)] rwt_setPolicy G ad mdm [.ref (ad 0 0), .int a0, .ref (ad 60 0)] S L R (fun r_ S2 L2 R2 => r_ = nI 1 ∧ post S2 L2 R2) := by
  refine Kw.of RL (by decide) rfl (Nat.le_of_ble_eq_true rfl) ?_
  intro X hXl hXG C htab ret
  subst hXl; subst hXG
  change Z X 4 ad mdm S L R 0 0 0 [(0, _), (1, _), (2, _)] []
  refine z_aload_n C 0 2 2 dL_setPolicy_0 rfl rfl ?_
  refine z_iconst (v := nI 0) C 1 dL_setPolicy_1 (by decide) ?_
  refine z_aload_n C 2 0 0 dL_setPolicy_2 rfl rfl ?_
  refine z_iload_n C 3 1 1 dL_setPolicy_3 rfl rfl ?_
  refine z_tc C htab 4 [] ⟨0, 9, 12, 13⟩ [] dL_setPolicy_4 cv_L_104 hM rfl ⟨by decide, rfl⟩ Nat.zero_lt_one rfl rfl (Nat.le_of_ble_eq_true rfl) ⟨Nat.le_refl _, Nat.le_refl _⟩ ⟨by decide, by decide⟩ rfl (fun z hz => nomatch hz) (by unfold cwE; decide) (by decide) (by decide) kl_L_13 ?_
  intro S1 L1 R1 q hp
  refine z_astore_n C 12 3 [(3, _), (0, _), (1, _), (2, _)] dL_setPolicy_12 rfl (by decide) rfl ?_
  refine z_iconst (v := nI 1) C 13 dL_setPolicy_13 (by decide) ?_
  exact ret 14 _ _ _ _ _ dL_setPolicy_14 ⟨rfl, hp⟩
theorem ww_show : mCw RL 196 yL_show cL_show 4 [(0, 9, 12, 22), (0, 9, 15, 76)] 3 := ⟨mlw_t 992 (by decide +kernel) rfl, mlw_t 993 (by decide +kernel) rfl, wi_L, mlw_t 994 (by decide +kernel) rfl, by decide +kernel⟩
def rw_show : Room := { frames := rm_X8_show.frames + 1, cells := rm_X8_show.cells, slots := rm_X8_show.slots, locals := 8 + (3 + 11) + rm_X8_show.locals }
set_option maxHeartbeats 4000000 in
set_option maxRecDepth 100000 in
theorem w_show_ok {l : Launch} {G : mG} {ad : mA} {S : mS} {L : mL} {R : mR} {a0 : Int32} {post : Int32 → mS → mL → mR → Prop} (hM : Ki l yX8_show cX8_show 3 .int rm_X8_show G ad mdm [.ref (ad 0 0), .int a0] S L R post) : Kw l yL_show cL_show 4 [(0, 9, 12, 22), (0, 9, 15, 76)] rw_show G ad mdm [.ref (ad 0 0), .int a0, .ref (ad 60 0)] S L R (fun r_ S2 L2 R2 => r_ = nI 0 ∧ ∃ r L1, post r S2 L1 R2 ∧ up3 L1 60 0 0 r.toInt64 = L2) := by
  refine Kw.of RL (by decide) rfl (Nat.le_of_ble_eq_true rfl) ?_
  intro X hXl hXG C htab ret
  subst hXl; subst hXG
  change Z X 4 ad mdm S L R 0 0 0 [(0, _), (1, _), (2, _)] []
  refine z_aload_n C 0 2 2 dL_show_0 rfl rfl ?_
  refine z_iconst (v := nI 0) C 1 dL_show_1 (by decide) ?_
  refine z_aload_n C 2 0 0 dL_show_2 rfl rfl ?_
  refine z_iload_n C 3 1 1 dL_show_3 rfl rfl ?_
  refine z_cVi0 C 4 dL_show_4 cv_L_73 hM rfl ⟨by decide, rfl⟩ Nat.zero_lt_one rfl rfl (Nat.le_of_ble_eq_true rfl) ⟨Nat.le_refl _, Nat.le_refl _⟩ ⟨rfl, rfl⟩ ⟨by decide, by decide⟩ ?_
  intro r S1 L1 R1 hp
  refine z_i2l C 7 dL_show_7 rfl ?_
  refine z_last C 8 dL_show_8 rfl Nat.zero_lt_one rfl (by decide) (by decide) ?_
  refine z_goto C 9 18 dL_show_9 (by decide) ?_
  refine z_iconst (v := nI 0) C 18 dL_show_18 (by decide) ?_
  exact ret 19 _ _ _ _ _ dL_show_19 ⟨rfl, r, L1, hp, rfl⟩
def rwt_show : Room := { frames := rt_X8_show.frames + 1, cells := rt_X8_show.cells, slots := rt_X8_show.slots, locals := 8 + (3 + 11) + rt_X8_show.locals }
set_option maxHeartbeats 4000000 in
set_option maxRecDepth 100000 in
theorem w_show_t1 {l : Launch} {G : mG} {ad : mA} {S : mS} {L : mL} {R : mR} {a0 : Int32} {post : mS → mL → mR → Prop} (hM : Kt l yX8_show cX8_show 3 (some .int) rt_X8_show G ad mdm [.ref (ad 0 0), .int a0] S L R eIO post) : Kw l yL_show cL_show 4 [(0, 9, 12, 22), (0, 9, 15, 76)] rwt_show G ad mdm [.ref (ad 0 0), .int a0, .ref (ad 60 0)] S L R (fun r_ S2 L2 R2 => r_ = nI 1 ∧ post S2 L2 R2) := by
  refine Kw.of RL (by decide) rfl (Nat.le_of_ble_eq_true rfl) ?_
  intro X hXl hXG C htab ret
  subst hXl; subst hXG
  change Z X 4 ad mdm S L R 0 0 0 [(0, _), (1, _), (2, _)] []
  refine z_aload_n C 0 2 2 dL_show_0 rfl rfl ?_
  refine z_iconst (v := nI 0) C 1 dL_show_1 (by decide) ?_
  refine z_aload_n C 2 0 0 dL_show_2 rfl rfl ?_
  refine z_iload_n C 3 1 1 dL_show_3 rfl rfl ?_
  refine z_tc C htab 4 [] ⟨0, 9, 12, 22⟩ [⟨0, 9, 15, 76⟩] dL_show_4 cv_L_73 hM rfl ⟨by decide, rfl⟩ Nat.zero_lt_one rfl rfl (Nat.le_of_ble_eq_true rfl) ⟨Nat.le_refl _, Nat.le_refl _⟩ ⟨by decide, by decide⟩ rfl (fun z hz => nomatch hz) (by unfold cwE; decide) (by decide) (by decide) kl_L_22 ?_
  intro S1 L1 R1 q hp
  refine z_astore_n C 12 3 [(3, _), (0, _), (1, _), (2, _)] dL_show_12 rfl (by decide) rfl ?_
  refine z_iconst (v := nI 1) C 13 dL_show_13 (by decide) ?_
  exact ret 14 _ _ _ _ _ dL_show_14 ⟨rfl, hp⟩
set_option maxHeartbeats 4000000 in
set_option maxRecDepth 100000 in
theorem w_show_t2 {l : Launch} {G : mG} {ad : mA} {S : mS} {L : mL} {R : mR} {a0 : Int32} {post : mS → mL → mR → Prop} (hM : Kt l yX8_show cX8_show 3 (some .int) rt_X8_show G ad mdm [.ref (ad 0 0), .int a0] S L R eIS post) : Kw l yL_show cL_show 4 [(0, 9, 12, 22), (0, 9, 15, 76)] rwt_show G ad mdm [.ref (ad 0 0), .int a0, .ref (ad 60 0)] S L R (fun r_ S2 L2 R2 => r_ = nI 2 ∧ post S2 L2 R2) := by
  refine Kw.of RL (by decide) rfl (Nat.le_of_ble_eq_true rfl) ?_
  intro X hXl hXG C htab ret
  subst hXl; subst hXG
  change Z X 4 ad mdm S L R 0 0 0 [(0, _), (1, _), (2, _)] []
  refine z_aload_n C 0 2 2 dL_show_0 rfl rfl ?_
  refine z_iconst (v := nI 0) C 1 dL_show_1 (by decide) ?_
  refine z_aload_n C 2 0 0 dL_show_2 rfl rfl ?_
  refine z_iload_n C 3 1 1 dL_show_3 rfl rfl ?_
  refine z_tc C htab 4 [⟨0, 9, 12, 22⟩] ⟨0, 9, 15, 76⟩ [] dL_show_4 cv_L_73 hM rfl ⟨by decide, rfl⟩ Nat.zero_lt_one rfl rfl (Nat.le_of_ble_eq_true rfl) ⟨Nat.le_refl _, Nat.le_refl _⟩ ⟨by decide, by decide⟩ rfl (fun z hz => by rw [List.mem_singleton.mp hz]; exact ⟨by decide, eIO, kl_L_22, by unfold cwE; decide, by decide⟩) (by unfold cwE; decide) (by decide) (by decide) kl_L_76 ?_
  intro S1 L1 R1 q hp
  refine z_astore_n C 15 3 [(3, _), (0, _), (1, _), (2, _)] dL_show_15 rfl (by decide) rfl ?_
  refine z_iconst (v := nI 2) C 16 dL_show_16 (by decide) ?_
  exact ret 17 _ _ _ _ _ dL_show_17 ⟨rfl, hp⟩
theorem ww_size : mCw RL 136 yL_size cL_size 4 [(0, 9, 12, 13)] 3 := ⟨mlw_t 673 (by decide +kernel) rfl, mlw_t 674 (by decide +kernel) rfl, wi_L, mlw_t 675 (by decide +kernel) rfl, by decide +kernel⟩
def rw_size : Room := { frames := rm_X8_size.frames + 1, cells := rm_X8_size.cells, slots := rm_X8_size.slots, locals := 8 + (2 + 11) + rm_X8_size.locals }
set_option maxHeartbeats 4000000 in
set_option maxRecDepth 100000 in
theorem w_size_ok {l : Launch} {G : mG} {ad : mA} {S : mS} {L : mL} {R : mR} {a0 : Int32} {post : Int32 → mS → mL → mR → Prop} (hM : Ki l yX8_size cX8_size 2 .int rm_X8_size G ad mdm [.ref (ad 0 0), .int a0] S L R post) : Kw l yL_size cL_size 4 [(0, 9, 12, 13)] rw_size G ad mdm [.ref (ad 0 0), .int a0, .ref (ad 60 0)] S L R (fun r_ S2 L2 R2 => r_ = nI 0 ∧ ∃ r L1, post r S2 L1 R2 ∧ up3 L1 60 0 0 r.toInt64 = L2) := by
  refine Kw.of RL (by decide) rfl (Nat.le_of_ble_eq_true rfl) ?_
  intro X hXl hXG C htab ret
  subst hXl; subst hXG
  change Z X 4 ad mdm S L R 0 0 0 [(0, _), (1, _), (2, _)] []
  refine z_aload_n C 0 2 2 dL_size_0 rfl rfl ?_
  refine z_iconst (v := nI 0) C 1 dL_size_1 (by decide) ?_
  refine z_aload_n C 2 0 0 dL_size_2 rfl rfl ?_
  refine z_iload_n C 3 1 1 dL_size_3 rfl rfl ?_
  refine z_cVi0 C 4 dL_size_4 cv_L_15 hM rfl ⟨by decide, rfl⟩ Nat.zero_lt_one rfl rfl (Nat.le_of_ble_eq_true rfl) ⟨Nat.le_refl _, Nat.le_refl _⟩ ⟨rfl, rfl⟩ ⟨by decide, by decide⟩ ?_
  intro r S1 L1 R1 hp
  refine z_i2l C 7 dL_size_7 rfl ?_
  refine z_last C 8 dL_size_8 rfl Nat.zero_lt_one rfl (by decide) (by decide) ?_
  refine z_goto C 9 15 dL_size_9 (by decide) ?_
  refine z_iconst (v := nI 0) C 15 dL_size_15 (by decide) ?_
  exact ret 16 _ _ _ _ _ dL_size_16 ⟨rfl, r, L1, hp, rfl⟩
def rwt_size : Room := { frames := rt_X8_size.frames + 1, cells := rt_X8_size.cells, slots := rt_X8_size.slots, locals := 8 + (2 + 11) + rt_X8_size.locals }
set_option maxHeartbeats 4000000 in
set_option maxRecDepth 100000 in
theorem w_size_t1 {l : Launch} {G : mG} {ad : mA} {S : mS} {L : mL} {R : mR} {a0 : Int32} {post : mS → mL → mR → Prop} (hM : Kt l yX8_size cX8_size 2 (some .int) rt_X8_size G ad mdm [.ref (ad 0 0), .int a0] S L R eIA post) : Kw l yL_size cL_size 4 [(0, 9, 12, 13)] rwt_size G ad mdm [.ref (ad 0 0), .int a0, .ref (ad 60 0)] S L R (fun r_ S2 L2 R2 => r_ = nI 1 ∧ post S2 L2 R2) := by
  refine Kw.of RL (by decide) rfl (Nat.le_of_ble_eq_true rfl) ?_
  intro X hXl hXG C htab ret
  subst hXl; subst hXG
  change Z X 4 ad mdm S L R 0 0 0 [(0, _), (1, _), (2, _)] []
  refine z_aload_n C 0 2 2 dL_size_0 rfl rfl ?_
  refine z_iconst (v := nI 0) C 1 dL_size_1 (by decide) ?_
  refine z_aload_n C 2 0 0 dL_size_2 rfl rfl ?_
  refine z_iload_n C 3 1 1 dL_size_3 rfl rfl ?_
  refine z_tc C htab 4 [] ⟨0, 9, 12, 13⟩ [] dL_size_4 cv_L_15 hM rfl ⟨by decide, rfl⟩ Nat.zero_lt_one rfl rfl (Nat.le_of_ble_eq_true rfl) ⟨Nat.le_refl _, Nat.le_refl _⟩ ⟨by decide, by decide⟩ rfl (fun z hz => nomatch hz) (by unfold cwE; decide) (by decide) (by decide) kl_L_13 ?_
  intro S1 L1 R1 q hp
  refine z_astore_n C 12 3 [(3, _), (0, _), (1, _), (2, _)] dL_size_12 rfl (by decide) rfl ?_
  refine z_iconst (v := nI 1) C 13 dL_size_13 (by decide) ?_
  exact ret 14 _ _ _ _ _ dL_size_14 ⟨rfl, hp⟩
theorem ww_stateAfter : mCw RL 183 yL_stateAfter cL_stateAfter 5 [(0, 10, 13, 22)] 4 := ⟨mlw_t 950 (by decide +kernel) rfl, mlw_t 951 (by decide +kernel) rfl, wi_L, mlw_t 952 (by decide +kernel) rfl, by decide +kernel⟩
def rw_stateAfter : Room := { frames := rm_X8_stateAfter.frames + 1, cells := rm_X8_stateAfter.cells, slots := rm_X8_stateAfter.slots, locals := 8 + (3 + 11) + rm_X8_stateAfter.locals }
set_option maxHeartbeats 4000000 in
set_option maxRecDepth 100000 in
theorem w_stateAfter_ok {l : Launch} {G : mG} {ad : mA} {S : mS} {L : mL} {R : mR} {a0 a1 : Int32} {post : Int32 → mS → mL → mR → Prop} (hM : Ki l yX8_stateAfter cX8_stateAfter 3 .int rm_X8_stateAfter G ad mdm [.ref (ad 0 0), .int a0, .int a1] S L R post) : Kw l yL_stateAfter cL_stateAfter 5 [(0, 10, 13, 22)] rw_stateAfter G ad mdm [.ref (ad 0 0), .int a0, .int a1, .ref (ad 60 0)] S L R (fun r_ S2 L2 R2 => r_ = nI 0 ∧ ∃ r L1, post r S2 L1 R2 ∧ up3 L1 60 0 0 r.toInt64 = L2) := by
  refine Kw.of RL (by decide) rfl (Nat.le_of_ble_eq_true rfl) ?_
  intro X hXl hXG C htab ret
  subst hXl; subst hXG
  change Z X 5 ad mdm S L R 0 0 0 [(0, _), (1, _), (2, _), (3, _)] []
  refine z_aload_n C 0 3 3 dL_stateAfter_0 rfl rfl ?_
  refine z_iconst (v := nI 0) C 1 dL_stateAfter_1 (by decide) ?_
  refine z_aload_n C 2 0 0 dL_stateAfter_2 rfl rfl ?_
  refine z_iload_n C 3 1 1 dL_stateAfter_3 rfl rfl ?_
  refine z_iload_n C 4 2 2 dL_stateAfter_4 rfl rfl ?_
  refine z_cVi0 C 5 dL_stateAfter_5 cv_L_60 hM rfl ⟨by decide, rfl⟩ Nat.zero_lt_one rfl rfl (Nat.le_of_ble_eq_true rfl) ⟨Nat.le_refl _, Nat.le_refl _⟩ ⟨rfl, rfl⟩ ⟨by decide, by decide⟩ ?_
  intro r S1 L1 R1 hp
  refine z_i2l C 8 dL_stateAfter_8 rfl ?_
  refine z_last C 9 dL_stateAfter_9 rfl Nat.zero_lt_one rfl (by decide) (by decide) ?_
  refine z_goto C 10 17 dL_stateAfter_10 (by decide) ?_
  refine z_iconst (v := nI 0) C 17 dL_stateAfter_17 (by decide) ?_
  exact ret 18 _ _ _ _ _ dL_stateAfter_18 ⟨rfl, r, L1, hp, rfl⟩
def rwt_stateAfter : Room := { frames := rt_X8_stateAfter.frames + 1, cells := rt_X8_stateAfter.cells, slots := rt_X8_stateAfter.slots, locals := 8 + (3 + 11) + rt_X8_stateAfter.locals }
set_option maxHeartbeats 4000000 in
set_option maxRecDepth 100000 in
theorem w_stateAfter_t1 {l : Launch} {G : mG} {ad : mA} {S : mS} {L : mL} {R : mR} {a0 a1 : Int32} {post : mS → mL → mR → Prop} (hM : Kt l yX8_stateAfter cX8_stateAfter 3 (some .int) rt_X8_stateAfter G ad mdm [.ref (ad 0 0), .int a0, .int a1] S L R eIO post) : Kw l yL_stateAfter cL_stateAfter 5 [(0, 10, 13, 22)] rwt_stateAfter G ad mdm [.ref (ad 0 0), .int a0, .int a1, .ref (ad 60 0)] S L R (fun r_ S2 L2 R2 => r_ = nI 1 ∧ post S2 L2 R2) := by
  refine Kw.of RL (by decide) rfl (Nat.le_of_ble_eq_true rfl) ?_
  intro X hXl hXG C htab ret
  subst hXl; subst hXG
  change Z X 5 ad mdm S L R 0 0 0 [(0, _), (1, _), (2, _), (3, _)] []
  refine z_aload_n C 0 3 3 dL_stateAfter_0 rfl rfl ?_
  refine z_iconst (v := nI 0) C 1 dL_stateAfter_1 (by decide) ?_
  refine z_aload_n C 2 0 0 dL_stateAfter_2 rfl rfl ?_
  refine z_iload_n C 3 1 1 dL_stateAfter_3 rfl rfl ?_
  refine z_iload_n C 4 2 2 dL_stateAfter_4 rfl rfl ?_
  refine z_tc C htab 5 [] ⟨0, 10, 13, 22⟩ [] dL_stateAfter_5 cv_L_60 hM rfl ⟨by decide, rfl⟩ Nat.zero_lt_one rfl rfl (Nat.le_of_ble_eq_true rfl) ⟨Nat.le_refl _, Nat.le_refl _⟩ ⟨by decide, by decide⟩ rfl (fun z hz => nomatch hz) (by unfold cwE; decide) (by decide) (by decide) kl_L_22 ?_
  intro S1 L1 R1 q hp
  refine z_astore C 13 4 [(4, _), (0, _), (1, _), (2, _), (3, _)] dL_stateAfter_13 (by decide) rfl ?_
  refine z_iconst (v := nI 1) C 15 dL_stateAfter_15 (by decide) ?_
  exact ret 16 _ _ _ _ _ dL_stateAfter_16 ⟨rfl, hp⟩
theorem ww_told : mCw RL 147 yL_told cL_told 5 [(0, 10, 13, 22), (0, 10, 17, 13)] 4 := ⟨mlw_t 727 (by decide +kernel) rfl, mlw_t 728 (by decide +kernel) rfl, wi_L, mlw_t 729 (by decide +kernel) rfl, by decide +kernel⟩
def rw_told : Room := { frames := rm_X8_told.frames + 1, cells := rm_X8_told.cells, slots := rm_X8_told.slots, locals := 8 + (3 + 11) + rm_X8_told.locals }
set_option maxHeartbeats 4000000 in
set_option maxRecDepth 100000 in
theorem w_told_ok {l : Launch} {G : mG} {ad : mA} {S : mS} {L : mL} {R : mR} {a0 a1 : Int32} {post : Int32 → mS → mL → mR → Prop} (hM : Ki l yX8_told cX8_told 3 .int rm_X8_told G ad mdm [.ref (ad 0 0), .int a0, .int a1] S L R post) : Kw l yL_told cL_told 5 [(0, 10, 13, 22), (0, 10, 17, 13)] rw_told G ad mdm [.ref (ad 0 0), .int a0, .int a1, .ref (ad 60 0)] S L R (fun r_ S2 L2 R2 => r_ = nI 0 ∧ ∃ r L1, post r S2 L1 R2 ∧ up3 L1 60 0 0 r.toInt64 = L2) := by
  refine Kw.of RL (by decide) rfl (Nat.le_of_ble_eq_true rfl) ?_
  intro X hXl hXG C htab ret
  subst hXl; subst hXG
  change Z X 5 ad mdm S L R 0 0 0 [(0, _), (1, _), (2, _), (3, _)] []
  refine z_aload_n C 0 3 3 dL_told_0 rfl rfl ?_
  refine z_iconst (v := nI 0) C 1 dL_told_1 (by decide) ?_
  refine z_aload_n C 2 0 0 dL_told_2 rfl rfl ?_
  refine z_iload_n C 3 1 1 dL_told_3 rfl rfl ?_
  refine z_iload_n C 4 2 2 dL_told_4 rfl rfl ?_
  refine z_cVi0 C 5 dL_told_5 cv_L_24 hM rfl ⟨by decide, rfl⟩ Nat.zero_lt_one rfl rfl (Nat.le_of_ble_eq_true rfl) ⟨Nat.le_refl _, Nat.le_refl _⟩ ⟨rfl, rfl⟩ ⟨by decide, by decide⟩ ?_
  intro r S1 L1 R1 hp
  refine z_i2l C 8 dL_told_8 rfl ?_
  refine z_last C 9 dL_told_9 rfl Nat.zero_lt_one rfl (by decide) (by decide) ?_
  refine z_goto C 10 21 dL_told_10 (by decide) ?_
  refine z_iconst (v := nI 0) C 21 dL_told_21 (by decide) ?_
  exact ret 22 _ _ _ _ _ dL_told_22 ⟨rfl, r, L1, hp, rfl⟩
def rwt_told : Room := { frames := rt_X8_told.frames + 1, cells := rt_X8_told.cells, slots := rt_X8_told.slots, locals := 8 + (3 + 11) + rt_X8_told.locals }
set_option maxHeartbeats 4000000 in
set_option maxRecDepth 100000 in
theorem w_told_t1 {l : Launch} {G : mG} {ad : mA} {S : mS} {L : mL} {R : mR} {a0 a1 : Int32} {post : mS → mL → mR → Prop} (hM : Kt l yX8_told cX8_told 3 (some .int) rt_X8_told G ad mdm [.ref (ad 0 0), .int a0, .int a1] S L R eIO post) : Kw l yL_told cL_told 5 [(0, 10, 13, 22), (0, 10, 17, 13)] rwt_told G ad mdm [.ref (ad 0 0), .int a0, .int a1, .ref (ad 60 0)] S L R (fun r_ S2 L2 R2 => r_ = nI 1 ∧ post S2 L2 R2) := by
  refine Kw.of RL (by decide) rfl (Nat.le_of_ble_eq_true rfl) ?_
  intro X hXl hXG C htab ret
  subst hXl; subst hXG
  change Z X 5 ad mdm S L R 0 0 0 [(0, _), (1, _), (2, _), (3, _)] []
  refine z_aload_n C 0 3 3 dL_told_0 rfl rfl ?_
  refine z_iconst (v := nI 0) C 1 dL_told_1 (by decide) ?_
  refine z_aload_n C 2 0 0 dL_told_2 rfl rfl ?_
  refine z_iload_n C 3 1 1 dL_told_3 rfl rfl ?_
  refine z_iload_n C 4 2 2 dL_told_4 rfl rfl ?_
  refine z_tc C htab 5 [] ⟨0, 10, 13, 22⟩ [⟨0, 10, 17, 13⟩] dL_told_5 cv_L_24 hM rfl ⟨by decide, rfl⟩ Nat.zero_lt_one rfl rfl (Nat.le_of_ble_eq_true rfl) ⟨Nat.le_refl _, Nat.le_refl _⟩ ⟨by decide, by decide⟩ rfl (fun z hz => nomatch hz) (by unfold cwE; decide) (by decide) (by decide) kl_L_22 ?_
  intro S1 L1 R1 q hp
  refine z_astore C 13 4 [(4, _), (0, _), (1, _), (2, _), (3, _)] dL_told_13 (by decide) rfl ?_
  refine z_iconst (v := nI 1) C 15 dL_told_15 (by decide) ?_
  exact ret 16 _ _ _ _ _ dL_told_16 ⟨rfl, hp⟩
set_option maxHeartbeats 4000000 in
set_option maxRecDepth 100000 in
theorem w_told_t2 {l : Launch} {G : mG} {ad : mA} {S : mS} {L : mL} {R : mR} {a0 a1 : Int32} {post : mS → mL → mR → Prop} (hM : Kt l yX8_told cX8_told 3 (some .int) rt_X8_told G ad mdm [.ref (ad 0 0), .int a0, .int a1] S L R eIA post) : Kw l yL_told cL_told 5 [(0, 10, 13, 22), (0, 10, 17, 13)] rwt_told G ad mdm [.ref (ad 0 0), .int a0, .int a1, .ref (ad 60 0)] S L R (fun r_ S2 L2 R2 => r_ = nI 2 ∧ post S2 L2 R2) := by
  refine Kw.of RL (by decide) rfl (Nat.le_of_ble_eq_true rfl) ?_
  intro X hXl hXG C htab ret
  subst hXl; subst hXG
  change Z X 5 ad mdm S L R 0 0 0 [(0, _), (1, _), (2, _), (3, _)] []
  refine z_aload_n C 0 3 3 dL_told_0 rfl rfl ?_
  refine z_iconst (v := nI 0) C 1 dL_told_1 (by decide) ?_
  refine z_aload_n C 2 0 0 dL_told_2 rfl rfl ?_
  refine z_iload_n C 3 1 1 dL_told_3 rfl rfl ?_
  refine z_iload_n C 4 2 2 dL_told_4 rfl rfl ?_
  refine z_tc C htab 5 [⟨0, 10, 13, 22⟩] ⟨0, 10, 17, 13⟩ [] dL_told_5 cv_L_24 hM rfl ⟨by decide, rfl⟩ Nat.zero_lt_one rfl rfl (Nat.le_of_ble_eq_true rfl) ⟨Nat.le_refl _, Nat.le_refl _⟩ ⟨by decide, by decide⟩ rfl (fun z hz => by rw [List.mem_singleton.mp hz]; exact ⟨by decide, eIO, kl_L_22, by unfold cwE; decide, by decide⟩) (by unfold cwE; decide) (by decide) (by decide) kl_L_13 ?_
  intro S1 L1 R1 q hp
  refine z_astore C 17 4 [(4, _), (0, _), (1, _), (2, _), (3, _)] dL_told_17 (by decide) rfl ?_
  refine z_iconst (v := nI 2) C 19 dL_told_19 (by decide) ?_
  exact ret 20 _ _ _ _ _ dL_told_20 ⟨rfl, hp⟩
theorem ww_touch : mCw RL 206 yL_touch cL_touch 4 [(0, 9, 12, 13), (0, 9, 15, 76)] 3 := ⟨mlw_t 1037 (by decide +kernel) rfl, mlw_t 1038 (by decide +kernel) rfl, wi_L, mlw_t 1039 (by decide +kernel) rfl, by decide +kernel⟩
def rw_touch : Room := { frames := rm_X8_touch.frames + 1, cells := rm_X8_touch.cells, slots := rm_X8_touch.slots, locals := 8 + (3 + 11) + rm_X8_touch.locals }
set_option maxHeartbeats 4000000 in
set_option maxRecDepth 100000 in
theorem w_touch_ok {l : Launch} {G : mG} {ad : mA} {S : mS} {L : mL} {R : mR} {a0 : Int32} {post : Int32 → mS → mL → mR → Prop} (hM : Ki l yX8_touch cX8_touch 3 .int rm_X8_touch G ad mdm [.ref (ad 0 0), .int a0] S L R post) : Kw l yL_touch cL_touch 4 [(0, 9, 12, 13), (0, 9, 15, 76)] rw_touch G ad mdm [.ref (ad 0 0), .int a0, .ref (ad 60 0)] S L R (fun r_ S2 L2 R2 => r_ = nI 0 ∧ ∃ r L1, post r S2 L1 R2 ∧ up3 L1 60 0 0 r.toInt64 = L2) := by
  refine Kw.of RL (by decide) rfl (Nat.le_of_ble_eq_true rfl) ?_
  intro X hXl hXG C htab ret
  subst hXl; subst hXG
  change Z X 4 ad mdm S L R 0 0 0 [(0, _), (1, _), (2, _)] []
  refine z_aload_n C 0 2 2 dL_touch_0 rfl rfl ?_
  refine z_iconst (v := nI 0) C 1 dL_touch_1 (by decide) ?_
  refine z_aload_n C 2 0 0 dL_touch_2 rfl rfl ?_
  refine z_iload_n C 3 1 1 dL_touch_3 rfl rfl ?_
  refine z_cVi0 C 4 dL_touch_4 cv_L_81 hM rfl ⟨by decide, rfl⟩ Nat.zero_lt_one rfl rfl (Nat.le_of_ble_eq_true rfl) ⟨Nat.le_refl _, Nat.le_refl _⟩ ⟨rfl, rfl⟩ ⟨by decide, by decide⟩ ?_
  intro r S1 L1 R1 hp
  refine z_i2l C 7 dL_touch_7 rfl ?_
  refine z_last C 8 dL_touch_8 rfl Nat.zero_lt_one rfl (by decide) (by decide) ?_
  refine z_goto C 9 18 dL_touch_9 (by decide) ?_
  refine z_iconst (v := nI 0) C 18 dL_touch_18 (by decide) ?_
  exact ret 19 _ _ _ _ _ dL_touch_19 ⟨rfl, r, L1, hp, rfl⟩
def rwt_touch : Room := { frames := rt_X8_touch.frames + 1, cells := rt_X8_touch.cells, slots := rt_X8_touch.slots, locals := 8 + (3 + 11) + rt_X8_touch.locals }
set_option maxHeartbeats 4000000 in
set_option maxRecDepth 100000 in
theorem w_touch_t1 {l : Launch} {G : mG} {ad : mA} {S : mS} {L : mL} {R : mR} {a0 : Int32} {post : mS → mL → mR → Prop} (hM : Kt l yX8_touch cX8_touch 3 (some .int) rt_X8_touch G ad mdm [.ref (ad 0 0), .int a0] S L R eIA post) : Kw l yL_touch cL_touch 4 [(0, 9, 12, 13), (0, 9, 15, 76)] rwt_touch G ad mdm [.ref (ad 0 0), .int a0, .ref (ad 60 0)] S L R (fun r_ S2 L2 R2 => r_ = nI 1 ∧ post S2 L2 R2) := by
  refine Kw.of RL (by decide) rfl (Nat.le_of_ble_eq_true rfl) ?_
  intro X hXl hXG C htab ret
  subst hXl; subst hXG
  change Z X 4 ad mdm S L R 0 0 0 [(0, _), (1, _), (2, _)] []
  refine z_aload_n C 0 2 2 dL_touch_0 rfl rfl ?_
  refine z_iconst (v := nI 0) C 1 dL_touch_1 (by decide) ?_
  refine z_aload_n C 2 0 0 dL_touch_2 rfl rfl ?_
  refine z_iload_n C 3 1 1 dL_touch_3 rfl rfl ?_
  refine z_tc C htab 4 [] ⟨0, 9, 12, 13⟩ [⟨0, 9, 15, 76⟩] dL_touch_4 cv_L_81 hM rfl ⟨by decide, rfl⟩ Nat.zero_lt_one rfl rfl (Nat.le_of_ble_eq_true rfl) ⟨Nat.le_refl _, Nat.le_refl _⟩ ⟨by decide, by decide⟩ rfl (fun z hz => nomatch hz) (by unfold cwE; decide) (by decide) (by decide) kl_L_13 ?_
  intro S1 L1 R1 q hp
  refine z_astore_n C 12 3 [(3, _), (0, _), (1, _), (2, _)] dL_touch_12 rfl (by decide) rfl ?_
  refine z_iconst (v := nI 1) C 13 dL_touch_13 (by decide) ?_
  exact ret 14 _ _ _ _ _ dL_touch_14 ⟨rfl, hp⟩
set_option maxHeartbeats 4000000 in
set_option maxRecDepth 100000 in
theorem w_touch_t2 {l : Launch} {G : mG} {ad : mA} {S : mS} {L : mL} {R : mR} {a0 : Int32} {post : mS → mL → mR → Prop} (hM : Kt l yX8_touch cX8_touch 3 (some .int) rt_X8_touch G ad mdm [.ref (ad 0 0), .int a0] S L R eIS post) : Kw l yL_touch cL_touch 4 [(0, 9, 12, 13), (0, 9, 15, 76)] rwt_touch G ad mdm [.ref (ad 0 0), .int a0, .ref (ad 60 0)] S L R (fun r_ S2 L2 R2 => r_ = nI 2 ∧ post S2 L2 R2) := by
  refine Kw.of RL (by decide) rfl (Nat.le_of_ble_eq_true rfl) ?_
  intro X hXl hXG C htab ret
  subst hXl; subst hXG
  change Z X 4 ad mdm S L R 0 0 0 [(0, _), (1, _), (2, _)] []
  refine z_aload_n C 0 2 2 dL_touch_0 rfl rfl ?_
  refine z_iconst (v := nI 0) C 1 dL_touch_1 (by decide) ?_
  refine z_aload_n C 2 0 0 dL_touch_2 rfl rfl ?_
  refine z_iload_n C 3 1 1 dL_touch_3 rfl rfl ?_
  refine z_tc C htab 4 [⟨0, 9, 12, 13⟩] ⟨0, 9, 15, 76⟩ [] dL_touch_4 cv_L_81 hM rfl ⟨by decide, rfl⟩ Nat.zero_lt_one rfl rfl (Nat.le_of_ble_eq_true rfl) ⟨Nat.le_refl _, Nat.le_refl _⟩ ⟨by decide, by decide⟩ rfl (fun z hz => by rw [List.mem_singleton.mp hz]; exact ⟨by decide, eIA, kl_L_13, by unfold cwE; decide, by decide⟩) (by unfold cwE; decide) (by decide) (by decide) kl_L_76 ?_
  intro S1 L1 R1 q hp
  refine z_astore_n C 15 3 [(3, _), (0, _), (1, _), (2, _)] dL_touch_15 rfl (by decide) rfl ?_
  refine z_iconst (v := nI 2) C 16 dL_touch_16 (by decide) ?_
  exact ret 17 _ _ _ _ _ dL_touch_17 ⟨rfl, hp⟩
theorem ww_trim : mCw RL 220 yL_trim cL_trim 4 [(0, 9, 12, 13), (0, 9, 15, 76)] 3 := ⟨mlw_t 1088 (by decide +kernel) rfl, mlw_t 1089 (by decide +kernel) rfl, wi_L, mlw_t 1090 (by decide +kernel) rfl, by decide +kernel⟩
def rw_trim : Room := { frames := rm_X8_trim.frames + 1, cells := rm_X8_trim.cells, slots := rm_X8_trim.slots, locals := 8 + (3 + 11) + rm_X8_trim.locals }
set_option maxHeartbeats 4000000 in
set_option maxRecDepth 100000 in
theorem w_trim_ok {l : Launch} {G : mG} {ad : mA} {S : mS} {L : mL} {R : mR} {a0 : Int32} {post : Int32 → mS → mL → mR → Prop} (hM : Ki l yX8_trim cX8_trim 3 .int rm_X8_trim G ad mdm [.ref (ad 0 0), .int a0] S L R post) : Kw l yL_trim cL_trim 4 [(0, 9, 12, 13), (0, 9, 15, 76)] rw_trim G ad mdm [.ref (ad 0 0), .int a0, .ref (ad 60 0)] S L R (fun r_ S2 L2 R2 => r_ = nI 0 ∧ ∃ r L1, post r S2 L1 R2 ∧ up3 L1 60 0 0 r.toInt64 = L2) := by
  refine Kw.of RL (by decide) rfl (Nat.le_of_ble_eq_true rfl) ?_
  intro X hXl hXG C htab ret
  subst hXl; subst hXG
  change Z X 4 ad mdm S L R 0 0 0 [(0, _), (1, _), (2, _)] []
  refine z_aload_n C 0 2 2 dL_trim_0 rfl rfl ?_
  refine z_iconst (v := nI 0) C 1 dL_trim_1 (by decide) ?_
  refine z_aload_n C 2 0 0 dL_trim_2 rfl rfl ?_
  refine z_iload_n C 3 1 1 dL_trim_3 rfl rfl ?_
  refine z_cVi0 C 4 dL_trim_4 cv_L_95 hM rfl ⟨by decide, rfl⟩ Nat.zero_lt_one rfl rfl (Nat.le_of_ble_eq_true rfl) ⟨Nat.le_refl _, Nat.le_refl _⟩ ⟨rfl, rfl⟩ ⟨by decide, by decide⟩ ?_
  intro r S1 L1 R1 hp
  refine z_i2l C 7 dL_trim_7 rfl ?_
  refine z_last C 8 dL_trim_8 rfl Nat.zero_lt_one rfl (by decide) (by decide) ?_
  refine z_goto C 9 18 dL_trim_9 (by decide) ?_
  refine z_iconst (v := nI 0) C 18 dL_trim_18 (by decide) ?_
  exact ret 19 _ _ _ _ _ dL_trim_19 ⟨rfl, r, L1, hp, rfl⟩
def rwt_trim : Room := { frames := rt_X8_trim.frames + 1, cells := rt_X8_trim.cells, slots := rt_X8_trim.slots, locals := 8 + (3 + 11) + rt_X8_trim.locals }
set_option maxHeartbeats 4000000 in
set_option maxRecDepth 100000 in
theorem w_trim_t1 {l : Launch} {G : mG} {ad : mA} {S : mS} {L : mL} {R : mR} {a0 : Int32} {post : mS → mL → mR → Prop} (hM : Kt l yX8_trim cX8_trim 3 (some .int) rt_X8_trim G ad mdm [.ref (ad 0 0), .int a0] S L R eIA post) : Kw l yL_trim cL_trim 4 [(0, 9, 12, 13), (0, 9, 15, 76)] rwt_trim G ad mdm [.ref (ad 0 0), .int a0, .ref (ad 60 0)] S L R (fun r_ S2 L2 R2 => r_ = nI 1 ∧ post S2 L2 R2) := by
  refine Kw.of RL (by decide) rfl (Nat.le_of_ble_eq_true rfl) ?_
  intro X hXl hXG C htab ret
  subst hXl; subst hXG
  change Z X 4 ad mdm S L R 0 0 0 [(0, _), (1, _), (2, _)] []
  refine z_aload_n C 0 2 2 dL_trim_0 rfl rfl ?_
  refine z_iconst (v := nI 0) C 1 dL_trim_1 (by decide) ?_
  refine z_aload_n C 2 0 0 dL_trim_2 rfl rfl ?_
  refine z_iload_n C 3 1 1 dL_trim_3 rfl rfl ?_
  refine z_tc C htab 4 [] ⟨0, 9, 12, 13⟩ [⟨0, 9, 15, 76⟩] dL_trim_4 cv_L_95 hM rfl ⟨by decide, rfl⟩ Nat.zero_lt_one rfl rfl (Nat.le_of_ble_eq_true rfl) ⟨Nat.le_refl _, Nat.le_refl _⟩ ⟨by decide, by decide⟩ rfl (fun z hz => nomatch hz) (by unfold cwE; decide) (by decide) (by decide) kl_L_13 ?_
  intro S1 L1 R1 q hp
  refine z_astore_n C 12 3 [(3, _), (0, _), (1, _), (2, _)] dL_trim_12 rfl (by decide) rfl ?_
  refine z_iconst (v := nI 1) C 13 dL_trim_13 (by decide) ?_
  exact ret 14 _ _ _ _ _ dL_trim_14 ⟨rfl, hp⟩
set_option maxHeartbeats 4000000 in
set_option maxRecDepth 100000 in
theorem w_trim_t2 {l : Launch} {G : mG} {ad : mA} {S : mS} {L : mL} {R : mR} {a0 : Int32} {post : mS → mL → mR → Prop} (hM : Kt l yX8_trim cX8_trim 3 (some .int) rt_X8_trim G ad mdm [.ref (ad 0 0), .int a0] S L R eIS post) : Kw l yL_trim cL_trim 4 [(0, 9, 12, 13), (0, 9, 15, 76)] rwt_trim G ad mdm [.ref (ad 0 0), .int a0, .ref (ad 60 0)] S L R (fun r_ S2 L2 R2 => r_ = nI 2 ∧ post S2 L2 R2) := by
  refine Kw.of RL (by decide) rfl (Nat.le_of_ble_eq_true rfl) ?_
  intro X hXl hXG C htab ret
  subst hXl; subst hXG
  change Z X 4 ad mdm S L R 0 0 0 [(0, _), (1, _), (2, _)] []
  refine z_aload_n C 0 2 2 dL_trim_0 rfl rfl ?_
  refine z_iconst (v := nI 0) C 1 dL_trim_1 (by decide) ?_
  refine z_aload_n C 2 0 0 dL_trim_2 rfl rfl ?_
  refine z_iload_n C 3 1 1 dL_trim_3 rfl rfl ?_
  refine z_tc C htab 4 [⟨0, 9, 12, 13⟩] ⟨0, 9, 15, 76⟩ [] dL_trim_4 cv_L_95 hM rfl ⟨by decide, rfl⟩ Nat.zero_lt_one rfl rfl (Nat.le_of_ble_eq_true rfl) ⟨Nat.le_refl _, Nat.le_refl _⟩ ⟨by decide, by decide⟩ rfl (fun z hz => by rw [List.mem_singleton.mp hz]; exact ⟨by decide, eIA, kl_L_13, by unfold cwE; decide, by decide⟩) (by unfold cwE; decide) (by decide) (by decide) kl_L_76 ?_
  intro S1 L1 R1 q hp
  refine z_astore_n C 15 3 [(3, _), (0, _), (1, _), (2, _)] dL_trim_15 rfl (by decide) rfl ?_
  refine z_iconst (v := nI 2) C 16 dL_trim_16 (by decide) ?_
  exact ret 17 _ _ _ _ _ dL_trim_17 ⟨rfl, hp⟩
theorem ww_trimsFor : mCw RL 180 yL_trimsFor cL_trimsFor 4 [(0, 9, 12, 22)] 3 := ⟨mlw_t 939 (by decide +kernel) rfl, mlw_t 940 (by decide +kernel) rfl, wi_L, mlw_t 941 (by decide +kernel) rfl, by decide +kernel⟩
def rw_trimsFor : Room := { frames := rm_X8_trimsFor.frames + 1, cells := rm_X8_trimsFor.cells, slots := rm_X8_trimsFor.slots, locals := 8 + (2 + 11) + rm_X8_trimsFor.locals }
set_option maxHeartbeats 4000000 in
set_option maxRecDepth 100000 in
theorem w_trimsFor_ok {l : Launch} {G : mG} {ad : mA} {S : mS} {L : mL} {R : mR} {a0 : Int32} {post : Int32 → mS → mL → mR → Prop} (hM : Ki l yX8_trimsFor cX8_trimsFor 2 .int rm_X8_trimsFor G ad mdm [.ref (ad 0 0), .int a0] S L R post) : Kw l yL_trimsFor cL_trimsFor 4 [(0, 9, 12, 22)] rw_trimsFor G ad mdm [.ref (ad 0 0), .int a0, .ref (ad 60 0)] S L R (fun r_ S2 L2 R2 => r_ = nI 0 ∧ ∃ r L1, post r S2 L1 R2 ∧ up3 L1 60 0 0 r.toInt64 = L2) := by
  refine Kw.of RL (by decide) rfl (Nat.le_of_ble_eq_true rfl) ?_
  intro X hXl hXG C htab ret
  subst hXl; subst hXG
  change Z X 4 ad mdm S L R 0 0 0 [(0, _), (1, _), (2, _)] []
  refine z_aload_n C 0 2 2 dL_trimsFor_0 rfl rfl ?_
  refine z_iconst (v := nI 0) C 1 dL_trimsFor_1 (by decide) ?_
  refine z_aload_n C 2 0 0 dL_trimsFor_2 rfl rfl ?_
  refine z_iload_n C 3 1 1 dL_trimsFor_3 rfl rfl ?_
  refine z_cVi0 C 4 dL_trimsFor_4 cv_L_57 hM rfl ⟨by decide, rfl⟩ Nat.zero_lt_one rfl rfl (Nat.le_of_ble_eq_true rfl) ⟨Nat.le_refl _, Nat.le_refl _⟩ ⟨rfl, rfl⟩ ⟨by decide, by decide⟩ ?_
  intro r S1 L1 R1 hp
  refine z_i2l C 7 dL_trimsFor_7 rfl ?_
  refine z_last C 8 dL_trimsFor_8 rfl Nat.zero_lt_one rfl (by decide) (by decide) ?_
  refine z_goto C 9 15 dL_trimsFor_9 (by decide) ?_
  refine z_iconst (v := nI 0) C 15 dL_trimsFor_15 (by decide) ?_
  exact ret 16 _ _ _ _ _ dL_trimsFor_16 ⟨rfl, r, L1, hp, rfl⟩
def rwt_trimsFor : Room := { frames := rt_X8_trimsFor.frames + 1, cells := rt_X8_trimsFor.cells, slots := rt_X8_trimsFor.slots, locals := 8 + (2 + 11) + rt_X8_trimsFor.locals }
set_option maxHeartbeats 4000000 in
set_option maxRecDepth 100000 in
theorem w_trimsFor_t1 {l : Launch} {G : mG} {ad : mA} {S : mS} {L : mL} {R : mR} {a0 : Int32} {post : mS → mL → mR → Prop} (hM : Kt l yX8_trimsFor cX8_trimsFor 2 (some .int) rt_X8_trimsFor G ad mdm [.ref (ad 0 0), .int a0] S L R eIO post) : Kw l yL_trimsFor cL_trimsFor 4 [(0, 9, 12, 22)] rwt_trimsFor G ad mdm [.ref (ad 0 0), .int a0, .ref (ad 60 0)] S L R (fun r_ S2 L2 R2 => r_ = nI 1 ∧ post S2 L2 R2) := by
  refine Kw.of RL (by decide) rfl (Nat.le_of_ble_eq_true rfl) ?_
  intro X hXl hXG C htab ret
  subst hXl; subst hXG
  change Z X 4 ad mdm S L R 0 0 0 [(0, _), (1, _), (2, _)] []
  refine z_aload_n C 0 2 2 dL_trimsFor_0 rfl rfl ?_
  refine z_iconst (v := nI 0) C 1 dL_trimsFor_1 (by decide) ?_
  refine z_aload_n C 2 0 0 dL_trimsFor_2 rfl rfl ?_
  refine z_iload_n C 3 1 1 dL_trimsFor_3 rfl rfl ?_
  refine z_tc C htab 4 [] ⟨0, 9, 12, 22⟩ [] dL_trimsFor_4 cv_L_57 hM rfl ⟨by decide, rfl⟩ Nat.zero_lt_one rfl rfl (Nat.le_of_ble_eq_true rfl) ⟨Nat.le_refl _, Nat.le_refl _⟩ ⟨by decide, by decide⟩ rfl (fun z hz => nomatch hz) (by unfold cwE; decide) (by decide) (by decide) kl_L_22 ?_
  intro S1 L1 R1 q hp
  refine z_astore_n C 12 3 [(3, _), (0, _), (1, _), (2, _)] dL_trimsFor_12 rfl (by decide) rfl ?_
  refine z_iconst (v := nI 1) C 13 dL_trimsFor_13 (by decide) ?_
  exact ret 14 _ _ _ _ _ dL_trimsFor_14 ⟨rfl, hp⟩
theorem ww_victim : mCw RL 168 yL_victim cL_victim 4 [(0, 9, 12, 13)] 3 := ⟨mlw_t 806 (by decide +kernel) rfl, mlw_t 807 (by decide +kernel) rfl, wi_L, mlw_t 808 (by decide +kernel) rfl, by decide +kernel⟩
def rw_victim : Room := { frames := rm_X8_victim.frames + 1, cells := rm_X8_victim.cells, slots := rm_X8_victim.slots, locals := 8 + (2 + 11) + rm_X8_victim.locals }
set_option maxHeartbeats 4000000 in
set_option maxRecDepth 100000 in
theorem w_victim_ok {l : Launch} {G : mG} {ad : mA} {S : mS} {L : mL} {R : mR} {a0 : Int32} {post : Int32 → mS → mL → mR → Prop} (hM : Ki l yX8_victim cX8_victim 2 .int rm_X8_victim G ad mdm [.ref (ad 0 0), .int a0] S L R post) : Kw l yL_victim cL_victim 4 [(0, 9, 12, 13)] rw_victim G ad mdm [.ref (ad 0 0), .int a0, .ref (ad 60 0)] S L R (fun r_ S2 L2 R2 => r_ = nI 0 ∧ ∃ r L1, post r S2 L1 R2 ∧ up3 L1 60 0 0 r.toInt64 = L2) := by
  refine Kw.of RL (by decide) rfl (Nat.le_of_ble_eq_true rfl) ?_
  intro X hXl hXG C htab ret
  subst hXl; subst hXG
  change Z X 4 ad mdm S L R 0 0 0 [(0, _), (1, _), (2, _)] []
  refine z_aload_n C 0 2 2 dL_victim_0 rfl rfl ?_
  refine z_iconst (v := nI 0) C 1 dL_victim_1 (by decide) ?_
  refine z_aload_n C 2 0 0 dL_victim_2 rfl rfl ?_
  refine z_iload_n C 3 1 1 dL_victim_3 rfl rfl ?_
  refine z_cVi0 C 4 dL_victim_4 cv_L_45 hM rfl ⟨by decide, rfl⟩ Nat.zero_lt_one rfl rfl (Nat.le_of_ble_eq_true rfl) ⟨Nat.le_refl _, Nat.le_refl _⟩ ⟨rfl, rfl⟩ ⟨by decide, by decide⟩ ?_
  intro r S1 L1 R1 hp
  refine z_i2l C 7 dL_victim_7 rfl ?_
  refine z_last C 8 dL_victim_8 rfl Nat.zero_lt_one rfl (by decide) (by decide) ?_
  refine z_goto C 9 15 dL_victim_9 (by decide) ?_
  refine z_iconst (v := nI 0) C 15 dL_victim_15 (by decide) ?_
  exact ret 16 _ _ _ _ _ dL_victim_16 ⟨rfl, r, L1, hp, rfl⟩
def rwt_victim : Room := { frames := rt_X8_victim.frames + 1, cells := rt_X8_victim.cells, slots := rt_X8_victim.slots, locals := 8 + (2 + 11) + rt_X8_victim.locals }
set_option maxHeartbeats 4000000 in
set_option maxRecDepth 100000 in
theorem w_victim_t1 {l : Launch} {G : mG} {ad : mA} {S : mS} {L : mL} {R : mR} {a0 : Int32} {post : mS → mL → mR → Prop} (hM : Kt l yX8_victim cX8_victim 2 (some .int) rt_X8_victim G ad mdm [.ref (ad 0 0), .int a0] S L R eIA post) : Kw l yL_victim cL_victim 4 [(0, 9, 12, 13)] rwt_victim G ad mdm [.ref (ad 0 0), .int a0, .ref (ad 60 0)] S L R (fun r_ S2 L2 R2 => r_ = nI 1 ∧ post S2 L2 R2) := by
  refine Kw.of RL (by decide) rfl (Nat.le_of_ble_eq_true rfl) ?_
  intro X hXl hXG C htab ret
  subst hXl; subst hXG
  change Z X 4 ad mdm S L R 0 0 0 [(0, _), (1, _), (2, _)] []
  refine z_aload_n C 0 2 2 dL_victim_0 rfl rfl ?_
  refine z_iconst (v := nI 0) C 1 dL_victim_1 (by decide) ?_
  refine z_aload_n C 2 0 0 dL_victim_2 rfl rfl ?_
  refine z_iload_n C 3 1 1 dL_victim_3 rfl rfl ?_
  refine z_tc C htab 4 [] ⟨0, 9, 12, 13⟩ [] dL_victim_4 cv_L_45 hM rfl ⟨by decide, rfl⟩ Nat.zero_lt_one rfl rfl (Nat.le_of_ble_eq_true rfl) ⟨Nat.le_refl _, Nat.le_refl _⟩ ⟨by decide, by decide⟩ rfl (fun z hz => nomatch hz) (by unfold cwE; decide) (by decide) (by decide) kl_L_13 ?_
  intro S1 L1 R1 q hp
  refine z_astore_n C 12 3 [(3, _), (0, _), (1, _), (2, _)] dL_victim_12 rfl (by decide) rfl ?_
  refine z_iconst (v := nI 1) C 13 dL_victim_13 (by decide) ?_
  exact ret 14 _ _ _ _ _ dL_victim_14 ⟨rfl, hp⟩
theorem ww_waitOf : mCw RL 174 yL_waitOf cL_waitOf 4 [(0, 9, 12, 22)] 3 := ⟨mlw_t 856 (by decide +kernel) rfl, mlw_t 857 (by decide +kernel) rfl, wi_L, mlw_t 858 (by decide +kernel) rfl, by decide +kernel⟩
def rw_waitOf : Room := { frames := rm_X8_waitOf.frames + 1, cells := rm_X8_waitOf.cells, slots := rm_X8_waitOf.slots, locals := 8 + (2 + 11) + rm_X8_waitOf.locals }
set_option maxHeartbeats 4000000 in
set_option maxRecDepth 100000 in
theorem w_waitOf_ok {l : Launch} {G : mG} {ad : mA} {S : mS} {L : mL} {R : mR} {a0 : Int32} {post : Int32 → mS → mL → mR → Prop} (hM : Ki l yX8_waitOf cX8_waitOf 2 .int rm_X8_waitOf G ad mdm [.ref (ad 0 0), .int a0] S L R post) : Kw l yL_waitOf cL_waitOf 4 [(0, 9, 12, 22)] rw_waitOf G ad mdm [.ref (ad 0 0), .int a0, .ref (ad 60 0)] S L R (fun r_ S2 L2 R2 => r_ = nI 0 ∧ ∃ r L1, post r S2 L1 R2 ∧ up3 L1 60 0 0 r.toInt64 = L2) := by
  refine Kw.of RL (by decide) rfl (Nat.le_of_ble_eq_true rfl) ?_
  intro X hXl hXG C htab ret
  subst hXl; subst hXG
  change Z X 4 ad mdm S L R 0 0 0 [(0, _), (1, _), (2, _)] []
  refine z_aload_n C 0 2 2 dL_waitOf_0 rfl rfl ?_
  refine z_iconst (v := nI 0) C 1 dL_waitOf_1 (by decide) ?_
  refine z_aload_n C 2 0 0 dL_waitOf_2 rfl rfl ?_
  refine z_iload_n C 3 1 1 dL_waitOf_3 rfl rfl ?_
  refine z_cVi0 C 4 dL_waitOf_4 cv_L_51 hM rfl ⟨by decide, rfl⟩ Nat.zero_lt_one rfl rfl (Nat.le_of_ble_eq_true rfl) ⟨Nat.le_refl _, Nat.le_refl _⟩ ⟨rfl, rfl⟩ ⟨by decide, by decide⟩ ?_
  intro r S1 L1 R1 hp
  refine z_i2l C 7 dL_waitOf_7 rfl ?_
  refine z_last C 8 dL_waitOf_8 rfl Nat.zero_lt_one rfl (by decide) (by decide) ?_
  refine z_goto C 9 15 dL_waitOf_9 (by decide) ?_
  refine z_iconst (v := nI 0) C 15 dL_waitOf_15 (by decide) ?_
  exact ret 16 _ _ _ _ _ dL_waitOf_16 ⟨rfl, r, L1, hp, rfl⟩
def rwt_waitOf : Room := { frames := rt_X8_waitOf.frames + 1, cells := rt_X8_waitOf.cells, slots := rt_X8_waitOf.slots, locals := 8 + (2 + 11) + rt_X8_waitOf.locals }
set_option maxHeartbeats 4000000 in
set_option maxRecDepth 100000 in
theorem w_waitOf_t1 {l : Launch} {G : mG} {ad : mA} {S : mS} {L : mL} {R : mR} {a0 : Int32} {post : mS → mL → mR → Prop} (hM : Kt l yX8_waitOf cX8_waitOf 2 (some .int) rt_X8_waitOf G ad mdm [.ref (ad 0 0), .int a0] S L R eIO post) : Kw l yL_waitOf cL_waitOf 4 [(0, 9, 12, 22)] rwt_waitOf G ad mdm [.ref (ad 0 0), .int a0, .ref (ad 60 0)] S L R (fun r_ S2 L2 R2 => r_ = nI 1 ∧ post S2 L2 R2) := by
  refine Kw.of RL (by decide) rfl (Nat.le_of_ble_eq_true rfl) ?_
  intro X hXl hXG C htab ret
  subst hXl; subst hXG
  change Z X 4 ad mdm S L R 0 0 0 [(0, _), (1, _), (2, _)] []
  refine z_aload_n C 0 2 2 dL_waitOf_0 rfl rfl ?_
  refine z_iconst (v := nI 0) C 1 dL_waitOf_1 (by decide) ?_
  refine z_aload_n C 2 0 0 dL_waitOf_2 rfl rfl ?_
  refine z_iload_n C 3 1 1 dL_waitOf_3 rfl rfl ?_
  refine z_tc C htab 4 [] ⟨0, 9, 12, 22⟩ [] dL_waitOf_4 cv_L_51 hM rfl ⟨by decide, rfl⟩ Nat.zero_lt_one rfl rfl (Nat.le_of_ble_eq_true rfl) ⟨Nat.le_refl _, Nat.le_refl _⟩ ⟨by decide, by decide⟩ rfl (fun z hz => nomatch hz) (by unfold cwE; decide) (by decide) (by decide) kl_L_22 ?_
  intro S1 L1 R1 q hp
  refine z_astore_n C 12 3 [(3, _), (0, _), (1, _), (2, _)] dL_waitOf_12 rfl (by decide) rfl ?_
  refine z_iconst (v := nI 1) C 13 dL_waitOf_13 (by decide) ?_
  exact ret 14 _ _ _ _ _ dL_waitOf_14 ⟨rfl, hp⟩
theorem ww_waitsFor : mCw RL 186 yL_waitsFor cL_waitsFor 7 [(0, 14, 17, 22), (0, 14, 21, 13)] 6 := ⟨mlw_t 957 (by decide +kernel) rfl, mlw_t 958 (by decide +kernel) rfl, wi_L, mlw_t 959 (by decide +kernel) rfl, by decide +kernel⟩
def rw_waitsFor : Room := { frames := rm_X8_waitsFor.frames + 1, cells := rm_X8_waitsFor.cells, slots := rm_X8_waitsFor.slots, locals := 8 + (5 + 11) + rm_X8_waitsFor.locals }
set_option maxHeartbeats 4000000 in
set_option maxRecDepth 100000 in
theorem w_waitsFor_ok {l : Launch} {G : mG} {ad : mA} {S : mS} {L : mL} {R : mR} {a0 a1 a2 a3 : Int32} {post : Int32 → mS → mL → mR → Prop} (hM : Ki l yX8_waitsFor cX8_waitsFor 5 .int rm_X8_waitsFor G ad mdm [.ref (ad 0 0), .int a0, .int a1, .int a2, .int a3] S L R post) : Kw l yL_waitsFor cL_waitsFor 7 [(0, 14, 17, 22), (0, 14, 21, 13)] rw_waitsFor G ad mdm [.ref (ad 0 0), .int a0, .int a1, .int a2, .int a3, .ref (ad 60 0)] S L R (fun r_ S2 L2 R2 => r_ = nI 0 ∧ ∃ r L1, post r S2 L1 R2 ∧ up3 L1 60 0 0 r.toInt64 = L2) := by
  refine Kw.of RL (by decide) rfl (Nat.le_of_ble_eq_true rfl) ?_
  intro X hXl hXG C htab ret
  subst hXl; subst hXG
  change Z X 7 ad mdm S L R 0 0 0 [(0, _), (1, _), (2, _), (3, _), (4, _), (5, _)] []
  refine z_aload C 0 5 5 dL_waitsFor_0 rfl ?_
  refine z_iconst (v := nI 0) C 2 dL_waitsFor_2 (by decide) ?_
  refine z_aload_n C 3 0 0 dL_waitsFor_3 rfl rfl ?_
  refine z_iload_n C 4 1 1 dL_waitsFor_4 rfl rfl ?_
  refine z_iload_n C 5 2 2 dL_waitsFor_5 rfl rfl ?_
  refine z_iload_n C 6 3 3 dL_waitsFor_6 rfl rfl ?_
  refine z_iload C 7 4 4 dL_waitsFor_7 rfl ?_
  refine z_cVi0 C 9 dL_waitsFor_9 cv_L_63 hM rfl ⟨by decide, rfl⟩ Nat.zero_lt_one rfl rfl (Nat.le_of_ble_eq_true rfl) ⟨Nat.le_refl _, Nat.le_refl _⟩ ⟨rfl, rfl⟩ ⟨by decide, by decide⟩ ?_
  intro r S1 L1 R1 hp
  refine z_i2l C 12 dL_waitsFor_12 rfl ?_
  refine z_last C 13 dL_waitsFor_13 rfl Nat.zero_lt_one rfl (by decide) (by decide) ?_
  refine z_goto C 14 25 dL_waitsFor_14 (by decide) ?_
  refine z_iconst (v := nI 0) C 25 dL_waitsFor_25 (by decide) ?_
  exact ret 26 _ _ _ _ _ dL_waitsFor_26 ⟨rfl, r, L1, hp, rfl⟩
def rwt_waitsFor : Room := { frames := rt_X8_waitsFor.frames + 1, cells := rt_X8_waitsFor.cells, slots := rt_X8_waitsFor.slots, locals := 8 + (5 + 11) + rt_X8_waitsFor.locals }
set_option maxHeartbeats 4000000 in
set_option maxRecDepth 100000 in
theorem w_waitsFor_t1 {l : Launch} {G : mG} {ad : mA} {S : mS} {L : mL} {R : mR} {a0 a1 a2 a3 : Int32} {post : mS → mL → mR → Prop} (hM : Kt l yX8_waitsFor cX8_waitsFor 5 (some .int) rt_X8_waitsFor G ad mdm [.ref (ad 0 0), .int a0, .int a1, .int a2, .int a3] S L R eIO post) : Kw l yL_waitsFor cL_waitsFor 7 [(0, 14, 17, 22), (0, 14, 21, 13)] rwt_waitsFor G ad mdm [.ref (ad 0 0), .int a0, .int a1, .int a2, .int a3, .ref (ad 60 0)] S L R (fun r_ S2 L2 R2 => r_ = nI 1 ∧ post S2 L2 R2) := by
  refine Kw.of RL (by decide) rfl (Nat.le_of_ble_eq_true rfl) ?_
  intro X hXl hXG C htab ret
  subst hXl; subst hXG
  change Z X 7 ad mdm S L R 0 0 0 [(0, _), (1, _), (2, _), (3, _), (4, _), (5, _)] []
  refine z_aload C 0 5 5 dL_waitsFor_0 rfl ?_
  refine z_iconst (v := nI 0) C 2 dL_waitsFor_2 (by decide) ?_
  refine z_aload_n C 3 0 0 dL_waitsFor_3 rfl rfl ?_
  refine z_iload_n C 4 1 1 dL_waitsFor_4 rfl rfl ?_
  refine z_iload_n C 5 2 2 dL_waitsFor_5 rfl rfl ?_
  refine z_iload_n C 6 3 3 dL_waitsFor_6 rfl rfl ?_
  refine z_iload C 7 4 4 dL_waitsFor_7 rfl ?_
  refine z_tc C htab 9 [] ⟨0, 14, 17, 22⟩ [⟨0, 14, 21, 13⟩] dL_waitsFor_9 cv_L_63 hM rfl ⟨by decide, rfl⟩ Nat.zero_lt_one rfl rfl (Nat.le_of_ble_eq_true rfl) ⟨Nat.le_refl _, Nat.le_refl _⟩ ⟨by decide, by decide⟩ rfl (fun z hz => nomatch hz) (by unfold cwE; decide) (by decide) (by decide) kl_L_22 ?_
  intro S1 L1 R1 q hp
  refine z_astore C 17 6 [(6, _), (0, _), (1, _), (2, _), (3, _), (4, _), (5, _)] dL_waitsFor_17 (by decide) rfl ?_
  refine z_iconst (v := nI 1) C 19 dL_waitsFor_19 (by decide) ?_
  exact ret 20 _ _ _ _ _ dL_waitsFor_20 ⟨rfl, hp⟩
set_option maxHeartbeats 4000000 in
set_option maxRecDepth 100000 in
theorem w_waitsFor_t2 {l : Launch} {G : mG} {ad : mA} {S : mS} {L : mL} {R : mR} {a0 a1 a2 a3 : Int32} {post : mS → mL → mR → Prop} (hM : Kt l yX8_waitsFor cX8_waitsFor 5 (some .int) rt_X8_waitsFor G ad mdm [.ref (ad 0 0), .int a0, .int a1, .int a2, .int a3] S L R eIA post) : Kw l yL_waitsFor cL_waitsFor 7 [(0, 14, 17, 22), (0, 14, 21, 13)] rwt_waitsFor G ad mdm [.ref (ad 0 0), .int a0, .int a1, .int a2, .int a3, .ref (ad 60 0)] S L R (fun r_ S2 L2 R2 => r_ = nI 2 ∧ post S2 L2 R2) := by
  refine Kw.of RL (by decide) rfl (Nat.le_of_ble_eq_true rfl) ?_
  intro X hXl hXG C htab ret
  subst hXl; subst hXG
  change Z X 7 ad mdm S L R 0 0 0 [(0, _), (1, _), (2, _), (3, _), (4, _), (5, _)] []
  refine z_aload C 0 5 5 dL_waitsFor_0 rfl ?_
  refine z_iconst (v := nI 0) C 2 dL_waitsFor_2 (by decide) ?_
  refine z_aload_n C 3 0 0 dL_waitsFor_3 rfl rfl ?_
  refine z_iload_n C 4 1 1 dL_waitsFor_4 rfl rfl ?_
  refine z_iload_n C 5 2 2 dL_waitsFor_5 rfl rfl ?_
  refine z_iload_n C 6 3 3 dL_waitsFor_6 rfl rfl ?_
  refine z_iload C 7 4 4 dL_waitsFor_7 rfl ?_
  refine z_tc C htab 9 [⟨0, 14, 17, 22⟩] ⟨0, 14, 21, 13⟩ [] dL_waitsFor_9 cv_L_63 hM rfl ⟨by decide, rfl⟩ Nat.zero_lt_one rfl rfl (Nat.le_of_ble_eq_true rfl) ⟨Nat.le_refl _, Nat.le_refl _⟩ ⟨by decide, by decide⟩ rfl (fun z hz => by rw [List.mem_singleton.mp hz]; exact ⟨by decide, eIO, kl_L_22, by unfold cwE; decide, by decide⟩) (by unfold cwE; decide) (by decide) (by decide) kl_L_13 ?_
  intro S1 L1 R1 q hp
  refine z_astore C 21 6 [(6, _), (0, _), (1, _), (2, _), (3, _), (4, _), (5, _)] dL_waitsFor_21 (by decide) rfl ?_
  refine z_iconst (v := nI 2) C 23 dL_waitsFor_23 (by decide) ?_
  exact ret 24 _ _ _ _ _ dL_waitsFor_24 ⟨rfl, hp⟩
theorem ww_whyNotShow : mCw RL 177 yL_whyNotShow cL_whyNotShow 4 [(0, 9, 12, 22)] 3 := ⟨mlw_t 867 (by decide +kernel) rfl, mlw_t 868 (by decide +kernel) rfl, wi_L, mlw_t 869 (by decide +kernel) rfl, by decide +kernel⟩
def rw_whyNotShow : Room := { frames := rm_X8_whyNotShow.frames + 1, cells := rm_X8_whyNotShow.cells, slots := rm_X8_whyNotShow.slots, locals := 8 + (2 + 11) + rm_X8_whyNotShow.locals }
set_option maxHeartbeats 4000000 in
set_option maxRecDepth 100000 in
theorem w_whyNotShow_ok {l : Launch} {G : mG} {ad : mA} {S : mS} {L : mL} {R : mR} {a0 : Int32} {post : Int32 → mS → mL → mR → Prop} (hM : Ki l yX8_whyNotShow cX8_whyNotShow 2 .int rm_X8_whyNotShow G ad mdm [.ref (ad 0 0), .int a0] S L R post) : Kw l yL_whyNotShow cL_whyNotShow 4 [(0, 9, 12, 22)] rw_whyNotShow G ad mdm [.ref (ad 0 0), .int a0, .ref (ad 60 0)] S L R (fun r_ S2 L2 R2 => r_ = nI 0 ∧ ∃ r L1, post r S2 L1 R2 ∧ up3 L1 60 0 0 r.toInt64 = L2) := by
  refine Kw.of RL (by decide) rfl (Nat.le_of_ble_eq_true rfl) ?_
  intro X hXl hXG C htab ret
  subst hXl; subst hXG
  change Z X 4 ad mdm S L R 0 0 0 [(0, _), (1, _), (2, _)] []
  refine z_aload_n C 0 2 2 dL_whyNotShow_0 rfl rfl ?_
  refine z_iconst (v := nI 0) C 1 dL_whyNotShow_1 (by decide) ?_
  refine z_aload_n C 2 0 0 dL_whyNotShow_2 rfl rfl ?_
  refine z_iload_n C 3 1 1 dL_whyNotShow_3 rfl rfl ?_
  refine z_cVi0 C 4 dL_whyNotShow_4 cv_L_54 hM rfl ⟨by decide, rfl⟩ Nat.zero_lt_one rfl rfl (Nat.le_of_ble_eq_true rfl) ⟨Nat.le_refl _, Nat.le_refl _⟩ ⟨rfl, rfl⟩ ⟨by decide, by decide⟩ ?_
  intro r S1 L1 R1 hp
  refine z_i2l C 7 dL_whyNotShow_7 rfl ?_
  refine z_last C 8 dL_whyNotShow_8 rfl Nat.zero_lt_one rfl (by decide) (by decide) ?_
  refine z_goto C 9 15 dL_whyNotShow_9 (by decide) ?_
  refine z_iconst (v := nI 0) C 15 dL_whyNotShow_15 (by decide) ?_
  exact ret 16 _ _ _ _ _ dL_whyNotShow_16 ⟨rfl, r, L1, hp, rfl⟩
def rwt_whyNotShow : Room := { frames := rt_X8_whyNotShow.frames + 1, cells := rt_X8_whyNotShow.cells, slots := rt_X8_whyNotShow.slots, locals := 8 + (2 + 11) + rt_X8_whyNotShow.locals }
set_option maxHeartbeats 4000000 in
set_option maxRecDepth 100000 in
theorem w_whyNotShow_t1 {l : Launch} {G : mG} {ad : mA} {S : mS} {L : mL} {R : mR} {a0 : Int32} {post : mS → mL → mR → Prop} (hM : Kt l yX8_whyNotShow cX8_whyNotShow 2 (some .int) rt_X8_whyNotShow G ad mdm [.ref (ad 0 0), .int a0] S L R eIO post) : Kw l yL_whyNotShow cL_whyNotShow 4 [(0, 9, 12, 22)] rwt_whyNotShow G ad mdm [.ref (ad 0 0), .int a0, .ref (ad 60 0)] S L R (fun r_ S2 L2 R2 => r_ = nI 1 ∧ post S2 L2 R2) := by
  refine Kw.of RL (by decide) rfl (Nat.le_of_ble_eq_true rfl) ?_
  intro X hXl hXG C htab ret
  subst hXl; subst hXG
  change Z X 4 ad mdm S L R 0 0 0 [(0, _), (1, _), (2, _)] []
  refine z_aload_n C 0 2 2 dL_whyNotShow_0 rfl rfl ?_
  refine z_iconst (v := nI 0) C 1 dL_whyNotShow_1 (by decide) ?_
  refine z_aload_n C 2 0 0 dL_whyNotShow_2 rfl rfl ?_
  refine z_iload_n C 3 1 1 dL_whyNotShow_3 rfl rfl ?_
  refine z_tc C htab 4 [] ⟨0, 9, 12, 22⟩ [] dL_whyNotShow_4 cv_L_54 hM rfl ⟨by decide, rfl⟩ Nat.zero_lt_one rfl rfl (Nat.le_of_ble_eq_true rfl) ⟨Nat.le_refl _, Nat.le_refl _⟩ ⟨by decide, by decide⟩ rfl (fun z hz => nomatch hz) (by unfold cwE; decide) (by decide) (by decide) kl_L_22 ?_
  intro S1 L1 R1 q hp
  refine z_astore_n C 12 3 [(3, _), (0, _), (1, _), (2, _)] dL_whyNotShow_12 rfl (by decide) rfl ?_
  refine z_iconst (v := nI 1) C 13 dL_whyNotShow_13 (by decide) ?_
  exact ret 14 _ _ _ _ _ dL_whyNotShow_14 ⟨rfl, hp⟩
