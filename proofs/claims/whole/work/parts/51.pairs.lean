/-! Each of the law's calls, put to the class and to the reference. -/
def IV (sh : q_Sh) (m : q_Mm) (T : Nat) : Prop := ∃ rb sb k f x b l z g, HI sh rb sb ∧ XI m rb k f x b l z g ∧ MI m k f x b l z g ∧ GI k f x b l g T
def W2 (w8 w9 : q_WT) (as : List Value) (T : Nat) : Prop := ∀ (sh : q_Sh) (m : q_Mm) (R : q_KR), IV sh m T → T < 2 ^ 26 → (∀ (a : Int32) (sh1 : q_Sh) (m1 : q_Mm), q_md sh1 38 → (∀ R2 : q_KR, (∀ sh2 m2, IV sh2 m2 (T + 999) → R2 (some (.int a)) sh2 m2) → w9 (.ref 38 :: as) sh1 m1 R2) → R (some (.int a)) sh1 m1) → w8 (.ref 0 :: as) sh m R
theorem IV.mk {sh : q_Sh} {m : q_Mm} {T : Nat} {rb sb : Nat} {k : RK} {f : FM} {x : TX} {b : BK} {l : SN} {z : Int32} {g : Nat → Option FM} (hH : HI sh rb sb) (hX : XI m rb k f x b l z g) (hM : MI m k f x b l z g) (hG : GI k f x b l g T) : IV sh m T := ⟨rb, sb, k, f, x, b, l, z, g, hH, hX, hM, hG⟩
section W2
variable {T : Nat}
theorem p8_fault {rb sb : Nat} {m : q_Mm} {sh : q_Sh} {R : q_KR} (hs : q_xs sh rb sb) (hR : R (some (.int (m 3 3))) sh m) : wX8_fault [.ref 0] sh m R := by
  obtain ⟨x0, x1, x3, x4, x6, x7, x9, x12, x15, x18, hr, hb, y2, y5, y8, y10, y11, y13, y14, y16, y17, y19, hrb⟩ := id hs
  refine eX8_fault ?_
  simp only [o_no, o_cut, o_ic, o_lc, o_str, o_il, o_ll, o_al, o_is, o_as, o_inc, o_iadd, o_isub, o_imul, o_iand, o_ior, o_ishl, o_ishr, o_iushr, o_idiv, o_irem, o_ladd, o_lmul, o_land, o_lor, o_lrem, o_lshl, o_lshr, o_lcmp, o_i2l, o_l2i, o_dup, o_dup2, o_ifeq, o_ifne, o_iflt, o_ifge, o_ifgt, o_ifle, o_iceq, o_icne, o_iclt, o_icge, o_icgt, o_icle, o_sw, o_iret, o_zret, o_vret, o_getf, o_putf, o_putz, o_putr, o_iald, o_zald, o_iast, o_zast, o_alen, o_aald, o_aast, o_obj_e, o_mmax_e, o_mmin_e, o_gsc, o_gsf, o_sval, o_scod, o_salen, o_sbald, o_i2c, o_pop, o_nret, o_call_0, o_call_1, o_call_2, o_call_3, o_call_4, o_call_5, o_call_6, o_call_7, o_callV_0, o_callV_1, o_callV_2, o_callV_3, o_callV_4, o_callV_5, o_callV_6, o_callT_0, o_callT_1, q_cn_0, q_cn_i, q_cn_r, q_cn_a, q_cn_l, q_cat_eq, q_nl_none, q_nl_sn, q_nl_i, q_nl_r, q_nl_a, q_vp_0, q_vp_1, q_vp_2, q_vp_3, q_vp_4, q_vp_5, q_vp_6, q_vp_7, q_vp_8, List.getElem?_cons_zero, List.getElem?_cons_succ, List.getElem?_nil, List.set_cons_zero, List.set_cons_succ, List.set_nil, Option.toList_some, Option.toList_none, List.cons_append, List.nil_append, Nat.reduceAdd, Nat.reduceSub, Nat.reduceLeDiff, Nat.add_zero, Nat.zero_add, Nat.reduceLT, Nat.zero_le, true_and, and_true, Value.category, true_or, or_true, q_z10, q_z01, Int32.reduceLT, Int32.reduceLE, Int32.reduceToNatClampNeg, not_true_eq_false, not_false_eq_true, false_implies, true_implies, implies_true, BX8_fault_0, rmX8_fault, x0, x1, x3, x4, x6, x7, x9, x12, x15, x18, q_cls_of x0, q_cls_of x1, q_cls_of x3, q_cls_of x4, q_cls_of x6, q_cls_of x7, q_cls_of x9, q_cls_of x12, q_cls_of x15, q_cls_of x18, q_cls_of hr.1, hr.1, q_R0_same]
  exact hR
theorem wv_height {p st : Int32} : W2 wX8_height wX9_height [.int p, .int st] T := by
  rintro sh m R ⟨rb, sb, k, f, x, b, l, z, g, hH, hX, hM, hG⟩ hT hR
  obtain ⟨a1, a2, a3, a4, a5, a6, a7⟩ := id hX
  obtain ⟨b1, b2, b3, b4, b5, b6, b7⟩ := id hM
  obtain ⟨g1, g2, g3, g4, g5, g6, g7⟩ := id hG
  have hft : f_t f < 2 ^ 30 := by have := g3.2.2.2.1; omega
  have hrb := HI.pl hH
  refine p8_height hH.1 g1 a1 a2.1 g3.1 ?_
  refine hR _ _ _ hH.2 (fun R2 h2 => ?_)
  refine p9_height hH.2 g1 b1 b2.1 (fun m2 e => ?_)
  exact h2 _ _ (IV.mk hH (XI.lo hH hX (fun a ha => e a (by omega))) (MI.bu hM (.inl rfl) (.inl rfl) (fun a q _ => e a q)) (GI.mono hG (by omega)))
theorem wv_next {p st w : Int32} : W2 wX8_next wX9_next [.int p, .int st, .int w] T := by
  rintro sh m R ⟨rb, sb, k, f, x, b, l, z, g, hH, hX, hM, hG⟩ hT hR
  obtain ⟨a1, a2, a3, a4, a5, a6, a7⟩ := id hX
  obtain ⟨b1, b2, b3, b4, b5, b6, b7⟩ := id hM
  obtain ⟨g1, g2, g3, g4, g5, g6, g7⟩ := id hG
  have hft : f_t f < 2 ^ 30 := by have := g3.2.2.2.1; omega
  have hrb := HI.pl hH
  refine p8_next hH.1 g1 a1 a2.1 g3.1 ?_
  refine hR _ _ _ hH.2 (fun R2 h2 => ?_)
  refine p9_next hH.2 g1 b1 b2.1 (fun m2 e => ?_)
  exact h2 _ _ (IV.mk hH (XI.lo hH hX (fun a ha => e a (by omega))) (MI.bu hM (.inl rfl) (.inl rfl) (fun a q _ => e a q)) (GI.mono hG (by omega)))
theorem wv_share {p w : Int32} : W2 wX8_share wX9_share [.int p, .int w] T := by
  rintro sh m R ⟨rb, sb, k, f, x, b, l, z, g, hH, hX, hM, hG⟩ hT hR
  obtain ⟨a1, a2, a3, a4, a5, a6, a7⟩ := id hX
  obtain ⟨b1, b2, b3, b4, b5, b6, b7⟩ := id hM
  obtain ⟨g1, g2, g3, g4, g5, g6, g7⟩ := id hG
  have hft : f_t f < 2 ^ 30 := by have := g3.2.2.2.1; omega
  have hrb := HI.pl hH
  refine p8_share hH.1 g1 a1 a2.1 g3.1 ?_
  refine hR _ _ _ hH.2 (fun R2 h2 => ?_)
  refine p9_share hH.2 g1 b1 b2.1 g3.1 (fun m2 e => ?_)
  exact h2 _ _ (IV.mk hH (XI.lo hH hX (fun a ha => e a (by omega))) (MI.bu hM (.inl rfl) (.inl rfl) (fun a q _ => e a q)) (GI.mono hG (by omega)))
theorem wv_stand {p q r st : Int32} : W2 wX8_stand wX9_stand [.int p, .int q, .int r, .int st] T := by
  rintro sh m R ⟨rb, sb, k, f, x, b, l, z, g, hH, hX, hM, hG⟩ hT hR
  obtain ⟨a1, a2, a3, a4, a5, a6, a7⟩ := id hX
  obtain ⟨b1, b2, b3, b4, b5, b6, b7⟩ := id hM
  obtain ⟨g1, g2, g3, g4, g5, g6, g7⟩ := id hG
  have hft : f_t f < 2 ^ 30 := by have := g3.2.2.2.1; omega
  have hrb := HI.pl hH
  refine p8_stand hH.1 g1 a1 a2.1 g3.1 ?_
  refine hR _ _ _ hH.2 (fun R2 h2 => ?_)
  refine p9_stand hH.2 g1 b1 b2.1 ?_
  exact h2 _ _ (IV.mk hH hX hM (GI.mono hG (by omega)))
theorem wv_cross {p q st : Int32} : W2 wX8_cross wX9_cross [.int p, .int q, .int st] T := by
  rintro sh m R ⟨rb, sb, k, f, x, b, l, z, g, hH, hX, hM, hG⟩ hT hR
  obtain ⟨a1, a2, a3, a4, a5, a6, a7⟩ := id hX
  obtain ⟨b1, b2, b3, b4, b5, b6, b7⟩ := id hM
  obtain ⟨g1, g2, g3, g4, g5, g6, g7⟩ := id hG
  have hft : f_t f < 2 ^ 30 := by have := g3.2.2.2.1; omega
  have hrb := HI.pl hH
  refine p8_cross hH.1 g1 a1 a2.1 g3.1 ?_
  refine hR _ _ _ hH.2 (fun R2 h2 => ?_)
  refine p9_cross hH.2 g1 b1 b2.1 (fun m2 e => ?_)
  exact h2 _ _ (IV.mk hH (XI.lo hH hX (fun a ha => e a (by omega))) (MI.bu hM (.inl rfl) (.inl rfl) (fun a q _ => e a q)) (GI.mono hG (by omega)))
theorem wv_store : W2 wX8_store wX9_store [] T := by
  rintro sh m R ⟨rb, sb, k, f, x, b, l, z, g, hH, hX, hM, hG⟩ hT hR
  obtain ⟨a1, a2, a3, a4, a5, a6, a7⟩ := id hX
  obtain ⟨b1, b2, b3, b4, b5, b6, b7⟩ := id hM
  obtain ⟨g1, g2, g3, g4, g5, g6, g7⟩ := id hG
  have hft : f_t f < 2 ^ 30 := by have := g3.2.2.2.1; omega
  have hrb := HI.pl hH
  refine p8_store hH.1 g1 a1 a2.1 g3.1 ?_
  refine hR _ _ _ hH.2 (fun R2 h2 => ?_)
  refine p9_store hH.2 g1 b1 b2.1 g3.1 (fun m2 e => ?_)
  exact h2 _ _ (IV.mk hH (XI.lo hH hX (fun a ha => e a (by omega))) (MI.bu hM (.inl rfl) (.inl rfl) (fun a q _ => e a q)) (GI.mono hG (by omega)))
theorem wv_turning {i w : Int32} : W2 wX8_turning wX9_turning [.int i, .int w] T := by
  rintro sh m R ⟨rb, sb, k, f, x, b, l, z, g, hH, hX, hM, hG⟩ hT hR
  obtain ⟨a1, a2, a3, a4, a5, a6, a7⟩ := id hX
  obtain ⟨b1, b2, b3, b4, b5, b6, b7⟩ := id hM
  obtain ⟨g1, g2, g3, g4, g5, g6, g7⟩ := id hG
  have hft : f_t f < 2 ^ 30 := by have := g3.2.2.2.1; omega
  have hrb := HI.pl hH
  refine p8_turning hH.1 g1 a1 a2.1 a2.2.2.1 hft g3.1 ?_
  refine hR _ _ _ hH.2 (fun R2 h2 => ?_)
  refine p9_turning hH.2 g1 b1 b2.1 b2.2.2.1 hft ?_
  exact h2 _ _ (IV.mk hH hX hM (GI.mono hG (by omega)))
theorem wv_place {p w : Int32} : W2 wX8_place wX9_place [.int p, .int w] T := by
  rintro sh m R ⟨rb, sb, k, f, x, b, l, z, g, hH, hX, hM, hG⟩ hT hR
  obtain ⟨a1, a2, a3, a4, a5, a6, a7⟩ := id hX
  obtain ⟨b1, b2, b3, b4, b5, b6, b7⟩ := id hM
  obtain ⟨g1, g2, g3, g4, g5, g6, g7⟩ := id hG
  have hft : f_t f < 2 ^ 30 := by have := g3.2.2.2.1; omega
  have hrb := HI.pl hH
  refine p8_place hH.1 g1 a1 a2.1 g3.1 ?_
  refine hR _ _ _ hH.2 (fun R2 h2 => ?_)
  refine p9_place hH.2 g1 b1 b2.1 g3.1 (fun m2 e => ?_)
  exact h2 _ _ (IV.mk hH (XI.lo hH hX (fun a ha => e a (by omega))) (MI.bu hM (.inl rfl) (.inl rfl) (fun a q _ => e a q)) (GI.mono hG (by omega)))
theorem wv_told {w : Int32} : W2 wX8_told wX9_told [.int w] T := by
  rintro sh m R ⟨rb, sb, k, f, x, b, l, z, g, hH, hX, hM, hG⟩ hT hR
  obtain ⟨a1, a2, a3, a4, a5, a6, a7⟩ := id hX
  obtain ⟨b1, b2, b3, b4, b5, b6, b7⟩ := id hM
  obtain ⟨g1, g2, g3, g4, g5, g6, g7⟩ := id hG
  have hft : f_t f < 2 ^ 30 := by have := g3.2.2.2.1; omega
  have hrb := HI.pl hH
  refine p8_told hH.1 g1 a1 a2.1 a2.2.1 a2.2.2.1 a2.2.2.2.1 a3.1 a5.1 a4.1 hft g3.1 ?_
  refine hR _ _ _ hH.2 (fun R2 h2 => ?_)
  refine p9_told hH.2 g1 b1 b2.1 b2.2.1 b2.2.2.1 b2.2.2.2.1 b3.1 b5.1 b4.1 hft (fun m2 e => ?_)
  exact h2 _ _ (IV.mk hH (XI.lo hH hX (fun a ha => e a (by omega))) (MI.bu hM (.inl rfl) (.inl rfl) (fun a q _ => e a q)) (GI.mono hG (by omega)))
theorem wv_judge {w : Int32} : W2 wX8_judge wX9_judge [.int w] T := by
  rintro sh m R ⟨rb, sb, k, f, x, b, l, z, g, hH, hX, hM, hG⟩ hT hR
  obtain ⟨a1, a2, a3, a4, a5, a6, a7⟩ := id hX
  obtain ⟨b1, b2, b3, b4, b5, b6, b7⟩ := id hM
  obtain ⟨g1, g2, g3, g4, g5, g6, g7⟩ := id hG
  have hft : f_t f < 2 ^ 30 := by have := g3.2.2.2.1; omega
  have hrb := HI.pl hH
  refine p8_judge hH.1 g1 a1 a2.1 g3.1 a4 g5 ?_
  refine hR _ _ _ hH.2 (fun R2 h2 => ?_)
  refine p9_judge hH.2 g1 b1 b2 b4 g5 (fun m2 e => ?_)
  exact h2 _ _ (IV.mk hH (XI.lo hH hX (fun a ha => e a (by omega))) (MI.bu hM (.inl rfl) (.inl rfl) (fun a q _ => e a q)) (GI.mono hG (by omega)))
theorem wv_mail {p q st : Int32} : W2 wX8_mail wX9_mail [.int p, .int q, .int st] T := by
  rintro sh m R ⟨rb, sb, k, f, x, b, l, z, g, hH, hX, hM, hG⟩ hT hR
  obtain ⟨a1, a2, a3, a4, a5, a6, a7⟩ := id hX
  obtain ⟨b1, b2, b3, b4, b5, b6, b7⟩ := id hM
  obtain ⟨g1, g2, g3, g4, g5, g6, g7⟩ := id hG
  have hft : f_t f < 2 ^ 30 := by have := g3.2.2.2.1; omega
  have hrb := HI.pl hH
  refine p8_mail hH.1 g1 a1 a2.1 g3.1 ?_
  refine hR _ _ _ hH.2 (fun R2 h2 => ?_)
  refine p9_mail hH.2 g1 g2 b1 b2.1 (fun m2 e => ?_)
  exact h2 _ _ (IV.mk hH (XI.lo hH hX (fun a ha => e a (by omega))) (MI.bu hM (.inl rfl) (.inl rfl) (fun a q _ => e a q)) (GI.mono hG (by omega)))
theorem wv_fits {i w : Int32} : W2 wX8_fits wX9_fits [.int i, .int w] T := by
  rintro sh m R ⟨rb, sb, k, f, x, b, l, z, g, hH, hX, hM, hG⟩ hT hR
  obtain ⟨a1, a2, a3, a4, a5, a6, a7⟩ := id hX
  obtain ⟨b1, b2, b3, b4, b5, b6, b7⟩ := id hM
  obtain ⟨g1, g2, g3, g4, g5, g6, g7⟩ := id hG
  have hft : f_t f < 2 ^ 30 := by have := g3.2.2.2.1; omega
  have hrb := HI.pl hH
  refine p8_fits hH.1 g1 a1 a5 ?_
  refine hR _ _ _ hH.2 (fun R2 h2 => ?_)
  refine p9_fits hH.2 g1 b1 b5 g6 (fun m2 e e2 => ?_)
  exact h2 _ _ (IV.mk hH (XI.lo hH hX (fun a ha => e a (by omega) (by omega))) (MI.sc hM e2 (fun a q1 q2 _ _ _ => e a q1 q2)) (GI.mono hG (by omega)))
theorem wv_look {w : Int32} : W2 wX8_look wX9_look [.int w] T := by
  rintro sh m R ⟨rb, sb, k, f, x, b, l, z, g, hH, hX, hM, hG⟩ hT hR
  obtain ⟨a1, a2, a3, a4, a5, a6, a7⟩ := id hX
  obtain ⟨b1, b2, b3, b4, b5, b6, b7⟩ := id hM
  obtain ⟨g1, g2, g3, g4, g5, g6, g7⟩ := id hG
  have hft : f_t f < 2 ^ 30 := by have := g3.2.2.2.1; omega
  have hrb := HI.pl hH
  refine p8_look hH.1 g1 a1 a5 (fun m1 e1 es => ?_)
  have hX1 : XI m1 rb k f x b l z g := ⟨x_rock_o a1 (fun a q1 q2 => e1 a (by omega) (by omega)), x_farm_c a2 (e1 4 (by decide) (by decide)), x_text_c a3 (e1 1 (by decide) (by decide)) (e1 2 (by decide) (by decide)), x_book_c a4 (e1 18 (by decide) (by decide)) (e1 19 (by decide) (by decide)), es, by rw [e1 3 (by decide) (by decide)]; exact a6, x_img_c a7 (e1 6 (by decide) (by decide)) (e1 7 (by decide) (by decide)) (e1 8 (by decide) (by decide))⟩
  have hM1 : MI m1 k f x b l z g := MI.hi hM (fun a ha => e1 a (by omega) (by omega))
  obtain ⟨b1, b2, b3, b4, b5, b6, b7⟩ := id hM1
  refine hR _ _ _ hH.2 (fun R2 h2 => ?_)
  refine p9_look hH.2 g1 b1 b5 g6 (fun m2 e => ?_)
  exact h2 _ _ (IV.mk hH (XI.lo hH hX1 (fun a ha => e a (by omega) (by omega))) (MI.bu hM1 (.inl rfl) (.inr (.inr (.inl rfl))) (fun a q q2 => e a q q2)) (GI.mono hG (by omega)))
theorem wv_way {p st n i : Int32} : W2 wX8_way wX9_way [.int p, .int st, .int n, .int i] T := by
  rintro sh m R ⟨rb, sb, k, f, x, b, l, z, g, hH, hX, hM, hG⟩ hT hR
  obtain ⟨a1, a2, a3, a4, a5, a6, a7⟩ := id hX
  obtain ⟨b1, b2, b3, b4, b5, b6, b7⟩ := id hM
  obtain ⟨g1, g2, g3, g4, g5, g6, g7⟩ := id hG
  have hft : f_t f < 2 ^ 30 := by have := g3.2.2.2.1; omega
  have hrb := HI.pl hH
  refine p8_way hH.1 g1 a1 a2.1 g3.1 (fun m1 e1 => ?_)
  have hX1 : XI m1 rb k f x b l z g := XI.sc hH hX (fun a ha => e1 a (by omega) (by omega))
  have hM1 : MI m1 k f x b l z g := MI.hi hM (fun a ha => e1 a (by omega) (by omega))
  obtain ⟨b1, b2, b3, b4, b5, b6, b7⟩ := id hM1
  refine hR _ _ _ hH.2 (fun R2 h2 => ?_)
  refine p9_way hH.2 g1 b1 b2.1 (fun m2 e => ?_)
  exact h2 _ _ (IV.mk hH (XI.lo hH hX1 (fun a ha => e a (by omega) (by omega))) (MI.bu hM1 (.inl rfl) (.inr (.inl rfl)) (fun a q q2 => e a q q2)) (GI.mono hG (by omega)))
theorem wv_mend {p q r i : Int32} : W2 wX8_mend wX9_mend [.int p, .int q, .int r, .int i] T := by
  rintro sh m R ⟨rb, sb, k, f, x, b, l, z, g, hH, hX, hM, hG⟩ hT hR
  obtain ⟨a1, a2, a3, a4, a5, a6, a7⟩ := id hX
  obtain ⟨b1, b2, b3, b4, b5, b6, b7⟩ := id hM
  obtain ⟨g1, g2, g3, g4, g5, g6, g7⟩ := id hG
  have hft : f_t f < 2 ^ 30 := by have := g3.2.2.2.1; omega
  have hrb := HI.pl hH
  refine p8_mend hH.1 g1 a1 a2.1 g3.1 (fun m1 e1 => ?_)
  have hX1 : XI m1 rb k f x b l z g := XI.sc hH hX (fun a ha => e1 a (by omega) (by omega) (by omega))
  have hM1 : MI m1 k f x b l z g := MI.hi hM (fun a ha => e1 a (by omega) (by omega) (by omega))
  obtain ⟨b1, b2, b3, b4, b5, b6, b7⟩ := id hM1
  refine hR _ _ _ hH.2 (fun R2 h2 => ?_)
  refine p9_mend hH.2 g1 b1 b2.1 g3.1 (fun m2 e => ?_)
  exact h2 _ _ (IV.mk hH (XI.lo hH hX1 (fun a ha => e a (by omega))) (MI.bu hM1 (.inr (.inr (.inr rfl))) (.inr (.inr (.inr rfl))) (fun a q _ => e a q)) (GI.mono hG (by omega)))
theorem wv_stay {n : Int32} : W2 wX8_stay wX9_stay [.int n] T := by
  rintro sh m R ⟨rb, sb, k, f, x, b, l, z, g, hH, hX, hM, hG⟩ hT hR
  obtain ⟨a1, a2, a3, a4, a5, a6, a7⟩ := id hX
  obtain ⟨b1, b2, b3, b4, b5, b6, b7⟩ := id hM
  obtain ⟨g1, g2, g3, g4, g5, g6, g7⟩ := id hG
  have hft : f_t f < 2 ^ 30 := by have := g3.2.2.2.1; omega
  have hrb := HI.pl hH
  refine p8_stay hH.1 g1 a1 a2 g3 (by omega) (fun m1 e1 ef => ?_)
  have hX1 : XI m1 rb k (n_stay k f n) x b l z g := XI.fm hH hX e1 ef
  have hM1 : MI m1 k f x b l z g := MI.hi hM (fun a ha => e1 a (by omega))
  obtain ⟨b1, b2, b3, b4, b5, b6, b7⟩ := id hM1
  refine hR _ _ _ hH.2 (fun R2 h2 => ?_)
  refine p9_stay hH.2 g1 b1 b2 g3 (by omega) (fun m2 e ef2 => ?_)
  have hG2 := GI.mono hG (show T ≤ T + 999 by omega)
  exact h2 _ _ (IV.mk hH (XI.lo hH hX1 (fun a ha => e.1 a (by omega) (by omega))) (MI.fm hM1 e ef2) ⟨g1, g2, n_stay_ok g1 g3, hG2.2.2.2⟩)
theorem wv_go {p : Int32} : W2 wX8_go wX9_go [.int p] T := by
  rintro sh m R ⟨rb, sb, k, f, x, b, l, z, g, hH, hX, hM, hG⟩ hT hR
  obtain ⟨a1, a2, a3, a4, a5, a6, a7⟩ := id hX
  obtain ⟨b1, b2, b3, b4, b5, b6, b7⟩ := id hM
  obtain ⟨g1, g2, g3, g4, g5, g6, g7⟩ := id hG
  have hft : f_t f < 2 ^ 30 := by have := g3.2.2.2.1; omega
  have hrb := HI.pl hH
  refine p8_go hH.1 g1 a1 a2 g3 (by omega) (fun m1 e1 ef => ?_)
  have hX1 : XI m1 rb k (n_go k f p) x b l z g := XI.fm hH hX e1 ef
  have hM1 : MI m1 k f x b l z g := MI.hi hM (fun a ha => e1 a (by omega))
  obtain ⟨b1, b2, b3, b4, b5, b6, b7⟩ := id hM1
  refine hR _ _ _ hH.2 (fun R2 h2 => ?_)
  refine p9_go hH.2 g1 b1 b2 g3 (by omega) (fun m2 e ef2 => ?_)
  have hG2 := GI.mono hG (show T ≤ T + 999 by omega)
  exact h2 _ _ (IV.mk hH (XI.lo hH hX1 (fun a ha => e.1 a (by omega) (by omega))) (MI.fm hM1 e ef2) ⟨g1, g2, n_go_ok g1 g3, hG2.2.2.2⟩)
theorem wv_drift {n : Int32} : W2 wX8_drift wX9_drift [.int n] T := by
  rintro sh m R ⟨rb, sb, k, f, x, b, l, z, g, hH, hX, hM, hG⟩ hT hR
  obtain ⟨a1, a2, a3, a4, a5, a6, a7⟩ := id hX
  obtain ⟨b1, b2, b3, b4, b5, b6, b7⟩ := id hM
  obtain ⟨g1, g2, g3, g4, g5, g6, g7⟩ := id hG
  have hft : f_t f < 2 ^ 30 := by have := g3.2.2.2.1; omega
  have hrb := HI.pl hH
  refine p8_drift hH.1 g1 a1 a2 g3 (by omega) (fun m1 e1 ef => ?_)
  have hX1 : XI m1 rb k (n_drift k f n) x b l z g := XI.fm hH hX e1 ef
  have hM1 : MI m1 k f x b l z g := MI.hi hM (fun a ha => e1 a (by omega))
  obtain ⟨b1, b2, b3, b4, b5, b6, b7⟩ := id hM1
  refine hR _ _ _ hH.2 (fun R2 h2 => ?_)
  refine p9_drift hH.2 g1 b1 b2 g3 (by omega) (fun m2 e ef2 => ?_)
  have hG2 := GI.mono hG (show T ≤ T + 999 by omega)
  exact h2 _ _ (IV.mk hH (XI.lo hH hX1 (fun a ha => e.1 a (by omega) (by omega))) (MI.fm hM1 e ef2) ⟨g1, g2, n_drift_ok g1 g3, hG2.2.2.2⟩)
theorem wv_knock {i q : Int32} : W2 wX8_knock wX9_knock [.int i, .int q] T := by
  rintro sh m R ⟨rb, sb, k, f, x, b, l, z, g, hH, hX, hM, hG⟩ hT hR
  obtain ⟨a1, a2, a3, a4, a5, a6, a7⟩ := id hX
  obtain ⟨b1, b2, b3, b4, b5, b6, b7⟩ := id hM
  obtain ⟨g1, g2, g3, g4, g5, g6, g7⟩ := id hG
  have hft : f_t f < 2 ^ 30 := by have := g3.2.2.2.1; omega
  have hrb := HI.pl hH
  refine p8_knock hH.1 g1 a1 a2 g3 (fun m1 e1 ef => ?_)
  have hX1 : XI m1 rb k (n_knock k f i q) x b l z g := XI.fm hH hX e1 ef
  have hM1 : MI m1 k f x b l z g := MI.hi hM (fun a ha => e1 a (by omega))
  obtain ⟨b1, b2, b3, b4, b5, b6, b7⟩ := id hM1
  refine hR _ _ _ hH.2 (fun R2 h2 => ?_)
  refine p9_knock hH.2 g1 b1 b2 g3 (fun m2 e ef2 => ?_)
  have hG2 := GI.mono hG (show T ≤ T + 999 by omega)
  exact h2 _ _ (IV.mk hH (XI.lo hH hX1 (fun a ha => e.1 a (by omega) (by omega))) (MI.fm hM1 e ef2) ⟨g1, g2, n_knock_ok g1 g3, hG2.2.2.2⟩)
theorem wv_push {q : Int32} : W2 wX8_push wX9_push [.int q] T := by
  rintro sh m R ⟨rb, sb, k, f, x, b, l, z, g, hH, hX, hM, hG⟩ hT hR
  obtain ⟨a1, a2, a3, a4, a5, a6, a7⟩ := id hX
  obtain ⟨b1, b2, b3, b4, b5, b6, b7⟩ := id hM
  obtain ⟨g1, g2, g3, g4, g5, g6, g7⟩ := id hG
  have hft : f_t f < 2 ^ 30 := by have := g3.2.2.2.1; omega
  have hrb := HI.pl hH
  refine p8_push hH.1 g1 a1 a2 g3 (fun m1 e1 ef => ?_)
  have hX1 : XI m1 rb k (n_push k f q) x b l z g := XI.fm hH hX e1 ef
  have hM1 : MI m1 k f x b l z g := MI.hi hM (fun a ha => e1 a (by omega))
  obtain ⟨b1, b2, b3, b4, b5, b6, b7⟩ := id hM1
  refine hR _ _ _ hH.2 (fun R2 h2 => ?_)
  refine p9_push hH.2 g1 b1 b2 g3 (fun m2 e ef2 => ?_)
  have hG2 := GI.mono hG (show T ≤ T + 999 by omega)
  exact h2 _ _ (IV.mk hH (XI.lo hH hX1 (fun a ha => e.1 a (by omega) (by omega))) (MI.fm hM1 e ef2) ⟨g1, g2, n_push_ok g1 g3, hG2.2.2.2⟩)
theorem wv_seed {v : Int32} : W2 wX8_seed wX9_seed [.int v] T := by
  rintro sh m R ⟨rb, sb, k, f, x, b, l, z, g, hH, hX, hM, hG⟩ hT hR
  obtain ⟨a1, a2, a3, a4, a5, a6, a7⟩ := id hX
  obtain ⟨b1, b2, b3, b4, b5, b6, b7⟩ := id hM
  obtain ⟨g1, g2, g3, g4, g5, g6, g7⟩ := id hG
  have hft : f_t f < 2 ^ 30 := by have := g3.2.2.2.1; omega
  have hrb := HI.pl hH
  refine p8_seed hH.1 a2 (fun m1 e1 ef => ?_)
  have hX1 : XI m1 rb k (n_seed f v) x b l z g := XI.fm hH hX e1 ef
  have hM1 : MI m1 k f x b l z g := MI.hi hM (fun a ha => e1 a (by omega))
  obtain ⟨b1, b2, b3, b4, b5, b6, b7⟩ := id hM1
  refine hR _ _ _ hH.2 (fun R2 h2 => ?_)
  refine p9_seed hH.2 b2 (fun m2 e ef2 => ?_)
  have hG2 := GI.mono hG (show T ≤ T + 999 by omega)
  exact h2 _ _ (IV.mk hH (XI.lo hH hX1 (fun a ha => e.1 a (by omega) (by omega))) (MI.fm hM1 e ef2) ⟨g1, g2, n_seed_ok g3, hG2.2.2.2⟩)
theorem wv_feed {n : Int32} {v : Int64} : W2 wX8_feed wX9_feed [.int n, .long v] T := by
  rintro sh m R ⟨rb, sb, k, f, x, b, l, z, g, hH, hX, hM, hG⟩ hT hR
  obtain ⟨a1, a2, a3, a4, a5, a6, a7⟩ := id hX
  obtain ⟨b1, b2, b3, b4, b5, b6, b7⟩ := id hM
  obtain ⟨g1, g2, g3, g4, g5, g6, g7⟩ := id hG
  have hft : f_t f < 2 ^ 30 := by have := g3.2.2.2.1; omega
  have hrb := HI.pl hH
  refine p8_feed hH.1 a3 g4 (fun m1 e1 ex => ?_)
  have hX1 : XI m1 rb k f (n_feed x n v) b l z g := ⟨x_rock_o a1 (fun a q1 q2 => e1 a (by omega) (by omega)), x_farm_c a2 (e1 4 (by decide) (by decide)), ex, x_book_c a4 (e1 18 (by decide) (by decide)) (e1 19 (by decide) (by decide)), x_seen_c a5 (e1 9 (by decide) (by decide)) (e1 10 (by decide) (by decide)), by rw [e1 3 (by decide) (by decide)]; exact a6, x_img_c a7 (e1 6 (by decide) (by decide)) (e1 7 (by decide) (by decide)) (e1 8 (by decide) (by decide))⟩
  have hM1 : MI m1 k f x b l z g := MI.hi hM (fun a ha => e1 a (by omega) (by omega))
  obtain ⟨b1, b2, b3, b4, b5, b6, b7⟩ := id hM1
  refine hR _ _ _ hH.2 (fun R2 h2 => ?_)
  refine p9_feed hH.2 b3 g4 (fun m2 e ex2 => ?_)
  have hG2 := GI.mono hG (show T ≤ T + 999 by omega)
  obtain ⟨e, e9⟩ := e
  exact h2 _ _ (IV.mk hH (XI.lo hH hX1 (fun a ha => e a (by omega) (by omega))) ⟨m_rock_c b1 (fun j hj => e9 j (by omega)) (fun i _ _ => e _ (by omega) (by omega)), m_farm_c b2 (fun j _ _ => by rw [e _ (by decide) (by decide)]), ex2, m_book_c b4 (e9 _ (by decide)) (e _ (by decide) (by decide)), m_seen_c b5 (e9 _ (by decide)) (e _ (by decide) (by decide)) (e _ (by decide) (by decide)) (e _ (by decide) (by decide)), by rw [e9 _ (by decide)]; exact b6, m_img_c b7 (e _ (by decide) (by decide)) (fun j _ => by rw [e 39 (by decide) (by decide)])⟩ ⟨g1, g2, hG2.2.2.1, n_feed_ok g4, hG2.2.2.2.2⟩)
theorem wv_write {p : Int32} : W2 wX8_write wX9_write [.int p] T := by
  rintro sh m R ⟨rb, sb, k, f, x, b, l, z, g, hH, hX, hM, hG⟩ hT hR
  obtain ⟨a1, a2, a3, a4, a5, a6, a7⟩ := id hX
  obtain ⟨b1, b2, b3, b4, b5, b6, b7⟩ := id hM
  obtain ⟨g1, g2, g3, g4, g5, g6, g7⟩ := id hG
  have hft : f_t f < 2 ^ 30 := by have := g3.2.2.2.1; omega
  have hrb := HI.pl hH
  refine p8_write hH.1 g1 a1 a4 g5 (fun m1 e1 ex => ?_)
  have hX1 : XI m1 rb k f x (n_write k b p) l z g := ⟨x_rock_o a1 (fun a q1 q2 => e1 a (by omega) (by omega)), x_farm_c a2 (e1 4 (by decide) (by decide)), x_text_c a3 (e1 1 (by decide) (by decide)) (e1 2 (by decide) (by decide)), ex, x_seen_c a5 (e1 9 (by decide) (by decide)) (e1 10 (by decide) (by decide)), by rw [e1 3 (by decide) (by decide)]; exact a6, x_img_c a7 (e1 6 (by decide) (by decide)) (e1 7 (by decide) (by decide)) (e1 8 (by decide) (by decide))⟩
  have hM1 : MI m1 k f x b l z g := MI.hi hM (fun a ha => e1 a (by omega) (by omega))
  obtain ⟨b1, b2, b3, b4, b5, b6, b7⟩ := id hM1
  refine hR _ _ _ hH.2 (fun R2 h2 => ?_)
  refine p9_write hH.2 g1 b1 b4 g5 (fun m2 e ex2 => ?_)
  have hG2 := GI.mono hG (show T ≤ T + 999 by omega)
  obtain ⟨e, e9⟩ := e
  exact h2 _ _ (IV.mk hH (XI.lo hH hX1 (fun a ha => e a (by omega) (by omega))) ⟨m_rock_c b1 (fun j hj => e9 j (by omega)) (fun i _ _ => e _ (by omega) (by omega)), m_farm_c b2 (fun j _ _ => by rw [e _ (by decide) (by decide)]), m_text_c b3 (e9 _ (by decide)) (e _ (by decide) (by decide)), ex2, m_seen_c b5 (e9 _ (by decide)) (e _ (by decide) (by decide)) (e _ (by decide) (by decide)) (e _ (by decide) (by decide)), by rw [e9 _ (by decide)]; exact b6, m_img_c b7 (e _ (by decide) (by decide)) (fun j _ => by rw [e 39 (by decide) (by decide)])⟩ ⟨g1, g2, hG2.2.2.1, g4, n_write_ok g1 g5, hG2.2.2.2.2.2⟩)
theorem wv_see {p st : Int32} {y : Bool} : W2 wX8_see wX9_see [.int p, .int st, .int (if y = true then 1 else 0)] T := by
  rintro sh m R ⟨rb, sb, k, f, x, b, l, z, g, hH, hX, hM, hG⟩ hT hR
  obtain ⟨a1, a2, a3, a4, a5, a6, a7⟩ := id hX
  obtain ⟨b1, b2, b3, b4, b5, b6, b7⟩ := id hM
  obtain ⟨g1, g2, g3, g4, g5, g6, g7⟩ := id hG
  have hft : f_t f < 2 ^ 30 := by have := g3.2.2.2.1; omega
  have hrb := HI.pl hH
  refine p8_see hH.1 g1 a1 a5 g6 (fun m1 e1 ex => ?_)
  have hX1 : XI m1 rb k f x b (n_see k l p st y) z g := ⟨x_rock_o a1 (fun a q1 q2 => e1 a (by omega) (by omega)), x_farm_c a2 (e1 4 (by decide) (by decide)), x_text_c a3 (e1 1 (by decide) (by decide)) (e1 2 (by decide) (by decide)), x_book_c a4 (e1 18 (by decide) (by decide)) (e1 19 (by decide) (by decide)), ex, by rw [e1 3 (by decide) (by decide)]; exact a6, x_img_c a7 (e1 6 (by decide) (by decide)) (e1 7 (by decide) (by decide)) (e1 8 (by decide) (by decide))⟩
  have hM1 : MI m1 k f x b l z g := MI.hi hM (fun a ha => e1 a (by omega) (by omega))
  obtain ⟨b1, b2, b3, b4, b5, b6, b7⟩ := id hM1
  refine hR _ _ _ hH.2 (fun R2 h2 => ?_)
  refine p9_see hH.2 g1 b1 b5 g6 (fun m2 e ex2 => ?_)
  have hG2 := GI.mono hG (show T ≤ T + 999 by omega)
  obtain ⟨e, e9⟩ := e
  exact h2 _ _ (IV.mk hH (XI.lo hH hX1 (fun a ha => e a (by omega) (by omega) (by omega) (by omega))) ⟨m_rock_c b1 (fun j hj => e9 j (by omega)) (fun i _ _ => e _ (by omega) (by omega) (by omega) (by omega)), m_farm_c b2 (fun j _ _ => by rw [e _ (by decide) (by decide) (by decide) (by decide)]), m_text_c b3 (e9 _ (by decide)) (e _ (by decide) (by decide) (by decide) (by decide)), m_book_c b4 (e9 _ (by decide)) (e _ (by decide) (by decide) (by decide) (by decide)), ex2, by rw [e9 _ (by decide)]; exact b6, m_img_c b7 (e _ (by decide) (by decide) (by decide) (by decide)) (fun j _ => by rw [e 39 (by decide) (by decide) (by decide) (by decide)])⟩ ⟨g1, g2, hG2.2.2.1, g4, g5, n_see_ok g1 g6, hG2.2.2.2.2.2.2⟩)
theorem wv_tear : W2 wX8_tear wX9_tear [] T := by
  rintro sh m R ⟨rb, sb, k, f, x, b, l, z, g, hH, hX, hM, hG⟩ hT hR
  obtain ⟨a1, a2, a3, a4, a5, a6, a7⟩ := id hX
  obtain ⟨b1, b2, b3, b4, b5, b6, b7⟩ := id hM
  obtain ⟨g1, g2, g3, g4, g5, g6, g7⟩ := id hG
  have hft : f_t f < 2 ^ 30 := by have := g3.2.2.2.1; omega
  have hrb := HI.pl hH
  refine p8_tear hH.1 g1 a1 a4 a5 (fun m1 e1 ex es => ?_)
  have hX1 : XI m1 rb k f x (b.1, 0) [] z g := ⟨x_rock_o a1 (fun a q1 q2 => e1 a (by omega) (by omega) (by omega)), x_farm_c a2 (e1 4 (by decide) (by decide) (by decide)), x_text_c a3 (e1 1 (by decide) (by decide) (by decide)) (e1 2 (by decide) (by decide) (by decide)), ex, es, by rw [e1 3 (by decide) (by decide) (by decide)]; exact a6, x_img_c a7 (e1 6 (by decide) (by decide) (by decide)) (e1 7 (by decide) (by decide) (by decide)) (e1 8 (by decide) (by decide) (by decide))⟩
  have hM1 : MI m1 k f x b l z g := MI.hi hM (fun a ha => e1 a (by omega) (by omega) (by omega))
  obtain ⟨b1, b2, b3, b4, b5, b6, b7⟩ := id hM1
  refine hR _ _ _ hH.2 (fun R2 h2 => ?_)
  refine p9_tear hH.2 b4 b5 (fun m2 e e9 ex2 es2 => ?_)
  have hG2 := GI.mono hG (show T ≤ T + 999 by omega)
  exact h2 _ _ (IV.mk hH (XI.lo hH hX1 (fun a ha => e a (by omega))) ⟨m_rock_c b1 (fun j hj => e9 j (by omega) (by omega)) (fun i _ _ => e _ (by omega)), m_farm_c b2 (fun j _ _ => by rw [e _ (by decide)]), m_text_c b3 (e9 _ (by decide) (by decide)) (e _ (by decide)), ex2, es2, by rw [e9 _ (by decide) (by decide)]; exact b6, m_img_c b7 (e _ (by decide)) (fun j _ => by rw [e 39 (by decide)])⟩ ⟨g1, g2, hG2.2.2.1, g4, ⟨Nat.zero_le _, fun j hj => absurd hj (Nat.not_lt_zero _)⟩, ⟨Nat.zero_le _, fun o ho => absurd ho (by simp)⟩, hG2.2.2.2.2.2.2⟩)
theorem wv_fault : W2 wX8_fault wX9_fault [] T := by
  rintro sh m R ⟨rb, sb, k, f, x, b, l, z, g, hH, hX, hM, hG⟩ hT hR
  obtain ⟨a1, a2, a3, a4, a5, a6, a7⟩ := id hX
  obtain ⟨b1, b2, b3, b4, b5, b6, b7⟩ := id hM
  obtain ⟨g1, g2, g3, g4, g5, g6, g7⟩ := id hG
  have hft : f_t f < 2 ^ 30 := by have := g3.2.2.2.1; omega
  have hrb := HI.pl hH
  refine p8_fault hH.1 ?_
  refine hR _ _ _ hH.2 (fun R2 h2 => ?_)
  refine p9_fault hH.2 ?_
  rw [b6, ← a6]
  exact h2 _ _ (IV.mk hH hX hM (GI.mono hG (by omega)))
theorem wv_keep {i : Int32} : W2 wX8_keep wX9_keep [.int i] T := by
  rintro sh m R ⟨rb, sb, k, f, x, b, l, z, g, hH, hX, hM, hG⟩ hT hR
  obtain ⟨a1, a2, a3, a4, a5, a6, a7⟩ := id hX
  obtain ⟨b1, b2, b3, b4, b5, b6, b7⟩ := id hM
  obtain ⟨g1, g2, g3, g4, g5, g6, g7⟩ := id hG
  have hft : f_t f < 2 ^ 30 := by have := g3.2.2.2.1; omega
  have hrb := HI.pl hH
  by_cases c : q_rg i 1
  · obtain ⟨j, hj, rfl⟩ := c
    have hj' : j = 0 ∨ j = 1 := by omega
    refine p8_keep hH.1 a2 (fun c => absurd ⟨j, hj, rfl⟩ c) (fun j1 hj1 ej m1 e1 ef e8 e8' => ?_)
    have ej : j = j1 := (nI_eq (by omega) (by omega)).mp ej
    subst ej
    have hX1 : XI m1 rb k f x b l z (fun j' => if j' = j then some f else g j') := by
      refine ⟨x_rock_o a1 (fun a q1 q2 => e1 a (by omega) (by omega)), x_farm_c a2 (e1 4 (by omega) (by decide)), x_text_c a3 (e1 1 (by omega) (by decide)) (e1 2 (by omega) (by decide)), x_book_c a4 (e1 18 (by omega) (by decide)) (e1 19 (by omega) (by decide)), x_seen_c a5 (e1 9 (by omega) (by decide)) (e1 10 (by omega) (by decide)), by rw [e1 3 (by omega) (by decide)]; exact a6, fun j' h' => ?_⟩
      by_cases y : j' = j
      · subst y
        dsimp only
        rw [if_pos rfl]
        exact ⟨fun q => absurd q (by simp), fun f' q => ⟨e8, by cases q; exact ef⟩⟩
      · dsimp only
        rw [if_neg y, e8' j' y]
        exact ⟨(a7 j' h').1, fun f' q => ⟨((a7 j' h').2 f' q).1, x_farm_c ((a7 j' h').2 f' q).2 (e1 _ (by omega) (by omega))⟩⟩
    have hM1 : MI m1 k f x b l z g := MI.hi hM (fun a ha => e1 a (by omega) (by omega))
    obtain ⟨b1, b2, b3, b4, b5, b6, b7⟩ := id hM1
    refine hR _ _ _ hH.2 (fun R2 h2 => ?_)
    refine p9_keep hH.2 b2 (fun c => absurd ⟨j, hj, rfl⟩ c) (fun j2 hj2 ej m2 e ef2 e9 e40 e40' => ?_)
    have ej : j = j2 := (nI_eq (by omega) (by omega)).mp ej
    subst ej
    have hG2 := GI.mono hG (show T ≤ T + 999 by omega)
    refine h2 _ _ (IV.mk hH (XI.lo hH hX1 (fun a ha => e a (by omega) (by omega))) ⟨m_rock_c b1 (fun j _ => by rw [e 38 (by decide) (by decide)]) (fun i _ _ => e _ (by omega) (by omega)), m_farm_c b2 (fun j _ _ => e9 j (by omega)), m_text_c b3 (by rw [e 38 (by decide) (by decide)]) (e _ (by decide) (by decide)), m_book_c b4 (by rw [e 38 (by decide) (by decide)]) (e _ (by decide) (by decide)), m_seen_c b5 (by rw [e 38 (by decide) (by decide)]) (e _ (by decide) (by decide)) (e _ (by decide) (by decide)) (e _ (by decide) (by decide)), by rw [e 38 (by decide) (by decide)]; exact b6, fun j' h' => ?_⟩ ⟨g1, g2, hG2.2.2.1, g4, g5, g6, fun j' h' f' q => ?_⟩)
    · by_cases y : j' = j
      · subst y
        dsimp only
        rw [if_pos rfl]
        exact ⟨fun q => absurd q (by simp), fun f' q => ⟨e40, by cases q; exact ef2⟩⟩
      · dsimp only
        rw [if_neg y]
        exact ⟨fun q => (e40' j' y).trans ((b7 j' h').1 q), fun f' q => ⟨(e40' j' y).trans ((b7 j' h').2 f' q).1, m_farm_c ((b7 j' h').2 f' q).2 (fun w _ _ => e9 w (by omega))⟩⟩
    · by_cases y : j' = j
      · dsimp only at q
        rw [if_pos y] at q
        cases q
        exact hG2.2.2.1
      · dsimp only at q
        rw [if_neg y] at q
        exact hG2.2.2.2.2.2.2 j' h' f' q
  · refine p8_keep hH.1 a2 (fun _ => ?_) (fun j hj ej => absurd ⟨j, hj, ej⟩ c)
    refine hR _ _ _ hH.2 (fun R2 h2 => ?_)
    refine p9_keep hH.2 b2 (fun _ => ?_) (fun j hj ej => absurd ⟨j, hj, ej⟩ c)
    exact h2 _ _ (IV.mk hH hX hM (GI.mono hG (by omega)))
theorem wv_goBack {i : Int32} : W2 wX8_goBack wX9_goBack [.int i] T := by
  rintro sh m R ⟨rb, sb, k, f, x, b, l, z, g, hH, hX, hM, hG⟩ hT hR
  obtain ⟨a1, a2, a3, a4, a5, a6, a7⟩ := id hX
  obtain ⟨b1, b2, b3, b4, b5, b6, b7⟩ := id hM
  obtain ⟨g1, g2, g3, g4, g5, g6, g7⟩ := id hG
  have hft : f_t f < 2 ^ 30 := by have := g3.2.2.2.1; omega
  have hrb := HI.pl hH
  by_cases c : q_rg i 1
  · obtain ⟨j, hj, rfl⟩ := c
    have hu : ∀ j1, j1 ≤ 1 → nI j = nI j1 → j = j1 := fun j1 h1 e => (nI_eq (by omega) (by omega)).mp e
    have x7 := a7 j (by omega)
    have m7 := b7 j (by omega)
    rcases hg : g j with _ | f'
    · have z8 : m 8 j = 0 := x7.1 hg
      have z40 : m 40 j = 0 := m7.1 hg
      refine p8_goBack hH.1 (fun c => absurd ⟨j, hj, rfl⟩ c) (fun j1 hj1 ej _ => ?_) (fun j1 hj1 ej nz => by rw [← hu j1 hj1 ej] at nz; exact absurd z8 nz)
      refine hR _ _ _ hH.2 (fun R2 h2 => ?_)
      refine p9_goBack (k := k) hH.2 (fun c => absurd ⟨j, hj, rfl⟩ c) (fun j1 hj1 ej _ => ?_) (fun j1 hj1 ej nz => by rw [← hu j1 hj1 ej] at nz; exact absurd z40 nz)
      exact h2 _ _ (IV.mk hH hX hM (GI.mono hG (by omega)))
    · have z8 := x7.2 f' hg
      have n8 : ¬ m 8 j = 0 := by rw [z8.1]; decide
      refine p8_goBack hH.1 (fun c => absurd ⟨j, hj, rfl⟩ c) (fun j1 hj1 ej nz => by rw [← hu j1 hj1 ej] at nz; exact absurd nz n8) (fun j1 hj1 ej _ => ⟨f', by rw [← hu j1 hj1 ej]; exact z8.2, fun m1 e1 ef => ?_⟩)
      have hX1 : XI m1 rb k f' x b l z g := XI.fm hH hX e1 ef
      have hM1 : MI m1 k f x b l z g := MI.hi hM (fun a ha => e1 a (by omega))
      refine hR _ _ _ hH.2 (fun R2 h2 => ?_)
      have z40 := (hM1.2.2.2.2.2.2 j (by omega)).2 f' hg
      have n40 : ¬ m1 40 j = 0 := by rw [z40.1]; decide
      refine p9_goBack (k := k) hH.2 (fun c => absurd ⟨j, hj, rfl⟩ c) (fun j1 hj1 ej nz => by rw [← hu j1 hj1 ej] at nz; exact absurd nz n40) (fun j1 hj1 ej _ => ⟨f', by rw [← hu j1 hj1 ej]; exact z40.2, fun m2 e ef2 => ?_⟩)
      have hG2 := GI.mono hG (show T ≤ T + 999 by omega)
      exact h2 _ _ (IV.mk hH (XI.lo hH hX1 (fun a ha => e.1 a (by omega) (by omega))) (MI.fm hM1 e ef2) ⟨g1, g2, hG2.2.2.2.2.2.2 j (by omega) f' hg, hG2.2.2.2⟩)
  · refine p8_goBack hH.1 (fun _ => ?_) (fun j hj ej => absurd ⟨j, hj, ej⟩ c) (fun j hj ej => absurd ⟨j, hj, ej⟩ c)
    refine hR _ _ _ hH.2 (fun R2 h2 => ?_)
    refine p9_goBack (k := k) hH.2 (fun _ => ?_) (fun j hj ej => absurd ⟨j, hj, ej⟩ c) (fun j hj ej => absurd ⟨j, hj, ej⟩ c)
    exact h2 _ _ (IV.mk hH hX hM (GI.mono hG (by omega)))
end W2
