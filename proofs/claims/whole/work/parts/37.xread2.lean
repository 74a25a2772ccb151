/-! The class reads the text: clauses, the rock that is being told. -/
def q_rf (b : Nat) (m m' : q_Mm) : Prop := ∀ a, a < b ∨ b + 8 < a → m' a = m a
def xr_fr (b : Nat) (m m' : q_Mm) : Prop := ∀ a, a ≠ 3 → (a < b ∨ b + 8 < a) → m' a = m a
theorem xr_fr.rf {b : Nat} {m : q_Mm} : xr_fr b m m := fun _ _ _ => rfl
theorem xr_fr.tr {b : Nat} {m m' m'' : q_Mm} (h : xr_fr b m m') (h' : xr_fr b m' m'') : xr_fr b m m'' := fun a h1 h2 => (h' a h1 h2).trans (h a h1 h2)
theorem xr_fr.bu {b : Nat} {m m' : q_Mm} (h : q_but 3 m m') : xr_fr b m m' := fun a h1 _ => h a h1
theorem xr_fr.rk {b : Nat} {m m' : q_Mm} (h : q_rf b m m') : xr_fr b m m' := fun a _ h2 => h a h2
theorem x_text_fr {m m' : q_Mm} {x : TX} {b : Nat} (h : x_text m x) (hb : xr_fr b m m') (h3 : 3 < b) : x_text m' x := ⟨by rw [hb 1 (by decide) (by omega)]; exact h.1, fun j hj => by rw [hb 2 (by decide) (by omega)]; exact h.2 j hj⟩
theorem x_ps_rf {m m' : q_Mm} {n b : Nat} {s : PS} (h : x_ps m n s) (hb : q_rf b m m') (h3 : 3 < b) : x_ps m' n s := by
  have e := hb 3 (Or.inl h3)
  unfold x_ps at h ⊢
  rw [e]; exact h
theorem t_num_sk (x : TX) (lim : Nat) {i : Nat} (h : i ≤ x.2) : t_num x lim (t_sk x i) = t_num x lim i ∧ t_nv x (t_sk x i) = t_nv x i ∧ t_nc x lim (t_sk x i) = t_nc x lim i := by
  have e := t_sk_sk x h
  have e1 : t_nend x (t_sk x i) = t_nend x i := by rw [t_nend, e]; rfl
  have e2 : t_nv x (t_sk x i) = t_nv x i := by rw [t_nv, e1, e]; rfl
  have e3 : t_nc x lim (t_sk x i) = t_nc x lim i := by rw [t_nc, e1, e, e2]; rfl
  exact ⟨by rw [t_num, e3, e1, e]; rfl, e2, e3⟩
theorem t_end_sk (x : TX) {i : Nat} (h : i ≤ x.2) : t_end x (t_sk x i) = t_end x i := by rw [t_end, t_sk_sk x h]; rfl
section XA
variable {m : q_Mm} {b : Nat} {k : RK} {sh : q_Sh} {R : q_KR}
theorem p4_addTurning {f : Nat → Int32} (hb : q_rk sh b) (ht : x_told m b k) (h3 : r_tn k < 3) (hR : ∀ m', q_rf b m m' → x_told m' b (k_T k 0 f) → R none sh m') : wX4_addTurning [.ref b] sh m R := by
  obtain ⟨t0, t1, t2, t3, t4, t5, t6, t7, t8⟩ := ht
  have n1 : b ≠ b + 1 := by omega
  refine eX4_addTurning ?_
  simp only [o_no, o_cut, o_ic, o_lc, o_str, o_il, o_ll, o_al, o_is, o_as, o_inc, o_iadd, o_isub, o_imul, o_iand, o_ior, o_ishl, o_ishr, o_iushr, o_idiv, o_irem, o_ladd, o_lmul, o_land, o_lor, o_lrem, o_lshl, o_lshr, o_lcmp, o_i2l, o_l2i, o_dup, o_dup2, o_ifeq, o_ifne, o_iflt, o_ifge, o_ifgt, o_ifle, o_iceq, o_icne, o_iclt, o_icge, o_icgt, o_icle, o_sw, o_iret, o_zret, o_vret, o_getf, o_putf, o_putz, o_putr, o_iald, o_zald, o_iast, o_zast, o_alen, o_aald, o_aast, o_obj_e, o_mmax_e, o_mmin_e, o_gsc, o_gsf, o_sval, o_scod, o_salen, o_sbald, o_i2c, o_pop, o_nret, o_call_0, o_call_1, o_call_2, o_call_3, o_call_4, o_call_5, o_call_6, o_call_7, o_callV_0, o_callV_1, o_callV_2, o_callV_3, o_callV_4, o_callV_5, o_callV_6, o_callT_0, o_callT_1, q_cn_0, q_cn_i, q_cn_r, q_cn_a, q_cn_l, q_cat_eq, q_nl_none, q_nl_sn, q_nl_i, q_nl_r, q_nl_a, q_vp_0, q_vp_1, q_vp_2, q_vp_3, q_vp_4, q_vp_5, q_vp_6, q_vp_7, q_vp_8, List.getElem?_cons_zero, List.getElem?_cons_succ, List.getElem?_nil, List.set_cons_zero, List.set_cons_succ, List.set_nil, Option.toList_some, Option.toList_none, List.cons_append, List.nil_append, Nat.reduceAdd, Nat.reduceSub, Nat.reduceLeDiff, Nat.add_zero, Nat.zero_add, Nat.reduceLT, Nat.zero_le, true_and, and_true, Value.category, true_or, or_true, q_z10, q_z01, Int32.reduceLT, Int32.reduceLE, Int32.reduceToNatClampNeg, not_true_eq_false, not_false_eq_true, false_implies, true_implies, implies_true, BX4_addTurning_0, rmX4_addTurning, hb.1, q_cls_of hb.1, q_R0_same]
  refine p8_put hb.2.1 (by decide) ?_
  simp only [o_no, o_cut, o_ic, o_lc, o_str, o_il, o_ll, o_al, o_is, o_as, o_inc, o_iadd, o_isub, o_imul, o_iand, o_ior, o_ishl, o_ishr, o_iushr, o_idiv, o_irem, o_ladd, o_lmul, o_land, o_lor, o_lrem, o_lshl, o_lshr, o_lcmp, o_i2l, o_l2i, o_dup, o_dup2, o_ifeq, o_ifne, o_iflt, o_ifge, o_ifgt, o_ifle, o_iceq, o_icne, o_iclt, o_icge, o_icgt, o_icle, o_sw, o_iret, o_zret, o_vret, o_getf, o_putf, o_putz, o_putr, o_iald, o_zald, o_iast, o_zast, o_alen, o_aald, o_aast, o_obj_e, o_mmax_e, o_mmin_e, o_gsc, o_gsf, o_sval, o_scod, o_salen, o_sbald, o_i2c, o_pop, o_nret, o_call_0, o_call_1, o_call_2, o_call_3, o_call_4, o_call_5, o_call_6, o_call_7, o_callV_0, o_callV_1, o_callV_2, o_callV_3, o_callV_4, o_callV_5, o_callV_6, o_callT_0, o_callT_1, q_cn_0, q_cn_i, q_cn_r, q_cn_a, q_cn_l, q_cat_eq, q_nl_none, q_nl_sn, q_nl_i, q_nl_r, q_nl_a, q_vp_0, q_vp_1, q_vp_2, q_vp_3, q_vp_4, q_vp_5, q_vp_6, q_vp_7, q_vp_8, List.getElem?_cons_zero, List.getElem?_cons_succ, List.getElem?_nil, List.set_cons_zero, List.set_cons_succ, List.set_nil, Option.toList_some, Option.toList_none, List.cons_append, List.nil_append, Nat.reduceAdd, Nat.reduceSub, Nat.reduceLeDiff, Nat.add_zero, Nat.zero_add, Nat.reduceLT, Nat.zero_le, true_and, and_true, Value.category, true_or, or_true, q_z10, q_z01, Int32.reduceLT, Int32.reduceLE, Int32.reduceToNatClampNeg, not_true_eq_false, not_false_eq_true, false_implies, true_implies, implies_true, BX4_addTurning_0, rmX4_addTurning, hb.1, q_cls_of hb.1, q_R0_same]
  rw [t0, q_pt_n h3 (by decide), q_up_o n1, t0, nI_1]
  have o : ∀ a, a ≠ b → a ≠ b + 1 → q_up (q_up m (b + 1) (r_tn k) 0) b 0 (nI (r_tn k + 1)) a = m a := fun a h1 h2 => by rw [q_up_o h1, q_up_o h2]
  refine hR _ (fun a ha => o a (by omega) (by omega)) ⟨?_, ?_, ?_, ?_, fun i hi => ?_, fun i j hi hj => ?_, fun p i hp hi => ?_, fun p hp => ?_, fun q i hq hi => ?_⟩
  · rw [q_up_app, if_pos ⟨rfl, rfl⟩]; rfl
  · rw [q_up_app, if_neg (by omega), q_up_o n1]; exact t1
  · rw [q_up_app, if_neg (by omega), q_up_o n1]; exact t2
  · rw [q_up_app, if_neg (by omega), q_up_o n1]; exact t3
  · rw [q_up_o (Ne.symm n1), q_up_app]
    show _ = nI (if i = r_tn k then 0 else r_N k i)
    by_cases e : i = r_tn k
    · rw [if_pos ⟨rfl, e⟩, if_pos e]; rfl
    · rw [if_neg (fun z => e z.2), if_neg e]; exact t4 i hi
  · rw [o _ (by omega) (by omega)]
    have hi : i < r_tn k + 1 := hi
    have hj : j < (if i = r_tn k then 0 else r_N k i) := hj
    show _ = (if i = r_tn k then f j else r_pt k i j)
    by_cases e : i = r_tn k
    · rw [if_pos e] at hj; exact absurd hj (Nat.not_lt_zero _)
    · rw [if_neg e] at hj ⊢; exact t5 i j (by omega) hj
  · rw [o _ (by omega) (by omega)]; exact t6 p i hp hi
  · rw [o _ (by omega) (by omega)]; exact t7 p hp
  · rw [o _ (by omega) (by omega)]; exact t8 q i hq hi
theorem p4_addPart {f : Nat → Int32} {n : Nat} {v : Int32} (hk : r_ok k) (hb : q_rk sh b) (ht : x_told m b (k_T k n f)) (h3 : r_tn k < 3) (hn : n < 12) (hR : ∀ m', q_rf b m m' → x_told m' b (k_T k (n + 1) (fun j => if j = n then v else f j)) → R none sh m') : wX4_addPart [.ref b, .int v] sh m R := by
  obtain ⟨t0, t1, t2, t3, t4, t5, t6, t7, t8⟩ := id ht
  have s4 : x_size m b (nI (r_tn k)) = nI n := by
    rw [xs_size ht (by omega)]
    show nI (if r_tn k = r_tn k then n else r_N k (r_tn k)) = nI n
    rw [if_pos rfl]
  have t0 : m b 0 = nI (r_tn k + 1) := t0
  refine eX4_addPart ?_
  simp only [o_no, o_cut, o_ic, o_lc, o_str, o_il, o_ll, o_al, o_is, o_as, o_inc, o_iadd, o_isub, o_imul, o_iand, o_ior, o_ishl, o_ishr, o_iushr, o_idiv, o_irem, o_ladd, o_lmul, o_land, o_lor, o_lrem, o_lshl, o_lshr, o_lcmp, o_i2l, o_l2i, o_dup, o_dup2, o_ifeq, o_ifne, o_iflt, o_ifge, o_ifgt, o_ifle, o_iceq, o_icne, o_iclt, o_icge, o_icgt, o_icle, o_sw, o_iret, o_zret, o_vret, o_getf, o_putf, o_putz, o_putr, o_iald, o_zald, o_iast, o_zast, o_alen, o_aald, o_aast, o_obj_e, o_mmax_e, o_mmin_e, o_gsc, o_gsf, o_sval, o_scod, o_salen, o_sbald, o_i2c, o_pop, o_nret, o_call_0, o_call_1, o_call_2, o_call_3, o_call_4, o_call_5, o_call_6, o_call_7, o_callV_0, o_callV_1, o_callV_2, o_callV_3, o_callV_4, o_callV_5, o_callV_6, o_callT_0, o_callT_1, q_cn_0, q_cn_i, q_cn_r, q_cn_a, q_cn_l, q_cat_eq, q_nl_none, q_nl_sn, q_nl_i, q_nl_r, q_nl_a, q_vp_0, q_vp_1, q_vp_2, q_vp_3, q_vp_4, q_vp_5, q_vp_6, q_vp_7, q_vp_8, List.getElem?_cons_zero, List.getElem?_cons_succ, List.getElem?_nil, List.set_cons_zero, List.set_cons_succ, List.set_nil, Option.toList_some, Option.toList_none, List.cons_append, List.nil_append, Nat.reduceAdd, Nat.reduceSub, Nat.reduceLeDiff, Nat.add_zero, Nat.zero_add, Nat.reduceLT, Nat.zero_le, true_and, and_true, Value.category, true_or, or_true, q_z10, q_z01, Int32.reduceLT, Int32.reduceLE, Int32.reduceToNatClampNeg, not_true_eq_false, not_false_eq_true, false_implies, true_implies, implies_true, BX4_addPart_20, BX4_addPart_19, BX4_addPart_0, rmX4_addPart, hb.1, q_cls_of hb.1, q_R0_same]
  rw [t0, nI_pred]
  refine p4_size hb ?_
  simp only [o_no, o_cut, o_ic, o_lc, o_str, o_il, o_ll, o_al, o_is, o_as, o_inc, o_iadd, o_isub, o_imul, o_iand, o_ior, o_ishl, o_ishr, o_iushr, o_idiv, o_irem, o_ladd, o_lmul, o_land, o_lor, o_lrem, o_lshl, o_lshr, o_lcmp, o_i2l, o_l2i, o_dup, o_dup2, o_ifeq, o_ifne, o_iflt, o_ifge, o_ifgt, o_ifle, o_iceq, o_icne, o_iclt, o_icge, o_icgt, o_icle, o_sw, o_iret, o_zret, o_vret, o_getf, o_putf, o_putz, o_putr, o_iald, o_zald, o_iast, o_zast, o_alen, o_aald, o_aast, o_obj_e, o_mmax_e, o_mmin_e, o_gsc, o_gsf, o_sval, o_scod, o_salen, o_sbald, o_i2c, o_pop, o_nret, o_call_0, o_call_1, o_call_2, o_call_3, o_call_4, o_call_5, o_call_6, o_call_7, o_callV_0, o_callV_1, o_callV_2, o_callV_3, o_callV_4, o_callV_5, o_callV_6, o_callT_0, o_callT_1, q_cn_0, q_cn_i, q_cn_r, q_cn_a, q_cn_l, q_cat_eq, q_nl_none, q_nl_sn, q_nl_i, q_nl_r, q_nl_a, q_vp_0, q_vp_1, q_vp_2, q_vp_3, q_vp_4, q_vp_5, q_vp_6, q_vp_7, q_vp_8, List.getElem?_cons_zero, List.getElem?_cons_succ, List.getElem?_nil, List.set_cons_zero, List.set_cons_succ, List.set_nil, Option.toList_some, Option.toList_none, List.cons_append, List.nil_append, Nat.reduceAdd, Nat.reduceSub, Nat.reduceLeDiff, Nat.add_zero, Nat.zero_add, Nat.reduceLT, Nat.zero_le, true_and, and_true, Value.category, true_or, or_true, q_z10, q_z01, Int32.reduceLT, Int32.reduceLE, Int32.reduceToNatClampNeg, not_true_eq_false, not_false_eq_true, false_implies, true_implies, implies_true, BX4_addPart_20, BX4_addPart_19, BX4_addPart_0, rmX4_addPart, hb.1, q_cls_of hb.1, q_R0_same]
  rw [s4, show (12 : Int32) = nI 12 from rfl]
  refine ⟨fun _ => ?_, fun z => absurd (nI_lt hn (by decide)) z⟩
  refine p8_put hb.2.2.2.1 (by decide) ?_
  simp only [o_no, o_cut, o_ic, o_lc, o_str, o_il, o_ll, o_al, o_is, o_as, o_inc, o_iadd, o_isub, o_imul, o_iand, o_ior, o_ishl, o_ishr, o_iushr, o_idiv, o_irem, o_ladd, o_lmul, o_land, o_lor, o_lrem, o_lshl, o_lshr, o_lcmp, o_i2l, o_l2i, o_dup, o_dup2, o_ifeq, o_ifne, o_iflt, o_ifge, o_ifgt, o_ifle, o_iceq, o_icne, o_iclt, o_icge, o_icgt, o_icle, o_sw, o_iret, o_zret, o_vret, o_getf, o_putf, o_putz, o_putr, o_iald, o_zald, o_iast, o_zast, o_alen, o_aald, o_aast, o_obj_e, o_mmax_e, o_mmin_e, o_gsc, o_gsf, o_sval, o_scod, o_salen, o_sbald, o_i2c, o_pop, o_nret, o_call_0, o_call_1, o_call_2, o_call_3, o_call_4, o_call_5, o_call_6, o_call_7, o_callV_0, o_callV_1, o_callV_2, o_callV_3, o_callV_4, o_callV_5, o_callV_6, o_callT_0, o_callT_1, q_cn_0, q_cn_i, q_cn_r, q_cn_a, q_cn_l, q_cat_eq, q_nl_none, q_nl_sn, q_nl_i, q_nl_r, q_nl_a, q_vp_0, q_vp_1, q_vp_2, q_vp_3, q_vp_4, q_vp_5, q_vp_6, q_vp_7, q_vp_8, List.getElem?_cons_zero, List.getElem?_cons_succ, List.getElem?_nil, List.set_cons_zero, List.set_cons_succ, List.set_nil, Option.toList_some, Option.toList_none, List.cons_append, List.nil_append, Nat.reduceAdd, Nat.reduceSub, Nat.reduceLeDiff, Nat.add_zero, Nat.zero_add, Nat.reduceLT, Nat.zero_le, true_and, and_true, Value.category, true_or, or_true, q_z10, q_z01, Int32.reduceLT, Int32.reduceLE, Int32.reduceToNatClampNeg, not_true_eq_false, not_false_eq_true, false_implies, true_implies, implies_true, BX4_addPart_20, BX4_addPart_19, BX4_addPart_0, rmX4_addPart, hb.1, q_cls_of hb.1, q_R0_same]
  refine p8_put hb.2.1 (by decide) ?_
  simp only [o_no, o_cut, o_ic, o_lc, o_str, o_il, o_ll, o_al, o_is, o_as, o_inc, o_iadd, o_isub, o_imul, o_iand, o_ior, o_ishl, o_ishr, o_iushr, o_idiv, o_irem, o_ladd, o_lmul, o_land, o_lor, o_lrem, o_lshl, o_lshr, o_lcmp, o_i2l, o_l2i, o_dup, o_dup2, o_ifeq, o_ifne, o_iflt, o_ifge, o_ifgt, o_ifle, o_iceq, o_icne, o_iclt, o_icge, o_icgt, o_icle, o_sw, o_iret, o_zret, o_vret, o_getf, o_putf, o_putz, o_putr, o_iald, o_zald, o_iast, o_zast, o_alen, o_aald, o_aast, o_obj_e, o_mmax_e, o_mmin_e, o_gsc, o_gsf, o_sval, o_scod, o_salen, o_sbald, o_i2c, o_pop, o_nret, o_call_0, o_call_1, o_call_2, o_call_3, o_call_4, o_call_5, o_call_6, o_call_7, o_callV_0, o_callV_1, o_callV_2, o_callV_3, o_callV_4, o_callV_5, o_callV_6, o_callT_0, o_callT_1, q_cn_0, q_cn_i, q_cn_r, q_cn_a, q_cn_l, q_cat_eq, q_nl_none, q_nl_sn, q_nl_i, q_nl_r, q_nl_a, q_vp_0, q_vp_1, q_vp_2, q_vp_3, q_vp_4, q_vp_5, q_vp_6, q_vp_7, q_vp_8, List.getElem?_cons_zero, List.getElem?_cons_succ, List.getElem?_nil, List.set_cons_zero, List.set_cons_succ, List.set_nil, Option.toList_some, Option.toList_none, List.cons_append, List.nil_append, Nat.reduceAdd, Nat.reduceSub, Nat.reduceLeDiff, Nat.add_zero, Nat.zero_add, Nat.reduceLT, Nat.zero_le, true_and, and_true, Value.category, true_or, or_true, q_z10, q_z01, Int32.reduceLT, Int32.reduceLE, Int32.reduceToNatClampNeg, not_true_eq_false, not_false_eq_true, false_implies, true_implies, implies_true, BX4_addPart_20, BX4_addPart_19, BX4_addPart_0, rmX4_addPart, hb.1, q_cls_of hb.1, q_R0_same]
  rw [pk_mul, nI_add, q_pt_n (i := r_tn k) h3 (by decide), q_pt_n (i := r_tn k * 12 + n) (by omega) (by decide), nI_1]
  have o : ∀ a, a ≠ b + 1 → a ≠ b + 3 → q_up (q_up m (b + 3) (r_tn k * 12 + n) v) (b + 1) (r_tn k) (nI (n + 1)) a = m a := fun a h1 h2 => by rw [q_up_o h1, q_up_o h2]
  refine hR _ (fun a ha => o a (by omega) (by omega)) ⟨?_, ?_, ?_, ?_, fun i hi => ?_, fun i j hi hj => ?_, fun p i hp hi => ?_, fun p hp => ?_, fun q i hq hi => ?_⟩
  · rw [o _ (by omega) (by omega)]; exact t0
  · rw [o _ (by omega) (by omega)]; exact t1
  · rw [o _ (by omega) (by omega)]; exact t2
  · rw [o _ (by omega) (by omega)]; exact t3
  · rw [q_up_app, q_up_o (by omega)]
    show _ = nI (if i = r_tn k then n + 1 else r_N k i)
    have := t4 i hi
    have this : m (b + 1) i = nI (if i = r_tn k then n else r_N k i) := this
    by_cases e : i = r_tn k
    · rw [if_pos ⟨rfl, e⟩, if_pos e]
    · rw [if_neg (fun z => e z.2), if_neg e]; rw [if_neg e] at this; exact this
  · rw [q_up_o (by omega), q_up_app]
    have hi : i < r_tn k + 1 := hi
    have hj : j < (if i = r_tn k then n + 1 else r_N k i) := hj
    show _ = (if i = r_tn k then (if j = n then v else f j) else r_pt k i j)
    have t5 : ∀ i j, i < r_tn k + 1 → j < (if i = r_tn k then n else r_N k i) → m (b + 3) (12 * i + j) = (if i = r_tn k then f j else r_pt k i j) := t5
    by_cases e : i = r_tn k
    · subst e
      rw [if_pos rfl] at hj ⊢
      by_cases e2 : j = n
      · rw [if_pos ⟨rfl, by omega⟩, if_pos e2]
      · rw [if_neg (fun z => e2 (by omega)), if_neg e2]
        have := t5 (r_tn k) j (by omega) (by rw [if_pos rfl]; omega)
        rw [if_pos rfl] at this
        exact this
    · rw [if_neg e] at hj ⊢
      have := t5 i j hi (by rw [if_neg e]; exact hj)
      rw [if_neg e] at this
      by_cases e3 : 12 * i + j = r_tn k * 12 + n
      · exfalso
        have := (r_Npos hk i).2
        omega
      · rw [if_neg (fun z => e3 z.2)]; exact this
  · rw [o _ (by omega) (by omega)]; exact t6 p i hp hi
  · rw [o _ (by omega) (by omega)]; exact t7 p hp
  · rw [o _ (by omega) (by omega)]; exact t8 q i hq hi
theorem p4_addPlace {u : Nat → Int32} (hb : q_rk sh b) (ht : x_told m b k) (h8 : r_pl k < 8) (hR : ∀ m', q_rf b m m' → x_told m' b (k_P k u) → R none sh m') : wX4_addPlace [.ref b, .int (u 0), .int (u 1), .int (u 2)] sh m R := by
  obtain ⟨t0, t1, t2, t3, t4, t5, t6, t7, t8⟩ := id ht
  have n1 : b ≠ b + 4 := by omega
  refine eX4_addPlace ?_
  simp only [o_no, o_cut, o_ic, o_lc, o_str, o_il, o_ll, o_al, o_is, o_as, o_inc, o_iadd, o_isub, o_imul, o_iand, o_ior, o_ishl, o_ishr, o_iushr, o_idiv, o_irem, o_ladd, o_lmul, o_land, o_lor, o_lrem, o_lshl, o_lshr, o_lcmp, o_i2l, o_l2i, o_dup, o_dup2, o_ifeq, o_ifne, o_iflt, o_ifge, o_ifgt, o_ifle, o_iceq, o_icne, o_iclt, o_icge, o_icgt, o_icle, o_sw, o_iret, o_zret, o_vret, o_getf, o_putf, o_putz, o_putr, o_iald, o_zald, o_iast, o_zast, o_alen, o_aald, o_aast, o_obj_e, o_mmax_e, o_mmin_e, o_gsc, o_gsf, o_sval, o_scod, o_salen, o_sbald, o_i2c, o_pop, o_nret, o_call_0, o_call_1, o_call_2, o_call_3, o_call_4, o_call_5, o_call_6, o_call_7, o_callV_0, o_callV_1, o_callV_2, o_callV_3, o_callV_4, o_callV_5, o_callV_6, o_callT_0, o_callT_1, q_cn_0, q_cn_i, q_cn_r, q_cn_a, q_cn_l, q_cat_eq, q_nl_none, q_nl_sn, q_nl_i, q_nl_r, q_nl_a, q_vp_0, q_vp_1, q_vp_2, q_vp_3, q_vp_4, q_vp_5, q_vp_6, q_vp_7, q_vp_8, List.getElem?_cons_zero, List.getElem?_cons_succ, List.getElem?_nil, List.set_cons_zero, List.set_cons_succ, List.set_nil, Option.toList_some, Option.toList_none, List.cons_append, List.nil_append, Nat.reduceAdd, Nat.reduceSub, Nat.reduceLeDiff, Nat.add_zero, Nat.zero_add, Nat.reduceLT, Nat.zero_le, true_and, and_true, Value.category, true_or, or_true, q_z10, q_z01, Int32.reduceLT, Int32.reduceLE, Int32.reduceToNatClampNeg, not_true_eq_false, not_false_eq_true, false_implies, true_implies, implies_true, BX4_addPlace_0, rmX4_addPlace, hb.1, q_cls_of hb.1, q_R0_same]
  refine p8_put hb.2.2.2.2.1 (by decide) ?_
  simp only [o_no, o_cut, o_ic, o_lc, o_str, o_il, o_ll, o_al, o_is, o_as, o_inc, o_iadd, o_isub, o_imul, o_iand, o_ior, o_ishl, o_ishr, o_iushr, o_idiv, o_irem, o_ladd, o_lmul, o_land, o_lor, o_lrem, o_lshl, o_lshr, o_lcmp, o_i2l, o_l2i, o_dup, o_dup2, o_ifeq, o_ifne, o_iflt, o_ifge, o_ifgt, o_ifle, o_iceq, o_icne, o_iclt, o_icge, o_icgt, o_icle, o_sw, o_iret, o_zret, o_vret, o_getf, o_putf, o_putz, o_putr, o_iald, o_zald, o_iast, o_zast, o_alen, o_aald, o_aast, o_obj_e, o_mmax_e, o_mmin_e, o_gsc, o_gsf, o_sval, o_scod, o_salen, o_sbald, o_i2c, o_pop, o_nret, o_call_0, o_call_1, o_call_2, o_call_3, o_call_4, o_call_5, o_call_6, o_call_7, o_callV_0, o_callV_1, o_callV_2, o_callV_3, o_callV_4, o_callV_5, o_callV_6, o_callT_0, o_callT_1, q_cn_0, q_cn_i, q_cn_r, q_cn_a, q_cn_l, q_cat_eq, q_nl_none, q_nl_sn, q_nl_i, q_nl_r, q_nl_a, q_vp_0, q_vp_1, q_vp_2, q_vp_3, q_vp_4, q_vp_5, q_vp_6, q_vp_7, q_vp_8, List.getElem?_cons_zero, List.getElem?_cons_succ, List.getElem?_nil, List.set_cons_zero, List.set_cons_succ, List.set_nil, Option.toList_some, Option.toList_none, List.cons_append, List.nil_append, Nat.reduceAdd, Nat.reduceSub, Nat.reduceLeDiff, Nat.add_zero, Nat.zero_add, Nat.reduceLT, Nat.zero_le, true_and, and_true, Value.category, true_or, or_true, q_z10, q_z01, Int32.reduceLT, Int32.reduceLE, Int32.reduceToNatClampNeg, not_true_eq_false, not_false_eq_true, false_implies, true_implies, implies_true, BX4_addPlace_0, rmX4_addPlace, hb.1, q_cls_of hb.1, q_R0_same]
  refine p8_put hb.2.2.2.2.1 (by decide) ?_
  simp only [o_no, o_cut, o_ic, o_lc, o_str, o_il, o_ll, o_al, o_is, o_as, o_inc, o_iadd, o_isub, o_imul, o_iand, o_ior, o_ishl, o_ishr, o_iushr, o_idiv, o_irem, o_ladd, o_lmul, o_land, o_lor, o_lrem, o_lshl, o_lshr, o_lcmp, o_i2l, o_l2i, o_dup, o_dup2, o_ifeq, o_ifne, o_iflt, o_ifge, o_ifgt, o_ifle, o_iceq, o_icne, o_iclt, o_icge, o_icgt, o_icle, o_sw, o_iret, o_zret, o_vret, o_getf, o_putf, o_putz, o_putr, o_iald, o_zald, o_iast, o_zast, o_alen, o_aald, o_aast, o_obj_e, o_mmax_e, o_mmin_e, o_gsc, o_gsf, o_sval, o_scod, o_salen, o_sbald, o_i2c, o_pop, o_nret, o_call_0, o_call_1, o_call_2, o_call_3, o_call_4, o_call_5, o_call_6, o_call_7, o_callV_0, o_callV_1, o_callV_2, o_callV_3, o_callV_4, o_callV_5, o_callV_6, o_callT_0, o_callT_1, q_cn_0, q_cn_i, q_cn_r, q_cn_a, q_cn_l, q_cat_eq, q_nl_none, q_nl_sn, q_nl_i, q_nl_r, q_nl_a, q_vp_0, q_vp_1, q_vp_2, q_vp_3, q_vp_4, q_vp_5, q_vp_6, q_vp_7, q_vp_8, List.getElem?_cons_zero, List.getElem?_cons_succ, List.getElem?_nil, List.set_cons_zero, List.set_cons_succ, List.set_nil, Option.toList_some, Option.toList_none, List.cons_append, List.nil_append, Nat.reduceAdd, Nat.reduceSub, Nat.reduceLeDiff, Nat.add_zero, Nat.zero_add, Nat.reduceLT, Nat.zero_le, true_and, and_true, Value.category, true_or, or_true, q_z10, q_z01, Int32.reduceLT, Int32.reduceLE, Int32.reduceToNatClampNeg, not_true_eq_false, not_false_eq_true, false_implies, true_implies, implies_true, BX4_addPlace_0, rmX4_addPlace, hb.1, q_cls_of hb.1, q_R0_same]
  refine p8_put hb.2.2.2.2.1 (by decide) ?_
  simp only [o_no, o_cut, o_ic, o_lc, o_str, o_il, o_ll, o_al, o_is, o_as, o_inc, o_iadd, o_isub, o_imul, o_iand, o_ior, o_ishl, o_ishr, o_iushr, o_idiv, o_irem, o_ladd, o_lmul, o_land, o_lor, o_lrem, o_lshl, o_lshr, o_lcmp, o_i2l, o_l2i, o_dup, o_dup2, o_ifeq, o_ifne, o_iflt, o_ifge, o_ifgt, o_ifle, o_iceq, o_icne, o_iclt, o_icge, o_icgt, o_icle, o_sw, o_iret, o_zret, o_vret, o_getf, o_putf, o_putz, o_putr, o_iald, o_zald, o_iast, o_zast, o_alen, o_aald, o_aast, o_obj_e, o_mmax_e, o_mmin_e, o_gsc, o_gsf, o_sval, o_scod, o_salen, o_sbald, o_i2c, o_pop, o_nret, o_call_0, o_call_1, o_call_2, o_call_3, o_call_4, o_call_5, o_call_6, o_call_7, o_callV_0, o_callV_1, o_callV_2, o_callV_3, o_callV_4, o_callV_5, o_callV_6, o_callT_0, o_callT_1, q_cn_0, q_cn_i, q_cn_r, q_cn_a, q_cn_l, q_cat_eq, q_nl_none, q_nl_sn, q_nl_i, q_nl_r, q_nl_a, q_vp_0, q_vp_1, q_vp_2, q_vp_3, q_vp_4, q_vp_5, q_vp_6, q_vp_7, q_vp_8, List.getElem?_cons_zero, List.getElem?_cons_succ, List.getElem?_nil, List.set_cons_zero, List.set_cons_succ, List.set_nil, Option.toList_some, Option.toList_none, List.cons_append, List.nil_append, Nat.reduceAdd, Nat.reduceSub, Nat.reduceLeDiff, Nat.add_zero, Nat.zero_add, Nat.reduceLT, Nat.zero_le, true_and, and_true, Value.category, true_or, or_true, q_z10, q_z01, Int32.reduceLT, Int32.reduceLE, Int32.reduceToNatClampNeg, not_true_eq_false, not_false_eq_true, false_implies, true_implies, implies_true, BX4_addPlace_0, rmX4_addPlace, hb.1, q_cls_of hb.1, q_R0_same]
  rw [t1, show (3 : Int32) = nI 3 from rfl, pk_mul, q_pt_n (by omega) (by decide), q_up_o n1, t1, pk_mul, nI_1, q_pt_n (by omega) (by decide), q_up_o n1, q_up_o n1, t1, pk_mul, q_n2, nI_add, q_pt_n (by omega) (by decide), q_up_o n1, q_up_o n1, q_up_o n1, t1, nI_1]
  have o : ∀ a, a ≠ b → a ≠ b + 4 → q_up (q_up (q_up (q_up m (b + 4) (r_pl k * 3) (u 0)) (b + 4) (r_pl k * 3 + 1) (u 1)) (b + 4) (r_pl k * 3 + 2) (u 2)) b 1 (nI (r_pl k + 1)) a = m a := fun a h1 h2 => by rw [q_up_o h1, q_up_o h2, q_up_o h2, q_up_o h2]
  refine hR _ (fun a ha => o a (by omega) (by omega)) ⟨?_, ?_, ?_, ?_, fun i hi => ?_, fun i j hi hj => ?_, fun p i hp hi => ?_, fun p hp => ?_, fun q i hq hi => ?_⟩
  · rw [q_up_app, if_neg (by omega), q_up_o n1, q_up_o n1, q_up_o n1]; exact t0
  · rw [q_up_app, if_pos ⟨rfl, rfl⟩]; rfl
  · rw [q_up_app, if_neg (by omega), q_up_o n1, q_up_o n1, q_up_o n1]; exact t2
  · rw [q_up_app, if_neg (by omega), q_up_o n1, q_up_o n1, q_up_o n1]; exact t3
  · rw [o _ (by omega) (by omega)]; exact t4 i hi
  · rw [o _ (by omega) (by omega)]; exact t5 i j hi hj
  · have hp : p < r_pl k + 1 := hp
    rw [q_up_o (Ne.symm n1), q_up_app, q_up_app, q_up_app]
    show _ = (if p = r_pl k then u i else r_fc k p i)
    by_cases e : p = r_pl k
    · subst e
      rw [if_pos rfl]
      match i, hi with
      | 0, _ => rw [if_neg (by omega), if_neg (by omega), if_pos ⟨rfl, by omega⟩]
      | 1, _ => rw [if_neg (by omega), if_pos ⟨rfl, by omega⟩]
      | 2, _ => rw [if_pos ⟨rfl, by omega⟩]
    · rw [if_neg e, if_neg (by omega), if_neg (by omega), if_neg (by omega)]
      exact t6 p i (by omega) hi
  · rw [o _ (by omega) (by omega)]; exact t7 p hp
  · rw [o _ (by omega) (by omega)]; exact t8 q i hq hi
theorem p4_addPush {u : Nat → Nat} (hb : q_rk sh b) (ht : x_told m b k) (h8 : r_pu k < 4) (hR : ∀ m', q_rf b m m' → x_told m' b (k_Q k u) → R none sh m') : wX4_addPush [.ref b, .int (nI (u 0)), .int (nI (u 1)), .int (nI (u 2))] sh m R := by
  obtain ⟨t0, t1, t2, t3, t4, t5, t6, t7, t8⟩ := id ht
  have n1 : b ≠ b + 6 := by omega
  refine eX4_addPush ?_
  simp only [o_no, o_cut, o_ic, o_lc, o_str, o_il, o_ll, o_al, o_is, o_as, o_inc, o_iadd, o_isub, o_imul, o_iand, o_ior, o_ishl, o_ishr, o_iushr, o_idiv, o_irem, o_ladd, o_lmul, o_land, o_lor, o_lrem, o_lshl, o_lshr, o_lcmp, o_i2l, o_l2i, o_dup, o_dup2, o_ifeq, o_ifne, o_iflt, o_ifge, o_ifgt, o_ifle, o_iceq, o_icne, o_iclt, o_icge, o_icgt, o_icle, o_sw, o_iret, o_zret, o_vret, o_getf, o_putf, o_putz, o_putr, o_iald, o_zald, o_iast, o_zast, o_alen, o_aald, o_aast, o_obj_e, o_mmax_e, o_mmin_e, o_gsc, o_gsf, o_sval, o_scod, o_salen, o_sbald, o_i2c, o_pop, o_nret, o_call_0, o_call_1, o_call_2, o_call_3, o_call_4, o_call_5, o_call_6, o_call_7, o_callV_0, o_callV_1, o_callV_2, o_callV_3, o_callV_4, o_callV_5, o_callV_6, o_callT_0, o_callT_1, q_cn_0, q_cn_i, q_cn_r, q_cn_a, q_cn_l, q_cat_eq, q_nl_none, q_nl_sn, q_nl_i, q_nl_r, q_nl_a, q_vp_0, q_vp_1, q_vp_2, q_vp_3, q_vp_4, q_vp_5, q_vp_6, q_vp_7, q_vp_8, List.getElem?_cons_zero, List.getElem?_cons_succ, List.getElem?_nil, List.set_cons_zero, List.set_cons_succ, List.set_nil, Option.toList_some, Option.toList_none, List.cons_append, List.nil_append, Nat.reduceAdd, Nat.reduceSub, Nat.reduceLeDiff, Nat.add_zero, Nat.zero_add, Nat.reduceLT, Nat.zero_le, true_and, and_true, Value.category, true_or, or_true, q_z10, q_z01, Int32.reduceLT, Int32.reduceLE, Int32.reduceToNatClampNeg, not_true_eq_false, not_false_eq_true, false_implies, true_implies, implies_true, BX4_addPush_0, rmX4_addPush, hb.1, q_cls_of hb.1, q_R0_same]
  refine p8_put hb.2.2.2.2.2.2.1 (by decide) ?_
  simp only [o_no, o_cut, o_ic, o_lc, o_str, o_il, o_ll, o_al, o_is, o_as, o_inc, o_iadd, o_isub, o_imul, o_iand, o_ior, o_ishl, o_ishr, o_iushr, o_idiv, o_irem, o_ladd, o_lmul, o_land, o_lor, o_lrem, o_lshl, o_lshr, o_lcmp, o_i2l, o_l2i, o_dup, o_dup2, o_ifeq, o_ifne, o_iflt, o_ifge, o_ifgt, o_ifle, o_iceq, o_icne, o_iclt, o_icge, o_icgt, o_icle, o_sw, o_iret, o_zret, o_vret, o_getf, o_putf, o_putz, o_putr, o_iald, o_zald, o_iast, o_zast, o_alen, o_aald, o_aast, o_obj_e, o_mmax_e, o_mmin_e, o_gsc, o_gsf, o_sval, o_scod, o_salen, o_sbald, o_i2c, o_pop, o_nret, o_call_0, o_call_1, o_call_2, o_call_3, o_call_4, o_call_5, o_call_6, o_call_7, o_callV_0, o_callV_1, o_callV_2, o_callV_3, o_callV_4, o_callV_5, o_callV_6, o_callT_0, o_callT_1, q_cn_0, q_cn_i, q_cn_r, q_cn_a, q_cn_l, q_cat_eq, q_nl_none, q_nl_sn, q_nl_i, q_nl_r, q_nl_a, q_vp_0, q_vp_1, q_vp_2, q_vp_3, q_vp_4, q_vp_5, q_vp_6, q_vp_7, q_vp_8, List.getElem?_cons_zero, List.getElem?_cons_succ, List.getElem?_nil, List.set_cons_zero, List.set_cons_succ, List.set_nil, Option.toList_some, Option.toList_none, List.cons_append, List.nil_append, Nat.reduceAdd, Nat.reduceSub, Nat.reduceLeDiff, Nat.add_zero, Nat.zero_add, Nat.reduceLT, Nat.zero_le, true_and, and_true, Value.category, true_or, or_true, q_z10, q_z01, Int32.reduceLT, Int32.reduceLE, Int32.reduceToNatClampNeg, not_true_eq_false, not_false_eq_true, false_implies, true_implies, implies_true, BX4_addPush_0, rmX4_addPush, hb.1, q_cls_of hb.1, q_R0_same]
  refine p8_put hb.2.2.2.2.2.2.1 (by decide) ?_
  simp only [o_no, o_cut, o_ic, o_lc, o_str, o_il, o_ll, o_al, o_is, o_as, o_inc, o_iadd, o_isub, o_imul, o_iand, o_ior, o_ishl, o_ishr, o_iushr, o_idiv, o_irem, o_ladd, o_lmul, o_land, o_lor, o_lrem, o_lshl, o_lshr, o_lcmp, o_i2l, o_l2i, o_dup, o_dup2, o_ifeq, o_ifne, o_iflt, o_ifge, o_ifgt, o_ifle, o_iceq, o_icne, o_iclt, o_icge, o_icgt, o_icle, o_sw, o_iret, o_zret, o_vret, o_getf, o_putf, o_putz, o_putr, o_iald, o_zald, o_iast, o_zast, o_alen, o_aald, o_aast, o_obj_e, o_mmax_e, o_mmin_e, o_gsc, o_gsf, o_sval, o_scod, o_salen, o_sbald, o_i2c, o_pop, o_nret, o_call_0, o_call_1, o_call_2, o_call_3, o_call_4, o_call_5, o_call_6, o_call_7, o_callV_0, o_callV_1, o_callV_2, o_callV_3, o_callV_4, o_callV_5, o_callV_6, o_callT_0, o_callT_1, q_cn_0, q_cn_i, q_cn_r, q_cn_a, q_cn_l, q_cat_eq, q_nl_none, q_nl_sn, q_nl_i, q_nl_r, q_nl_a, q_vp_0, q_vp_1, q_vp_2, q_vp_3, q_vp_4, q_vp_5, q_vp_6, q_vp_7, q_vp_8, List.getElem?_cons_zero, List.getElem?_cons_succ, List.getElem?_nil, List.set_cons_zero, List.set_cons_succ, List.set_nil, Option.toList_some, Option.toList_none, List.cons_append, List.nil_append, Nat.reduceAdd, Nat.reduceSub, Nat.reduceLeDiff, Nat.add_zero, Nat.zero_add, Nat.reduceLT, Nat.zero_le, true_and, and_true, Value.category, true_or, or_true, q_z10, q_z01, Int32.reduceLT, Int32.reduceLE, Int32.reduceToNatClampNeg, not_true_eq_false, not_false_eq_true, false_implies, true_implies, implies_true, BX4_addPush_0, rmX4_addPush, hb.1, q_cls_of hb.1, q_R0_same]
  refine p8_put hb.2.2.2.2.2.2.1 (by decide) ?_
  simp only [o_no, o_cut, o_ic, o_lc, o_str, o_il, o_ll, o_al, o_is, o_as, o_inc, o_iadd, o_isub, o_imul, o_iand, o_ior, o_ishl, o_ishr, o_iushr, o_idiv, o_irem, o_ladd, o_lmul, o_land, o_lor, o_lrem, o_lshl, o_lshr, o_lcmp, o_i2l, o_l2i, o_dup, o_dup2, o_ifeq, o_ifne, o_iflt, o_ifge, o_ifgt, o_ifle, o_iceq, o_icne, o_iclt, o_icge, o_icgt, o_icle, o_sw, o_iret, o_zret, o_vret, o_getf, o_putf, o_putz, o_putr, o_iald, o_zald, o_iast, o_zast, o_alen, o_aald, o_aast, o_obj_e, o_mmax_e, o_mmin_e, o_gsc, o_gsf, o_sval, o_scod, o_salen, o_sbald, o_i2c, o_pop, o_nret, o_call_0, o_call_1, o_call_2, o_call_3, o_call_4, o_call_5, o_call_6, o_call_7, o_callV_0, o_callV_1, o_callV_2, o_callV_3, o_callV_4, o_callV_5, o_callV_6, o_callT_0, o_callT_1, q_cn_0, q_cn_i, q_cn_r, q_cn_a, q_cn_l, q_cat_eq, q_nl_none, q_nl_sn, q_nl_i, q_nl_r, q_nl_a, q_vp_0, q_vp_1, q_vp_2, q_vp_3, q_vp_4, q_vp_5, q_vp_6, q_vp_7, q_vp_8, List.getElem?_cons_zero, List.getElem?_cons_succ, List.getElem?_nil, List.set_cons_zero, List.set_cons_succ, List.set_nil, Option.toList_some, Option.toList_none, List.cons_append, List.nil_append, Nat.reduceAdd, Nat.reduceSub, Nat.reduceLeDiff, Nat.add_zero, Nat.zero_add, Nat.reduceLT, Nat.zero_le, true_and, and_true, Value.category, true_or, or_true, q_z10, q_z01, Int32.reduceLT, Int32.reduceLE, Int32.reduceToNatClampNeg, not_true_eq_false, not_false_eq_true, false_implies, true_implies, implies_true, BX4_addPush_0, rmX4_addPush, hb.1, q_cls_of hb.1, q_R0_same]
  rw [t3, show (3 : Int32) = nI 3 from rfl, pk_mul, q_pt_n (by omega) (by decide), q_up_o n1, t3, pk_mul, nI_1, q_pt_n (by omega) (by decide), q_up_o n1, q_up_o n1, t3, pk_mul, q_n2, nI_add, q_pt_n (by omega) (by decide), q_up_o n1, q_up_o n1, q_up_o n1, t3, nI_1]
  have o : ∀ a, a ≠ b → a ≠ b + 6 → q_up (q_up (q_up (q_up m (b + 6) (r_pu k * 3) (nI (u 0))) (b + 6) (r_pu k * 3 + 1) (nI (u 1))) (b + 6) (r_pu k * 3 + 2) (nI (u 2))) b 3 (nI (r_pu k + 1)) a = m a := fun a h1 h2 => by rw [q_up_o h1, q_up_o h2, q_up_o h2, q_up_o h2]
  refine hR _ (fun a ha => o a (by omega) (by omega)) ⟨?_, ?_, ?_, ?_, fun i hi => ?_, fun i j hi hj => ?_, fun p i hp hi => ?_, fun p hp => ?_, fun q i hq hi => ?_⟩
  · rw [q_up_app, if_neg (by omega), q_up_o n1, q_up_o n1, q_up_o n1]; exact t0
  · rw [q_up_app, if_neg (by omega), q_up_o n1, q_up_o n1, q_up_o n1]; exact t1
  · rw [q_up_app, if_neg (by omega), q_up_o n1, q_up_o n1, q_up_o n1]; exact t2
  · rw [q_up_app, if_pos ⟨rfl, rfl⟩]; rfl
  · rw [o _ (by omega) (by omega)]; exact t4 i hi
  · rw [o _ (by omega) (by omega)]; exact t5 i j hi hj
  · rw [o _ (by omega) (by omega)]; exact t6 p i hp hi
  · rw [o _ (by omega) (by omega)]; exact t7 p hp
  · have hq : q < r_pu k + 1 := hq
    rw [q_up_o (Ne.symm n1), q_up_app, q_up_app, q_up_app]
    show _ = nI (if q = r_pu k then u i else r_sv k q i)
    by_cases e : q = r_pu k
    · subst e
      rw [if_pos rfl]
      match i, hi with
      | 0, _ => rw [if_neg (by omega), if_neg (by omega), if_pos ⟨rfl, by omega⟩]
      | 1, _ => rw [if_neg (by omega), if_pos ⟨rfl, by omega⟩]
      | 2, _ => rw [if_pos ⟨rfl, by omega⟩]
    · rw [if_neg e, if_neg (by omega), if_neg (by omega), if_neg (by omega)]
      exact t8 q i (by omega) hi
theorem p4_addWay {p q : Nat} (hb : q_rk sh b) (ht : x_told m b k) (h12 : r_wy k < 12) (hp : p < 8) (hq : q < 8) (hpq : p ≠ q) (hR : ∀ m', q_rf b m m' → x_told m' b (k_W k p q) → R none sh m') : wX4_addWay [.ref b, .int (nI p), .int (nI q)] sh m R := by
  obtain ⟨t0, t1, t2, t3, t4, t5, t6, t7, t8⟩ := id ht
  have n1 : b ≠ b + 5 := by omega
  refine eX4_addWay ?_
  simp only [o_no, o_cut, o_ic, o_lc, o_str, o_il, o_ll, o_al, o_is, o_as, o_inc, o_iadd, o_isub, o_imul, o_iand, o_ior, o_ishl, o_ishr, o_iushr, o_idiv, o_irem, o_ladd, o_lmul, o_land, o_lor, o_lrem, o_lshl, o_lshr, o_lcmp, o_i2l, o_l2i, o_dup, o_dup2, o_ifeq, o_ifne, o_iflt, o_ifge, o_ifgt, o_ifle, o_iceq, o_icne, o_iclt, o_icge, o_icgt, o_icle, o_sw, o_iret, o_zret, o_vret, o_getf, o_putf, o_putz, o_putr, o_iald, o_zald, o_iast, o_zast, o_alen, o_aald, o_aast, o_obj_e, o_mmax_e, o_mmin_e, o_gsc, o_gsf, o_sval, o_scod, o_salen, o_sbald, o_i2c, o_pop, o_nret, o_call_0, o_call_1, o_call_2, o_call_3, o_call_4, o_call_5, o_call_6, o_call_7, o_callV_0, o_callV_1, o_callV_2, o_callV_3, o_callV_4, o_callV_5, o_callV_6, o_callT_0, o_callT_1, q_cn_0, q_cn_i, q_cn_r, q_cn_a, q_cn_l, q_cat_eq, q_nl_none, q_nl_sn, q_nl_i, q_nl_r, q_nl_a, q_vp_0, q_vp_1, q_vp_2, q_vp_3, q_vp_4, q_vp_5, q_vp_6, q_vp_7, q_vp_8, List.getElem?_cons_zero, List.getElem?_cons_succ, List.getElem?_nil, List.set_cons_zero, List.set_cons_succ, List.set_nil, Option.toList_some, Option.toList_none, List.cons_append, List.nil_append, Nat.reduceAdd, Nat.reduceSub, Nat.reduceLeDiff, Nat.add_zero, Nat.zero_add, Nat.reduceLT, Nat.zero_le, true_and, and_true, Value.category, true_or, or_true, q_z10, q_z01, Int32.reduceLT, Int32.reduceLE, Int32.reduceToNatClampNeg, not_true_eq_false, not_false_eq_true, false_implies, true_implies, implies_true, BX4_addWay_0, rmX4_addWay, hb.1, q_cls_of hb.1, q_R0_same]
  refine p4_road hb ?_
  simp only [o_no, o_cut, o_ic, o_lc, o_str, o_il, o_ll, o_al, o_is, o_as, o_inc, o_iadd, o_isub, o_imul, o_iand, o_ior, o_ishl, o_ishr, o_iushr, o_idiv, o_irem, o_ladd, o_lmul, o_land, o_lor, o_lrem, o_lshl, o_lshr, o_lcmp, o_i2l, o_l2i, o_dup, o_dup2, o_ifeq, o_ifne, o_iflt, o_ifge, o_ifgt, o_ifle, o_iceq, o_icne, o_iclt, o_icge, o_icgt, o_icle, o_sw, o_iret, o_zret, o_vret, o_getf, o_putf, o_putz, o_putr, o_iald, o_zald, o_iast, o_zast, o_alen, o_aald, o_aast, o_obj_e, o_mmax_e, o_mmin_e, o_gsc, o_gsf, o_sval, o_scod, o_salen, o_sbald, o_i2c, o_pop, o_nret, o_call_0, o_call_1, o_call_2, o_call_3, o_call_4, o_call_5, o_call_6, o_call_7, o_callV_0, o_callV_1, o_callV_2, o_callV_3, o_callV_4, o_callV_5, o_callV_6, o_callT_0, o_callT_1, q_cn_0, q_cn_i, q_cn_r, q_cn_a, q_cn_l, q_cat_eq, q_nl_none, q_nl_sn, q_nl_i, q_nl_r, q_nl_a, q_vp_0, q_vp_1, q_vp_2, q_vp_3, q_vp_4, q_vp_5, q_vp_6, q_vp_7, q_vp_8, List.getElem?_cons_zero, List.getElem?_cons_succ, List.getElem?_nil, List.set_cons_zero, List.set_cons_succ, List.set_nil, Option.toList_some, Option.toList_none, List.cons_append, List.nil_append, Nat.reduceAdd, Nat.reduceSub, Nat.reduceLeDiff, Nat.add_zero, Nat.zero_add, Nat.reduceLT, Nat.zero_le, true_and, and_true, Value.category, true_or, or_true, q_z10, q_z01, Int32.reduceLT, Int32.reduceLE, Int32.reduceToNatClampNeg, not_true_eq_false, not_false_eq_true, false_implies, true_implies, implies_true, BX4_addWay_0, rmX4_addWay, hb.1, q_cls_of hb.1, q_R0_same]
  refine p8_put hb.2.2.2.2.2.1 (by decide) ?_
  simp only [o_no, o_cut, o_ic, o_lc, o_str, o_il, o_ll, o_al, o_is, o_as, o_inc, o_iadd, o_isub, o_imul, o_iand, o_ior, o_ishl, o_ishr, o_iushr, o_idiv, o_irem, o_ladd, o_lmul, o_land, o_lor, o_lrem, o_lshl, o_lshr, o_lcmp, o_i2l, o_l2i, o_dup, o_dup2, o_ifeq, o_ifne, o_iflt, o_ifge, o_ifgt, o_ifle, o_iceq, o_icne, o_iclt, o_icge, o_icgt, o_icle, o_sw, o_iret, o_zret, o_vret, o_getf, o_putf, o_putz, o_putr, o_iald, o_zald, o_iast, o_zast, o_alen, o_aald, o_aast, o_obj_e, o_mmax_e, o_mmin_e, o_gsc, o_gsf, o_sval, o_scod, o_salen, o_sbald, o_i2c, o_pop, o_nret, o_call_0, o_call_1, o_call_2, o_call_3, o_call_4, o_call_5, o_call_6, o_call_7, o_callV_0, o_callV_1, o_callV_2, o_callV_3, o_callV_4, o_callV_5, o_callV_6, o_callT_0, o_callT_1, q_cn_0, q_cn_i, q_cn_r, q_cn_a, q_cn_l, q_cat_eq, q_nl_none, q_nl_sn, q_nl_i, q_nl_r, q_nl_a, q_vp_0, q_vp_1, q_vp_2, q_vp_3, q_vp_4, q_vp_5, q_vp_6, q_vp_7, q_vp_8, List.getElem?_cons_zero, List.getElem?_cons_succ, List.getElem?_nil, List.set_cons_zero, List.set_cons_succ, List.set_nil, Option.toList_some, Option.toList_none, List.cons_append, List.nil_append, Nat.reduceAdd, Nat.reduceSub, Nat.reduceLeDiff, Nat.add_zero, Nat.zero_add, Nat.reduceLT, Nat.zero_le, true_and, and_true, Value.category, true_or, or_true, q_z10, q_z01, Int32.reduceLT, Int32.reduceLE, Int32.reduceToNatClampNeg, not_true_eq_false, not_false_eq_true, false_implies, true_implies, implies_true, BX4_addWay_0, rmX4_addWay, hb.1, q_cls_of hb.1, q_R0_same]
  rw [xs_road ht hp, nI_shl (by omega), nI_or, q_pt_n hp (by decide)]
  refine p4_road hb ?_
  simp only [o_no, o_cut, o_ic, o_lc, o_str, o_il, o_ll, o_al, o_is, o_as, o_inc, o_iadd, o_isub, o_imul, o_iand, o_ior, o_ishl, o_ishr, o_iushr, o_idiv, o_irem, o_ladd, o_lmul, o_land, o_lor, o_lrem, o_lshl, o_lshr, o_lcmp, o_i2l, o_l2i, o_dup, o_dup2, o_ifeq, o_ifne, o_iflt, o_ifge, o_ifgt, o_ifle, o_iceq, o_icne, o_iclt, o_icge, o_icgt, o_icle, o_sw, o_iret, o_zret, o_vret, o_getf, o_putf, o_putz, o_putr, o_iald, o_zald, o_iast, o_zast, o_alen, o_aald, o_aast, o_obj_e, o_mmax_e, o_mmin_e, o_gsc, o_gsf, o_sval, o_scod, o_salen, o_sbald, o_i2c, o_pop, o_nret, o_call_0, o_call_1, o_call_2, o_call_3, o_call_4, o_call_5, o_call_6, o_call_7, o_callV_0, o_callV_1, o_callV_2, o_callV_3, o_callV_4, o_callV_5, o_callV_6, o_callT_0, o_callT_1, q_cn_0, q_cn_i, q_cn_r, q_cn_a, q_cn_l, q_cat_eq, q_nl_none, q_nl_sn, q_nl_i, q_nl_r, q_nl_a, q_vp_0, q_vp_1, q_vp_2, q_vp_3, q_vp_4, q_vp_5, q_vp_6, q_vp_7, q_vp_8, List.getElem?_cons_zero, List.getElem?_cons_succ, List.getElem?_nil, List.set_cons_zero, List.set_cons_succ, List.set_nil, Option.toList_some, Option.toList_none, List.cons_append, List.nil_append, Nat.reduceAdd, Nat.reduceSub, Nat.reduceLeDiff, Nat.add_zero, Nat.zero_add, Nat.reduceLT, Nat.zero_le, true_and, and_true, Value.category, true_or, or_true, q_z10, q_z01, Int32.reduceLT, Int32.reduceLE, Int32.reduceToNatClampNeg, not_true_eq_false, not_false_eq_true, false_implies, true_implies, implies_true, BX4_addWay_0, rmX4_addWay, hb.1, q_cls_of hb.1, q_R0_same]
  refine p8_put hb.2.2.2.2.2.1 (by decide) ?_
  simp only [o_no, o_cut, o_ic, o_lc, o_str, o_il, o_ll, o_al, o_is, o_as, o_inc, o_iadd, o_isub, o_imul, o_iand, o_ior, o_ishl, o_ishr, o_iushr, o_idiv, o_irem, o_ladd, o_lmul, o_land, o_lor, o_lrem, o_lshl, o_lshr, o_lcmp, o_i2l, o_l2i, o_dup, o_dup2, o_ifeq, o_ifne, o_iflt, o_ifge, o_ifgt, o_ifle, o_iceq, o_icne, o_iclt, o_icge, o_icgt, o_icle, o_sw, o_iret, o_zret, o_vret, o_getf, o_putf, o_putz, o_putr, o_iald, o_zald, o_iast, o_zast, o_alen, o_aald, o_aast, o_obj_e, o_mmax_e, o_mmin_e, o_gsc, o_gsf, o_sval, o_scod, o_salen, o_sbald, o_i2c, o_pop, o_nret, o_call_0, o_call_1, o_call_2, o_call_3, o_call_4, o_call_5, o_call_6, o_call_7, o_callV_0, o_callV_1, o_callV_2, o_callV_3, o_callV_4, o_callV_5, o_callV_6, o_callT_0, o_callT_1, q_cn_0, q_cn_i, q_cn_r, q_cn_a, q_cn_l, q_cat_eq, q_nl_none, q_nl_sn, q_nl_i, q_nl_r, q_nl_a, q_vp_0, q_vp_1, q_vp_2, q_vp_3, q_vp_4, q_vp_5, q_vp_6, q_vp_7, q_vp_8, List.getElem?_cons_zero, List.getElem?_cons_succ, List.getElem?_nil, List.set_cons_zero, List.set_cons_succ, List.set_nil, Option.toList_some, Option.toList_none, List.cons_append, List.nil_append, Nat.reduceAdd, Nat.reduceSub, Nat.reduceLeDiff, Nat.add_zero, Nat.zero_add, Nat.reduceLT, Nat.zero_le, true_and, and_true, Value.category, true_or, or_true, q_z10, q_z01, Int32.reduceLT, Int32.reduceLE, Int32.reduceToNatClampNeg, not_true_eq_false, not_false_eq_true, false_implies, true_implies, implies_true, BX4_addWay_0, rmX4_addWay, hb.1, q_cls_of hb.1, q_R0_same]
  have e2 : x_road (q_up m (b + 5) p (nI (r_rd k p ||| 2 ^ q))) b (nI q) = nI (r_rd k q) := by
    rw [x_road, q_at_n hq (by decide), q_up_app, if_neg (fun z => hpq z.2.symm)]
    exact t7 q hq
  rw [e2, nI_shl (by omega), nI_or, q_pt_n hq (by decide), q_up_o n1, q_up_o n1, t2, nI_1]
  have o : ∀ a, a ≠ b → a ≠ b + 5 → q_up (q_up (q_up m (b + 5) p (nI (r_rd k p ||| 2 ^ q))) (b + 5) q (nI (r_rd k q ||| 2 ^ p))) b 2 (nI (r_wy k + 1)) a = m a := fun a h1 h2 => by rw [q_up_o h1, q_up_o h2, q_up_o h2]
  refine hR _ (fun a ha => o a (by omega) (by omega)) ⟨?_, ?_, ?_, ?_, fun i hi => ?_, fun i j hi hj => ?_, fun y i hy hi => ?_, fun y hy => ?_, fun y i hy hi => ?_⟩
  · rw [q_up_app, if_neg (by omega), q_up_o n1, q_up_o n1]; exact t0
  · rw [q_up_app, if_neg (by omega), q_up_o n1, q_up_o n1]; exact t1
  · rw [q_up_app, if_pos ⟨rfl, rfl⟩]; rfl
  · rw [q_up_app, if_neg (by omega), q_up_o n1, q_up_o n1]; exact t3
  · rw [o _ (by omega) (by omega)]; exact t4 i hi
  · rw [o _ (by omega) (by omega)]; exact t5 i j hi hj
  · rw [o _ (by omega) (by omega)]; exact t6 y i hy hi
  · rw [q_up_o (Ne.symm n1), q_up_app, q_up_app]
    show _ = nI (r_rd k y ||| ((if y = p then 2 ^ q else 0) ||| (if y = q then 2 ^ p else 0)))
    by_cases e : y = q
    · rw [if_pos ⟨rfl, e⟩, if_pos e, if_neg (fun z => hpq (z.symm.trans e)), Nat.zero_or, e]
    · rw [if_neg (fun z => e z.2), if_neg e, Nat.or_zero]
      by_cases e3 : y = p
      · rw [if_pos ⟨rfl, e3⟩, if_pos e3, e3]
      · rw [if_neg (fun z => e3 z.2), if_neg e3, Nat.or_zero]; exact t7 y hy
  · rw [o _ (by omega) (by omega)]; exact t8 y i hy hi
end XA
