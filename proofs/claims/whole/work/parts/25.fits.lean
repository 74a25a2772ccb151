/-! The shifts that fit. -/
theorem s_L_split {k : RK} {l : SN} {code : Nat} (hc : code < r_S k) : ∃ B, s_L k l = (List.range code).filter (s_Q k l) ++ (if s_Q k l code = true then [code] else []) ++ B := by
  obtain ⟨b, hb⟩ : ∃ b, r_S k = code + 1 + b := ⟨r_S k - (code + 1), by omega⟩
  refine ⟨((List.range b).map (code + 1 + ·)).filter (s_Q k l), ?_⟩
  rw [s_L, hb, List.range_add, List.range_succ, List.filter_append, List.filter_append, List.filter_cons, List.filter_nil]
theorem s_A_succ (Q : Nat → Bool) (code : Nat) : (List.range (code + 1)).filter Q = (List.range code).filter Q ++ (if Q code = true then [code] else []) := by
  rw [List.range_succ, List.filter_append, List.filter_cons, List.filter_nil]
noncomputable def a_fits (k : RK) (l : SN) (i w : Int32) : Int32 := if i = -1 then nI (s_L k l).length else q_if (q_lt w (r_tn k)) (q_if (q_lt i (s_L k l).length) (nI (r_dg k ((s_L k l).getD (q_ix i) 0) (q_ix w))) (-1)) (-1000000001)
def m_many (m : q_Mm) (c : Nat) (k : RK) : Prop := ∀ i, i < 3 → m (c + 4) i = nI (r_N k i)
theorem pk_rem2 (a d : Nat) : nI a - nI (a / d) * nI d = nI (a % d) := by
  rw [pk_mul, pk_sub (Nat.div_mul_le_self a d)]
  exact congrArg nI (by have := Nat.div_add_mod' a d; omega)
section FI
variable {m : q_Mm} {rb sb c s : Nat} {k : RK} {sh : q_Sh} {R : q_KR} {l : SN}
theorem p8_fits {i w : Int32} (hs : q_xs sh rb sb) (hk : r_ok k) (hx : x_rock m rb k) (hl : x_seen m k l) (hR : R (some (.int (a_fits k l i w))) sh m) : wX8_fits [.ref 0, .int i, .int w] sh m R := by
  obtain ⟨x0, x1, x3, x4, x6, x7, x9, x12, x15, x18, hr, hb, y2, y5, y8, y10, y11, y13, y14, y16, y17, y19, hrb⟩ := id hs
  have h3 : r_tn k ≤ 3 := hk.1
  have hSl := (r_Sle hk).2
  have hLl := s_L_len k l
  refine eX8_fits ?_
  simp only [o_no, o_cut, o_ic, o_lc, o_str, o_il, o_ll, o_al, o_is, o_as, o_inc, o_iadd, o_isub, o_imul, o_iand, o_ior, o_ishl, o_ishr, o_iushr, o_idiv, o_irem, o_ladd, o_lmul, o_land, o_lor, o_lrem, o_lshl, o_lshr, o_lcmp, o_i2l, o_l2i, o_dup, o_dup2, o_ifeq, o_ifne, o_iflt, o_ifge, o_ifgt, o_ifle, o_iceq, o_icne, o_iclt, o_icge, o_icgt, o_icle, o_sw, o_iret, o_zret, o_vret, o_getf, o_putf, o_putz, o_putr, o_iald, o_zald, o_iast, o_zast, o_alen, o_aald, o_aast, o_obj_e, o_mmax_e, o_mmin_e, o_gsc, o_gsf, o_sval, o_scod, o_salen, o_sbald, o_i2c, o_pop, o_nret, o_call_0, o_call_1, o_call_2, o_call_3, o_call_4, o_call_5, o_call_6, o_call_7, o_callV_0, o_callV_1, o_callV_2, o_callV_3, o_callV_4, o_callV_5, o_callV_6, o_callT_0, o_callT_1, q_cn_0, q_cn_i, q_cn_r, q_cn_a, q_cn_l, q_cat_eq, q_nl_none, q_nl_sn, q_nl_i, q_nl_r, q_nl_a, q_vp_0, q_vp_1, q_vp_2, q_vp_3, q_vp_4, q_vp_5, q_vp_6, q_vp_7, q_vp_8, List.getElem?_cons_zero, List.getElem?_cons_succ, List.getElem?_nil, List.set_cons_zero, List.set_cons_succ, List.set_nil, Option.toList_some, Option.toList_none, List.cons_append, List.nil_append, Nat.reduceAdd, Nat.reduceSub, Nat.reduceLeDiff, Nat.add_zero, Nat.zero_add, Nat.reduceLT, Nat.zero_le, true_and, and_true, Value.category, true_or, or_true, q_z10, q_z01, Int32.reduceLT, Int32.reduceLE, Int32.reduceToNatClampNeg, not_true_eq_false, not_false_eq_true, false_implies, true_implies, implies_true, BX8_fits_43, BX8_fits_41, BX8_fits_24, BX8_fits_21, BX8_fits_13, BX8_fits_5, BX8_fits_0, rmX8_fits, x0, x1, x3, x4, x6, x7, x9, x12, x15, x18, q_cls_of x0, q_cls_of x1, q_cls_of x3, q_cls_of x4, q_cls_of x6, q_cls_of x7, q_cls_of x9, q_cls_of x12, q_cls_of x15, q_cls_of x18, q_cls_of hr.1, hr.1, q_R0_same]
  unfold a_fits at hR
  refine ⟨fun z => ?_, fun z => ?_⟩
  · rw [if_neg z] at hR
    refine p8_isTurning hs hk hx (fun y => ?_) (fun y => ?_)
    · rw [q_if_t y] at hR
      obtain ⟨j, hj, rfl⟩ := id y
      rw [q_ix_n (n := j) (by omega)] at hR
      simp only [o_no, o_cut, o_ic, o_lc, o_str, o_il, o_ll, o_al, o_is, o_as, o_inc, o_iadd, o_isub, o_imul, o_iand, o_ior, o_ishl, o_ishr, o_iushr, o_idiv, o_irem, o_ladd, o_lmul, o_land, o_lor, o_lrem, o_lshl, o_lshr, o_lcmp, o_i2l, o_l2i, o_dup, o_dup2, o_ifeq, o_ifne, o_iflt, o_ifge, o_ifgt, o_ifle, o_iceq, o_icne, o_iclt, o_icge, o_icgt, o_icle, o_sw, o_iret, o_zret, o_vret, o_getf, o_putf, o_putz, o_putr, o_iald, o_zald, o_iast, o_zast, o_alen, o_aald, o_aast, o_obj_e, o_mmax_e, o_mmin_e, o_gsc, o_gsf, o_sval, o_scod, o_salen, o_sbald, o_i2c, o_pop, o_nret, o_call_0, o_call_1, o_call_2, o_call_3, o_call_4, o_call_5, o_call_6, o_call_7, o_callV_0, o_callV_1, o_callV_2, o_callV_3, o_callV_4, o_callV_5, o_callV_6, o_callT_0, o_callT_1, q_cn_0, q_cn_i, q_cn_r, q_cn_a, q_cn_l, q_cat_eq, q_nl_none, q_nl_sn, q_nl_i, q_nl_r, q_nl_a, q_vp_0, q_vp_1, q_vp_2, q_vp_3, q_vp_4, q_vp_5, q_vp_6, q_vp_7, q_vp_8, List.getElem?_cons_zero, List.getElem?_cons_succ, List.getElem?_nil, List.set_cons_zero, List.set_cons_succ, List.set_nil, Option.toList_some, Option.toList_none, List.cons_append, List.nil_append, Nat.reduceAdd, Nat.reduceSub, Nat.reduceLeDiff, Nat.add_zero, Nat.zero_add, Nat.reduceLT, Nat.zero_le, true_and, and_true, Value.category, true_or, or_true, q_z10, q_z01, Int32.reduceLT, Int32.reduceLE, Int32.reduceToNatClampNeg, not_true_eq_false, not_false_eq_true, false_implies, true_implies, implies_true, BX8_fits_43, BX8_fits_41, BX8_fits_24, BX8_fits_21, BX8_fits_13, BX8_fits_5, BX8_fits_0, rmX8_fits, x0, x1, x3, x4, x6, x7, x9, x12, x15, x18, q_cls_of x0, q_cls_of x1, q_cls_of x3, q_cls_of x4, q_cls_of x6, q_cls_of x7, q_cls_of x9, q_cls_of x12, q_cls_of x15, q_cls_of x18, q_cls_of hr.1, hr.1, q_R0_same]
      rw [hl.2.1.1]
      refine p8_inside (fun g => ?_) (fun g => ?_)
      · have g := (q_ins_lt (by omega)).mp g
        rw [q_if_t g] at hR
        obtain ⟨e, he, rfl⟩ := id g
        rw [q_ix_n (n := e) (by omega)] at hR
        have hv : (s_L k l)[e]? = some ((s_L k l).getD e 0) := by
          rw [List.getD_eq_getElem?_getD, List.getElem?_eq_getElem he]; rfl
        have hvS : (s_L k l).getD e 0 < r_S k := s_L_lt (List.mem_of_getElem? hv)
        simp only [o_no, o_cut, o_ic, o_lc, o_str, o_il, o_ll, o_al, o_is, o_as, o_inc, o_iadd, o_isub, o_imul, o_iand, o_ior, o_ishl, o_ishr, o_iushr, o_idiv, o_irem, o_ladd, o_lmul, o_land, o_lor, o_lrem, o_lshl, o_lshr, o_lcmp, o_i2l, o_l2i, o_dup, o_dup2, o_ifeq, o_ifne, o_iflt, o_ifge, o_ifgt, o_ifle, o_iceq, o_icne, o_iclt, o_icge, o_icgt, o_icle, o_sw, o_iret, o_zret, o_vret, o_getf, o_putf, o_putz, o_putr, o_iald, o_zald, o_iast, o_zast, o_alen, o_aald, o_aast, o_obj_e, o_mmax_e, o_mmin_e, o_gsc, o_gsf, o_sval, o_scod, o_salen, o_sbald, o_i2c, o_pop, o_nret, o_call_0, o_call_1, o_call_2, o_call_3, o_call_4, o_call_5, o_call_6, o_call_7, o_callV_0, o_callV_1, o_callV_2, o_callV_3, o_callV_4, o_callV_5, o_callV_6, o_callT_0, o_callT_1, q_cn_0, q_cn_i, q_cn_r, q_cn_a, q_cn_l, q_cat_eq, q_nl_none, q_nl_sn, q_nl_i, q_nl_r, q_nl_a, q_vp_0, q_vp_1, q_vp_2, q_vp_3, q_vp_4, q_vp_5, q_vp_6, q_vp_7, q_vp_8, List.getElem?_cons_zero, List.getElem?_cons_succ, List.getElem?_nil, List.set_cons_zero, List.set_cons_succ, List.set_nil, Option.toList_some, Option.toList_none, List.cons_append, List.nil_append, Nat.reduceAdd, Nat.reduceSub, Nat.reduceLeDiff, Nat.add_zero, Nat.zero_add, Nat.reduceLT, Nat.zero_le, true_and, and_true, Value.category, true_or, or_true, q_z10, q_z01, Int32.reduceLT, Int32.reduceLE, Int32.reduceToNatClampNeg, not_true_eq_false, not_false_eq_true, false_implies, true_implies, implies_true, BX8_fits_43, BX8_fits_41, BX8_fits_24, BX8_fits_21, BX8_fits_13, BX8_fits_5, BX8_fits_0, rmX8_fits, x0, x1, x3, x4, x6, x7, x9, x12, x15, x18, q_cls_of x0, q_cls_of x1, q_cls_of x3, q_cls_of x4, q_cls_of x6, q_cls_of x7, q_cls_of x9, q_cls_of x12, q_cls_of x15, q_cls_of x18, q_cls_of hr.1, hr.1, q_R0_same]
        refine p6_fitAt x9 y10 (by omega) ?_
        simp only [o_no, o_cut, o_ic, o_lc, o_str, o_il, o_ll, o_al, o_is, o_as, o_inc, o_iadd, o_isub, o_imul, o_iand, o_ior, o_ishl, o_ishr, o_iushr, o_idiv, o_irem, o_ladd, o_lmul, o_land, o_lor, o_lrem, o_lshl, o_lshr, o_lcmp, o_i2l, o_l2i, o_dup, o_dup2, o_ifeq, o_ifne, o_iflt, o_ifge, o_ifgt, o_ifle, o_iceq, o_icne, o_iclt, o_icge, o_icgt, o_icle, o_sw, o_iret, o_zret, o_vret, o_getf, o_putf, o_putz, o_putr, o_iald, o_zald, o_iast, o_zast, o_alen, o_aald, o_aast, o_obj_e, o_mmax_e, o_mmin_e, o_gsc, o_gsf, o_sval, o_scod, o_salen, o_sbald, o_i2c, o_pop, o_nret, o_call_0, o_call_1, o_call_2, o_call_3, o_call_4, o_call_5, o_call_6, o_call_7, o_callV_0, o_callV_1, o_callV_2, o_callV_3, o_callV_4, o_callV_5, o_callV_6, o_callT_0, o_callT_1, q_cn_0, q_cn_i, q_cn_r, q_cn_a, q_cn_l, q_cat_eq, q_nl_none, q_nl_sn, q_nl_i, q_nl_r, q_nl_a, q_vp_0, q_vp_1, q_vp_2, q_vp_3, q_vp_4, q_vp_5, q_vp_6, q_vp_7, q_vp_8, List.getElem?_cons_zero, List.getElem?_cons_succ, List.getElem?_nil, List.set_cons_zero, List.set_cons_succ, List.set_nil, Option.toList_some, Option.toList_none, List.cons_append, List.nil_append, Nat.reduceAdd, Nat.reduceSub, Nat.reduceLeDiff, Nat.add_zero, Nat.zero_add, Nat.reduceLT, Nat.zero_le, true_and, and_true, Value.category, true_or, or_true, q_z10, q_z01, Int32.reduceLT, Int32.reduceLE, Int32.reduceToNatClampNeg, not_true_eq_false, not_false_eq_true, false_implies, true_implies, implies_true, BX8_fits_43, BX8_fits_41, BX8_fits_24, BX8_fits_21, BX8_fits_13, BX8_fits_5, BX8_fits_0, rmX8_fits, x0, x1, x3, x4, x6, x7, x9, x12, x15, x18, q_cls_of x0, q_cls_of x1, q_cls_of x3, q_cls_of x4, q_cls_of x6, q_cls_of x7, q_cls_of x9, q_cls_of x12, q_cls_of x15, q_cls_of x18, q_cls_of hr.1, hr.1, q_R0_same]
        rw [hl.2.1.2 e _ hv]
        refine p4_digit hr ?_
        simp only [o_no, o_cut, o_ic, o_lc, o_str, o_il, o_ll, o_al, o_is, o_as, o_inc, o_iadd, o_isub, o_imul, o_iand, o_ior, o_ishl, o_ishr, o_iushr, o_idiv, o_irem, o_ladd, o_lmul, o_land, o_lor, o_lrem, o_lshl, o_lshr, o_lcmp, o_i2l, o_l2i, o_dup, o_dup2, o_ifeq, o_ifne, o_iflt, o_ifge, o_ifgt, o_ifle, o_iceq, o_icne, o_iclt, o_icge, o_icgt, o_icle, o_sw, o_iret, o_zret, o_vret, o_getf, o_putf, o_putz, o_putr, o_iald, o_zald, o_iast, o_zast, o_alen, o_aald, o_aast, o_obj_e, o_mmax_e, o_mmin_e, o_gsc, o_gsf, o_sval, o_scod, o_salen, o_sbald, o_i2c, o_pop, o_nret, o_call_0, o_call_1, o_call_2, o_call_3, o_call_4, o_call_5, o_call_6, o_call_7, o_callV_0, o_callV_1, o_callV_2, o_callV_3, o_callV_4, o_callV_5, o_callV_6, o_callT_0, o_callT_1, q_cn_0, q_cn_i, q_cn_r, q_cn_a, q_cn_l, q_cat_eq, q_nl_none, q_nl_sn, q_nl_i, q_nl_r, q_nl_a, q_vp_0, q_vp_1, q_vp_2, q_vp_3, q_vp_4, q_vp_5, q_vp_6, q_vp_7, q_vp_8, List.getElem?_cons_zero, List.getElem?_cons_succ, List.getElem?_nil, List.set_cons_zero, List.set_cons_succ, List.set_nil, Option.toList_some, Option.toList_none, List.cons_append, List.nil_append, Nat.reduceAdd, Nat.reduceSub, Nat.reduceLeDiff, Nat.add_zero, Nat.zero_add, Nat.reduceLT, Nat.zero_le, true_and, and_true, Value.category, true_or, or_true, q_z10, q_z01, Int32.reduceLT, Int32.reduceLE, Int32.reduceToNatClampNeg, not_true_eq_false, not_false_eq_true, false_implies, true_implies, implies_true, BX8_fits_43, BX8_fits_41, BX8_fits_24, BX8_fits_21, BX8_fits_13, BX8_fits_5, BX8_fits_0, rmX8_fits, x0, x1, x3, x4, x6, x7, x9, x12, x15, x18, q_cls_of x0, q_cls_of x1, q_cls_of x3, q_cls_of x4, q_cls_of x6, q_cls_of x7, q_cls_of x9, q_cls_of x12, q_cls_of x15, q_cls_of x18, q_cls_of hr.1, hr.1, q_R0_same]
        rw [xs_digit hk hx.1 hx.2.1 (by omega) (by omega)]
        exact hR
      · have g := fun y => g ((q_ins_lt (by omega)).mpr y)
        rw [q_if_f g] at hR
        simp only [o_no, o_cut, o_ic, o_lc, o_str, o_il, o_ll, o_al, o_is, o_as, o_inc, o_iadd, o_isub, o_imul, o_iand, o_ior, o_ishl, o_ishr, o_iushr, o_idiv, o_irem, o_ladd, o_lmul, o_land, o_lor, o_lrem, o_lshl, o_lshr, o_lcmp, o_i2l, o_l2i, o_dup, o_dup2, o_ifeq, o_ifne, o_iflt, o_ifge, o_ifgt, o_ifle, o_iceq, o_icne, o_iclt, o_icge, o_icgt, o_icle, o_sw, o_iret, o_zret, o_vret, o_getf, o_putf, o_putz, o_putr, o_iald, o_zald, o_iast, o_zast, o_alen, o_aald, o_aast, o_obj_e, o_mmax_e, o_mmin_e, o_gsc, o_gsf, o_sval, o_scod, o_salen, o_sbald, o_i2c, o_pop, o_nret, o_call_0, o_call_1, o_call_2, o_call_3, o_call_4, o_call_5, o_call_6, o_call_7, o_callV_0, o_callV_1, o_callV_2, o_callV_3, o_callV_4, o_callV_5, o_callV_6, o_callT_0, o_callT_1, q_cn_0, q_cn_i, q_cn_r, q_cn_a, q_cn_l, q_cat_eq, q_nl_none, q_nl_sn, q_nl_i, q_nl_r, q_nl_a, q_vp_0, q_vp_1, q_vp_2, q_vp_3, q_vp_4, q_vp_5, q_vp_6, q_vp_7, q_vp_8, List.getElem?_cons_zero, List.getElem?_cons_succ, List.getElem?_nil, List.set_cons_zero, List.set_cons_succ, List.set_nil, Option.toList_some, Option.toList_none, List.cons_append, List.nil_append, Nat.reduceAdd, Nat.reduceSub, Nat.reduceLeDiff, Nat.add_zero, Nat.zero_add, Nat.reduceLT, Nat.zero_le, true_and, and_true, Value.category, true_or, or_true, q_z10, q_z01, Int32.reduceLT, Int32.reduceLE, Int32.reduceToNatClampNeg, not_true_eq_false, not_false_eq_true, false_implies, true_implies, implies_true, BX8_fits_43, BX8_fits_41, BX8_fits_24, BX8_fits_21, BX8_fits_13, BX8_fits_5, BX8_fits_0, rmX8_fits, x0, x1, x3, x4, x6, x7, x9, x12, x15, x18, q_cls_of x0, q_cls_of x1, q_cls_of x3, q_cls_of x4, q_cls_of x6, q_cls_of x7, q_cls_of x9, q_cls_of x12, q_cls_of x15, q_cls_of x18, q_cls_of hr.1, hr.1, q_R0_same]
        exact hR
    · rw [q_if_f y] at hR
      simp only [o_no, o_cut, o_ic, o_lc, o_str, o_il, o_ll, o_al, o_is, o_as, o_inc, o_iadd, o_isub, o_imul, o_iand, o_ior, o_ishl, o_ishr, o_iushr, o_idiv, o_irem, o_ladd, o_lmul, o_land, o_lor, o_lrem, o_lshl, o_lshr, o_lcmp, o_i2l, o_l2i, o_dup, o_dup2, o_ifeq, o_ifne, o_iflt, o_ifge, o_ifgt, o_ifle, o_iceq, o_icne, o_iclt, o_icge, o_icgt, o_icle, o_sw, o_iret, o_zret, o_vret, o_getf, o_putf, o_putz, o_putr, o_iald, o_zald, o_iast, o_zast, o_alen, o_aald, o_aast, o_obj_e, o_mmax_e, o_mmin_e, o_gsc, o_gsf, o_sval, o_scod, o_salen, o_sbald, o_i2c, o_pop, o_nret, o_call_0, o_call_1, o_call_2, o_call_3, o_call_4, o_call_5, o_call_6, o_call_7, o_callV_0, o_callV_1, o_callV_2, o_callV_3, o_callV_4, o_callV_5, o_callV_6, o_callT_0, o_callT_1, q_cn_0, q_cn_i, q_cn_r, q_cn_a, q_cn_l, q_cat_eq, q_nl_none, q_nl_sn, q_nl_i, q_nl_r, q_nl_a, q_vp_0, q_vp_1, q_vp_2, q_vp_3, q_vp_4, q_vp_5, q_vp_6, q_vp_7, q_vp_8, List.getElem?_cons_zero, List.getElem?_cons_succ, List.getElem?_nil, List.set_cons_zero, List.set_cons_succ, List.set_nil, Option.toList_some, Option.toList_none, List.cons_append, List.nil_append, Nat.reduceAdd, Nat.reduceSub, Nat.reduceLeDiff, Nat.add_zero, Nat.zero_add, Nat.reduceLT, Nat.zero_le, true_and, and_true, Value.category, true_or, or_true, q_z10, q_z01, Int32.reduceLT, Int32.reduceLE, Int32.reduceToNatClampNeg, not_true_eq_false, not_false_eq_true, false_implies, true_implies, implies_true, BX8_fits_43, BX8_fits_41, BX8_fits_24, BX8_fits_21, BX8_fits_13, BX8_fits_5, BX8_fits_0, rmX8_fits, x0, x1, x3, x4, x6, x7, x9, x12, x15, x18, q_cls_of x0, q_cls_of x1, q_cls_of x3, q_cls_of x4, q_cls_of x6, q_cls_of x7, q_cls_of x9, q_cls_of x12, q_cls_of x15, q_cls_of x18, q_cls_of hr.1, hr.1, q_R0_same]
      exact hR
  · rw [if_pos z] at hR
    rw [hl.2.1.1]; exact hR
theorem r_dg0 (hk : r_ok k) {v : Nat} (hv : v < r_S k) : r_dg k v 0 = v / (r_N k 1 * r_N k 2) :=
  Nat.mod_eq_of_lt (Nat.div_lt_of_lt_mul (by rw [Nat.mul_comm]; exact hv))
theorem r_dg2 (v : Nat) : r_dg k v 2 = v % r_N k 2 := by show v / 1 % _ = _; rw [Nat.div_one]
theorem p9_codes (hs : q_md sh c) (hk : r_ok k) (hmn : m_many m c k) (hR : R (some (.int (nI (r_S k)))) sh m) : wX9_codes [.ref c] sh m R := by
  obtain ⟨z0, z1, z2, z3, z4, z5, z6, z7, z8, z9, z10, z11, z12, z13, z14, z15, z16⟩ := id hs
  refine eX9_codes ?_
  simp only [o_no, o_cut, o_ic, o_lc, o_str, o_il, o_ll, o_al, o_is, o_as, o_inc, o_iadd, o_isub, o_imul, o_iand, o_ior, o_ishl, o_ishr, o_iushr, o_idiv, o_irem, o_ladd, o_lmul, o_land, o_lor, o_lrem, o_lshl, o_lshr, o_lcmp, o_i2l, o_l2i, o_dup, o_dup2, o_ifeq, o_ifne, o_iflt, o_ifge, o_ifgt, o_ifle, o_iceq, o_icne, o_iclt, o_icge, o_icgt, o_icle, o_sw, o_iret, o_zret, o_vret, o_getf, o_putf, o_putz, o_putr, o_iald, o_zald, o_iast, o_zast, o_alen, o_aald, o_aast, o_obj_e, o_mmax_e, o_mmin_e, o_gsc, o_gsf, o_sval, o_scod, o_salen, o_sbald, o_i2c, o_pop, o_nret, o_call_0, o_call_1, o_call_2, o_call_3, o_call_4, o_call_5, o_call_6, o_call_7, o_callV_0, o_callV_1, o_callV_2, o_callV_3, o_callV_4, o_callV_5, o_callV_6, o_callT_0, o_callT_1, q_cn_0, q_cn_i, q_cn_r, q_cn_a, q_cn_l, q_cat_eq, q_nl_none, q_nl_sn, q_nl_i, q_nl_r, q_nl_a, q_vp_0, q_vp_1, q_vp_2, q_vp_3, q_vp_4, q_vp_5, q_vp_6, q_vp_7, q_vp_8, List.getElem?_cons_zero, List.getElem?_cons_succ, List.getElem?_nil, List.set_cons_zero, List.set_cons_succ, List.set_nil, Option.toList_some, Option.toList_none, List.cons_append, List.nil_append, Nat.reduceAdd, Nat.reduceSub, Nat.reduceLeDiff, Nat.add_zero, Nat.zero_add, Nat.reduceLT, Nat.zero_le, true_and, and_true, Value.category, true_or, or_true, q_z10, q_z01, Int32.reduceLT, Int32.reduceLE, Int32.reduceToNatClampNeg, not_true_eq_false, not_false_eq_true, false_implies, true_implies, implies_true, BX9_codes_0, rmX9_codes, z0, z1, z2, z3, z4, z5, z6, z7, z8, z9, z10, z11, z12, z13, z14, z15, z16, q_cls_of z0, q_R0_same]
  rw [hmn 0 (by decide), hmn 1 (by decide), hmn 2 (by decide), pk_mul, pk_mul, Nat.mul_assoc]
  exact hR
theorem p9_fitsAll {v : Nat} (hs : q_md sh c) (hk : r_ok k) (hm : m_rock m c k) (hmn : m_many m c k) (hl : m_seen m c l) (ho : s_ok k l) (hv : v < r_S k) (hR : ∀ m', q_but (c + 9) m m' → (∀ i, i < 3 → m' (c + 9) i = nI (r_dg k v i)) → R (some (.int (if s_Q k l v = true then 1 else 0))) sh m') : wX9_fitsAll [.ref c, .int (nI v)] sh m R := by
  obtain ⟨z0, z1, z2, z3, z4, z5, z6, z7, z8, z9, z10, z11, z12, z13, z14, z15, z16⟩ := id hs
  have h8 : r_pl k ≤ 8 := hk.2.1
  have hSl := (r_Sle hk).2
  have h20 := ho.1
  have w0 := r_wtpos hk 0
  have w0 : 1 ≤ r_N k 1 * r_N k 2 ∧ r_N k 1 * r_N k 2 ≤ 144 := w0
  have N1 := r_Npos hk 1
  have N2 := r_Npos hk 2
  have n4 : c + 4 ≠ c + 9 := by omega
  have dv1 := Nat.div_le_self v (r_N k 2)
  have nz : ∀ n, 1 ≤ n → n ≤ 144 → ¬ nI n = 0 := fun n h1 h2 q => by
    have := (nI_eq (b := 0) (by omega) (by decide)).mp q; omega
  refine eX9_fitsAll ?_
  obtain ⟨z0, z1, z2, z3, z4, z5, z6, z7, z8, z9, z10, z11, z12, z13, z14, z15, z16⟩ := id hs
  simp only [o_no, o_cut, o_ic, o_lc, o_str, o_il, o_ll, o_al, o_is, o_as, o_inc, o_iadd, o_isub, o_imul, o_iand, o_ior, o_ishl, o_ishr, o_iushr, o_idiv, o_irem, o_ladd, o_lmul, o_land, o_lor, o_lrem, o_lshl, o_lshr, o_lcmp, o_i2l, o_l2i, o_dup, o_dup2, o_ifeq, o_ifne, o_iflt, o_ifge, o_ifgt, o_ifle, o_iceq, o_icne, o_iclt, o_icge, o_icgt, o_icle, o_sw, o_iret, o_zret, o_vret, o_getf, o_putf, o_putz, o_putr, o_iald, o_zald, o_iast, o_zast, o_alen, o_aald, o_aast, o_obj_e, o_mmax_e, o_mmin_e, o_gsc, o_gsf, o_sval, o_scod, o_salen, o_sbald, o_i2c, o_pop, o_nret, o_call_0, o_call_1, o_call_2, o_call_3, o_call_4, o_call_5, o_call_6, o_call_7, o_callV_0, o_callV_1, o_callV_2, o_callV_3, o_callV_4, o_callV_5, o_callV_6, o_callT_0, o_callT_1, q_cn_0, q_cn_i, q_cn_r, q_cn_a, q_cn_l, q_cat_eq, q_nl_none, q_nl_sn, q_nl_i, q_nl_r, q_nl_a, q_vp_0, q_vp_1, q_vp_2, q_vp_3, q_vp_4, q_vp_5, q_vp_6, q_vp_7, q_vp_8, List.getElem?_cons_zero, List.getElem?_cons_succ, List.getElem?_nil, List.set_cons_zero, List.set_cons_succ, List.set_nil, Option.toList_some, Option.toList_none, List.cons_append, List.nil_append, Nat.reduceAdd, Nat.reduceSub, Nat.reduceLeDiff, Nat.add_zero, Nat.zero_add, Nat.reduceLT, Nat.zero_le, true_and, and_true, Value.category, true_or, or_true, q_z10, q_z01, Int32.reduceLT, Int32.reduceLE, Int32.reduceToNatClampNeg, not_true_eq_false, not_false_eq_true, false_implies, true_implies, implies_true, BX9_fitsAll_0, BX9_fitsAll_117, BX9_fitsAll_110, BX9_fitsAll_109, BX9_fitsAll_105, BX9_fitsAll_96, BX9_fitsAll_95, BX9_fitsAll_91, BX9_fitsAll_72, BX9_fitsAll_68, BX9_fitsAll_60, rmX9_fitsAll, z0, z1, z2, z3, z4, z5, z6, z7, z8, z9, z10, z11, z12, z13, z14, z15, z16, q_cls_of z0, q_R0_same, q_up_app, n4, false_and, if_false]
  rw [hmn 1 (by decide), hmn 2 (by decide), pk_mul, pk_div (by omega) (by omega) (by omega), pk_div (by omega) (by omega) (by omega), pk_rem (by omega) (by omega) (by omega), pk_rem2, ← r_dg0 hk hv, ← r_dg2, show v / r_N k 2 % r_N k 1 = r_dg k v 1 from rfl]
  obtain ⟨m0, e0⟩ : ∃ m0, m0 = q_up (q_up (q_up m (c + 9) 0 (nI (r_dg k v 0))) (c + 9) 1 (nI (r_dg k v 1))) (c + 9) 2 (nI (r_dg k v 2)) := ⟨_, rfl⟩
  rw [← e0]
  have hb0 : q_but (c + 9) m m0 := by rw [e0]; exact (q_but.up.tr q_but.up).tr q_but.up
  have hd0 : ∀ i, i < 3 → m0 (c + 9) i = nI (r_dg k v i) := by
    intro i hi
    rw [e0]
    match i, hi with
    | 0, _ => simp [q_up_app]
    | 1, _ => simp [q_up_app]
    | 2, _ => simp [q_up_app]
  clear e0
  have loop : ∀ (l2 l1 : SN), l = l1 ++ l2 → q_WP TX9_fitsAll 60 [some (.ref c), some (.int (nI v)), some (.int (if s_Q k l1 v = true then 1 else 0)), some (.int (nI l1.length))] [] sh m0 (q_R0 sh rmX9_fitsAll R) := by
    intro l2
    induction l2 with
    | nil =>
      intro l1 e
      rw [List.append_nil] at e
      subst e
      refine uX9_fitsAll_60 ?_
      simp only [o_no, o_cut, o_ic, o_lc, o_str, o_il, o_ll, o_al, o_is, o_as, o_inc, o_iadd, o_isub, o_imul, o_iand, o_ior, o_ishl, o_ishr, o_iushr, o_idiv, o_irem, o_ladd, o_lmul, o_land, o_lor, o_lrem, o_lshl, o_lshr, o_lcmp, o_i2l, o_l2i, o_dup, o_dup2, o_ifeq, o_ifne, o_iflt, o_ifge, o_ifgt, o_ifle, o_iceq, o_icne, o_iclt, o_icge, o_icgt, o_icle, o_sw, o_iret, o_zret, o_vret, o_getf, o_putf, o_putz, o_putr, o_iald, o_zald, o_iast, o_zast, o_alen, o_aald, o_aast, o_obj_e, o_mmax_e, o_mmin_e, o_gsc, o_gsf, o_sval, o_scod, o_salen, o_sbald, o_i2c, o_pop, o_nret, o_call_0, o_call_1, o_call_2, o_call_3, o_call_4, o_call_5, o_call_6, o_call_7, o_callV_0, o_callV_1, o_callV_2, o_callV_3, o_callV_4, o_callV_5, o_callV_6, o_callT_0, o_callT_1, q_cn_0, q_cn_i, q_cn_r, q_cn_a, q_cn_l, q_cat_eq, q_nl_none, q_nl_sn, q_nl_i, q_nl_r, q_nl_a, q_vp_0, q_vp_1, q_vp_2, q_vp_3, q_vp_4, q_vp_5, q_vp_6, q_vp_7, q_vp_8, List.getElem?_cons_zero, List.getElem?_cons_succ, List.getElem?_nil, List.set_cons_zero, List.set_cons_succ, List.set_nil, Option.toList_some, Option.toList_none, List.cons_append, List.nil_append, Nat.reduceAdd, Nat.reduceSub, Nat.reduceLeDiff, Nat.add_zero, Nat.zero_add, Nat.reduceLT, Nat.zero_le, true_and, and_true, Value.category, true_or, or_true, q_z10, q_z01, Int32.reduceLT, Int32.reduceLE, Int32.reduceToNatClampNeg, not_true_eq_false, not_false_eq_true, false_implies, true_implies, implies_true, BX9_fitsAll_0, BX9_fitsAll_117, BX9_fitsAll_110, BX9_fitsAll_109, BX9_fitsAll_105, BX9_fitsAll_96, BX9_fitsAll_95, BX9_fitsAll_91, BX9_fitsAll_72, BX9_fitsAll_68, BX9_fitsAll_60, rmX9_fitsAll, z0, z1, z2, z3, z4, z5, z6, z7, z8, z9, z10, z11, z12, z13, z14, z15, z16, q_cls_of z0, q_R0_same]
      rw [hb0 c (by omega), hl.1]
      exact ⟨fun _ => ⟨by split <;> decide, hR m0 hb0 hd0⟩, fun q => absurd (nI_le (by omega) (by omega)) q⟩
    | cons o l2 ih =>
      intro l1 e
      have hlen : l.length = l1.length + (l2.length + 1) := by rw [e, List.length_append, List.length_cons]
      have hoe : l[l1.length]? = some o := by rw [e, List.getElem?_append_right (Nat.le_refl _), Nat.sub_self, List.getElem?_cons_zero]
      obtain ⟨g1, g2, g3⟩ := hl.2 _ _ hoe
      obtain ⟨o1, o2⟩ := ho.2 o (by rw [e]; simp)
      have nx := ih (l1 ++ [o]) (by rw [e, List.append_assoc]; rfl)
      have en : (l1 ++ [o]).length = l1.length + 1 := by rw [List.length_append]; rfl
      rw [en] at nx
      refine uX9_fitsAll_60 ?_
      simp only [o_no, o_cut, o_ic, o_lc, o_str, o_il, o_ll, o_al, o_is, o_as, o_inc, o_iadd, o_isub, o_imul, o_iand, o_ior, o_ishl, o_ishr, o_iushr, o_idiv, o_irem, o_ladd, o_lmul, o_land, o_lor, o_lrem, o_lshl, o_lshr, o_lcmp, o_i2l, o_l2i, o_dup, o_dup2, o_ifeq, o_ifne, o_iflt, o_ifge, o_ifgt, o_ifle, o_iceq, o_icne, o_iclt, o_icge, o_icgt, o_icle, o_sw, o_iret, o_zret, o_vret, o_getf, o_putf, o_putz, o_putr, o_iald, o_zald, o_iast, o_zast, o_alen, o_aald, o_aast, o_obj_e, o_mmax_e, o_mmin_e, o_gsc, o_gsf, o_sval, o_scod, o_salen, o_sbald, o_i2c, o_pop, o_nret, o_call_0, o_call_1, o_call_2, o_call_3, o_call_4, o_call_5, o_call_6, o_call_7, o_callV_0, o_callV_1, o_callV_2, o_callV_3, o_callV_4, o_callV_5, o_callV_6, o_callT_0, o_callT_1, q_cn_0, q_cn_i, q_cn_r, q_cn_a, q_cn_l, q_cat_eq, q_nl_none, q_nl_sn, q_nl_i, q_nl_r, q_nl_a, q_vp_0, q_vp_1, q_vp_2, q_vp_3, q_vp_4, q_vp_5, q_vp_6, q_vp_7, q_vp_8, List.getElem?_cons_zero, List.getElem?_cons_succ, List.getElem?_nil, List.set_cons_zero, List.set_cons_succ, List.set_nil, Option.toList_some, Option.toList_none, List.cons_append, List.nil_append, Nat.reduceAdd, Nat.reduceSub, Nat.reduceLeDiff, Nat.add_zero, Nat.zero_add, Nat.reduceLT, Nat.zero_le, true_and, and_true, Value.category, true_or, or_true, q_z10, q_z01, Int32.reduceLT, Int32.reduceLE, Int32.reduceToNatClampNeg, not_true_eq_false, not_false_eq_true, false_implies, true_implies, implies_true, BX9_fitsAll_0, BX9_fitsAll_117, BX9_fitsAll_110, BX9_fitsAll_109, BX9_fitsAll_105, BX9_fitsAll_96, BX9_fitsAll_95, BX9_fitsAll_91, BX9_fitsAll_72, BX9_fitsAll_68, BX9_fitsAll_60, rmX9_fitsAll, z0, z1, z2, z3, z4, z5, z6, z7, z8, z9, z10, z11, z12, z13, z14, z15, z16, q_cls_of z0, q_R0_same]
      rw [hb0 c (by omega), hl.1]
      refine ⟨fun q => absurd q (nI_ge (by omega) (by omega)), fun _ => ⟨fun y => ?_, fun y => ?_⟩⟩
      · have f1 : ¬ s_Q k l1 v = true := one_if0.mp y
        have : s_Q k l v = false := by
          rw [e, s_Q, List.all_append]
          rw [Bool.not_eq_true, s_Q] at f1
          rw [f1, Bool.false_and]
        have hR := hR m0 hb0 hd0
        rw [this] at hR
        rw [if_neg f1]
        exact ⟨by decide, hR⟩
      · have f1 : s_Q k l1 v = true := by
          by_cases q : s_Q k l1 v = true
          · exact q
          · exact absurd (if_neg q) y
        have fe : s_Q k (l1 ++ [o]) v = s_P k o v := by
          rw [s_Q, List.all_append, List.all_cons, List.all_nil, Bool.and_true]
          rw [s_Q] at f1
          rw [f1, Bool.true_and]
        rw [fe] at nx
        rw [nI_clamp (n := l1.length) (by omega), hb0 _ (by omega), hb0 _ (by omega), g1, g2]
        refine ⟨vp_in_nI (by omega) (by decide), vp_in_nI (by omega) (by decide), ?_⟩
        refine p9_heightBy hs (m_rock_but hm (by decide) hb0) hk (d := r_dg k v) o1 (by omega) (fun i hi => ⟨?_, hd0 i (by have := hk.1; omega)⟩) ?_
        · have := r_dglt hk v i; have := (r_Npos hk i).2; omega
        · rw [r_hd_ht hk (s := v) (fun _ _ => rfl)]
          simp only [o_no, o_cut, o_ic, o_lc, o_str, o_il, o_ll, o_al, o_is, o_as, o_inc, o_iadd, o_isub, o_imul, o_iand, o_ior, o_ishl, o_ishr, o_iushr, o_idiv, o_irem, o_ladd, o_lmul, o_land, o_lor, o_lrem, o_lshl, o_lshr, o_lcmp, o_i2l, o_l2i, o_dup, o_dup2, o_ifeq, o_ifne, o_iflt, o_ifge, o_ifgt, o_ifle, o_iceq, o_icne, o_iclt, o_icge, o_icgt, o_icle, o_sw, o_iret, o_zret, o_vret, o_getf, o_putf, o_putz, o_putr, o_iald, o_zald, o_iast, o_zast, o_alen, o_aald, o_aast, o_obj_e, o_mmax_e, o_mmin_e, o_gsc, o_gsf, o_sval, o_scod, o_salen, o_sbald, o_i2c, o_pop, o_nret, o_call_0, o_call_1, o_call_2, o_call_3, o_call_4, o_call_5, o_call_6, o_call_7, o_callV_0, o_callV_1, o_callV_2, o_callV_3, o_callV_4, o_callV_5, o_callV_6, o_callT_0, o_callT_1, q_cn_0, q_cn_i, q_cn_r, q_cn_a, q_cn_l, q_cat_eq, q_nl_none, q_nl_sn, q_nl_i, q_nl_r, q_nl_a, q_vp_0, q_vp_1, q_vp_2, q_vp_3, q_vp_4, q_vp_5, q_vp_6, q_vp_7, q_vp_8, List.getElem?_cons_zero, List.getElem?_cons_succ, List.getElem?_nil, List.set_cons_zero, List.set_cons_succ, List.set_nil, Option.toList_some, Option.toList_none, List.cons_append, List.nil_append, Nat.reduceAdd, Nat.reduceSub, Nat.reduceLeDiff, Nat.add_zero, Nat.zero_add, Nat.reduceLT, Nat.zero_le, true_and, and_true, Value.category, true_or, or_true, q_z10, q_z01, Int32.reduceLT, Int32.reduceLE, Int32.reduceToNatClampNeg, not_true_eq_false, not_false_eq_true, false_implies, true_implies, implies_true, BX9_fitsAll_0, BX9_fitsAll_117, BX9_fitsAll_110, BX9_fitsAll_109, BX9_fitsAll_105, BX9_fitsAll_96, BX9_fitsAll_95, BX9_fitsAll_91, BX9_fitsAll_72, BX9_fitsAll_68, BX9_fitsAll_60, rmX9_fitsAll, z0, z1, z2, z3, z4, z5, z6, z7, z8, z9, z10, z11, z12, z13, z14, z15, z16, q_cls_of z0, q_R0_same]
          rw [nI_clamp (n := l1.length) (by omega), hb0 _ (by omega), g3, nI_1]
          have hlt : r_lt k o.1 (r_ad k v o.2.1) = decide (0 < r_ht k o.1 (r_ad k v o.2.1)) := rfl
          have hsP : s_P k o v = (r_lt k o.1 (r_ad k v o.2.1) == o.2.2) := rfl
          refine ⟨fun y2 => ?_, fun y2 => ?_⟩
          · rw [hsP, hlt, decide_eq_false (Int32.not_lt.mpr y2)] at nx
            refine ⟨vp_in_nI (by omega) (by decide), fun y3 => ?_, fun y3 => ?_⟩
            all_goals
              revert y3 nx
              cases o.2.2 <;> simp <;> exact id
          · rw [hsP, hlt, decide_eq_true (Int32.not_le.mp y2)] at nx
            refine ⟨vp_in_nI (by omega) (by decide), fun y3 => ?_, fun y3 => ?_⟩
            all_goals
              revert y3 nx
              cases o.2.2 <;> simp <;> exact id
  have := loop l [] rfl
  exact ⟨nz _ w0.1 w0.2, nz _ N2.1 (by omega), nz _ N1.1 (by omega), nz _ N2.1 (by omega), this⟩
theorem m_rock_bt {m m' : q_Mm} {c : Nat} {k : RK} (h : m_rock m c k) (hb : q_bt2 (c + 4) (c + 9) m m') (h4 : 0 < r_tn k → ∀ i, i < 3 → m' (c + 4) i = nI (r_N k i)) : m_rock m' c k := by
  obtain ⟨t0, t1, t2, t3, t4, t5, t6, t7, t8, t9⟩ := h
  have e : m' c = m c := hb c (by omega) (by omega)
  refine ⟨by rw [e]; exact t0, by rw [e]; exact t1, by rw [e]; exact t2, by rw [e]; exact t3, by rw [e]; exact t4, h4, ?_, ?_, ?_, ?_⟩
  · rw [hb (c + 3) (by omega) (by omega)]; exact t6
  · rw [hb (c + 5) (by omega) (by omega)]; exact t7
  · rw [hb (c + 6) (by omega) (by omega)]; exact t8
  · rw [hb (c + 7) (by omega) (by omega)]; exact t9
theorem m_seen_bt {m m' : q_Mm} {c : Nat} {l : SN} (h : m_seen m c l) (hb : q_bt2 (c + 4) (c + 9) m m') : m_seen m' c l := by
  obtain ⟨h1, h2⟩ := h
  refine ⟨by rw [hb c (by omega) (by omega)]; exact h1, fun i o hio => ?_⟩
  rw [hb (c + 11) (by omega) (by omega), hb (c + 12) (by omega) (by omega), hb (c + 13) (by omega) (by omega)]
  exact h2 i o hio
theorem q_getD {L : List Nat} {i v : Nat} (h : L[i]? = some v) : L.getD i 0 = v := by rw [List.getD_eq_getElem?_getD, h]; rfl
theorem p9_fits {i w : Int32} (hs : q_md sh c) (hk : r_ok k) (hm : m_rock m c k) (hl : m_seen m c l) (ho : s_ok k l) (hR : ∀ m', q_bt2 (c + 4) (c + 9) m m' → m_rock m' c k → R (some (.int (a_fits k l i w))) sh m') : wX9_fits [.ref c, .int i, .int w] sh m R := by
  obtain ⟨z0, z1, z2, z3, z4, z5, z6, z7, z8, z9, z10, z11, z12, z13, z14, z15, z16⟩ := id hs
  have h3 : r_tn k ≤ 3 := hk.1
  have hSl := (r_Sle hk).2
  have hLl := s_L_len k l
  refine eX9_fits ?_
  simp only [o_no, o_cut, o_ic, o_lc, o_str, o_il, o_ll, o_al, o_is, o_as, o_inc, o_iadd, o_isub, o_imul, o_iand, o_ior, o_ishl, o_ishr, o_iushr, o_idiv, o_irem, o_ladd, o_lmul, o_land, o_lor, o_lrem, o_lshl, o_lshr, o_lcmp, o_i2l, o_l2i, o_dup, o_dup2, o_ifeq, o_ifne, o_iflt, o_ifge, o_ifgt, o_ifle, o_iceq, o_icne, o_iclt, o_icge, o_icgt, o_icle, o_sw, o_iret, o_zret, o_vret, o_getf, o_putf, o_putz, o_putr, o_iald, o_zald, o_iast, o_zast, o_alen, o_aald, o_aast, o_obj_e, o_mmax_e, o_mmin_e, o_gsc, o_gsf, o_sval, o_scod, o_salen, o_sbald, o_i2c, o_pop, o_nret, o_call_0, o_call_1, o_call_2, o_call_3, o_call_4, o_call_5, o_call_6, o_call_7, o_callV_0, o_callV_1, o_callV_2, o_callV_3, o_callV_4, o_callV_5, o_callV_6, o_callT_0, o_callT_1, q_cn_0, q_cn_i, q_cn_r, q_cn_a, q_cn_l, q_cat_eq, q_nl_none, q_nl_sn, q_nl_i, q_nl_r, q_nl_a, q_vp_0, q_vp_1, q_vp_2, q_vp_3, q_vp_4, q_vp_5, q_vp_6, q_vp_7, q_vp_8, List.getElem?_cons_zero, List.getElem?_cons_succ, List.getElem?_nil, List.set_cons_zero, List.set_cons_succ, List.set_nil, Option.toList_some, Option.toList_none, List.cons_append, List.nil_append, Nat.reduceAdd, Nat.reduceSub, Nat.reduceLeDiff, Nat.add_zero, Nat.zero_add, Nat.reduceLT, Nat.zero_le, true_and, and_true, Value.category, true_or, or_true, q_z10, q_z01, Int32.reduceLT, Int32.reduceLE, Int32.reduceToNatClampNeg, not_true_eq_false, not_false_eq_true, false_implies, true_implies, implies_true, BX9_fits_13, BX9_fits_5, BX9_fits_0, BX9_fits_44, BX9_fits_23, BX9_fits_16, BX9_fits_98, BX9_fits_97, BX9_fits_93, BX9_fits_88, BX9_fits_82, BX9_fits_79, BX9_fits_72, BX9_fits_67, BX9_fits_58, BX9_fits_49, rmX9_fits, z0, z1, z2, z3, z4, z5, z6, z7, z8, z9, z10, z11, z12, z13, z14, z15, z16, q_cls_of z0, q_R0_same]
  have main : ∀ (m0 : q_Mm), q_bt2 (c + 4) (c + 9) m m0 → m_many m0 c k → (i = -1 ∨ q_lt w (r_tn k)) → q_WP TX9_fits 49 [some (.ref c), some (.int i), some (.int w), some (.int 0), some (.int 0)] [] sh m0 (q_R0 sh rmX9_fits R) := by
    intro m0 hb0 hmn0 hiw
    have loop : ∀ d n (m1 : q_Mm), n + d = r_S k → q_bt2 (c + 4) (c + 9) m m1 → m_many m1 c k → (∀ j, i = nI j → j < 2 ^ 31 → ((List.range n).filter (s_Q k l)).length ≤ j) → q_WP TX9_fits 49 [some (.ref c), some (.int i), some (.int w), some (.int (nI ((List.range n).filter (s_Q k l)).length)), some (.int (nI n))] [] sh m1 (q_R0 sh rmX9_fits R) := by
      intro d
      induction d with
      | zero =>
        intro n m1 hn hb hmn hi
        obtain rfl : n = r_S k := by omega
        have hm1 := m_rock_bt hm hb (fun _ => hmn)
        have hR := hR m1 hb hm1
        refine uX9_fits_49 ?_
        simp only [o_no, o_cut, o_ic, o_lc, o_str, o_il, o_ll, o_al, o_is, o_as, o_inc, o_iadd, o_isub, o_imul, o_iand, o_ior, o_ishl, o_ishr, o_iushr, o_idiv, o_irem, o_ladd, o_lmul, o_land, o_lor, o_lrem, o_lshl, o_lshr, o_lcmp, o_i2l, o_l2i, o_dup, o_dup2, o_ifeq, o_ifne, o_iflt, o_ifge, o_ifgt, o_ifle, o_iceq, o_icne, o_iclt, o_icge, o_icgt, o_icle, o_sw, o_iret, o_zret, o_vret, o_getf, o_putf, o_putz, o_putr, o_iald, o_zald, o_iast, o_zast, o_alen, o_aald, o_aast, o_obj_e, o_mmax_e, o_mmin_e, o_gsc, o_gsf, o_sval, o_scod, o_salen, o_sbald, o_i2c, o_pop, o_nret, o_call_0, o_call_1, o_call_2, o_call_3, o_call_4, o_call_5, o_call_6, o_call_7, o_callV_0, o_callV_1, o_callV_2, o_callV_3, o_callV_4, o_callV_5, o_callV_6, o_callT_0, o_callT_1, q_cn_0, q_cn_i, q_cn_r, q_cn_a, q_cn_l, q_cat_eq, q_nl_none, q_nl_sn, q_nl_i, q_nl_r, q_nl_a, q_vp_0, q_vp_1, q_vp_2, q_vp_3, q_vp_4, q_vp_5, q_vp_6, q_vp_7, q_vp_8, List.getElem?_cons_zero, List.getElem?_cons_succ, List.getElem?_nil, List.set_cons_zero, List.set_cons_succ, List.set_nil, Option.toList_some, Option.toList_none, List.cons_append, List.nil_append, Nat.reduceAdd, Nat.reduceSub, Nat.reduceLeDiff, Nat.add_zero, Nat.zero_add, Nat.reduceLT, Nat.zero_le, true_and, and_true, Value.category, true_or, or_true, q_z10, q_z01, Int32.reduceLT, Int32.reduceLE, Int32.reduceToNatClampNeg, not_true_eq_false, not_false_eq_true, false_implies, true_implies, implies_true, BX9_fits_13, BX9_fits_5, BX9_fits_0, BX9_fits_44, BX9_fits_23, BX9_fits_16, BX9_fits_98, BX9_fits_97, BX9_fits_93, BX9_fits_88, BX9_fits_82, BX9_fits_79, BX9_fits_72, BX9_fits_67, BX9_fits_58, BX9_fits_49, rmX9_fits, z0, z1, z2, z3, z4, z5, z6, z7, z8, z9, z10, z11, z12, z13, z14, z15, z16, q_cls_of z0, q_R0_same]
        refine p9_codes hs hk hmn ?_
        simp only [o_no, o_cut, o_ic, o_lc, o_str, o_il, o_ll, o_al, o_is, o_as, o_inc, o_iadd, o_isub, o_imul, o_iand, o_ior, o_ishl, o_ishr, o_iushr, o_idiv, o_irem, o_ladd, o_lmul, o_land, o_lor, o_lrem, o_lshl, o_lshr, o_lcmp, o_i2l, o_l2i, o_dup, o_dup2, o_ifeq, o_ifne, o_iflt, o_ifge, o_ifgt, o_ifle, o_iceq, o_icne, o_iclt, o_icge, o_icgt, o_icle, o_sw, o_iret, o_zret, o_vret, o_getf, o_putf, o_putz, o_putr, o_iald, o_zald, o_iast, o_zast, o_alen, o_aald, o_aast, o_obj_e, o_mmax_e, o_mmin_e, o_gsc, o_gsf, o_sval, o_scod, o_salen, o_sbald, o_i2c, o_pop, o_nret, o_call_0, o_call_1, o_call_2, o_call_3, o_call_4, o_call_5, o_call_6, o_call_7, o_callV_0, o_callV_1, o_callV_2, o_callV_3, o_callV_4, o_callV_5, o_callV_6, o_callT_0, o_callT_1, q_cn_0, q_cn_i, q_cn_r, q_cn_a, q_cn_l, q_cat_eq, q_nl_none, q_nl_sn, q_nl_i, q_nl_r, q_nl_a, q_vp_0, q_vp_1, q_vp_2, q_vp_3, q_vp_4, q_vp_5, q_vp_6, q_vp_7, q_vp_8, List.getElem?_cons_zero, List.getElem?_cons_succ, List.getElem?_nil, List.set_cons_zero, List.set_cons_succ, List.set_nil, Option.toList_some, Option.toList_none, List.cons_append, List.nil_append, Nat.reduceAdd, Nat.reduceSub, Nat.reduceLeDiff, Nat.add_zero, Nat.zero_add, Nat.reduceLT, Nat.zero_le, true_and, and_true, Value.category, true_or, or_true, q_z10, q_z01, Int32.reduceLT, Int32.reduceLE, Int32.reduceToNatClampNeg, not_true_eq_false, not_false_eq_true, false_implies, true_implies, implies_true, BX9_fits_13, BX9_fits_5, BX9_fits_0, BX9_fits_44, BX9_fits_23, BX9_fits_16, BX9_fits_98, BX9_fits_97, BX9_fits_93, BX9_fits_88, BX9_fits_82, BX9_fits_79, BX9_fits_72, BX9_fits_67, BX9_fits_58, BX9_fits_49, rmX9_fits, z0, z1, z2, z3, z4, z5, z6, z7, z8, z9, z10, z11, z12, z13, z14, z15, z16, q_cls_of z0, q_R0_same]
        refine ⟨fun _ => ?_, fun q => absurd (nI_le (by omega) (by omega)) q⟩
        unfold a_fits at hR
        refine ⟨fun y => ?_, fun y => ?_⟩
        · rw [if_neg y, q_if_t (hiw.resolve_left y), q_if_f] at hR
          · exact hR
          · rintro ⟨j, hj, rfl⟩
            have := hi j rfl (by omega)
            rw [show (List.range (r_S k)).filter (s_Q k l) = s_L k l from rfl] at this
            omega
        · rw [if_pos y] at hR; exact hR
      | succ d ih =>
        intro n m1 hn hb hmn hi
        have hm1 := m_rock_bt hm hb (fun _ => hmn)
        have hl1 := m_seen_bt hl hb
        have hfl : ((List.range n).filter (s_Q k l)).length ≤ n := by
          have := List.length_filter_le (s_Q k l) (List.range n)
          rw [List.length_range] at this
          exact this
        refine uX9_fits_49 ?_
        simp only [o_no, o_cut, o_ic, o_lc, o_str, o_il, o_ll, o_al, o_is, o_as, o_inc, o_iadd, o_isub, o_imul, o_iand, o_ior, o_ishl, o_ishr, o_iushr, o_idiv, o_irem, o_ladd, o_lmul, o_land, o_lor, o_lrem, o_lshl, o_lshr, o_lcmp, o_i2l, o_l2i, o_dup, o_dup2, o_ifeq, o_ifne, o_iflt, o_ifge, o_ifgt, o_ifle, o_iceq, o_icne, o_iclt, o_icge, o_icgt, o_icle, o_sw, o_iret, o_zret, o_vret, o_getf, o_putf, o_putz, o_putr, o_iald, o_zald, o_iast, o_zast, o_alen, o_aald, o_aast, o_obj_e, o_mmax_e, o_mmin_e, o_gsc, o_gsf, o_sval, o_scod, o_salen, o_sbald, o_i2c, o_pop, o_nret, o_call_0, o_call_1, o_call_2, o_call_3, o_call_4, o_call_5, o_call_6, o_call_7, o_callV_0, o_callV_1, o_callV_2, o_callV_3, o_callV_4, o_callV_5, o_callV_6, o_callT_0, o_callT_1, q_cn_0, q_cn_i, q_cn_r, q_cn_a, q_cn_l, q_cat_eq, q_nl_none, q_nl_sn, q_nl_i, q_nl_r, q_nl_a, q_vp_0, q_vp_1, q_vp_2, q_vp_3, q_vp_4, q_vp_5, q_vp_6, q_vp_7, q_vp_8, List.getElem?_cons_zero, List.getElem?_cons_succ, List.getElem?_nil, List.set_cons_zero, List.set_cons_succ, List.set_nil, Option.toList_some, Option.toList_none, List.cons_append, List.nil_append, Nat.reduceAdd, Nat.reduceSub, Nat.reduceLeDiff, Nat.add_zero, Nat.zero_add, Nat.reduceLT, Nat.zero_le, true_and, and_true, Value.category, true_or, or_true, q_z10, q_z01, Int32.reduceLT, Int32.reduceLE, Int32.reduceToNatClampNeg, not_true_eq_false, not_false_eq_true, false_implies, true_implies, implies_true, BX9_fits_13, BX9_fits_5, BX9_fits_0, BX9_fits_44, BX9_fits_23, BX9_fits_16, BX9_fits_98, BX9_fits_97, BX9_fits_93, BX9_fits_88, BX9_fits_82, BX9_fits_79, BX9_fits_72, BX9_fits_67, BX9_fits_58, BX9_fits_49, rmX9_fits, z0, z1, z2, z3, z4, z5, z6, z7, z8, z9, z10, z11, z12, z13, z14, z15, z16, q_cls_of z0, q_R0_same]
        refine p9_codes hs hk hmn ?_
        simp only [o_no, o_cut, o_ic, o_lc, o_str, o_il, o_ll, o_al, o_is, o_as, o_inc, o_iadd, o_isub, o_imul, o_iand, o_ior, o_ishl, o_ishr, o_iushr, o_idiv, o_irem, o_ladd, o_lmul, o_land, o_lor, o_lrem, o_lshl, o_lshr, o_lcmp, o_i2l, o_l2i, o_dup, o_dup2, o_ifeq, o_ifne, o_iflt, o_ifge, o_ifgt, o_ifle, o_iceq, o_icne, o_iclt, o_icge, o_icgt, o_icle, o_sw, o_iret, o_zret, o_vret, o_getf, o_putf, o_putz, o_putr, o_iald, o_zald, o_iast, o_zast, o_alen, o_aald, o_aast, o_obj_e, o_mmax_e, o_mmin_e, o_gsc, o_gsf, o_sval, o_scod, o_salen, o_sbald, o_i2c, o_pop, o_nret, o_call_0, o_call_1, o_call_2, o_call_3, o_call_4, o_call_5, o_call_6, o_call_7, o_callV_0, o_callV_1, o_callV_2, o_callV_3, o_callV_4, o_callV_5, o_callV_6, o_callT_0, o_callT_1, q_cn_0, q_cn_i, q_cn_r, q_cn_a, q_cn_l, q_cat_eq, q_nl_none, q_nl_sn, q_nl_i, q_nl_r, q_nl_a, q_vp_0, q_vp_1, q_vp_2, q_vp_3, q_vp_4, q_vp_5, q_vp_6, q_vp_7, q_vp_8, List.getElem?_cons_zero, List.getElem?_cons_succ, List.getElem?_nil, List.set_cons_zero, List.set_cons_succ, List.set_nil, Option.toList_some, Option.toList_none, List.cons_append, List.nil_append, Nat.reduceAdd, Nat.reduceSub, Nat.reduceLeDiff, Nat.add_zero, Nat.zero_add, Nat.reduceLT, Nat.zero_le, true_and, and_true, Value.category, true_or, or_true, q_z10, q_z01, Int32.reduceLT, Int32.reduceLE, Int32.reduceToNatClampNeg, not_true_eq_false, not_false_eq_true, false_implies, true_implies, implies_true, BX9_fits_13, BX9_fits_5, BX9_fits_0, BX9_fits_44, BX9_fits_23, BX9_fits_16, BX9_fits_98, BX9_fits_97, BX9_fits_93, BX9_fits_88, BX9_fits_82, BX9_fits_79, BX9_fits_72, BX9_fits_67, BX9_fits_58, BX9_fits_49, rmX9_fits, z0, z1, z2, z3, z4, z5, z6, z7, z8, z9, z10, z11, z12, z13, z14, z15, z16, q_cls_of z0, q_R0_same]
        refine ⟨fun q => absurd q (nI_ge (by omega) (by omega)), fun _ => ?_⟩
        refine p9_fitsAll hs hk hm1 hmn hl1 ho (v := n) (by omega) (fun m2 hb2 hd2 => ?_)
        have hb3 : q_bt2 (c + 4) (c + 9) m m2 := fun a g1 g2 => by rw [hb2 a g2, hb a g1 g2]
        have hmn3 : m_many m2 c k := fun j hj => by rw [hb2 _ (by omega)]; exact hmn j hj
        have nx := ih (n + 1) m2 (by omega) hb3 hmn3
        rw [s_A_succ] at nx
        simp only [o_no, o_cut, o_ic, o_lc, o_str, o_il, o_ll, o_al, o_is, o_as, o_inc, o_iadd, o_isub, o_imul, o_iand, o_ior, o_ishl, o_ishr, o_iushr, o_idiv, o_irem, o_ladd, o_lmul, o_land, o_lor, o_lrem, o_lshl, o_lshr, o_lcmp, o_i2l, o_l2i, o_dup, o_dup2, o_ifeq, o_ifne, o_iflt, o_ifge, o_ifgt, o_ifle, o_iceq, o_icne, o_iclt, o_icge, o_icgt, o_icle, o_sw, o_iret, o_zret, o_vret, o_getf, o_putf, o_putz, o_putr, o_iald, o_zald, o_iast, o_zast, o_alen, o_aald, o_aast, o_obj_e, o_mmax_e, o_mmin_e, o_gsc, o_gsf, o_sval, o_scod, o_salen, o_sbald, o_i2c, o_pop, o_nret, o_call_0, o_call_1, o_call_2, o_call_3, o_call_4, o_call_5, o_call_6, o_call_7, o_callV_0, o_callV_1, o_callV_2, o_callV_3, o_callV_4, o_callV_5, o_callV_6, o_callT_0, o_callT_1, q_cn_0, q_cn_i, q_cn_r, q_cn_a, q_cn_l, q_cat_eq, q_nl_none, q_nl_sn, q_nl_i, q_nl_r, q_nl_a, q_vp_0, q_vp_1, q_vp_2, q_vp_3, q_vp_4, q_vp_5, q_vp_6, q_vp_7, q_vp_8, List.getElem?_cons_zero, List.getElem?_cons_succ, List.getElem?_nil, List.set_cons_zero, List.set_cons_succ, List.set_nil, Option.toList_some, Option.toList_none, List.cons_append, List.nil_append, Nat.reduceAdd, Nat.reduceSub, Nat.reduceLeDiff, Nat.add_zero, Nat.zero_add, Nat.reduceLT, Nat.zero_le, true_and, and_true, Value.category, true_or, or_true, q_z10, q_z01, Int32.reduceLT, Int32.reduceLE, Int32.reduceToNatClampNeg, not_true_eq_false, not_false_eq_true, false_implies, true_implies, implies_true, BX9_fits_13, BX9_fits_5, BX9_fits_0, BX9_fits_44, BX9_fits_23, BX9_fits_16, BX9_fits_98, BX9_fits_97, BX9_fits_93, BX9_fits_88, BX9_fits_82, BX9_fits_79, BX9_fits_72, BX9_fits_67, BX9_fits_58, BX9_fits_49, rmX9_fits, z0, z1, z2, z3, z4, z5, z6, z7, z8, z9, z10, z11, z12, z13, z14, z15, z16, q_cls_of z0, q_R0_same]
        refine ⟨fun y => ?_, fun y => ?_⟩
        · have f1 : ¬ s_Q k l n = true := one_if0.mp y
          rw [if_neg f1, List.append_nil] at nx
          rw [nI_1]
          exact nx hi
        · have f1 : s_Q k l n = true := by
            by_cases q : s_Q k l n = true
            · exact q
            · exact absurd (if_neg q) y
          rw [if_pos f1, List.length_append, show [n].length = 1 from rfl] at nx
          refine ⟨fun y2 => ?_, fun y2 => ?_⟩
          · rw [nI_1, nI_1]
            refine nx (fun j ej hj => ?_)
            have := hi j ej hj
            rcases Nat.lt_or_ge ((List.range n).filter (s_Q k l)).length j with q | q
            · omega
            · exact absurd (by rw [ej, show ((List.range n).filter (s_Q k l)).length = j by omega]) y2
          · have hR := hR m2 hb3 (m_rock_bt hm hb3 (fun _ => hmn3))
            unfold a_fits at hR
            have hne : i ≠ -1 := by
              intro q
              rw [q] at y2
              have := congrArg Int32.toInt y2
              rw [nI_toInt (by omega), show (-1 : Int32).toInt = -1 from by decide] at this
              omega
            obtain ⟨e, he, rfl⟩ := id (hiw.resolve_left hne)
            obtain ⟨B, hB⟩ := s_L_split (k := k) (l := l) (show n < r_S k by omega)
            rw [if_pos f1, List.append_assoc] at hB
            have hv : (s_L k l)[((List.range n).filter (s_Q k l)).length]? = some n := by
              rw [hB, List.getElem?_append_right (Nat.le_refl _), Nat.sub_self]; rfl
            have hlt := (List.getElem?_eq_some_iff.mp hv).1
            rw [if_neg hne, q_if_t (hiw.resolve_left hne), ← y2, q_if_t ⟨_, hlt, rfl⟩, q_ix_n (by omega), q_ix_n (by omega), q_getD hv] at hR
            rw [nI_clamp (n := e) (by omega), hd2 e (by omega)]
            exact ⟨vp_in_nI (by omega) (by decide), hR⟩
    have := loop (r_S k) 0 m0 (by omega) hb0 hmn0 (fun j _ _ => Nat.zero_le _)
    exact this
  have at16 : (i = -1 ∨ q_lt w (r_tn k)) → q_WP TX9_fits 16 [some (.ref c), some (.int i), some (.int w), none, none] [] sh m (q_R0 sh rmX9_fits R) := by
    intro hiw
    refine uX9_fits_16 ?_
    simp only [o_no, o_cut, o_ic, o_lc, o_str, o_il, o_ll, o_al, o_is, o_as, o_inc, o_iadd, o_isub, o_imul, o_iand, o_ior, o_ishl, o_ishr, o_iushr, o_idiv, o_irem, o_ladd, o_lmul, o_land, o_lor, o_lrem, o_lshl, o_lshr, o_lcmp, o_i2l, o_l2i, o_dup, o_dup2, o_ifeq, o_ifne, o_iflt, o_ifge, o_ifgt, o_ifle, o_iceq, o_icne, o_iclt, o_icge, o_icgt, o_icle, o_sw, o_iret, o_zret, o_vret, o_getf, o_putf, o_putz, o_putr, o_iald, o_zald, o_iast, o_zast, o_alen, o_aald, o_aast, o_obj_e, o_mmax_e, o_mmin_e, o_gsc, o_gsf, o_sval, o_scod, o_salen, o_sbald, o_i2c, o_pop, o_nret, o_call_0, o_call_1, o_call_2, o_call_3, o_call_4, o_call_5, o_call_6, o_call_7, o_callV_0, o_callV_1, o_callV_2, o_callV_3, o_callV_4, o_callV_5, o_callV_6, o_callT_0, o_callT_1, q_cn_0, q_cn_i, q_cn_r, q_cn_a, q_cn_l, q_cat_eq, q_nl_none, q_nl_sn, q_nl_i, q_nl_r, q_nl_a, q_vp_0, q_vp_1, q_vp_2, q_vp_3, q_vp_4, q_vp_5, q_vp_6, q_vp_7, q_vp_8, List.getElem?_cons_zero, List.getElem?_cons_succ, List.getElem?_nil, List.set_cons_zero, List.set_cons_succ, List.set_nil, Option.toList_some, Option.toList_none, List.cons_append, List.nil_append, Nat.reduceAdd, Nat.reduceSub, Nat.reduceLeDiff, Nat.add_zero, Nat.zero_add, Nat.reduceLT, Nat.zero_le, true_and, and_true, Value.category, true_or, or_true, q_z10, q_z01, Int32.reduceLT, Int32.reduceLE, Int32.reduceToNatClampNeg, not_true_eq_false, not_false_eq_true, false_implies, true_implies, implies_true, BX9_fits_13, BX9_fits_5, BX9_fits_0, BX9_fits_44, BX9_fits_23, BX9_fits_16, BX9_fits_98, BX9_fits_97, BX9_fits_93, BX9_fits_88, BX9_fits_82, BX9_fits_79, BX9_fits_72, BX9_fits_67, BX9_fits_58, BX9_fits_49, rmX9_fits, z0, z1, z2, z3, z4, z5, z6, z7, z8, z9, z10, z11, z12, z13, z14, z15, z16, q_cls_of z0, q_R0_same]
    rw [hm.1]
    refine ⟨fun y => ?_, fun y => ?_⟩
    · exact main m q_bt2.rf (hm.2.2.2.2.2.1 (by
        rcases Nat.eq_zero_or_pos (r_tn k) with q | q
        · exact absurd (by rw [q]; rfl) y
        · exact q)) hiw
    · have y : r_tn k = 0 := (nI_eq (b := 0) (by omega) (by decide)).mp y
      have N1 : ∀ j, r_N k j = 1 := fun j => hk.2.2.2.2.2.1 j (by omega)
      refine main _ ((q_bt2.u0.tr q_bt2.u0).tr q_bt2.u0) (fun j hj => ?_) hiw
      rw [N1]
      match j, hj with
      | 0, _ => simp [q_up_app]; rfl
      | 1, _ => simp [q_up_app]; rfl
      | 2, _ => simp [q_up_app]; rfl
  refine ⟨fun z => at16 (Or.inl z), fun z => ?_⟩
  refine p9_isTurning hs hm hk (fun y => ?_) (fun y => ?_)
  · have := at16 (Or.inr y)
    simp only [o_no, o_cut, o_ic, o_lc, o_str, o_il, o_ll, o_al, o_is, o_as, o_inc, o_iadd, o_isub, o_imul, o_iand, o_ior, o_ishl, o_ishr, o_iushr, o_idiv, o_irem, o_ladd, o_lmul, o_land, o_lor, o_lrem, o_lshl, o_lshr, o_lcmp, o_i2l, o_l2i, o_dup, o_dup2, o_ifeq, o_ifne, o_iflt, o_ifge, o_ifgt, o_ifle, o_iceq, o_icne, o_iclt, o_icge, o_icgt, o_icle, o_sw, o_iret, o_zret, o_vret, o_getf, o_putf, o_putz, o_putr, o_iald, o_zald, o_iast, o_zast, o_alen, o_aald, o_aast, o_obj_e, o_mmax_e, o_mmin_e, o_gsc, o_gsf, o_sval, o_scod, o_salen, o_sbald, o_i2c, o_pop, o_nret, o_call_0, o_call_1, o_call_2, o_call_3, o_call_4, o_call_5, o_call_6, o_call_7, o_callV_0, o_callV_1, o_callV_2, o_callV_3, o_callV_4, o_callV_5, o_callV_6, o_callT_0, o_callT_1, q_cn_0, q_cn_i, q_cn_r, q_cn_a, q_cn_l, q_cat_eq, q_nl_none, q_nl_sn, q_nl_i, q_nl_r, q_nl_a, q_vp_0, q_vp_1, q_vp_2, q_vp_3, q_vp_4, q_vp_5, q_vp_6, q_vp_7, q_vp_8, List.getElem?_cons_zero, List.getElem?_cons_succ, List.getElem?_nil, List.set_cons_zero, List.set_cons_succ, List.set_nil, Option.toList_some, Option.toList_none, List.cons_append, List.nil_append, Nat.reduceAdd, Nat.reduceSub, Nat.reduceLeDiff, Nat.add_zero, Nat.zero_add, Nat.reduceLT, Nat.zero_le, true_and, and_true, Value.category, true_or, or_true, q_z10, q_z01, Int32.reduceLT, Int32.reduceLE, Int32.reduceToNatClampNeg, not_true_eq_false, not_false_eq_true, false_implies, true_implies, implies_true, BX9_fits_13, BX9_fits_5, BX9_fits_0, BX9_fits_44, BX9_fits_23, BX9_fits_16, BX9_fits_98, BX9_fits_97, BX9_fits_93, BX9_fits_88, BX9_fits_82, BX9_fits_79, BX9_fits_72, BX9_fits_67, BX9_fits_58, BX9_fits_49, rmX9_fits, z0, z1, z2, z3, z4, z5, z6, z7, z8, z9, z10, z11, z12, z13, z14, z15, z16, q_cls_of z0, q_R0_same]
    exact this
  · have hR := hR m q_bt2.rf hm
    unfold a_fits at hR
    rw [if_neg z, q_if_f y] at hR
    simp only [o_no, o_cut, o_ic, o_lc, o_str, o_il, o_ll, o_al, o_is, o_as, o_inc, o_iadd, o_isub, o_imul, o_iand, o_ior, o_ishl, o_ishr, o_iushr, o_idiv, o_irem, o_ladd, o_lmul, o_land, o_lor, o_lrem, o_lshl, o_lshr, o_lcmp, o_i2l, o_l2i, o_dup, o_dup2, o_ifeq, o_ifne, o_iflt, o_ifge, o_ifgt, o_ifle, o_iceq, o_icne, o_iclt, o_icge, o_icgt, o_icle, o_sw, o_iret, o_zret, o_vret, o_getf, o_putf, o_putz, o_putr, o_iald, o_zald, o_iast, o_zast, o_alen, o_aald, o_aast, o_obj_e, o_mmax_e, o_mmin_e, o_gsc, o_gsf, o_sval, o_scod, o_salen, o_sbald, o_i2c, o_pop, o_nret, o_call_0, o_call_1, o_call_2, o_call_3, o_call_4, o_call_5, o_call_6, o_call_7, o_callV_0, o_callV_1, o_callV_2, o_callV_3, o_callV_4, o_callV_5, o_callV_6, o_callT_0, o_callT_1, q_cn_0, q_cn_i, q_cn_r, q_cn_a, q_cn_l, q_cat_eq, q_nl_none, q_nl_sn, q_nl_i, q_nl_r, q_nl_a, q_vp_0, q_vp_1, q_vp_2, q_vp_3, q_vp_4, q_vp_5, q_vp_6, q_vp_7, q_vp_8, List.getElem?_cons_zero, List.getElem?_cons_succ, List.getElem?_nil, List.set_cons_zero, List.set_cons_succ, List.set_nil, Option.toList_some, Option.toList_none, List.cons_append, List.nil_append, Nat.reduceAdd, Nat.reduceSub, Nat.reduceLeDiff, Nat.add_zero, Nat.zero_add, Nat.reduceLT, Nat.zero_le, true_and, and_true, Value.category, true_or, or_true, q_z10, q_z01, Int32.reduceLT, Int32.reduceLE, Int32.reduceToNatClampNeg, not_true_eq_false, not_false_eq_true, false_implies, true_implies, implies_true, BX9_fits_13, BX9_fits_5, BX9_fits_0, BX9_fits_44, BX9_fits_23, BX9_fits_16, BX9_fits_98, BX9_fits_97, BX9_fits_93, BX9_fits_88, BX9_fits_82, BX9_fits_79, BX9_fits_72, BX9_fits_67, BX9_fits_58, BX9_fits_49, rmX9_fits, z0, z1, z2, z3, z4, z5, z6, z7, z8, z9, z10, z11, z12, z13, z14, z15, z16, q_cls_of z0, q_R0_same]
    exact hR
end FI
