/-! The class reads the text: the clauses' readers. -/
section XC
variable {m : q_Mm} {rb sb : Nat} {k : RK} {sh : q_Sh} {R : q_KR} {x : TX}
theorem x_ps_at {n A : Nat} (h : x_ps m n (0, A)) : m 3 1 = nI A ∧ A ≤ n ∧ m 3 2 = 0 := by
  obtain ⟨a1, a2, ⟨B, b1, b2, b3⟩, a4, a5⟩ := h
  have : B = A := b3 rfl
  subst this
  exact ⟨b2, b1, a2⟩
theorem x_ps_fault {n : Nat} {s : PS} (h : x_ps m n s) : (m 3 2 = 0 ↔ s.1 = 0) := by
  rw [h.2.1]
  exact nI_eq (b := 0) (by have := h.1; omega) (by decide)
theorem q_xs_sb (hs : q_xs sh rb sb) : 3 < sb ∧ q_rk sh sb := by
  obtain ⟨x0, x1, x3, x4, x6, x7, x9, x12, x15, x18, hr, hb, y2, y5, y8, y10, y11, y13, y14, y16, y17, y19, hrb⟩ := id hs
  exact ⟨by omega, hb⟩
theorem p3_readTurning {i0 : Nat} (hs : q_xs sh rb sb) (hx : x_text m x) (ho : t_ok x) (hk : r_ok k) (ht : x_told m sb k) (h3 : r_tn k < 3) (hp : x_ps m x.2 (0, i0)) (hR : ∀ m', xr_fr sb m m' → x_ps m' x.2 (t_bd (t_tl x 12 0 (fun _ => 0) i0).1 (t_end x)) → ((t_bd (t_tl x 12 0 (fun _ => 0) i0).1 (t_end x)).1 = 0 → x_told m' sb (k_T k (t_tl x 12 0 (fun _ => 0) i0).2.1 (t_tl x 12 0 (fun _ => 0) i0).2.2)) → R none sh m') : wX3_readTurning [.ref 3, .ref sb] sh m R := by
  obtain ⟨s3, hb⟩ := q_xs_sb hs
  obtain ⟨x0, x1, x3, x4, x6, x7, x9, x12, x15, x18, hr, hb, y2, y5, y8, y10, y11, y13, y14, y16, y17, y19, hrb⟩ := id hs
  have h400 := ho.1
  generalize hT : t_tl x 12 0 (fun _ => 0) i0 = T at hR
  have out6 : ∀ (n : Nat) (v3 : Option Value) (m1 : q_Mm), ¬ (t_bd T.1 (t_end x)).1 = 0 → xr_fr sb m m1 → x_ps m1 x.2 (t_bd T.1 (t_end x)) → q_WP TX3_readTurning 6 [some (.ref 3), some (.ref sb), some (.int (nI n)), v3] [] sh m1 (q_R0 sh rmX3_readTurning R) := by
    intro n v3 m1 hne hf1 hp1
    refine uX3_readTurning_6 ?_
    have nz : ¬ m1 3 2 = 0 := fun z => hne ((x_ps_fault hp1).mp z)
    have fin := hR m1 hf1 hp1 (fun z => absurd z hne)
    simp only [o_no, o_cut, o_ic, o_lc, o_str, o_il, o_ll, o_al, o_is, o_as, o_inc, o_iadd, o_isub, o_imul, o_iand, o_ior, o_ishl, o_ishr, o_iushr, o_idiv, o_irem, o_ladd, o_lmul, o_land, o_lor, o_lrem, o_lshl, o_lshr, o_lcmp, o_i2l, o_l2i, o_dup, o_dup2, o_ifeq, o_ifne, o_iflt, o_ifge, o_ifgt, o_ifle, o_iceq, o_icne, o_iclt, o_icge, o_icgt, o_icle, o_sw, o_iret, o_zret, o_vret, o_getf, o_putf, o_putz, o_putr, o_iald, o_zald, o_iast, o_zast, o_alen, o_aald, o_aast, o_obj_e, o_mmax_e, o_mmin_e, o_gsc, o_gsf, o_sval, o_scod, o_salen, o_sbald, o_i2c, o_pop, o_nret, o_call_0, o_call_1, o_call_2, o_call_3, o_call_4, o_call_5, o_call_6, o_call_7, o_callV_0, o_callV_1, o_callV_2, o_callV_3, o_callV_4, o_callV_5, o_callV_6, o_callT_0, o_callT_1, q_cn_0, q_cn_i, q_cn_r, q_cn_a, q_cn_l, q_cat_eq, q_nl_none, q_nl_sn, q_nl_i, q_nl_r, q_nl_a, q_vp_0, q_vp_1, q_vp_2, q_vp_3, q_vp_4, q_vp_5, q_vp_6, q_vp_7, q_vp_8, List.getElem?_cons_zero, List.getElem?_cons_succ, List.getElem?_nil, List.set_cons_zero, List.set_cons_succ, List.set_nil, Option.toList_some, Option.toList_none, List.cons_append, List.nil_append, Nat.reduceAdd, Nat.reduceSub, Nat.reduceLeDiff, Nat.add_zero, Nat.zero_add, Nat.reduceLT, Nat.zero_le, true_and, and_true, Value.category, true_or, or_true, q_z10, q_z01, Int32.reduceLT, Int32.reduceLE, Int32.reduceToNatClampNeg, not_true_eq_false, not_false_eq_true, false_implies, true_implies, implies_true, BX3_readTurning_0, BX3_readTurning_110, BX3_readTurning_59, BX3_readTurning_54, BX3_readTurning_19, BX3_readTurning_12, BX3_readTurning_6, BX3_readTurning_104, BX3_readTurning_95, BX3_readTurning_82, BX3_readTurning_76, BX3_readTurning_70, rmX3_readTurning, x0, x1, x3, x4, x6, x7, x9, x12, x15, x18, q_cls_of x0, q_cls_of x1, q_cls_of x3, q_cls_of x4, q_cls_of x6, q_cls_of x7, q_cls_of x9, q_cls_of x12, q_cls_of x15, q_cls_of x18, q_cls_of hr.1, hr.1, q_R0_same, hb.1, q_cls_of hb.1]
    exact ⟨fun _ => fin, fun _ => ⟨fun _ => fin, fun z => absurd z nz⟩⟩
  have loop : ∀ d v (f : Nat → Int32) (p : Nat) (v3 : Option Value) (m1 : q_Mm), d + v = 12 → t_tl x d v f p = T → xr_fr sb m m1 → x_ps m1 x.2 (0, p) → x_told m1 sb (k_T k v f) → q_WP TX3_readTurning 6 [some (.ref 3), some (.ref sb), some (.int (nI (v + 1))), v3] [] sh m1 (q_R0 sh rmX3_readTurning R) := by
    intro d
    induction d with
    | zero =>
      intro v f p v3 m1 hd hTe hf1 hp1 ht1
      have e0 : T.1 = (1, p) := by rw [← hTe]; rfl
      have a1 := x_ps_at hp1
      refine uX3_readTurning_6 ?_
      simp only [o_no, o_cut, o_ic, o_lc, o_str, o_il, o_ll, o_al, o_is, o_as, o_inc, o_iadd, o_isub, o_imul, o_iand, o_ior, o_ishl, o_ishr, o_iushr, o_idiv, o_irem, o_ladd, o_lmul, o_land, o_lor, o_lrem, o_lshl, o_lshr, o_lcmp, o_i2l, o_l2i, o_dup, o_dup2, o_ifeq, o_ifne, o_iflt, o_ifge, o_ifgt, o_ifle, o_iceq, o_icne, o_iclt, o_icge, o_icgt, o_icle, o_sw, o_iret, o_zret, o_vret, o_getf, o_putf, o_putz, o_putr, o_iald, o_zald, o_iast, o_zast, o_alen, o_aald, o_aast, o_obj_e, o_mmax_e, o_mmin_e, o_gsc, o_gsf, o_sval, o_scod, o_salen, o_sbald, o_i2c, o_pop, o_nret, o_call_0, o_call_1, o_call_2, o_call_3, o_call_4, o_call_5, o_call_6, o_call_7, o_callV_0, o_callV_1, o_callV_2, o_callV_3, o_callV_4, o_callV_5, o_callV_6, o_callT_0, o_callT_1, q_cn_0, q_cn_i, q_cn_r, q_cn_a, q_cn_l, q_cat_eq, q_nl_none, q_nl_sn, q_nl_i, q_nl_r, q_nl_a, q_vp_0, q_vp_1, q_vp_2, q_vp_3, q_vp_4, q_vp_5, q_vp_6, q_vp_7, q_vp_8, List.getElem?_cons_zero, List.getElem?_cons_succ, List.getElem?_nil, List.set_cons_zero, List.set_cons_succ, List.set_nil, Option.toList_some, Option.toList_none, List.cons_append, List.nil_append, Nat.reduceAdd, Nat.reduceSub, Nat.reduceLeDiff, Nat.add_zero, Nat.zero_add, Nat.reduceLT, Nat.zero_le, true_and, and_true, Value.category, true_or, or_true, q_z10, q_z01, Int32.reduceLT, Int32.reduceLE, Int32.reduceToNatClampNeg, not_true_eq_false, not_false_eq_true, false_implies, true_implies, implies_true, BX3_readTurning_0, BX3_readTurning_110, BX3_readTurning_59, BX3_readTurning_54, BX3_readTurning_19, BX3_readTurning_12, BX3_readTurning_6, BX3_readTurning_104, BX3_readTurning_95, BX3_readTurning_82, BX3_readTurning_76, BX3_readTurning_70, rmX3_readTurning, x0, x1, x3, x4, x6, x7, x9, x12, x15, x18, q_cls_of x0, q_cls_of x1, q_cls_of x3, q_cls_of x4, q_cls_of x6, q_cls_of x7, q_cls_of x9, q_cls_of x12, q_cls_of x15, q_cls_of x18, q_cls_of hr.1, hr.1, q_R0_same, hb.1, q_cls_of hb.1]
      refine ⟨fun _ => ?_, fun z => absurd (by rw [show (12 : Int32) = nI 12 from rfl]; exact nI_lt (by omega) (by omega)) z⟩
      sorry
    | succ d ih =>
      intro v f p v3 m1 hd hTe hf1 hp1 ht1
      have hx1 := x_text_fr hx hf1 s3
      have a1 := x_ps_at hp1
      have nsk := t_sk_in x a1.2.1
      have nfg : t_sk x p ≤ t_nend x p ∧ t_nend x p ≤ x.2 := t_fg_in x nsk.2
      refine uX3_readTurning_6 ?_
      simp only [o_no, o_cut, o_ic, o_lc, o_str, o_il, o_ll, o_al, o_is, o_as, o_inc, o_iadd, o_isub, o_imul, o_iand, o_ior, o_ishl, o_ishr, o_iushr, o_idiv, o_irem, o_ladd, o_lmul, o_land, o_lor, o_lrem, o_lshl, o_lshr, o_lcmp, o_i2l, o_l2i, o_dup, o_dup2, o_ifeq, o_ifne, o_iflt, o_ifge, o_ifgt, o_ifle, o_iceq, o_icne, o_iclt, o_icge, o_icgt, o_icle, o_sw, o_iret, o_zret, o_vret, o_getf, o_putf, o_putz, o_putr, o_iald, o_zald, o_iast, o_zast, o_alen, o_aald, o_aast, o_obj_e, o_mmax_e, o_mmin_e, o_gsc, o_gsf, o_sval, o_scod, o_salen, o_sbald, o_i2c, o_pop, o_nret, o_call_0, o_call_1, o_call_2, o_call_3, o_call_4, o_call_5, o_call_6, o_call_7, o_callV_0, o_callV_1, o_callV_2, o_callV_3, o_callV_4, o_callV_5, o_callV_6, o_callT_0, o_callT_1, q_cn_0, q_cn_i, q_cn_r, q_cn_a, q_cn_l, q_cat_eq, q_nl_none, q_nl_sn, q_nl_i, q_nl_r, q_nl_a, q_vp_0, q_vp_1, q_vp_2, q_vp_3, q_vp_4, q_vp_5, q_vp_6, q_vp_7, q_vp_8, List.getElem?_cons_zero, List.getElem?_cons_succ, List.getElem?_nil, List.set_cons_zero, List.set_cons_succ, List.set_nil, Option.toList_some, Option.toList_none, List.cons_append, List.nil_append, Nat.reduceAdd, Nat.reduceSub, Nat.reduceLeDiff, Nat.add_zero, Nat.zero_add, Nat.reduceLT, Nat.zero_le, true_and, and_true, Value.category, true_or, or_true, q_z10, q_z01, Int32.reduceLT, Int32.reduceLE, Int32.reduceToNatClampNeg, not_true_eq_false, not_false_eq_true, false_implies, true_implies, implies_true, BX3_readTurning_0, BX3_readTurning_110, BX3_readTurning_59, BX3_readTurning_54, BX3_readTurning_19, BX3_readTurning_12, BX3_readTurning_6, BX3_readTurning_104, BX3_readTurning_95, BX3_readTurning_82, BX3_readTurning_76, BX3_readTurning_70, rmX3_readTurning, x0, x1, x3, x4, x6, x7, x9, x12, x15, x18, q_cls_of x0, q_cls_of x1, q_cls_of x3, q_cls_of x4, q_cls_of x6, q_cls_of x7, q_cls_of x9, q_cls_of x12, q_cls_of x15, q_cls_of x18, q_cls_of hr.1, hr.1, q_R0_same, hb.1, q_cls_of hb.1]
      rw [show (12 : Int32) = nI 12 from rfl, a1.2.2]
      refine ⟨fun z => absurd z (nI_nlt (by omega) (by omega)), fun _ => ⟨fun z => absurd rfl z, fun _ => ?_⟩⟩
      refine p3_readNumber (lim := 19) hs hx1 ho hp1 (by decide) (by decide) (fun m2 val hb2 hp2 hval => ?_)
      rw [t_bd0 rfl] at hp2
      have hval : t_nc x 19 p = 0 → val = nI (t_nv x p) := hval rfl
      simp only [o_no, o_cut, o_ic, o_lc, o_str, o_il, o_ll, o_al, o_is, o_as, o_inc, o_iadd, o_isub, o_imul, o_iand, o_ior, o_ishl, o_ishr, o_iushr, o_idiv, o_irem, o_ladd, o_lmul, o_land, o_lor, o_lrem, o_lshl, o_lshr, o_lcmp, o_i2l, o_l2i, o_dup, o_dup2, o_ifeq, o_ifne, o_iflt, o_ifge, o_ifgt, o_ifle, o_iceq, o_icne, o_iclt, o_icge, o_icgt, o_icle, o_sw, o_iret, o_zret, o_vret, o_getf, o_putf, o_putz, o_putr, o_iald, o_zald, o_iast, o_zast, o_alen, o_aald, o_aast, o_obj_e, o_mmax_e, o_mmin_e, o_gsc, o_gsf, o_sval, o_scod, o_salen, o_sbald, o_i2c, o_pop, o_nret, o_call_0, o_call_1, o_call_2, o_call_3, o_call_4, o_call_5, o_call_6, o_call_7, o_callV_0, o_callV_1, o_callV_2, o_callV_3, o_callV_4, o_callV_5, o_callV_6, o_callT_0, o_callT_1, q_cn_0, q_cn_i, q_cn_r, q_cn_a, q_cn_l, q_cat_eq, q_nl_none, q_nl_sn, q_nl_i, q_nl_r, q_nl_a, q_vp_0, q_vp_1, q_vp_2, q_vp_3, q_vp_4, q_vp_5, q_vp_6, q_vp_7, q_vp_8, List.getElem?_cons_zero, List.getElem?_cons_succ, List.getElem?_nil, List.set_cons_zero, List.set_cons_succ, List.set_nil, Option.toList_some, Option.toList_none, List.cons_append, List.nil_append, Nat.reduceAdd, Nat.reduceSub, Nat.reduceLeDiff, Nat.add_zero, Nat.zero_add, Nat.reduceLT, Nat.zero_le, true_and, and_true, Value.category, true_or, or_true, q_z10, q_z01, Int32.reduceLT, Int32.reduceLE, Int32.reduceToNatClampNeg, not_true_eq_false, not_false_eq_true, false_implies, true_implies, implies_true, BX3_readTurning_0, BX3_readTurning_110, BX3_readTurning_59, BX3_readTurning_54, BX3_readTurning_19, BX3_readTurning_12, BX3_readTurning_6, BX3_readTurning_104, BX3_readTurning_95, BX3_readTurning_82, BX3_readTurning_76, BX3_readTurning_70, rmX3_readTurning, x0, x1, x3, x4, x6, x7, x9, x12, x15, x18, q_cls_of x0, q_cls_of x1, q_cls_of x3, q_cls_of x4, q_cls_of x6, q_cls_of x7, q_cls_of x9, q_cls_of x12, q_cls_of x15, q_cls_of x18, q_cls_of hr.1, hr.1, q_R0_same, hb.1, q_cls_of hb.1]
      have ht2 := x_told_o ht1 hb2 (Or.inl s3)
      refine p4_addPart hk hb ht2 h3 (by omega) (fun m3 hf3 ht3 => ?_)
      have hp3 := x_ps_rf hp2 hf3 s3
      have fr3 : xr_fr sb m m3 := (hf1.tr (xr_fr.bu hb2)).tr (xr_fr.rk hf3)
      have hx3 := x_text_fr hx fr3 s3
      obtain ⟨A2, hA2, hA21, hA22⟩ := hp3.2.2.1
      have nsk2 := t_sk_in x hA2
      simp only [o_no, o_cut, o_ic, o_lc, o_str, o_il, o_ll, o_al, o_is, o_as, o_inc, o_iadd, o_isub, o_imul, o_iand, o_ior, o_ishl, o_ishr, o_iushr, o_idiv, o_irem, o_ladd, o_lmul, o_land, o_lor, o_lrem, o_lshl, o_lshr, o_lcmp, o_i2l, o_l2i, o_dup, o_dup2, o_ifeq, o_ifne, o_iflt, o_ifge, o_ifgt, o_ifle, o_iceq, o_icne, o_iclt, o_icge, o_icgt, o_icle, o_sw, o_iret, o_zret, o_vret, o_getf, o_putf, o_putz, o_putr, o_iald, o_zald, o_iast, o_zast, o_alen, o_aald, o_aast, o_obj_e, o_mmax_e, o_mmin_e, o_gsc, o_gsf, o_sval, o_scod, o_salen, o_sbald, o_i2c, o_pop, o_nret, o_call_0, o_call_1, o_call_2, o_call_3, o_call_4, o_call_5, o_call_6, o_call_7, o_callV_0, o_callV_1, o_callV_2, o_callV_3, o_callV_4, o_callV_5, o_callV_6, o_callT_0, o_callT_1, q_cn_0, q_cn_i, q_cn_r, q_cn_a, q_cn_l, q_cat_eq, q_nl_none, q_nl_sn, q_nl_i, q_nl_r, q_nl_a, q_vp_0, q_vp_1, q_vp_2, q_vp_3, q_vp_4, q_vp_5, q_vp_6, q_vp_7, q_vp_8, List.getElem?_cons_zero, List.getElem?_cons_succ, List.getElem?_nil, List.set_cons_zero, List.set_cons_succ, List.set_nil, Option.toList_some, Option.toList_none, List.cons_append, List.nil_append, Nat.reduceAdd, Nat.reduceSub, Nat.reduceLeDiff, Nat.add_zero, Nat.zero_add, Nat.reduceLT, Nat.zero_le, true_and, and_true, Value.category, true_or, or_true, q_z10, q_z01, Int32.reduceLT, Int32.reduceLE, Int32.reduceToNatClampNeg, not_true_eq_false, not_false_eq_true, false_implies, true_implies, implies_true, BX3_readTurning_0, BX3_readTurning_110, BX3_readTurning_59, BX3_readTurning_54, BX3_readTurning_19, BX3_readTurning_12, BX3_readTurning_6, BX3_readTurning_104, BX3_readTurning_95, BX3_readTurning_82, BX3_readTurning_76, BX3_readTurning_70, rmX3_readTurning, x0, x1, x3, x4, x6, x7, x9, x12, x15, x18, q_cls_of x0, q_cls_of x1, q_cls_of x3, q_cls_of x4, q_cls_of x6, q_cls_of x7, q_cls_of x9, q_cls_of x12, q_cls_of x15, q_cls_of x18, q_cls_of hr.1, hr.1, q_R0_same, hb.1, q_cls_of hb.1]
      refine p3_passBlanks hs hx3 ho hA21 hA2 (fun m4 hb4 h41 h42 => ?_)
      have hp4 := x_ps_mv hp3 nsk2.2 h41 h42
      have fr4 : xr_fr sb m m4 := fr3.tr (xr_fr.bu hb4)
      have hx4 := x_text_fr hx fr4 s3
      have ht4 := x_told_o ht3 hb4 (Or.inl s3)
      simp only [o_no, o_cut, o_ic, o_lc, o_str, o_il, o_ll, o_al, o_is, o_as, o_inc, o_iadd, o_isub, o_imul, o_iand, o_ior, o_ishl, o_ishr, o_iushr, o_idiv, o_irem, o_ladd, o_lmul, o_land, o_lor, o_lrem, o_lshl, o_lshr, o_lcmp, o_i2l, o_l2i, o_dup, o_dup2, o_ifeq, o_ifne, o_iflt, o_ifge, o_ifgt, o_ifle, o_iceq, o_icne, o_iclt, o_icge, o_icgt, o_icle, o_sw, o_iret, o_zret, o_vret, o_getf, o_putf, o_putz, o_putr, o_iald, o_zald, o_iast, o_zast, o_alen, o_aald, o_aast, o_obj_e, o_mmax_e, o_mmin_e, o_gsc, o_gsf, o_sval, o_scod, o_salen, o_sbald, o_i2c, o_pop, o_nret, o_call_0, o_call_1, o_call_2, o_call_3, o_call_4, o_call_5, o_call_6, o_call_7, o_callV_0, o_callV_1, o_callV_2, o_callV_3, o_callV_4, o_callV_5, o_callV_6, o_callT_0, o_callT_1, q_cn_0, q_cn_i, q_cn_r, q_cn_a, q_cn_l, q_cat_eq, q_nl_none, q_nl_sn, q_nl_i, q_nl_r, q_nl_a, q_vp_0, q_vp_1, q_vp_2, q_vp_3, q_vp_4, q_vp_5, q_vp_6, q_vp_7, q_vp_8, List.getElem?_cons_zero, List.getElem?_cons_succ, List.getElem?_nil, List.set_cons_zero, List.set_cons_succ, List.set_nil, Option.toList_some, Option.toList_none, List.cons_append, List.nil_append, Nat.reduceAdd, Nat.reduceSub, Nat.reduceLeDiff, Nat.add_zero, Nat.zero_add, Nat.reduceLT, Nat.zero_le, true_and, and_true, Value.category, true_or, or_true, q_z10, q_z01, Int32.reduceLT, Int32.reduceLE, Int32.reduceToNatClampNeg, not_true_eq_false, not_false_eq_true, false_implies, true_implies, implies_true, BX3_readTurning_0, BX3_readTurning_110, BX3_readTurning_59, BX3_readTurning_54, BX3_readTurning_19, BX3_readTurning_12, BX3_readTurning_6, BX3_readTurning_104, BX3_readTurning_95, BX3_readTurning_82, BX3_readTurning_76, BX3_readTurning_70, rmX3_readTurning, x0, x1, x3, x4, x6, x7, x9, x12, x15, x18, q_cls_of x0, q_cls_of x1, q_cls_of x3, q_cls_of x4, q_cls_of x6, q_cls_of x7, q_cls_of x9, q_cls_of x12, q_cls_of x15, q_cls_of x18, q_cls_of hr.1, hr.1, q_R0_same, hb.1, q_cls_of hb.1]
      rw [h41]
      refine p7_byteAt hs hx4 ho (by omega) ?_
      simp only [o_no, o_cut, o_ic, o_lc, o_str, o_il, o_ll, o_al, o_is, o_as, o_inc, o_iadd, o_isub, o_imul, o_iand, o_ior, o_ishl, o_ishr, o_iushr, o_idiv, o_irem, o_ladd, o_lmul, o_land, o_lor, o_lrem, o_lshl, o_lshr, o_lcmp, o_i2l, o_l2i, o_dup, o_dup2, o_ifeq, o_ifne, o_iflt, o_ifge, o_ifgt, o_ifle, o_iceq, o_icne, o_iclt, o_icge, o_icgt, o_icle, o_sw, o_iret, o_zret, o_vret, o_getf, o_putf, o_putz, o_putr, o_iald, o_zald, o_iast, o_zast, o_alen, o_aald, o_aast, o_obj_e, o_mmax_e, o_mmin_e, o_gsc, o_gsf, o_sval, o_scod, o_salen, o_sbald, o_i2c, o_pop, o_nret, o_call_0, o_call_1, o_call_2, o_call_3, o_call_4, o_call_5, o_call_6, o_call_7, o_callV_0, o_callV_1, o_callV_2, o_callV_3, o_callV_4, o_callV_5, o_callV_6, o_callT_0, o_callT_1, q_cn_0, q_cn_i, q_cn_r, q_cn_a, q_cn_l, q_cat_eq, q_nl_none, q_nl_sn, q_nl_i, q_nl_r, q_nl_a, q_vp_0, q_vp_1, q_vp_2, q_vp_3, q_vp_4, q_vp_5, q_vp_6, q_vp_7, q_vp_8, List.getElem?_cons_zero, List.getElem?_cons_succ, List.getElem?_nil, List.set_cons_zero, List.set_cons_succ, List.set_nil, Option.toList_some, Option.toList_none, List.cons_append, List.nil_append, Nat.reduceAdd, Nat.reduceSub, Nat.reduceLeDiff, Nat.add_zero, Nat.zero_add, Nat.reduceLT, Nat.zero_le, true_and, and_true, Value.category, true_or, or_true, q_z10, q_z01, Int32.reduceLT, Int32.reduceLE, Int32.reduceToNatClampNeg, not_true_eq_false, not_false_eq_true, false_implies, true_implies, implies_true, BX3_readTurning_0, BX3_readTurning_110, BX3_readTurning_59, BX3_readTurning_54, BX3_readTurning_19, BX3_readTurning_12, BX3_readTurning_6, BX3_readTurning_104, BX3_readTurning_95, BX3_readTurning_82, BX3_readTurning_76, BX3_readTurning_70, rmX3_readTurning, x0, x1, x3, x4, x6, x7, x9, x12, x15, x18, q_cls_of x0, q_cls_of x1, q_cls_of x3, q_cls_of x4, q_cls_of x6, q_cls_of x7, q_cls_of x9, q_cls_of x12, q_cls_of x15, q_cls_of x18, q_cls_of hr.1, hr.1, q_R0_same, hb.1, q_cls_of hb.1]
      rw [h41, nI_1]
      have up_fr : ∀ e : Nat, q_but 3 m4 (q_up m4 3 1 (nI e)) := fun e => q_but.up
      have up_ps : ∀ e : Nat, e ≤ x.2 → x_ps (q_up m4 3 1 (nI e)) x.2 (t_mv (t_mv (t_num x 19 p) (t_sk x A2)) e) := fun e he => x_ps_mv hp4 he (by rw [q_up_app, if_pos ⟨rfl, rfl⟩]) (fun j hj => by rw [q_up_app, if_neg (fun y => hj y.2)])
      by_cases hc : t_nc x 19 p = 0
      · -- the number stands
        have en : t_num x 19 p = (0, t_nend x p) := if_pos hc
        rw [en] at hp4 hA22 up_ps hp3
        have eA : A2 = t_nend x p := hA22 rfl
        subst eA
        rw [t_mv0 rfl] at hp4 up_ps
        have up_ps : ∀ e : Nat, e ≤ x.2 → x_ps (q_up m4 3 1 (nI e)) x.2 (0, e) := fun e he => by
          have := up_ps e he
          rw [t_mv0 rfl] at this
          exact this
        have hv := hval hc
        subst hv
        rw [t_tl, if_pos hc] at hTe
        have bad70 : ∀ (s : PS), T.1 = s → ¬ s.1 = 0 → s = (1, t_sk x (t_nend x p)) → ∀ m5 : q_Mm, q_but 3 m4 m5 → x_ps m5 x.2 (1, t_sk x (t_nend x p)) → q_WP TX3_readTurning 6 [some (.ref 3), some (.ref sb), some (.int (nI (v + 1 + 1))), some (.int (t_at x (t_sk x (t_nend x p))))] [] sh m5 (q_R0 sh rmX3_readTurning R) := fun s e1 e2 e3 m5 hb5 hp5 => by
          have e4 : t_bd T.1 (t_end x) = (1, t_sk x (t_nend x p)) := by rw [e1, t_bd1 e2, e3]
          exact out6 (v + 1 + 1) _ m5 (by rw [e4]; show ¬ (1 : Nat) = 0; decide) (fr4.tr (xr_fr.bu hb5)) (by rw [e4]; exact hp5)
        have refuse1 : t_bd T.1 (t_end x) = (1, t_sk x (t_nend x p)) → wX3_refuse [.ref 3, .int 1, .int (nI (t_sk x (t_nend x p)))] sh m4 (fun v' sh' m5 => q_WP TX3_readTurning 6 [some (.ref 3), some (.ref sb), some (.int (nI (v + 1 + 1))), some (.int (t_at x (t_sk x (t_nend x p))))] [] sh' m5 (q_R0 sh rmX3_readTurning R)) := fun e4 => by
          rw [q_n1]
          refine p3_refuse hs hp4 (by decide) (by decide) (fun m5 hb5 hp5 => ?_)
          rw [t_bd0 rfl] at hp5
          exact out6 (v + 1 + 1) _ m5 (by rw [e4]; show ¬ (1 : Nat) = 0; decide) (fr4.tr (xr_fr.bu hb5)) (by rw [e4]; exact hp5)
        have at70 : (¬ t_at x (t_sk x (t_nend x p)) = 44 → t_bd T.1 (t_end x) = (1, t_sk x (t_nend x p))) → q_WP TX3_readTurning 70 [some (.ref 3), some (.ref sb), some (.int (nI (v + 1))), some (.int (t_at x (t_sk x (t_nend x p))))] [] sh m4 (q_R0 sh rmX3_readTurning R) := fun hn => by
          refine uX3_readTurning_70 ?_
          simp only [o_no, o_cut, o_ic, o_lc, o_str, o_il, o_ll, o_al, o_is, o_as, o_inc, o_iadd, o_isub, o_imul, o_iand, o_ior, o_ishl, o_ishr, o_iushr, o_idiv, o_irem, o_ladd, o_lmul, o_land, o_lor, o_lrem, o_lshl, o_lshr, o_lcmp, o_i2l, o_l2i, o_dup, o_dup2, o_ifeq, o_ifne, o_iflt, o_ifge, o_ifgt, o_ifle, o_iceq, o_icne, o_iclt, o_icge, o_icgt, o_icle, o_sw, o_iret, o_zret, o_vret, o_getf, o_putf, o_putz, o_putr, o_iald, o_zald, o_iast, o_zast, o_alen, o_aald, o_aast, o_obj_e, o_mmax_e, o_mmin_e, o_gsc, o_gsf, o_sval, o_scod, o_salen, o_sbald, o_i2c, o_pop, o_nret, o_call_0, o_call_1, o_call_2, o_call_3, o_call_4, o_call_5, o_call_6, o_call_7, o_callV_0, o_callV_1, o_callV_2, o_callV_3, o_callV_4, o_callV_5, o_callV_6, o_callT_0, o_callT_1, q_cn_0, q_cn_i, q_cn_r, q_cn_a, q_cn_l, q_cat_eq, q_nl_none, q_nl_sn, q_nl_i, q_nl_r, q_nl_a, q_vp_0, q_vp_1, q_vp_2, q_vp_3, q_vp_4, q_vp_5, q_vp_6, q_vp_7, q_vp_8, List.getElem?_cons_zero, List.getElem?_cons_succ, List.getElem?_nil, List.set_cons_zero, List.set_cons_succ, List.set_nil, Option.toList_some, Option.toList_none, List.cons_append, List.nil_append, Nat.reduceAdd, Nat.reduceSub, Nat.reduceLeDiff, Nat.add_zero, Nat.zero_add, Nat.reduceLT, Nat.zero_le, true_and, and_true, Value.category, true_or, or_true, q_z10, q_z01, Int32.reduceLT, Int32.reduceLE, Int32.reduceToNatClampNeg, not_true_eq_false, not_false_eq_true, false_implies, true_implies, implies_true, BX3_readTurning_0, BX3_readTurning_110, BX3_readTurning_59, BX3_readTurning_54, BX3_readTurning_19, BX3_readTurning_12, BX3_readTurning_6, BX3_readTurning_104, BX3_readTurning_95, BX3_readTurning_82, BX3_readTurning_76, BX3_readTurning_70, rmX3_readTurning, x0, x1, x3, x4, x6, x7, x9, x12, x15, x18, q_cls_of x0, q_cls_of x1, q_cls_of x3, q_cls_of x4, q_cls_of x6, q_cls_of x7, q_cls_of x9, q_cls_of x12, q_cls_of x15, q_cls_of x18, q_cls_of hr.1, hr.1, q_R0_same, hb.1, q_cls_of hb.1]
          rw [h41, nI_1, nI_1, show (12 : Int32) = nI 12 from rfl]
          refine ⟨fun z => ?_, fun z => ⟨fun y => ?_, fun y => ?_⟩⟩
          · refine refuse1 (hn z)
          · have y := (nI_leI (by decide) (by omega)).mp y
            rw [if_pos z, if_pos (show d = 0 by omega)] at hTe
            refine refuse1 ?_
            rw [← hTe, t_bd1 (by show ¬ (1 : Nat) = 0; decide)]
          · have y : v + 1 < 12 := by
              rcases Nat.lt_or_ge (v + 1) 12 with q | q
              · exact q
              · exact absurd (nI_le q (by omega)) y
            rw [if_pos z, if_neg (show ¬ d = 0 by omega)] at hTe
            have hlt := t_at_lt (b := 44) (by decide) z
            exact ih (v + 1) _ (t_sk x (t_nend x p) + 1) _ _ (by omega) hTe (fr4.tr (xr_fr.bu (up_fr _))) (up_ps _ (by omega)) (x_told_o ht4 (up_fr _) (Or.inl s3))
        refine ⟨fun z => at70 (fun y => ?_), fun z => ⟨fun y => at70 (fun y2 => ?_), fun y => ?_⟩⟩
        · rw [if_neg y] at hTe
          by_cases c0 : v = 0
          · rw [if_pos c0] at hTe
            rw [← hTe, t_bd1 (by show ¬ (1 : Nat) = 0; decide)]
          · rw [if_neg c0] at hTe
            rw [← hTe, t_bd0 rfl]
            show t_end x (t_sk x (t_nend x p)) = _
            rw [t_end_sk x nfg.2, t_end, if_neg z]
        · have y := (nI_leI (b := 1) (by omega) (by decide)).mp y
          rw [if_neg y2, if_pos (show v = 0 by omega)] at hTe
          rw [← hTe, t_bd1 (by show ¬ (1 : Nat) = 0; decide)]
        · have hlt := t_at_lt (b := 59) (by decide) z
          have y : ¬ v = 0 := fun q => y (by rw [q]; decide)
          have n44 : ¬ t_at x (t_sk x (t_nend x p)) = 44 := fun q => by rw [z] at q; exact absurd q (by decide)
          rw [if_neg n44, if_neg y] at hTe
          have e4 : t_bd T.1 (t_end x) = (0, t_sk x (t_nend x p) + 1) := by
            rw [← hTe, t_bd0 rfl]
            show t_end x (t_sk x (t_nend x p)) = _
            rw [t_end_sk x nfg.2, t_end, if_pos z]
          refine hR _ (fr4.tr (xr_fr.bu (up_fr _))) (by rw [e4]; exact up_ps _ (by omega)) (fun _ => ?_)
          rw [← hTe]
          exact x_told_o ht4 (up_fr _) (Or.inl s3)
      · -- it does not
        have en : t_num x 19 p = (t_nc x 19 p, t_sk x p) := if_neg hc
        have ne0 : ¬ (t_num x 19 p).1 = 0 := by rw [en]; exact hc
        rw [t_tl, if_neg hc] at hTe
        have e4 : t_bd T.1 (t_end x) = t_num x 19 p := by rw [← hTe, t_bd1 hc, en]
        rw [t_mv1 ne0] at hp4
        have up_ps : ∀ e : Nat, e ≤ x.2 → x_ps (q_up m4 3 1 (nI e)) x.2 (t_num x 19 p) := fun e he => by
          have := up_ps e he
          rw [t_mv1 ne0, t_mv1 ne0] at this
          exact this
        have at70 : q_WP TX3_readTurning 70 [some (.ref 3), some (.ref sb), some (.int (nI (v + 1))), some (.int (t_at x (t_sk x A2)))] [] sh m4 (q_R0 sh rmX3_readTurning R) := by
          have ref9 : wX3_refuse [.ref 3, .int 1, .int (nI (t_sk x A2))] sh m4 (fun v' sh' m5 => q_WP TX3_readTurning 6 [some (.ref 3), some (.ref sb), some (.int (nI (v + 1 + 1))), some (.int (t_at x (t_sk x A2)))] [] sh' m5 (q_R0 sh rmX3_readTurning R)) := by
            rw [q_n1]
            refine p3_refuse hs hp4 (by decide) (by decide) (fun m5 hb5 hp5 => ?_)
            rw [t_bd1 ne0] at hp5
            exact out6 (v + 1 + 1) _ m5 (by rw [e4]; exact ne0) (fr4.tr (xr_fr.bu hb5)) (by rw [e4]; exact hp5)
          refine uX3_readTurning_70 ?_
          simp only [o_no, o_cut, o_ic, o_lc, o_str, o_il, o_ll, o_al, o_is, o_as, o_inc, o_iadd, o_isub, o_imul, o_iand, o_ior, o_ishl, o_ishr, o_iushr, o_idiv, o_irem, o_ladd, o_lmul, o_land, o_lor, o_lrem, o_lshl, o_lshr, o_lcmp, o_i2l, o_l2i, o_dup, o_dup2, o_ifeq, o_ifne, o_iflt, o_ifge, o_ifgt, o_ifle, o_iceq, o_icne, o_iclt, o_icge, o_icgt, o_icle, o_sw, o_iret, o_zret, o_vret, o_getf, o_putf, o_putz, o_putr, o_iald, o_zald, o_iast, o_zast, o_alen, o_aald, o_aast, o_obj_e, o_mmax_e, o_mmin_e, o_gsc, o_gsf, o_sval, o_scod, o_salen, o_sbald, o_i2c, o_pop, o_nret, o_call_0, o_call_1, o_call_2, o_call_3, o_call_4, o_call_5, o_call_6, o_call_7, o_callV_0, o_callV_1, o_callV_2, o_callV_3, o_callV_4, o_callV_5, o_callV_6, o_callT_0, o_callT_1, q_cn_0, q_cn_i, q_cn_r, q_cn_a, q_cn_l, q_cat_eq, q_nl_none, q_nl_sn, q_nl_i, q_nl_r, q_nl_a, q_vp_0, q_vp_1, q_vp_2, q_vp_3, q_vp_4, q_vp_5, q_vp_6, q_vp_7, q_vp_8, List.getElem?_cons_zero, List.getElem?_cons_succ, List.getElem?_nil, List.set_cons_zero, List.set_cons_succ, List.set_nil, Option.toList_some, Option.toList_none, List.cons_append, List.nil_append, Nat.reduceAdd, Nat.reduceSub, Nat.reduceLeDiff, Nat.add_zero, Nat.zero_add, Nat.reduceLT, Nat.zero_le, true_and, and_true, Value.category, true_or, or_true, q_z10, q_z01, Int32.reduceLT, Int32.reduceLE, Int32.reduceToNatClampNeg, not_true_eq_false, not_false_eq_true, false_implies, true_implies, implies_true, BX3_readTurning_0, BX3_readTurning_110, BX3_readTurning_59, BX3_readTurning_54, BX3_readTurning_19, BX3_readTurning_12, BX3_readTurning_6, BX3_readTurning_104, BX3_readTurning_95, BX3_readTurning_82, BX3_readTurning_76, BX3_readTurning_70, rmX3_readTurning, x0, x1, x3, x4, x6, x7, x9, x12, x15, x18, q_cls_of x0, q_cls_of x1, q_cls_of x3, q_cls_of x4, q_cls_of x6, q_cls_of x7, q_cls_of x9, q_cls_of x12, q_cls_of x15, q_cls_of x18, q_cls_of hr.1, hr.1, q_R0_same, hb.1, q_cls_of hb.1]
          rw [h41, nI_1, nI_1]
          refine ⟨fun z => ref9, fun z => ⟨fun y => ref9, fun y => ?_⟩⟩
          have hlt := t_at_lt (b := 44) (by decide) z
          exact out6 (v + 1 + 1) _ _ (by rw [e4]; exact ne0) (fr4.tr (xr_fr.bu (up_fr _))) (by rw [e4]; exact up_ps _ (by omega))
        refine ⟨fun z => at70, fun z => ⟨fun y => at70, fun y => ?_⟩⟩
        have hlt := t_at_lt (b := 59) (by decide) z
        exact hR _ (fr4.tr (xr_fr.bu (up_fr _))) (by rw [e4]; exact up_ps _ (by omega)) (fun q => absurd q (by rw [e4]; exact ne0))
  refine eX3_readTurning ?_
  simp only [o_no, o_cut, o_ic, o_lc, o_str, o_il, o_ll, o_al, o_is, o_as, o_inc, o_iadd, o_isub, o_imul, o_iand, o_ior, o_ishl, o_ishr, o_iushr, o_idiv, o_irem, o_ladd, o_lmul, o_land, o_lor, o_lrem, o_lshl, o_lshr, o_lcmp, o_i2l, o_l2i, o_dup, o_dup2, o_ifeq, o_ifne, o_iflt, o_ifge, o_ifgt, o_ifle, o_iceq, o_icne, o_iclt, o_icge, o_icgt, o_icle, o_sw, o_iret, o_zret, o_vret, o_getf, o_putf, o_putz, o_putr, o_iald, o_zald, o_iast, o_zast, o_alen, o_aald, o_aast, o_obj_e, o_mmax_e, o_mmin_e, o_gsc, o_gsf, o_sval, o_scod, o_salen, o_sbald, o_i2c, o_pop, o_nret, o_call_0, o_call_1, o_call_2, o_call_3, o_call_4, o_call_5, o_call_6, o_call_7, o_callV_0, o_callV_1, o_callV_2, o_callV_3, o_callV_4, o_callV_5, o_callV_6, o_callT_0, o_callT_1, q_cn_0, q_cn_i, q_cn_r, q_cn_a, q_cn_l, q_cat_eq, q_nl_none, q_nl_sn, q_nl_i, q_nl_r, q_nl_a, q_vp_0, q_vp_1, q_vp_2, q_vp_3, q_vp_4, q_vp_5, q_vp_6, q_vp_7, q_vp_8, List.getElem?_cons_zero, List.getElem?_cons_succ, List.getElem?_nil, List.set_cons_zero, List.set_cons_succ, List.set_nil, Option.toList_some, Option.toList_none, List.cons_append, List.nil_append, Nat.reduceAdd, Nat.reduceSub, Nat.reduceLeDiff, Nat.add_zero, Nat.zero_add, Nat.reduceLT, Nat.zero_le, true_and, and_true, Value.category, true_or, or_true, q_z10, q_z01, Int32.reduceLT, Int32.reduceLE, Int32.reduceToNatClampNeg, not_true_eq_false, not_false_eq_true, false_implies, true_implies, implies_true, BX3_readTurning_0, BX3_readTurning_110, BX3_readTurning_59, BX3_readTurning_54, BX3_readTurning_19, BX3_readTurning_12, BX3_readTurning_6, BX3_readTurning_104, BX3_readTurning_95, BX3_readTurning_82, BX3_readTurning_76, BX3_readTurning_70, rmX3_readTurning, x0, x1, x3, x4, x6, x7, x9, x12, x15, x18, q_cls_of x0, q_cls_of x1, q_cls_of x3, q_cls_of x4, q_cls_of x6, q_cls_of x7, q_cls_of x9, q_cls_of x12, q_cls_of x15, q_cls_of x18, q_cls_of hr.1, hr.1, q_R0_same, hb.1, q_cls_of hb.1]
  refine p4_addTurning (f := fun _ => 0) hb ht h3 (fun m1 hf1 ht1 => ?_)
  simp only [o_no, o_cut, o_ic, o_lc, o_str, o_il, o_ll, o_al, o_is, o_as, o_inc, o_iadd, o_isub, o_imul, o_iand, o_ior, o_ishl, o_ishr, o_iushr, o_idiv, o_irem, o_ladd, o_lmul, o_land, o_lor, o_lrem, o_lshl, o_lshr, o_lcmp, o_i2l, o_l2i, o_dup, o_dup2, o_ifeq, o_ifne, o_iflt, o_ifge, o_ifgt, o_ifle, o_iceq, o_icne, o_iclt, o_icge, o_icgt, o_icle, o_sw, o_iret, o_zret, o_vret, o_getf, o_putf, o_putz, o_putr, o_iald, o_zald, o_iast, o_zast, o_alen, o_aald, o_aast, o_obj_e, o_mmax_e, o_mmin_e, o_gsc, o_gsf, o_sval, o_scod, o_salen, o_sbald, o_i2c, o_pop, o_nret, o_call_0, o_call_1, o_call_2, o_call_3, o_call_4, o_call_5, o_call_6, o_call_7, o_callV_0, o_callV_1, o_callV_2, o_callV_3, o_callV_4, o_callV_5, o_callV_6, o_callT_0, o_callT_1, q_cn_0, q_cn_i, q_cn_r, q_cn_a, q_cn_l, q_cat_eq, q_nl_none, q_nl_sn, q_nl_i, q_nl_r, q_nl_a, q_vp_0, q_vp_1, q_vp_2, q_vp_3, q_vp_4, q_vp_5, q_vp_6, q_vp_7, q_vp_8, List.getElem?_cons_zero, List.getElem?_cons_succ, List.getElem?_nil, List.set_cons_zero, List.set_cons_succ, List.set_nil, Option.toList_some, Option.toList_none, List.cons_append, List.nil_append, Nat.reduceAdd, Nat.reduceSub, Nat.reduceLeDiff, Nat.add_zero, Nat.zero_add, Nat.reduceLT, Nat.zero_le, true_and, and_true, Value.category, true_or, or_true, q_z10, q_z01, Int32.reduceLT, Int32.reduceLE, Int32.reduceToNatClampNeg, not_true_eq_false, not_false_eq_true, false_implies, true_implies, implies_true, BX3_readTurning_0, BX3_readTurning_110, BX3_readTurning_59, BX3_readTurning_54, BX3_readTurning_19, BX3_readTurning_12, BX3_readTurning_6, BX3_readTurning_104, BX3_readTurning_95, BX3_readTurning_82, BX3_readTurning_76, BX3_readTurning_70, rmX3_readTurning, x0, x1, x3, x4, x6, x7, x9, x12, x15, x18, q_cls_of x0, q_cls_of x1, q_cls_of x3, q_cls_of x4, q_cls_of x6, q_cls_of x7, q_cls_of x9, q_cls_of x12, q_cls_of x15, q_cls_of x18, q_cls_of hr.1, hr.1, q_R0_same, hb.1, q_cls_of hb.1]
  exact loop 12 0 (fun _ => 0) i0 none m1 rfl hT (xr_fr.rk hf1) (x_ps_rf hp hf1 s3) ht1
