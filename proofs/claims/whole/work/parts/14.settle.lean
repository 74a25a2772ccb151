/-! Rock's tables. -/
theorem q_up_app {m : q_Mm} {a j a' j' : Nat} {x : Int32} : q_up m a j x a' j' = if a' = a ∧ j' = j then x else m a' j' := by
  unfold q_up upd
  by_cases h : a' = a
  · subst h
    by_cases h2 : j' = j <;> simp [h2]
  · simp [h]
theorem q_up_o {m : q_Mm} {a j a' : Nat} {x : Int32} (h : a' ≠ a) : q_up m a j x a' = m a' := by
  unfold q_up; rw [if_neg h]
theorem nI_shl {p : Nat} (hp : p < 31) : (1 : Int32) <<< (nI p &&& 31) = nI (2 ^ p) := by
  have : 2 ^ p < 2 ^ 31 := Nat.pow_lt_pow_right (by decide) hp
  rw [show (1 : Int32) = nI 1 from rfl, pk_shlN _ p (q_sh (by omega)) (by omega), Nat.one_mul]
theorem nI_or (a b : Nat) : nI a ||| nI b = nI (a ||| b) := by
  apply Int32.toBitVec_inj.mp
  show (BitVec.ofNat 32 a ||| BitVec.ofNat 32 b) = BitVec.ofNat 32 (a ||| b)
  exact BitVec.ofNat_or.symm
theorem nI_orp {a p : Nat} (h : a < 2 ^ p) : nI a ||| nI (2 ^ p) = nI (a + 2 ^ p) := by
  rw [nI_or, Nat.or_comm]
  have := Nat.two_pow_add_eq_or_of_lt h 1
  rw [Nat.mul_one] at this
  rw [← this, Nat.add_comm]
section XT
variable {m : q_Mm} {b : Nat} {k : RK} {sh : q_Sh} {R : q_KR}
theorem p4_leastPeriod (h : r_ok k) (hs : q_rk sh b) (ht : x_told m b k) (h4 : m b 4 = nI (r_S k)) (hR : R (some (.int (nI (r_per k)))) sh m) : wX4_leastPeriod [.ref b] sh m R := by
  have hper := r_perle h
  have hpp := r_perpos h
  have hSl := r_Sle h
  have hpS : r_per k ≤ r_S k := Nat.le_of_dvd hSl.1 (r_perS h)
  have hn : ∀ i, 1 ≤ r_N k i ∧ r_N k i ≤ 12 := r_Npos h
  have e0 : m (b + 1) 0 = nI (r_N k 0) := ht.2.2.2.2.1 0 (by decide)
  have e1 : m (b + 1) 1 = nI (r_N k 1) := ht.2.2.2.2.1 1 (by decide)
  have e2 : m (b + 1) 2 = nI (r_N k 2) := ht.2.2.2.2.1 2 (by decide)
  refine eX4_leastPeriod ?_
  simp only [o_no, o_cut, o_ic, o_lc, o_str, o_il, o_ll, o_al, o_is, o_as, o_inc, o_iadd, o_isub, o_imul, o_iand, o_ior, o_ishl, o_ishr, o_iushr, o_idiv, o_irem, o_ladd, o_lmul, o_land, o_lor, o_lrem, o_lshl, o_lshr, o_lcmp, o_i2l, o_l2i, o_dup, o_dup2, o_ifeq, o_ifne, o_iflt, o_ifge, o_ifgt, o_ifle, o_iceq, o_icne, o_iclt, o_icge, o_icgt, o_icle, o_sw, o_iret, o_zret, o_vret, o_getf, o_putf, o_putz, o_putr, o_iald, o_zald, o_iast, o_zast, o_alen, o_aald, o_aast, o_obj_e, o_mmax_e, o_mmin_e, o_gsc, o_gsf, o_sval, o_scod, o_salen, o_sbald, o_i2c, o_pop, o_nret, o_call_0, o_call_1, o_call_2, o_call_3, o_call_4, o_call_5, o_call_6, o_call_7, o_callV_0, o_callV_1, o_callV_2, o_callV_3, o_callV_4, o_callV_5, o_callV_6, o_callT_0, o_callT_1, q_cn_0, q_cn_i, q_cn_r, q_cn_a, q_cn_l, q_cat_eq, q_nl_none, q_nl_sn, q_nl_i, q_nl_r, q_nl_a, q_vp_0, q_vp_1, q_vp_2, q_vp_3, q_vp_4, q_vp_5, q_vp_6, q_vp_7, q_vp_8, List.getElem?_cons_zero, List.getElem?_cons_succ, List.getElem?_nil, List.set_cons_zero, List.set_cons_succ, List.set_nil, Option.toList_some, Option.toList_none, List.cons_append, List.nil_append, Nat.reduceAdd, Nat.reduceSub, Nat.reduceLeDiff, Nat.add_zero, Nat.zero_add, Nat.reduceLT, Nat.zero_le, true_and, and_true, Value.category, true_or, or_true, q_z10, q_z01, Int32.reduceLT, Int32.reduceLE, Int32.reduceToNatClampNeg, not_true_eq_false, not_false_eq_true, false_implies, true_implies, implies_true, BX4_leastPeriod_0, BX4_leastPeriod_57, BX4_leastPeriod_51, BX4_leastPeriod_49, BX4_leastPeriod_36, BX4_leastPeriod_23, BX4_leastPeriod_10, BX4_leastPeriod_2, rmX4_leastPeriod, q_cls_of hs.1, hs.1, q_R0_same]
  have loop : ∀ d n, n + d = r_per k → 1 ≤ n → q_WP TX4_leastPeriod 2 [some (.ref b), some (.int (nI n))] [] sh m (q_R0 sh rmX4_leastPeriod R) := by
    intro d
    induction d with
    | zero =>
      intro n hnd h1
      refine uX4_leastPeriod_2 ?_
      simp only [o_no, o_cut, o_ic, o_lc, o_str, o_il, o_ll, o_al, o_is, o_as, o_inc, o_iadd, o_isub, o_imul, o_iand, o_ior, o_ishl, o_ishr, o_iushr, o_idiv, o_irem, o_ladd, o_lmul, o_land, o_lor, o_lrem, o_lshl, o_lshr, o_lcmp, o_i2l, o_l2i, o_dup, o_dup2, o_ifeq, o_ifne, o_iflt, o_ifge, o_ifgt, o_ifle, o_iceq, o_icne, o_iclt, o_icge, o_icgt, o_icle, o_sw, o_iret, o_zret, o_vret, o_getf, o_putf, o_putz, o_putr, o_iald, o_zald, o_iast, o_zast, o_alen, o_aald, o_aast, o_obj_e, o_mmax_e, o_mmin_e, o_gsc, o_gsf, o_sval, o_scod, o_salen, o_sbald, o_i2c, o_pop, o_nret, o_call_0, o_call_1, o_call_2, o_call_3, o_call_4, o_call_5, o_call_6, o_call_7, o_callV_0, o_callV_1, o_callV_2, o_callV_3, o_callV_4, o_callV_5, o_callV_6, o_callT_0, o_callT_1, q_cn_0, q_cn_i, q_cn_r, q_cn_a, q_cn_l, q_cat_eq, q_nl_none, q_nl_sn, q_nl_i, q_nl_r, q_nl_a, q_vp_0, q_vp_1, q_vp_2, q_vp_3, q_vp_4, q_vp_5, q_vp_6, q_vp_7, q_vp_8, List.getElem?_cons_zero, List.getElem?_cons_succ, List.getElem?_nil, List.set_cons_zero, List.set_cons_succ, List.set_nil, Option.toList_some, Option.toList_none, List.cons_append, List.nil_append, Nat.reduceAdd, Nat.reduceSub, Nat.reduceLeDiff, Nat.add_zero, Nat.zero_add, Nat.reduceLT, Nat.zero_le, true_and, and_true, Value.category, true_or, or_true, q_z10, q_z01, Int32.reduceLT, Int32.reduceLE, Int32.reduceToNatClampNeg, not_true_eq_false, not_false_eq_true, false_implies, true_implies, implies_true, BX4_leastPeriod_0, BX4_leastPeriod_57, BX4_leastPeriod_51, BX4_leastPeriod_49, BX4_leastPeriod_36, BX4_leastPeriod_23, BX4_leastPeriod_10, BX4_leastPeriod_2, rmX4_leastPeriod, q_cls_of hs.1, hs.1, q_R0_same, hs.2.1]
      refine ⟨fun c => ?_, fun c => ?_⟩
      · rw [h4] at c
        have : r_S k ≤ n := by
          rcases Nat.lt_or_ge n (r_S k) with q | q
          · exact absurd c (nI_ge q (by omega))
          · exact q
        rw [h4, show r_S k = r_per k by omega]; exact hR
      · have hdv : ∀ i, i < 3 → n % r_N k i = 0 := fun i hi => by
          rw [show n = r_per k by omega]; exact Nat.mod_eq_zero_of_dvd (r_perN i hi)
        refine p8_leftOver ?_
        simp only [o_no, o_cut, o_ic, o_lc, o_str, o_il, o_ll, o_al, o_is, o_as, o_inc, o_iadd, o_isub, o_imul, o_iand, o_ior, o_ishl, o_ishr, o_iushr, o_idiv, o_irem, o_ladd, o_lmul, o_land, o_lor, o_lrem, o_lshl, o_lshr, o_lcmp, o_i2l, o_l2i, o_dup, o_dup2, o_ifeq, o_ifne, o_iflt, o_ifge, o_ifgt, o_ifle, o_iceq, o_icne, o_iclt, o_icge, o_icgt, o_icle, o_sw, o_iret, o_zret, o_vret, o_getf, o_putf, o_putz, o_putr, o_iald, o_zald, o_iast, o_zast, o_alen, o_aald, o_aast, o_obj_e, o_mmax_e, o_mmin_e, o_gsc, o_gsf, o_sval, o_scod, o_salen, o_sbald, o_i2c, o_pop, o_nret, o_call_0, o_call_1, o_call_2, o_call_3, o_call_4, o_call_5, o_call_6, o_call_7, o_callV_0, o_callV_1, o_callV_2, o_callV_3, o_callV_4, o_callV_5, o_callV_6, o_callT_0, o_callT_1, q_cn_0, q_cn_i, q_cn_r, q_cn_a, q_cn_l, q_cat_eq, q_nl_none, q_nl_sn, q_nl_i, q_nl_r, q_nl_a, q_vp_0, q_vp_1, q_vp_2, q_vp_3, q_vp_4, q_vp_5, q_vp_6, q_vp_7, q_vp_8, List.getElem?_cons_zero, List.getElem?_cons_succ, List.getElem?_nil, List.set_cons_zero, List.set_cons_succ, List.set_nil, Option.toList_some, Option.toList_none, List.cons_append, List.nil_append, Nat.reduceAdd, Nat.reduceSub, Nat.reduceLeDiff, Nat.add_zero, Nat.zero_add, Nat.reduceLT, Nat.zero_le, true_and, and_true, Value.category, true_or, or_true, q_z10, q_z01, Int32.reduceLT, Int32.reduceLE, Int32.reduceToNatClampNeg, not_true_eq_false, not_false_eq_true, false_implies, true_implies, implies_true, BX4_leastPeriod_0, BX4_leastPeriod_57, BX4_leastPeriod_51, BX4_leastPeriod_49, BX4_leastPeriod_36, BX4_leastPeriod_23, BX4_leastPeriod_10, BX4_leastPeriod_2, rmX4_leastPeriod, q_cls_of hs.1, hs.1, q_R0_same, hs.2.1]
        rw [e0, q_lo2_n (by omega) (by have := hn 0; omega) (by have := hn 0; omega), hdv 0 (by decide)]
        refine ⟨fun c => absurd rfl c, fun _ => ?_⟩
        refine p8_leftOver ?_
        simp only [o_no, o_cut, o_ic, o_lc, o_str, o_il, o_ll, o_al, o_is, o_as, o_inc, o_iadd, o_isub, o_imul, o_iand, o_ior, o_ishl, o_ishr, o_iushr, o_idiv, o_irem, o_ladd, o_lmul, o_land, o_lor, o_lrem, o_lshl, o_lshr, o_lcmp, o_i2l, o_l2i, o_dup, o_dup2, o_ifeq, o_ifne, o_iflt, o_ifge, o_ifgt, o_ifle, o_iceq, o_icne, o_iclt, o_icge, o_icgt, o_icle, o_sw, o_iret, o_zret, o_vret, o_getf, o_putf, o_putz, o_putr, o_iald, o_zald, o_iast, o_zast, o_alen, o_aald, o_aast, o_obj_e, o_mmax_e, o_mmin_e, o_gsc, o_gsf, o_sval, o_scod, o_salen, o_sbald, o_i2c, o_pop, o_nret, o_call_0, o_call_1, o_call_2, o_call_3, o_call_4, o_call_5, o_call_6, o_call_7, o_callV_0, o_callV_1, o_callV_2, o_callV_3, o_callV_4, o_callV_5, o_callV_6, o_callT_0, o_callT_1, q_cn_0, q_cn_i, q_cn_r, q_cn_a, q_cn_l, q_cat_eq, q_nl_none, q_nl_sn, q_nl_i, q_nl_r, q_nl_a, q_vp_0, q_vp_1, q_vp_2, q_vp_3, q_vp_4, q_vp_5, q_vp_6, q_vp_7, q_vp_8, List.getElem?_cons_zero, List.getElem?_cons_succ, List.getElem?_nil, List.set_cons_zero, List.set_cons_succ, List.set_nil, Option.toList_some, Option.toList_none, List.cons_append, List.nil_append, Nat.reduceAdd, Nat.reduceSub, Nat.reduceLeDiff, Nat.add_zero, Nat.zero_add, Nat.reduceLT, Nat.zero_le, true_and, and_true, Value.category, true_or, or_true, q_z10, q_z01, Int32.reduceLT, Int32.reduceLE, Int32.reduceToNatClampNeg, not_true_eq_false, not_false_eq_true, false_implies, true_implies, implies_true, BX4_leastPeriod_0, BX4_leastPeriod_57, BX4_leastPeriod_51, BX4_leastPeriod_49, BX4_leastPeriod_36, BX4_leastPeriod_23, BX4_leastPeriod_10, BX4_leastPeriod_2, rmX4_leastPeriod, q_cls_of hs.1, hs.1, q_R0_same, hs.2.1]
        rw [e1, q_lo2_n (by omega) (by have := hn 1; omega) (by have := hn 1; omega), hdv 1 (by decide)]
        refine ⟨fun c => absurd rfl c, fun _ => ?_⟩
        refine p8_leftOver ?_
        simp only [o_no, o_cut, o_ic, o_lc, o_str, o_il, o_ll, o_al, o_is, o_as, o_inc, o_iadd, o_isub, o_imul, o_iand, o_ior, o_ishl, o_ishr, o_iushr, o_idiv, o_irem, o_ladd, o_lmul, o_land, o_lor, o_lrem, o_lshl, o_lshr, o_lcmp, o_i2l, o_l2i, o_dup, o_dup2, o_ifeq, o_ifne, o_iflt, o_ifge, o_ifgt, o_ifle, o_iceq, o_icne, o_iclt, o_icge, o_icgt, o_icle, o_sw, o_iret, o_zret, o_vret, o_getf, o_putf, o_putz, o_putr, o_iald, o_zald, o_iast, o_zast, o_alen, o_aald, o_aast, o_obj_e, o_mmax_e, o_mmin_e, o_gsc, o_gsf, o_sval, o_scod, o_salen, o_sbald, o_i2c, o_pop, o_nret, o_call_0, o_call_1, o_call_2, o_call_3, o_call_4, o_call_5, o_call_6, o_call_7, o_callV_0, o_callV_1, o_callV_2, o_callV_3, o_callV_4, o_callV_5, o_callV_6, o_callT_0, o_callT_1, q_cn_0, q_cn_i, q_cn_r, q_cn_a, q_cn_l, q_cat_eq, q_nl_none, q_nl_sn, q_nl_i, q_nl_r, q_nl_a, q_vp_0, q_vp_1, q_vp_2, q_vp_3, q_vp_4, q_vp_5, q_vp_6, q_vp_7, q_vp_8, List.getElem?_cons_zero, List.getElem?_cons_succ, List.getElem?_nil, List.set_cons_zero, List.set_cons_succ, List.set_nil, Option.toList_some, Option.toList_none, List.cons_append, List.nil_append, Nat.reduceAdd, Nat.reduceSub, Nat.reduceLeDiff, Nat.add_zero, Nat.zero_add, Nat.reduceLT, Nat.zero_le, true_and, and_true, Value.category, true_or, or_true, q_z10, q_z01, Int32.reduceLT, Int32.reduceLE, Int32.reduceToNatClampNeg, not_true_eq_false, not_false_eq_true, false_implies, true_implies, implies_true, BX4_leastPeriod_0, BX4_leastPeriod_57, BX4_leastPeriod_51, BX4_leastPeriod_49, BX4_leastPeriod_36, BX4_leastPeriod_23, BX4_leastPeriod_10, BX4_leastPeriod_2, rmX4_leastPeriod, q_cls_of hs.1, hs.1, q_R0_same, hs.2.1]
        rw [e2, q_lo2_n (by omega) (by have := hn 2; omega) (by have := hn 2; omega), hdv 2 (by decide)]
        refine ⟨fun c => absurd rfl c, fun _ => ?_⟩
        rw [show n = r_per k by omega]; exact hR
    | succ d ih =>
      intro n hnd h1
      have hnot : ¬ (n % r_N k 0 = 0 ∧ n % r_N k 1 = 0 ∧ n % r_N k 2 = 0) := by
        rintro ⟨q0, q1, q2⟩
        have := Nat.le_of_dvd (by omega) (Nat.lcm_dvd (Nat.dvd_of_mod_eq_zero q0) (Nat.lcm_dvd (Nat.dvd_of_mod_eq_zero q1) (Nat.dvd_of_mod_eq_zero q2)))
        have e : r_per k = Nat.lcm (r_N k 0) (Nat.lcm (r_N k 1) (r_N k 2)) := rfl
        omega
      have m0 : n % r_N k 0 < 2 ^ 31 := by have := Nat.mod_le n (r_N k 0); omega
      have m1 : n % r_N k 1 < 2 ^ 31 := by have := Nat.mod_le n (r_N k 1); omega
      have m2 : n % r_N k 2 < 2 ^ 31 := by have := Nat.mod_le n (r_N k 2); omega
      have zz : ∀ a, a < 2 ^ 31 → (nI a = 0 ↔ a = 0) := fun a ha => nI_eq (b := 0) ha (by decide)
      refine uX4_leastPeriod_2 ?_
      simp only [o_no, o_cut, o_ic, o_lc, o_str, o_il, o_ll, o_al, o_is, o_as, o_inc, o_iadd, o_isub, o_imul, o_iand, o_ior, o_ishl, o_ishr, o_iushr, o_idiv, o_irem, o_ladd, o_lmul, o_land, o_lor, o_lrem, o_lshl, o_lshr, o_lcmp, o_i2l, o_l2i, o_dup, o_dup2, o_ifeq, o_ifne, o_iflt, o_ifge, o_ifgt, o_ifle, o_iceq, o_icne, o_iclt, o_icge, o_icgt, o_icle, o_sw, o_iret, o_zret, o_vret, o_getf, o_putf, o_putz, o_putr, o_iald, o_zald, o_iast, o_zast, o_alen, o_aald, o_aast, o_obj_e, o_mmax_e, o_mmin_e, o_gsc, o_gsf, o_sval, o_scod, o_salen, o_sbald, o_i2c, o_pop, o_nret, o_call_0, o_call_1, o_call_2, o_call_3, o_call_4, o_call_5, o_call_6, o_call_7, o_callV_0, o_callV_1, o_callV_2, o_callV_3, o_callV_4, o_callV_5, o_callV_6, o_callT_0, o_callT_1, q_cn_0, q_cn_i, q_cn_r, q_cn_a, q_cn_l, q_cat_eq, q_nl_none, q_nl_sn, q_nl_i, q_nl_r, q_nl_a, q_vp_0, q_vp_1, q_vp_2, q_vp_3, q_vp_4, q_vp_5, q_vp_6, q_vp_7, q_vp_8, List.getElem?_cons_zero, List.getElem?_cons_succ, List.getElem?_nil, List.set_cons_zero, List.set_cons_succ, List.set_nil, Option.toList_some, Option.toList_none, List.cons_append, List.nil_append, Nat.reduceAdd, Nat.reduceSub, Nat.reduceLeDiff, Nat.add_zero, Nat.zero_add, Nat.reduceLT, Nat.zero_le, true_and, and_true, Value.category, true_or, or_true, q_z10, q_z01, Int32.reduceLT, Int32.reduceLE, Int32.reduceToNatClampNeg, not_true_eq_false, not_false_eq_true, false_implies, true_implies, implies_true, BX4_leastPeriod_0, BX4_leastPeriod_57, BX4_leastPeriod_51, BX4_leastPeriod_49, BX4_leastPeriod_36, BX4_leastPeriod_23, BX4_leastPeriod_10, BX4_leastPeriod_2, rmX4_leastPeriod, q_cls_of hs.1, hs.1, q_R0_same, hs.2.1]
      refine ⟨fun c => ?_, fun c => ?_⟩
      · rw [h4] at c; exact absurd c (nI_ge (by omega) (by omega))
      · have next := ih (n + 1) (by omega) (by omega)
        refine p8_leftOver ?_
        simp only [o_no, o_cut, o_ic, o_lc, o_str, o_il, o_ll, o_al, o_is, o_as, o_inc, o_iadd, o_isub, o_imul, o_iand, o_ior, o_ishl, o_ishr, o_iushr, o_idiv, o_irem, o_ladd, o_lmul, o_land, o_lor, o_lrem, o_lshl, o_lshr, o_lcmp, o_i2l, o_l2i, o_dup, o_dup2, o_ifeq, o_ifne, o_iflt, o_ifge, o_ifgt, o_ifle, o_iceq, o_icne, o_iclt, o_icge, o_icgt, o_icle, o_sw, o_iret, o_zret, o_vret, o_getf, o_putf, o_putz, o_putr, o_iald, o_zald, o_iast, o_zast, o_alen, o_aald, o_aast, o_obj_e, o_mmax_e, o_mmin_e, o_gsc, o_gsf, o_sval, o_scod, o_salen, o_sbald, o_i2c, o_pop, o_nret, o_call_0, o_call_1, o_call_2, o_call_3, o_call_4, o_call_5, o_call_6, o_call_7, o_callV_0, o_callV_1, o_callV_2, o_callV_3, o_callV_4, o_callV_5, o_callV_6, o_callT_0, o_callT_1, q_cn_0, q_cn_i, q_cn_r, q_cn_a, q_cn_l, q_cat_eq, q_nl_none, q_nl_sn, q_nl_i, q_nl_r, q_nl_a, q_vp_0, q_vp_1, q_vp_2, q_vp_3, q_vp_4, q_vp_5, q_vp_6, q_vp_7, q_vp_8, List.getElem?_cons_zero, List.getElem?_cons_succ, List.getElem?_nil, List.set_cons_zero, List.set_cons_succ, List.set_nil, Option.toList_some, Option.toList_none, List.cons_append, List.nil_append, Nat.reduceAdd, Nat.reduceSub, Nat.reduceLeDiff, Nat.add_zero, Nat.zero_add, Nat.reduceLT, Nat.zero_le, true_and, and_true, Value.category, true_or, or_true, q_z10, q_z01, Int32.reduceLT, Int32.reduceLE, Int32.reduceToNatClampNeg, not_true_eq_false, not_false_eq_true, false_implies, true_implies, implies_true, BX4_leastPeriod_0, BX4_leastPeriod_57, BX4_leastPeriod_51, BX4_leastPeriod_49, BX4_leastPeriod_36, BX4_leastPeriod_23, BX4_leastPeriod_10, BX4_leastPeriod_2, rmX4_leastPeriod, q_cls_of hs.1, hs.1, q_R0_same, hs.2.1]
        rw [e0, q_lo2_n (by omega) (by have := hn 0; omega) (by have := hn 0; omega), nI_1]
        refine ⟨fun c => next, fun c0 => ?_⟩
        refine p8_leftOver ?_
        simp only [o_no, o_cut, o_ic, o_lc, o_str, o_il, o_ll, o_al, o_is, o_as, o_inc, o_iadd, o_isub, o_imul, o_iand, o_ior, o_ishl, o_ishr, o_iushr, o_idiv, o_irem, o_ladd, o_lmul, o_land, o_lor, o_lrem, o_lshl, o_lshr, o_lcmp, o_i2l, o_l2i, o_dup, o_dup2, o_ifeq, o_ifne, o_iflt, o_ifge, o_ifgt, o_ifle, o_iceq, o_icne, o_iclt, o_icge, o_icgt, o_icle, o_sw, o_iret, o_zret, o_vret, o_getf, o_putf, o_putz, o_putr, o_iald, o_zald, o_iast, o_zast, o_alen, o_aald, o_aast, o_obj_e, o_mmax_e, o_mmin_e, o_gsc, o_gsf, o_sval, o_scod, o_salen, o_sbald, o_i2c, o_pop, o_nret, o_call_0, o_call_1, o_call_2, o_call_3, o_call_4, o_call_5, o_call_6, o_call_7, o_callV_0, o_callV_1, o_callV_2, o_callV_3, o_callV_4, o_callV_5, o_callV_6, o_callT_0, o_callT_1, q_cn_0, q_cn_i, q_cn_r, q_cn_a, q_cn_l, q_cat_eq, q_nl_none, q_nl_sn, q_nl_i, q_nl_r, q_nl_a, q_vp_0, q_vp_1, q_vp_2, q_vp_3, q_vp_4, q_vp_5, q_vp_6, q_vp_7, q_vp_8, List.getElem?_cons_zero, List.getElem?_cons_succ, List.getElem?_nil, List.set_cons_zero, List.set_cons_succ, List.set_nil, Option.toList_some, Option.toList_none, List.cons_append, List.nil_append, Nat.reduceAdd, Nat.reduceSub, Nat.reduceLeDiff, Nat.add_zero, Nat.zero_add, Nat.reduceLT, Nat.zero_le, true_and, and_true, Value.category, true_or, or_true, q_z10, q_z01, Int32.reduceLT, Int32.reduceLE, Int32.reduceToNatClampNeg, not_true_eq_false, not_false_eq_true, false_implies, true_implies, implies_true, BX4_leastPeriod_0, BX4_leastPeriod_57, BX4_leastPeriod_51, BX4_leastPeriod_49, BX4_leastPeriod_36, BX4_leastPeriod_23, BX4_leastPeriod_10, BX4_leastPeriod_2, rmX4_leastPeriod, q_cls_of hs.1, hs.1, q_R0_same, hs.2.1]
        rw [e1, q_lo2_n (by omega) (by have := hn 1; omega) (by have := hn 1; omega), nI_1]
        refine ⟨fun c => next, fun c1 => ?_⟩
        refine p8_leftOver ?_
        simp only [o_no, o_cut, o_ic, o_lc, o_str, o_il, o_ll, o_al, o_is, o_as, o_inc, o_iadd, o_isub, o_imul, o_iand, o_ior, o_ishl, o_ishr, o_iushr, o_idiv, o_irem, o_ladd, o_lmul, o_land, o_lor, o_lrem, o_lshl, o_lshr, o_lcmp, o_i2l, o_l2i, o_dup, o_dup2, o_ifeq, o_ifne, o_iflt, o_ifge, o_ifgt, o_ifle, o_iceq, o_icne, o_iclt, o_icge, o_icgt, o_icle, o_sw, o_iret, o_zret, o_vret, o_getf, o_putf, o_putz, o_putr, o_iald, o_zald, o_iast, o_zast, o_alen, o_aald, o_aast, o_obj_e, o_mmax_e, o_mmin_e, o_gsc, o_gsf, o_sval, o_scod, o_salen, o_sbald, o_i2c, o_pop, o_nret, o_call_0, o_call_1, o_call_2, o_call_3, o_call_4, o_call_5, o_call_6, o_call_7, o_callV_0, o_callV_1, o_callV_2, o_callV_3, o_callV_4, o_callV_5, o_callV_6, o_callT_0, o_callT_1, q_cn_0, q_cn_i, q_cn_r, q_cn_a, q_cn_l, q_cat_eq, q_nl_none, q_nl_sn, q_nl_i, q_nl_r, q_nl_a, q_vp_0, q_vp_1, q_vp_2, q_vp_3, q_vp_4, q_vp_5, q_vp_6, q_vp_7, q_vp_8, List.getElem?_cons_zero, List.getElem?_cons_succ, List.getElem?_nil, List.set_cons_zero, List.set_cons_succ, List.set_nil, Option.toList_some, Option.toList_none, List.cons_append, List.nil_append, Nat.reduceAdd, Nat.reduceSub, Nat.reduceLeDiff, Nat.add_zero, Nat.zero_add, Nat.reduceLT, Nat.zero_le, true_and, and_true, Value.category, true_or, or_true, q_z10, q_z01, Int32.reduceLT, Int32.reduceLE, Int32.reduceToNatClampNeg, not_true_eq_false, not_false_eq_true, false_implies, true_implies, implies_true, BX4_leastPeriod_0, BX4_leastPeriod_57, BX4_leastPeriod_51, BX4_leastPeriod_49, BX4_leastPeriod_36, BX4_leastPeriod_23, BX4_leastPeriod_10, BX4_leastPeriod_2, rmX4_leastPeriod, q_cls_of hs.1, hs.1, q_R0_same, hs.2.1]
        rw [e2, q_lo2_n (by omega) (by have := hn 2; omega) (by have := hn 2; omega)]
        refine ⟨fun c => next, fun c2 => ?_⟩
        exact absurd ⟨(zz _ m0).mp c0, (zz _ m1).mp c1, (zz _ m2).mp c2⟩ hnot
  exact loop (r_per k - 1) 1 (by omega) (by omega)
theorem p4_placesAboveNought (h : r_ok k) (hs : q_rk sh b) (ht : x_told m b k) (hw : x_wts m b k) {s : Nat} (hs31 : s < 2 ^ 31) (hR : R (some (.int (nI (r_ls k s)))) sh m) : wX4_placesAboveNought [.ref b, .int (nI s)] sh m R := by
  have h8 : r_pl k ≤ 8 := h.2.1
  refine eX4_placesAboveNought ?_
  simp only [o_no, o_cut, o_ic, o_lc, o_str, o_il, o_ll, o_al, o_is, o_as, o_inc, o_iadd, o_isub, o_imul, o_iand, o_ior, o_ishl, o_ishr, o_iushr, o_idiv, o_irem, o_ladd, o_lmul, o_land, o_lor, o_lrem, o_lshl, o_lshr, o_lcmp, o_i2l, o_l2i, o_dup, o_dup2, o_ifeq, o_ifne, o_iflt, o_ifge, o_ifgt, o_ifle, o_iceq, o_icne, o_iclt, o_icge, o_icgt, o_icle, o_sw, o_iret, o_zret, o_vret, o_getf, o_putf, o_putz, o_putr, o_iald, o_zald, o_iast, o_zast, o_alen, o_aald, o_aast, o_obj_e, o_mmax_e, o_mmin_e, o_gsc, o_gsf, o_sval, o_scod, o_salen, o_sbald, o_i2c, o_pop, o_nret, o_call_0, o_call_1, o_call_2, o_call_3, o_call_4, o_call_5, o_call_6, o_call_7, o_callV_0, o_callV_1, o_callV_2, o_callV_3, o_callV_4, o_callV_5, o_callV_6, o_callT_0, o_callT_1, q_cn_0, q_cn_i, q_cn_r, q_cn_a, q_cn_l, q_cat_eq, q_nl_none, q_nl_sn, q_nl_i, q_nl_r, q_nl_a, q_vp_0, q_vp_1, q_vp_2, q_vp_3, q_vp_4, q_vp_5, q_vp_6, q_vp_7, q_vp_8, List.getElem?_cons_zero, List.getElem?_cons_succ, List.getElem?_nil, List.set_cons_zero, List.set_cons_succ, List.set_nil, Option.toList_some, Option.toList_none, List.cons_append, List.nil_append, Nat.reduceAdd, Nat.reduceSub, Nat.reduceLeDiff, Nat.add_zero, Nat.zero_add, Nat.reduceLT, Nat.zero_le, true_and, and_true, Value.category, true_or, or_true, q_z10, q_z01, Int32.reduceLT, Int32.reduceLE, Int32.reduceToNatClampNeg, not_true_eq_false, not_false_eq_true, false_implies, true_implies, implies_true, BX4_placesAboveNought_0, BX4_placesAboveNought_33, BX4_placesAboveNought_27, BX4_placesAboveNought_21, BX4_placesAboveNought_12, BX4_placesAboveNought_4, rmX4_placesAboveNought, q_cls_of hs.1, hs.1, q_R0_same]
  have loop : ∀ d n, n + d = r_pl k → q_WP TX4_placesAboveNought 4 [some (.ref b), some (.int (nI s)), some (.int (nI (r_set (fun p => r_lt k p s) n))), some (.int (nI n))] [] sh m (q_R0 sh rmX4_placesAboveNought R) := by
    intro d
    induction d with
    | zero =>
      intro n hn
      refine uX4_placesAboveNought_4 ?_
      simp only [o_no, o_cut, o_ic, o_lc, o_str, o_il, o_ll, o_al, o_is, o_as, o_inc, o_iadd, o_isub, o_imul, o_iand, o_ior, o_ishl, o_ishr, o_iushr, o_idiv, o_irem, o_ladd, o_lmul, o_land, o_lor, o_lrem, o_lshl, o_lshr, o_lcmp, o_i2l, o_l2i, o_dup, o_dup2, o_ifeq, o_ifne, o_iflt, o_ifge, o_ifgt, o_ifle, o_iceq, o_icne, o_iclt, o_icge, o_icgt, o_icle, o_sw, o_iret, o_zret, o_vret, o_getf, o_putf, o_putz, o_putr, o_iald, o_zald, o_iast, o_zast, o_alen, o_aald, o_aast, o_obj_e, o_mmax_e, o_mmin_e, o_gsc, o_gsf, o_sval, o_scod, o_salen, o_sbald, o_i2c, o_pop, o_nret, o_call_0, o_call_1, o_call_2, o_call_3, o_call_4, o_call_5, o_call_6, o_call_7, o_callV_0, o_callV_1, o_callV_2, o_callV_3, o_callV_4, o_callV_5, o_callV_6, o_callT_0, o_callT_1, q_cn_0, q_cn_i, q_cn_r, q_cn_a, q_cn_l, q_cat_eq, q_nl_none, q_nl_sn, q_nl_i, q_nl_r, q_nl_a, q_vp_0, q_vp_1, q_vp_2, q_vp_3, q_vp_4, q_vp_5, q_vp_6, q_vp_7, q_vp_8, List.getElem?_cons_zero, List.getElem?_cons_succ, List.getElem?_nil, List.set_cons_zero, List.set_cons_succ, List.set_nil, Option.toList_some, Option.toList_none, List.cons_append, List.nil_append, Nat.reduceAdd, Nat.reduceSub, Nat.reduceLeDiff, Nat.add_zero, Nat.zero_add, Nat.reduceLT, Nat.zero_le, true_and, and_true, Value.category, true_or, or_true, q_z10, q_z01, Int32.reduceLT, Int32.reduceLE, Int32.reduceToNatClampNeg, not_true_eq_false, not_false_eq_true, false_implies, true_implies, implies_true, BX4_placesAboveNought_0, BX4_placesAboveNought_33, BX4_placesAboveNought_27, BX4_placesAboveNought_21, BX4_placesAboveNought_12, BX4_placesAboveNought_4, rmX4_placesAboveNought, q_cls_of hs.1, hs.1, q_R0_same]
      refine ⟨fun _ => ?_, fun c => ?_⟩
      · rw [show n = r_pl k by omega]; exact hR
      · exact absurd (by rw [ht.2.1]; exact nI_le (by omega) (by omega)) c
    | succ d ih =>
      intro n hn
      have hst := r_set_lt (fun p => r_lt k p s) n
      refine uX4_placesAboveNought_4 ?_
      simp only [o_no, o_cut, o_ic, o_lc, o_str, o_il, o_ll, o_al, o_is, o_as, o_inc, o_iadd, o_isub, o_imul, o_iand, o_ior, o_ishl, o_ishr, o_iushr, o_idiv, o_irem, o_ladd, o_lmul, o_land, o_lor, o_lrem, o_lshl, o_lshr, o_lcmp, o_i2l, o_l2i, o_dup, o_dup2, o_ifeq, o_ifne, o_iflt, o_ifge, o_ifgt, o_ifle, o_iceq, o_icne, o_iclt, o_icge, o_icgt, o_icle, o_sw, o_iret, o_zret, o_vret, o_getf, o_putf, o_putz, o_putr, o_iald, o_zald, o_iast, o_zast, o_alen, o_aald, o_aast, o_obj_e, o_mmax_e, o_mmin_e, o_gsc, o_gsf, o_sval, o_scod, o_salen, o_sbald, o_i2c, o_pop, o_nret, o_call_0, o_call_1, o_call_2, o_call_3, o_call_4, o_call_5, o_call_6, o_call_7, o_callV_0, o_callV_1, o_callV_2, o_callV_3, o_callV_4, o_callV_5, o_callV_6, o_callT_0, o_callT_1, q_cn_0, q_cn_i, q_cn_r, q_cn_a, q_cn_l, q_cat_eq, q_nl_none, q_nl_sn, q_nl_i, q_nl_r, q_nl_a, q_vp_0, q_vp_1, q_vp_2, q_vp_3, q_vp_4, q_vp_5, q_vp_6, q_vp_7, q_vp_8, List.getElem?_cons_zero, List.getElem?_cons_succ, List.getElem?_nil, List.set_cons_zero, List.set_cons_succ, List.set_nil, Option.toList_some, Option.toList_none, List.cons_append, List.nil_append, Nat.reduceAdd, Nat.reduceSub, Nat.reduceLeDiff, Nat.add_zero, Nat.zero_add, Nat.reduceLT, Nat.zero_le, true_and, and_true, Value.category, true_or, or_true, q_z10, q_z01, Int32.reduceLT, Int32.reduceLE, Int32.reduceToNatClampNeg, not_true_eq_false, not_false_eq_true, false_implies, true_implies, implies_true, BX4_placesAboveNought_0, BX4_placesAboveNought_33, BX4_placesAboveNought_27, BX4_placesAboveNought_21, BX4_placesAboveNought_12, BX4_placesAboveNought_4, rmX4_placesAboveNought, q_cls_of hs.1, hs.1, q_R0_same]
      refine ⟨fun c => ?_, fun _ => ?_⟩
      · rw [ht.2.1] at c; exact absurd c (nI_ge (by omega) (by omega))
      · refine p4_heightOf h hs ht hw (by omega) hs31 ?_
        simp only [o_no, o_cut, o_ic, o_lc, o_str, o_il, o_ll, o_al, o_is, o_as, o_inc, o_iadd, o_isub, o_imul, o_iand, o_ior, o_ishl, o_ishr, o_iushr, o_idiv, o_irem, o_ladd, o_lmul, o_land, o_lor, o_lrem, o_lshl, o_lshr, o_lcmp, o_i2l, o_l2i, o_dup, o_dup2, o_ifeq, o_ifne, o_iflt, o_ifge, o_ifgt, o_ifle, o_iceq, o_icne, o_iclt, o_icge, o_icgt, o_icle, o_sw, o_iret, o_zret, o_vret, o_getf, o_putf, o_putz, o_putr, o_iald, o_zald, o_iast, o_zast, o_alen, o_aald, o_aast, o_obj_e, o_mmax_e, o_mmin_e, o_gsc, o_gsf, o_sval, o_scod, o_salen, o_sbald, o_i2c, o_pop, o_nret, o_call_0, o_call_1, o_call_2, o_call_3, o_call_4, o_call_5, o_call_6, o_call_7, o_callV_0, o_callV_1, o_callV_2, o_callV_3, o_callV_4, o_callV_5, o_callV_6, o_callT_0, o_callT_1, q_cn_0, q_cn_i, q_cn_r, q_cn_a, q_cn_l, q_cat_eq, q_nl_none, q_nl_sn, q_nl_i, q_nl_r, q_nl_a, q_vp_0, q_vp_1, q_vp_2, q_vp_3, q_vp_4, q_vp_5, q_vp_6, q_vp_7, q_vp_8, List.getElem?_cons_zero, List.getElem?_cons_succ, List.getElem?_nil, List.set_cons_zero, List.set_cons_succ, List.set_nil, Option.toList_some, Option.toList_none, List.cons_append, List.nil_append, Nat.reduceAdd, Nat.reduceSub, Nat.reduceLeDiff, Nat.add_zero, Nat.zero_add, Nat.reduceLT, Nat.zero_le, true_and, and_true, Value.category, true_or, or_true, q_z10, q_z01, Int32.reduceLT, Int32.reduceLE, Int32.reduceToNatClampNeg, not_true_eq_false, not_false_eq_true, false_implies, true_implies, implies_true, BX4_placesAboveNought_0, BX4_placesAboveNought_33, BX4_placesAboveNought_27, BX4_placesAboveNought_21, BX4_placesAboveNought_12, BX4_placesAboveNought_4, rmX4_placesAboveNought, q_cls_of hs.1, hs.1, q_R0_same]
        rw [nI_1, nI_shl (by omega), nI_orp hst]
        have := ih (n + 1) (by omega)
        rw [r_set] at this
        refine ⟨fun c => ?_, fun c => ?_⟩
        · rw [if_neg (show ¬ r_lt k n s = true by simp only [r_lt, decide_eq_true_eq]; exact Int32.not_lt.mpr c), Nat.add_zero] at this
          exact this
        · rw [if_pos (show r_lt k n s = true by simp only [r_lt, decide_eq_true_eq]; exact Int32.not_le.mp c)] at this
          exact this
  exact loop (r_pl k) 0 (by omega)
theorem x_told_fr {m m' : q_Mm} (ht : x_told m b k) (h0 : ∀ j, j < 4 → m' b j = m b j) (h1 : ∀ i, 1 ≤ i → i ≤ 6 → i ≠ 2 → m' (b + i) = m (b + i)) : x_told m' b k := by
  obtain ⟨t0, t1, t2, t3, t4, t5, t6, t7, t8⟩ := ht
  refine ⟨(h0 0 (by decide)).trans t0, (h0 1 (by decide)).trans t1, (h0 2 (by decide)).trans t2, (h0 3 (by decide)).trans t3, ?_, ?_, ?_, ?_, ?_⟩
  · rw [h1 1 (by decide) (by decide) (by decide)]; exact t4
  · rw [h1 3 (by decide) (by decide) (by decide)]; exact t5
  · rw [h1 4 (by decide) (by decide) (by decide)]; exact t6
  · rw [h1 5 (by decide) (by decide) (by decide)]; exact t7
  · rw [h1 6 (by decide) (by decide) (by decide)]; exact t8
theorem p4_settle (h : r_ok k) (hs : q_rk sh b) (ht : x_told m b k) (hR : ∀ m', x_rock m' b k → (∀ a, a ≠ b → a ≠ b + 2 → a ≠ b + 7 → a ≠ b + 8 → m' a = m a) → R none sh m') : wX4_settle [.ref b] sh m R := by
  have hSl := r_Sle h
  have hn : ∀ i, 1 ≤ r_N k i ∧ r_N k i ≤ 12 := r_Npos h
  have hw0 := r_wtpos h 0
  have e0 : m (b + 1) 0 = nI (r_N k 0) := ht.2.2.2.2.1 0 (by decide)
  have e1 : m (b + 1) 1 = nI (r_N k 1) := ht.2.2.2.2.1 1 (by decide)
  have e2 : m (b + 1) 2 = nI (r_N k 2) := ht.2.2.2.2.1 2 (by decide)
  have n1 : b + 1 ≠ b + 2 := by omega
  have n2 : b ≠ b + 2 := by omega
  have n3 : b + 2 ≠ b := by omega
  have n4 : b + 1 ≠ b := by omega
  refine eX4_settle ?_
  simp only [o_no, o_cut, o_ic, o_lc, o_str, o_il, o_ll, o_al, o_is, o_as, o_inc, o_iadd, o_isub, o_imul, o_iand, o_ior, o_ishl, o_ishr, o_iushr, o_idiv, o_irem, o_ladd, o_lmul, o_land, o_lor, o_lrem, o_lshl, o_lshr, o_lcmp, o_i2l, o_l2i, o_dup, o_dup2, o_ifeq, o_ifne, o_iflt, o_ifge, o_ifgt, o_ifle, o_iceq, o_icne, o_iclt, o_icge, o_icgt, o_icle, o_sw, o_iret, o_zret, o_vret, o_getf, o_putf, o_putz, o_putr, o_iald, o_zald, o_iast, o_zast, o_alen, o_aald, o_aast, o_obj_e, o_mmax_e, o_mmin_e, o_gsc, o_gsf, o_sval, o_scod, o_salen, o_sbald, o_i2c, o_pop, o_nret, o_call_0, o_call_1, o_call_2, o_call_3, o_call_4, o_call_5, o_call_6, o_call_7, o_callV_0, o_callV_1, o_callV_2, o_callV_3, o_callV_4, o_callV_5, o_callV_6, o_callT_0, o_callT_1, q_cn_0, q_cn_i, q_cn_r, q_cn_a, q_cn_l, q_cat_eq, q_nl_none, q_nl_sn, q_nl_i, q_nl_r, q_nl_a, q_vp_0, q_vp_1, q_vp_2, q_vp_3, q_vp_4, q_vp_5, q_vp_6, q_vp_7, q_vp_8, List.getElem?_cons_zero, List.getElem?_cons_succ, List.getElem?_nil, List.set_cons_zero, List.set_cons_succ, List.set_nil, Option.toList_some, Option.toList_none, List.cons_append, List.nil_append, Nat.reduceAdd, Nat.reduceSub, Nat.reduceLeDiff, Nat.add_zero, Nat.zero_add, Nat.reduceLT, Nat.zero_le, true_and, and_true, Value.category, true_or, or_true, q_z10, q_z01, Int32.reduceLT, Int32.reduceLE, Int32.reduceToNatClampNeg, not_true_eq_false, not_false_eq_true, false_implies, true_implies, implies_true, BX4_settle_0, BX4_settle_111, BX4_settle_80, BX4_settle_73, BX4_settle_65, rmX4_settle, q_cls_of hs.1, hs.1, q_R0_same, hs.2.1, hs.2.2.1, q_up_app, n1, n2, n3, n4, false_and, if_false, and_self, if_true, and_false, q_z10, q_z01, e0, e1, e2, pk_mul, Nat.reduceEqDiff]
  obtain ⟨M, hM⟩ : ∃ M, M = q_up (q_up (q_up (q_up m (b + 2) 2 1) (b + 2) 1 (nI (r_N k 2))) (b + 2) 0 (nI (r_N k 1 * r_N k 2))) b 4 (nI (r_N k 0 * (r_N k 1 * r_N k 2))) := ⟨_, rfl⟩
  rw [← hM]
  have fr : ∀ a, a ≠ b → a ≠ b + 2 → M a = m a := fun a h1 h2 => by rw [hM, q_up_o h1, q_up_o h2, q_up_o h2, q_up_o h2]
  have f0 : ∀ j, j < 4 → M b j = m b j := fun j hj => by
    rw [hM, q_up_app, if_neg (by omega), q_up_o n2, q_up_o n2, q_up_o n2]
  have htM : x_told M b k := x_told_fr ht f0 (fun i h1 h2 h3 => fr _ (by omega) (by omega))
  have hwM : x_wts M b k := by
    intro i hi
    match i, hi with
    | 0, _ => rw [hM]; simp only [q_up_app, n3, false_and, if_false, and_self, if_true]; rfl
    | 1, _ => rw [hM]; simp only [q_up_app, n3, false_and, if_false, and_self, if_true, Nat.reduceEqDiff, and_false]; rfl
    | 2, _ => rw [hM]; simp only [q_up_app, n3, false_and, if_false, and_self, if_true, Nat.reduceEqDiff, and_false]; rfl
  have h4M : M b 4 = nI (r_S k) := by rw [hM, q_up_app, if_pos ⟨rfl, rfl⟩]; rfl
  refine p4_leastPeriod h hs htM h4M ?_
  simp only [o_no, o_cut, o_ic, o_lc, o_str, o_il, o_ll, o_al, o_is, o_as, o_inc, o_iadd, o_isub, o_imul, o_iand, o_ior, o_ishl, o_ishr, o_iushr, o_idiv, o_irem, o_ladd, o_lmul, o_land, o_lor, o_lrem, o_lshl, o_lshr, o_lcmp, o_i2l, o_l2i, o_dup, o_dup2, o_ifeq, o_ifne, o_iflt, o_ifge, o_ifgt, o_ifle, o_iceq, o_icne, o_iclt, o_icge, o_icgt, o_icle, o_sw, o_iret, o_zret, o_vret, o_getf, o_putf, o_putz, o_putr, o_iald, o_zald, o_iast, o_zast, o_alen, o_aald, o_aast, o_obj_e, o_mmax_e, o_mmin_e, o_gsc, o_gsf, o_sval, o_scod, o_salen, o_sbald, o_i2c, o_pop, o_nret, o_call_0, o_call_1, o_call_2, o_call_3, o_call_4, o_call_5, o_call_6, o_call_7, o_callV_0, o_callV_1, o_callV_2, o_callV_3, o_callV_4, o_callV_5, o_callV_6, o_callT_0, o_callT_1, q_cn_0, q_cn_i, q_cn_r, q_cn_a, q_cn_l, q_cat_eq, q_nl_none, q_nl_sn, q_nl_i, q_nl_r, q_nl_a, q_vp_0, q_vp_1, q_vp_2, q_vp_3, q_vp_4, q_vp_5, q_vp_6, q_vp_7, q_vp_8, List.getElem?_cons_zero, List.getElem?_cons_succ, List.getElem?_nil, List.set_cons_zero, List.set_cons_succ, List.set_nil, Option.toList_some, Option.toList_none, List.cons_append, List.nil_append, Nat.reduceAdd, Nat.reduceSub, Nat.reduceLeDiff, Nat.add_zero, Nat.zero_add, Nat.reduceLT, Nat.zero_le, true_and, and_true, Value.category, true_or, or_true, q_z10, q_z01, Int32.reduceLT, Int32.reduceLE, Int32.reduceToNatClampNeg, not_true_eq_false, not_false_eq_true, false_implies, true_implies, implies_true, BX4_settle_0, BX4_settle_111, BX4_settle_80, BX4_settle_73, BX4_settle_65, rmX4_settle, q_cls_of hs.1, hs.1, q_R0_same]
  have loop : ∀ d n (m' : q_Mm), n + d = r_S k → x_told m' b k → x_wts m' b k → m' b 4 = nI (r_S k) → m' b 5 = nI (r_per k) → (∀ s, s < n → m' (b + 7) s = nI (r_ls k s)) → (∀ s, s < n → m' (b + 8) s = nI (r_ad k s 1)) → (∀ a, a ≠ b → a ≠ b + 2 → a ≠ b + 7 → a ≠ b + 8 → m' a = m a) → q_WP TX4_settle 65 [some (.ref b), some (.int (nI n))] [] sh m' (q_R0 sh rmX4_settle R) := by
    intro d
    induction d with
    | zero =>
      intro n m' hn a1 a2 a3 a4 a5 a6 a7
      have fin : R none sh m' := hR m' ⟨a1, a2, a3, a4, fun s hs => a5 s (by omega), fun s hs => a6 s (by omega)⟩ a7
      refine uX4_settle_65 ?_
      simp only [o_no, o_cut, o_ic, o_lc, o_str, o_il, o_ll, o_al, o_is, o_as, o_inc, o_iadd, o_isub, o_imul, o_iand, o_ior, o_ishl, o_ishr, o_iushr, o_idiv, o_irem, o_ladd, o_lmul, o_land, o_lor, o_lrem, o_lshl, o_lshr, o_lcmp, o_i2l, o_l2i, o_dup, o_dup2, o_ifeq, o_ifne, o_iflt, o_ifge, o_ifgt, o_ifle, o_iceq, o_icne, o_iclt, o_icge, o_icgt, o_icle, o_sw, o_iret, o_zret, o_vret, o_getf, o_putf, o_putz, o_putr, o_iald, o_zald, o_iast, o_zast, o_alen, o_aald, o_aast, o_obj_e, o_mmax_e, o_mmin_e, o_gsc, o_gsf, o_sval, o_scod, o_salen, o_sbald, o_i2c, o_pop, o_nret, o_call_0, o_call_1, o_call_2, o_call_3, o_call_4, o_call_5, o_call_6, o_call_7, o_callV_0, o_callV_1, o_callV_2, o_callV_3, o_callV_4, o_callV_5, o_callV_6, o_callT_0, o_callT_1, q_cn_0, q_cn_i, q_cn_r, q_cn_a, q_cn_l, q_cat_eq, q_nl_none, q_nl_sn, q_nl_i, q_nl_r, q_nl_a, q_vp_0, q_vp_1, q_vp_2, q_vp_3, q_vp_4, q_vp_5, q_vp_6, q_vp_7, q_vp_8, List.getElem?_cons_zero, List.getElem?_cons_succ, List.getElem?_nil, List.set_cons_zero, List.set_cons_succ, List.set_nil, Option.toList_some, Option.toList_none, List.cons_append, List.nil_append, Nat.reduceAdd, Nat.reduceSub, Nat.reduceLeDiff, Nat.add_zero, Nat.zero_add, Nat.reduceLT, Nat.zero_le, true_and, and_true, Value.category, true_or, or_true, q_z10, q_z01, Int32.reduceLT, Int32.reduceLE, Int32.reduceToNatClampNeg, not_true_eq_false, not_false_eq_true, false_implies, true_implies, implies_true, BX4_settle_0, BX4_settle_111, BX4_settle_80, BX4_settle_73, BX4_settle_65, rmX4_settle, q_cls_of hs.1, hs.1, q_R0_same]
      refine ⟨fun _ => fin, fun _ => ⟨fun _ => fin, fun c => ?_⟩⟩
      rw [a3] at *
      rename_i c0
      exact absurd (nI_le (by omega) (by omega)) c0
    | succ d ih =>
      intro n m' hn a1 a2 a3 a4 a5 a6 a7
      refine uX4_settle_65 ?_
      simp only [o_no, o_cut, o_ic, o_lc, o_str, o_il, o_ll, o_al, o_is, o_as, o_inc, o_iadd, o_isub, o_imul, o_iand, o_ior, o_ishl, o_ishr, o_iushr, o_idiv, o_irem, o_ladd, o_lmul, o_land, o_lor, o_lrem, o_lshl, o_lshr, o_lcmp, o_i2l, o_l2i, o_dup, o_dup2, o_ifeq, o_ifne, o_iflt, o_ifge, o_ifgt, o_ifle, o_iceq, o_icne, o_iclt, o_icge, o_icgt, o_icle, o_sw, o_iret, o_zret, o_vret, o_getf, o_putf, o_putz, o_putr, o_iald, o_zald, o_iast, o_zast, o_alen, o_aald, o_aast, o_obj_e, o_mmax_e, o_mmin_e, o_gsc, o_gsf, o_sval, o_scod, o_salen, o_sbald, o_i2c, o_pop, o_nret, o_call_0, o_call_1, o_call_2, o_call_3, o_call_4, o_call_5, o_call_6, o_call_7, o_callV_0, o_callV_1, o_callV_2, o_callV_3, o_callV_4, o_callV_5, o_callV_6, o_callT_0, o_callT_1, q_cn_0, q_cn_i, q_cn_r, q_cn_a, q_cn_l, q_cat_eq, q_nl_none, q_nl_sn, q_nl_i, q_nl_r, q_nl_a, q_vp_0, q_vp_1, q_vp_2, q_vp_3, q_vp_4, q_vp_5, q_vp_6, q_vp_7, q_vp_8, List.getElem?_cons_zero, List.getElem?_cons_succ, List.getElem?_nil, List.set_cons_zero, List.set_cons_succ, List.set_nil, Option.toList_some, Option.toList_none, List.cons_append, List.nil_append, Nat.reduceAdd, Nat.reduceSub, Nat.reduceLeDiff, Nat.add_zero, Nat.zero_add, Nat.reduceLT, Nat.zero_le, true_and, and_true, Value.category, true_or, or_true, q_z10, q_z01, Int32.reduceLT, Int32.reduceLE, Int32.reduceToNatClampNeg, not_true_eq_false, not_false_eq_true, false_implies, true_implies, implies_true, BX4_settle_0, BX4_settle_111, BX4_settle_80, BX4_settle_73, BX4_settle_65, rmX4_settle, q_cls_of hs.1, hs.1, q_R0_same]
      refine ⟨fun c => ?_, fun _ => ⟨fun c => ?_, fun c => ?_⟩⟩
      · rw [a3] at c; exact absurd c (nI_ge (by omega) (by omega))
      · exact absurd c (by rw [show (1728 : Int32) = nI 1728 from rfl]; exact nI_ge (by omega) (by omega))
      · refine p4_placesAboveNought h hs a1 a2 (by omega) ?_
        simp only [o_no, o_cut, o_ic, o_lc, o_str, o_il, o_ll, o_al, o_is, o_as, o_inc, o_iadd, o_isub, o_imul, o_iand, o_ior, o_ishl, o_ishr, o_iushr, o_idiv, o_irem, o_ladd, o_lmul, o_land, o_lor, o_lrem, o_lshl, o_lshr, o_lcmp, o_i2l, o_l2i, o_dup, o_dup2, o_ifeq, o_ifne, o_iflt, o_ifge, o_ifgt, o_ifle, o_iceq, o_icne, o_iclt, o_icge, o_icgt, o_icle, o_sw, o_iret, o_zret, o_vret, o_getf, o_putf, o_putz, o_putr, o_iald, o_zald, o_iast, o_zast, o_alen, o_aald, o_aast, o_obj_e, o_mmax_e, o_mmin_e, o_gsc, o_gsf, o_sval, o_scod, o_salen, o_sbald, o_i2c, o_pop, o_nret, o_call_0, o_call_1, o_call_2, o_call_3, o_call_4, o_call_5, o_call_6, o_call_7, o_callV_0, o_callV_1, o_callV_2, o_callV_3, o_callV_4, o_callV_5, o_callV_6, o_callT_0, o_callT_1, q_cn_0, q_cn_i, q_cn_r, q_cn_a, q_cn_l, q_cat_eq, q_nl_none, q_nl_sn, q_nl_i, q_nl_r, q_nl_a, q_vp_0, q_vp_1, q_vp_2, q_vp_3, q_vp_4, q_vp_5, q_vp_6, q_vp_7, q_vp_8, List.getElem?_cons_zero, List.getElem?_cons_succ, List.getElem?_nil, List.set_cons_zero, List.set_cons_succ, List.set_nil, Option.toList_some, Option.toList_none, List.cons_append, List.nil_append, Nat.reduceAdd, Nat.reduceSub, Nat.reduceLeDiff, Nat.add_zero, Nat.zero_add, Nat.reduceLT, Nat.zero_le, true_and, and_true, Value.category, true_or, or_true, q_z10, q_z01, Int32.reduceLT, Int32.reduceLE, Int32.reduceToNatClampNeg, not_true_eq_false, not_false_eq_true, false_implies, true_implies, implies_true, BX4_settle_0, BX4_settle_111, BX4_settle_80, BX4_settle_73, BX4_settle_65, rmX4_settle, q_cls_of hs.1, hs.1, q_R0_same, hs.2.2.2.2.2.2.2.1, hs.2.2.2.2.2.2.2.2]
        refine ⟨vp_in_nI (by omega) (by decide), ?_⟩
        rw [nI_clamp (by omega)]
        obtain ⟨m2, hm2⟩ : ∃ m2, m2 = q_up m' (b + 7) n (nI (r_ls k n)) := ⟨_, rfl⟩
        rw [← hm2]
        have o7 : ∀ a, a ≠ b + 7 → m2 a = m' a := fun a ha => by rw [hm2, q_up_o ha]
        have b1 : x_told m2 b k := x_told_fr a1 (fun j _ => by rw [o7 b (by omega)]) (fun i h1 h2 h3 => o7 _ (by omega))
        have b2 : x_wts m2 b k := fun i hi => by rw [o7 _ (by omega)]; exact a2 i hi
        refine p4_moved hs ?_
        simp only [o_no, o_cut, o_ic, o_lc, o_str, o_il, o_ll, o_al, o_is, o_as, o_inc, o_iadd, o_isub, o_imul, o_iand, o_ior, o_ishl, o_ishr, o_iushr, o_idiv, o_irem, o_ladd, o_lmul, o_land, o_lor, o_lrem, o_lshl, o_lshr, o_lcmp, o_i2l, o_l2i, o_dup, o_dup2, o_ifeq, o_ifne, o_iflt, o_ifge, o_ifgt, o_ifle, o_iceq, o_icne, o_iclt, o_icge, o_icgt, o_icle, o_sw, o_iret, o_zret, o_vret, o_getf, o_putf, o_putz, o_putr, o_iald, o_zald, o_iast, o_zast, o_alen, o_aald, o_aast, o_obj_e, o_mmax_e, o_mmin_e, o_gsc, o_gsf, o_sval, o_scod, o_salen, o_sbald, o_i2c, o_pop, o_nret, o_call_0, o_call_1, o_call_2, o_call_3, o_call_4, o_call_5, o_call_6, o_call_7, o_callV_0, o_callV_1, o_callV_2, o_callV_3, o_callV_4, o_callV_5, o_callV_6, o_callT_0, o_callT_1, q_cn_0, q_cn_i, q_cn_r, q_cn_a, q_cn_l, q_cat_eq, q_nl_none, q_nl_sn, q_nl_i, q_nl_r, q_nl_a, q_vp_0, q_vp_1, q_vp_2, q_vp_3, q_vp_4, q_vp_5, q_vp_6, q_vp_7, q_vp_8, List.getElem?_cons_zero, List.getElem?_cons_succ, List.getElem?_nil, List.set_cons_zero, List.set_cons_succ, List.set_nil, Option.toList_some, Option.toList_none, List.cons_append, List.nil_append, Nat.reduceAdd, Nat.reduceSub, Nat.reduceLeDiff, Nat.add_zero, Nat.zero_add, Nat.reduceLT, Nat.zero_le, true_and, and_true, Value.category, true_or, or_true, q_z10, q_z01, Int32.reduceLT, Int32.reduceLE, Int32.reduceToNatClampNeg, not_true_eq_false, not_false_eq_true, false_implies, true_implies, implies_true, BX4_settle_0, BX4_settle_111, BX4_settle_80, BX4_settle_73, BX4_settle_65, rmX4_settle, q_cls_of hs.1, hs.1, q_R0_same, hs.2.2.2.2.2.2.2.1, hs.2.2.2.2.2.2.2.2]
        rw [q_n1, xs_moved h b1 b2 (by omega) (by decide) (by decide) (by decide), nI_add]
        refine ⟨vp_in_nI (by omega) (by decide), ?_⟩
        rw [nI_clamp (by omega)]
        have o8 : ∀ a, a ≠ b + 8 → q_up m2 (b + 8) n (nI (r_mv k n 1 1 1)) a = m2 a := fun a ha => q_up_o ha
        refine ih (n + 1) _ (by omega) ?_ ?_ ?_ ?_ ?_ ?_ ?_
        · exact x_told_fr b1 (fun j _ => by rw [o8 b (by omega)]) (fun i h1 h2 h3 => o8 _ (by omega))
        · exact fun i hi => by rw [o8 _ (by omega)]; exact b2 i hi
        · rw [o8 b (by omega), o7 b (by omega)]; exact a3
        · rw [o8 b (by omega), o7 b (by omega)]; exact a4
        · intro s hs2
          rw [o8 _ (by omega), hm2, q_up_app]
          by_cases e : s = n
          · rw [if_pos ⟨rfl, e⟩, e]
          · rw [if_neg (fun z => e z.2)]; exact a5 s (by omega)
        · intro s hs2
          rw [q_up_app]
          by_cases e : s = n
          · rw [if_pos ⟨rfl, e⟩, e]; rfl
          · rw [if_neg (fun z => e z.2), o7 _ (by omega)]; exact a6 s (by omega)
        · intro a g1 g2 g3 g4
          rw [o8 a g4, o7 a g3]; exact a7 a g1 g2 g3 g4
  have o5 : ∀ a, a ≠ b → q_up M b 5 (nI (r_per k)) a = M a := fun a ha => q_up_o ha
  refine loop (r_S k) 0 _ (by omega) ?_ ?_ ?_ ?_ (fun s hs => by omega) (fun s hs => by omega) ?_
  · exact x_told_fr htM (fun j hj => by rw [q_up_app, if_neg (by omega)]) (fun i h1 h2 h3 => o5 _ (by omega))
  · exact fun i hi => by rw [o5 _ (by omega)]; exact hwM i hi
  · rw [q_up_app, if_neg (by omega)]; exact h4M
  · rw [q_up_app, if_pos ⟨rfl, rfl⟩]
  · intro a g1 g2 g3 g4
    rw [o5 a g1]; exact fr a g1 g2
theorem p4_clear (hs : q_rk sh b) (hR : ∀ m', m' b 0 = 0 → m' b 1 = 0 → m' b 2 = 0 → m' b 3 = 0 → (∀ i, i < 3 → m' (b + 1) i = 1) → (∀ p, p < 8 → m' (b + 5) p = 0) → (∀ a, a ≠ b → a ≠ b + 1 → a ≠ b + 5 → m' a = m a) → (∀ j, 4 ≤ j → m' b j = m b j) → R none sh m') : wX4_clear [.ref b] sh m R := by
  refine eX4_clear ?_
  simp only [o_no, o_cut, o_ic, o_lc, o_str, o_il, o_ll, o_al, o_is, o_as, o_inc, o_iadd, o_isub, o_imul, o_iand, o_ior, o_ishl, o_ishr, o_iushr, o_idiv, o_irem, o_ladd, o_lmul, o_land, o_lor, o_lrem, o_lshl, o_lshr, o_lcmp, o_i2l, o_l2i, o_dup, o_dup2, o_ifeq, o_ifne, o_iflt, o_ifge, o_ifgt, o_ifle, o_iceq, o_icne, o_iclt, o_icge, o_icgt, o_icle, o_sw, o_iret, o_zret, o_vret, o_getf, o_putf, o_putz, o_putr, o_iald, o_zald, o_iast, o_zast, o_alen, o_aald, o_aast, o_obj_e, o_mmax_e, o_mmin_e, o_gsc, o_gsf, o_sval, o_scod, o_salen, o_sbald, o_i2c, o_pop, o_nret, o_call_0, o_call_1, o_call_2, o_call_3, o_call_4, o_call_5, o_call_6, o_call_7, o_callV_0, o_callV_1, o_callV_2, o_callV_3, o_callV_4, o_callV_5, o_callV_6, o_callT_0, o_callT_1, q_cn_0, q_cn_i, q_cn_r, q_cn_a, q_cn_l, q_cat_eq, q_nl_none, q_nl_sn, q_nl_i, q_nl_r, q_nl_a, q_vp_0, q_vp_1, q_vp_2, q_vp_3, q_vp_4, q_vp_5, q_vp_6, q_vp_7, q_vp_8, List.getElem?_cons_zero, List.getElem?_cons_succ, List.getElem?_nil, List.set_cons_zero, List.set_cons_succ, List.set_nil, Option.toList_some, Option.toList_none, List.cons_append, List.nil_append, Nat.reduceAdd, Nat.reduceSub, Nat.reduceLeDiff, Nat.add_zero, Nat.zero_add, Nat.reduceLT, Nat.zero_le, true_and, and_true, Value.category, true_or, or_true, q_z10, q_z01, Int32.reduceLT, Int32.reduceLE, Int32.reduceToNatClampNeg, not_true_eq_false, not_false_eq_true, false_implies, true_implies, implies_true, BX4_clear_0, BX4_clear_40, BX4_clear_27, BX4_clear_22, BX4_clear_61, BX4_clear_48, BX4_clear_42, rmX4_clear, q_cls_of hs.1, hs.1, q_R0_same]
  have n1 : b ≠ b + 1 := by omega
  have n5 : b ≠ b + 5 := by omega
  have n51 : b + 5 ≠ b + 1 := by omega
  have n15 : b + 1 ≠ b + 5 := by omega
  have loop2 : ∀ d n (m' : q_Mm), n + d = 8 → m' b 0 = 0 → m' b 1 = 0 → m' b 2 = 0 → m' b 3 = 0 → (∀ i, i < 3 → m' (b + 1) i = 1) → (∀ p, p < n → m' (b + 5) p = 0) → (∀ a, a ≠ b → a ≠ b + 1 → a ≠ b + 5 → m' a = m a) → (∀ j, 4 ≤ j → m' b j = m b j) → q_WP TX4_clear 42 [some (.ref b), some (.int (nI n))] [] sh m' (q_R0 sh rmX4_clear R) := by
    intro d
    induction d with
    | zero =>
      intro n m' hn a0 a1 a2 a3 a4 a5 a6 a7
      refine uX4_clear_42 ?_
      simp only [o_no, o_cut, o_ic, o_lc, o_str, o_il, o_ll, o_al, o_is, o_as, o_inc, o_iadd, o_isub, o_imul, o_iand, o_ior, o_ishl, o_ishr, o_iushr, o_idiv, o_irem, o_ladd, o_lmul, o_land, o_lor, o_lrem, o_lshl, o_lshr, o_lcmp, o_i2l, o_l2i, o_dup, o_dup2, o_ifeq, o_ifne, o_iflt, o_ifge, o_ifgt, o_ifle, o_iceq, o_icne, o_iclt, o_icge, o_icgt, o_icle, o_sw, o_iret, o_zret, o_vret, o_getf, o_putf, o_putz, o_putr, o_iald, o_zald, o_iast, o_zast, o_alen, o_aald, o_aast, o_obj_e, o_mmax_e, o_mmin_e, o_gsc, o_gsf, o_sval, o_scod, o_salen, o_sbald, o_i2c, o_pop, o_nret, o_call_0, o_call_1, o_call_2, o_call_3, o_call_4, o_call_5, o_call_6, o_call_7, o_callV_0, o_callV_1, o_callV_2, o_callV_3, o_callV_4, o_callV_5, o_callV_6, o_callT_0, o_callT_1, q_cn_0, q_cn_i, q_cn_r, q_cn_a, q_cn_l, q_cat_eq, q_nl_none, q_nl_sn, q_nl_i, q_nl_r, q_nl_a, q_vp_0, q_vp_1, q_vp_2, q_vp_3, q_vp_4, q_vp_5, q_vp_6, q_vp_7, q_vp_8, List.getElem?_cons_zero, List.getElem?_cons_succ, List.getElem?_nil, List.set_cons_zero, List.set_cons_succ, List.set_nil, Option.toList_some, Option.toList_none, List.cons_append, List.nil_append, Nat.reduceAdd, Nat.reduceSub, Nat.reduceLeDiff, Nat.add_zero, Nat.zero_add, Nat.reduceLT, Nat.zero_le, true_and, and_true, Value.category, true_or, or_true, q_z10, q_z01, Int32.reduceLT, Int32.reduceLE, Int32.reduceToNatClampNeg, not_true_eq_false, not_false_eq_true, false_implies, true_implies, implies_true, BX4_clear_0, BX4_clear_40, BX4_clear_27, BX4_clear_22, BX4_clear_61, BX4_clear_48, BX4_clear_42, rmX4_clear, q_cls_of hs.1, hs.1, q_R0_same]
      refine ⟨fun _ => hR m' a0 a1 a2 a3 a4 (fun p hp => a5 p (by omega)) a6 a7, fun c => ?_⟩
      exact absurd (by rw [show (8 : Int32) = nI 8 from rfl]; exact nI_le (by omega) (by omega)) c
    | succ d ih =>
      intro n m' hn a0 a1 a2 a3 a4 a5 a6 a7
      refine uX4_clear_42 ?_
      simp only [o_no, o_cut, o_ic, o_lc, o_str, o_il, o_ll, o_al, o_is, o_as, o_inc, o_iadd, o_isub, o_imul, o_iand, o_ior, o_ishl, o_ishr, o_iushr, o_idiv, o_irem, o_ladd, o_lmul, o_land, o_lor, o_lrem, o_lshl, o_lshr, o_lcmp, o_i2l, o_l2i, o_dup, o_dup2, o_ifeq, o_ifne, o_iflt, o_ifge, o_ifgt, o_ifle, o_iceq, o_icne, o_iclt, o_icge, o_icgt, o_icle, o_sw, o_iret, o_zret, o_vret, o_getf, o_putf, o_putz, o_putr, o_iald, o_zald, o_iast, o_zast, o_alen, o_aald, o_aast, o_obj_e, o_mmax_e, o_mmin_e, o_gsc, o_gsf, o_sval, o_scod, o_salen, o_sbald, o_i2c, o_pop, o_nret, o_call_0, o_call_1, o_call_2, o_call_3, o_call_4, o_call_5, o_call_6, o_call_7, o_callV_0, o_callV_1, o_callV_2, o_callV_3, o_callV_4, o_callV_5, o_callV_6, o_callT_0, o_callT_1, q_cn_0, q_cn_i, q_cn_r, q_cn_a, q_cn_l, q_cat_eq, q_nl_none, q_nl_sn, q_nl_i, q_nl_r, q_nl_a, q_vp_0, q_vp_1, q_vp_2, q_vp_3, q_vp_4, q_vp_5, q_vp_6, q_vp_7, q_vp_8, List.getElem?_cons_zero, List.getElem?_cons_succ, List.getElem?_nil, List.set_cons_zero, List.set_cons_succ, List.set_nil, Option.toList_some, Option.toList_none, List.cons_append, List.nil_append, Nat.reduceAdd, Nat.reduceSub, Nat.reduceLeDiff, Nat.add_zero, Nat.zero_add, Nat.reduceLT, Nat.zero_le, true_and, and_true, Value.category, true_or, or_true, q_z10, q_z01, Int32.reduceLT, Int32.reduceLE, Int32.reduceToNatClampNeg, not_true_eq_false, not_false_eq_true, false_implies, true_implies, implies_true, BX4_clear_0, BX4_clear_40, BX4_clear_27, BX4_clear_22, BX4_clear_61, BX4_clear_48, BX4_clear_42, rmX4_clear, q_cls_of hs.1, hs.1, q_R0_same, hs.2.2.2.2.2.1]
      refine ⟨fun c => ?_, fun _ => ⟨vp_in_nI (by omega) (by decide), ?_⟩⟩
      · exact absurd c (by rw [show (8 : Int32) = nI 8 from rfl]; exact nI_ge (by omega) (by omega))
      · rw [nI_clamp (by omega), nI_1]
        refine ih (n + 1) _ (by omega) ?_ ?_ ?_ ?_ ?_ ?_ ?_ ?_
        · rw [q_up_o n5]; exact a0
        · rw [q_up_o n5]; exact a1
        · rw [q_up_o n5]; exact a2
        · rw [q_up_o n5]; exact a3
        · intro i hi; rw [q_up_o n15]; exact a4 i hi
        · intro p hp
          rw [q_up_app]
          by_cases e : p = n
          · rw [if_pos ⟨rfl, e⟩]
          · rw [if_neg (fun z => e z.2)]; exact a5 p (by omega)
        · intro a g1 g2 g3; rw [q_up_o g3]; exact a6 a g1 g2 g3
        · intro j hj; rw [q_up_o n5]; exact a7 j hj
  have loop1 : ∀ d n (m' : q_Mm), n + d = 3 → m' b 0 = 0 → m' b 1 = 0 → m' b 2 = 0 → m' b 3 = 0 → (∀ i, i < n → m' (b + 1) i = 1) → (∀ a, a ≠ b → a ≠ b + 1 → m' a = m a) → (∀ j, 4 ≤ j → m' b j = m b j) → q_WP TX4_clear 22 [some (.ref b), some (.int (nI n))] [] sh m' (q_R0 sh rmX4_clear R) := by
    intro d
    induction d with
    | zero =>
      intro n m' hn a0 a1 a2 a3 a4 a6 a7
      refine uX4_clear_22 ?_
      simp only [o_no, o_cut, o_ic, o_lc, o_str, o_il, o_ll, o_al, o_is, o_as, o_inc, o_iadd, o_isub, o_imul, o_iand, o_ior, o_ishl, o_ishr, o_iushr, o_idiv, o_irem, o_ladd, o_lmul, o_land, o_lor, o_lrem, o_lshl, o_lshr, o_lcmp, o_i2l, o_l2i, o_dup, o_dup2, o_ifeq, o_ifne, o_iflt, o_ifge, o_ifgt, o_ifle, o_iceq, o_icne, o_iclt, o_icge, o_icgt, o_icle, o_sw, o_iret, o_zret, o_vret, o_getf, o_putf, o_putz, o_putr, o_iald, o_zald, o_iast, o_zast, o_alen, o_aald, o_aast, o_obj_e, o_mmax_e, o_mmin_e, o_gsc, o_gsf, o_sval, o_scod, o_salen, o_sbald, o_i2c, o_pop, o_nret, o_call_0, o_call_1, o_call_2, o_call_3, o_call_4, o_call_5, o_call_6, o_call_7, o_callV_0, o_callV_1, o_callV_2, o_callV_3, o_callV_4, o_callV_5, o_callV_6, o_callT_0, o_callT_1, q_cn_0, q_cn_i, q_cn_r, q_cn_a, q_cn_l, q_cat_eq, q_nl_none, q_nl_sn, q_nl_i, q_nl_r, q_nl_a, q_vp_0, q_vp_1, q_vp_2, q_vp_3, q_vp_4, q_vp_5, q_vp_6, q_vp_7, q_vp_8, List.getElem?_cons_zero, List.getElem?_cons_succ, List.getElem?_nil, List.set_cons_zero, List.set_cons_succ, List.set_nil, Option.toList_some, Option.toList_none, List.cons_append, List.nil_append, Nat.reduceAdd, Nat.reduceSub, Nat.reduceLeDiff, Nat.add_zero, Nat.zero_add, Nat.reduceLT, Nat.zero_le, true_and, and_true, Value.category, true_or, or_true, q_z10, q_z01, Int32.reduceLT, Int32.reduceLE, Int32.reduceToNatClampNeg, not_true_eq_false, not_false_eq_true, false_implies, true_implies, implies_true, BX4_clear_0, BX4_clear_40, BX4_clear_27, BX4_clear_22, BX4_clear_61, BX4_clear_48, BX4_clear_42, rmX4_clear, q_cls_of hs.1, hs.1, q_R0_same]
      refine ⟨fun _ => loop2 8 0 m' rfl a0 a1 a2 a3 (fun i hi => a4 i (by omega)) (fun p hp => by omega) (fun a g1 g2 _ => a6 a g1 g2) a7, fun c => ?_⟩
      exact absurd (by rw [show (3 : Int32) = nI 3 from rfl]; exact nI_le (by omega) (by omega)) c
    | succ d ih =>
      intro n m' hn a0 a1 a2 a3 a4 a6 a7
      refine uX4_clear_22 ?_
      simp only [o_no, o_cut, o_ic, o_lc, o_str, o_il, o_ll, o_al, o_is, o_as, o_inc, o_iadd, o_isub, o_imul, o_iand, o_ior, o_ishl, o_ishr, o_iushr, o_idiv, o_irem, o_ladd, o_lmul, o_land, o_lor, o_lrem, o_lshl, o_lshr, o_lcmp, o_i2l, o_l2i, o_dup, o_dup2, o_ifeq, o_ifne, o_iflt, o_ifge, o_ifgt, o_ifle, o_iceq, o_icne, o_iclt, o_icge, o_icgt, o_icle, o_sw, o_iret, o_zret, o_vret, o_getf, o_putf, o_putz, o_putr, o_iald, o_zald, o_iast, o_zast, o_alen, o_aald, o_aast, o_obj_e, o_mmax_e, o_mmin_e, o_gsc, o_gsf, o_sval, o_scod, o_salen, o_sbald, o_i2c, o_pop, o_nret, o_call_0, o_call_1, o_call_2, o_call_3, o_call_4, o_call_5, o_call_6, o_call_7, o_callV_0, o_callV_1, o_callV_2, o_callV_3, o_callV_4, o_callV_5, o_callV_6, o_callT_0, o_callT_1, q_cn_0, q_cn_i, q_cn_r, q_cn_a, q_cn_l, q_cat_eq, q_nl_none, q_nl_sn, q_nl_i, q_nl_r, q_nl_a, q_vp_0, q_vp_1, q_vp_2, q_vp_3, q_vp_4, q_vp_5, q_vp_6, q_vp_7, q_vp_8, List.getElem?_cons_zero, List.getElem?_cons_succ, List.getElem?_nil, List.set_cons_zero, List.set_cons_succ, List.set_nil, Option.toList_some, Option.toList_none, List.cons_append, List.nil_append, Nat.reduceAdd, Nat.reduceSub, Nat.reduceLeDiff, Nat.add_zero, Nat.zero_add, Nat.reduceLT, Nat.zero_le, true_and, and_true, Value.category, true_or, or_true, q_z10, q_z01, Int32.reduceLT, Int32.reduceLE, Int32.reduceToNatClampNeg, not_true_eq_false, not_false_eq_true, false_implies, true_implies, implies_true, BX4_clear_0, BX4_clear_40, BX4_clear_27, BX4_clear_22, BX4_clear_61, BX4_clear_48, BX4_clear_42, rmX4_clear, q_cls_of hs.1, hs.1, q_R0_same, hs.2.1]
      refine ⟨fun c => ?_, fun _ => ⟨vp_in_nI (by omega) (by decide), ?_⟩⟩
      · exact absurd c (by rw [show (3 : Int32) = nI 3 from rfl]; exact nI_ge (by omega) (by omega))
      · rw [nI_clamp (by omega), nI_1]
        refine ih (n + 1) _ (by omega) ?_ ?_ ?_ ?_ ?_ ?_ ?_
        · rw [q_up_o n1]; exact a0
        · rw [q_up_o n1]; exact a1
        · rw [q_up_o n1]; exact a2
        · rw [q_up_o n1]; exact a3
        · intro i hi
          rw [q_up_app]
          by_cases e : i = n
          · rw [if_pos ⟨rfl, e⟩]
          · rw [if_neg (fun z => e z.2)]; exact a4 i (by omega)
        · intro a g1 g2; rw [q_up_o g2]; exact a6 a g1 g2
        · intro j hj; rw [q_up_o n1]; exact a7 j hj
  refine loop1 3 0 _ rfl ?_ ?_ ?_ ?_ (fun i hi => by omega) ?_ ?_
  · simp [q_up_app]
  · simp [q_up_app]
  · simp [q_up_app]
  · simp [q_up_app]
  · intro a g1 g2
    rw [q_up_o g1, q_up_o g1, q_up_o g1, q_up_o g1]
  · intro j hj
    rw [q_up_app, if_neg (by omega), q_up_app, if_neg (by omega), q_up_app, if_neg (by omega), q_up_app, if_neg (by omega)]
end XT
