/-! Mend: the reference. -/
def q_sum (a : Nat → Nat) : Nat → Nat
  | 0 => 0
  | n + 1 => q_sum a n + a n
theorem q_sum_uf {a : Nat → Nat} {i v : Nat} : ∀ n, q_sum (q_uf a i v) n + (if i < n then a i else 0) = q_sum a n + (if i < n then v else 0)
  | 0 => rfl
  | n + 1 => by
    have ih := q_sum_uf (a := a) (i := i) (v := v) n
    rw [q_sum, q_sum]
    by_cases c : i = n
    · subst c
      rw [if_neg (Nat.lt_irrefl i), if_neg (Nat.lt_irrefl i)] at ih
      rw [if_pos (Nat.lt_succ_self i), if_pos (Nat.lt_succ_self i), show q_uf a i v i = v from if_pos rfl]
      omega
    · rw [show q_uf a i v n = a n from if_neg (fun z => c z.symm)]
      by_cases d : i < n
      · rw [if_pos d, if_pos d] at ih
        rw [if_pos (show i < n + 1 by omega), if_pos (show i < n + 1 by omega)]
        omega
      · rw [if_neg d, if_neg d] at ih
        rw [if_neg (show ¬ i < n + 1 by omega), if_neg (show ¬ i < n + 1 by omega)]
        omega
section MD
variable {m : q_Mm} {c s w : Nat} {k : RK} {sh : q_Sh} {R : q_KR}
theorem r_key (hk : r_ok k) {s : Nat} (hs : s < r_S k) : (r_dg k s 0 * r_N k 1 + r_dg k s 1) * r_N k 2 + r_dg k s 2 = s := by
  rw [r_dg0 hk hs, r_dg2, show r_dg k s 1 = s / r_N k 2 % r_N k 1 from rfl]
  have b1 := Nat.div_add_mod' s (r_N k 2)
  have b2 := Nat.div_add_mod' (s / r_N k 2) (r_N k 1)
  rw [Nat.div_div_eq_div_mul, Nat.mul_comm (r_N k 2) (r_N k 1)] at b2
  rw [b2]; exact b1
theorem p9_codeBy {j : Nat} (hs : q_md sh c) (hk : r_ok k) (hm : m_rock m c k) (hmn : m_many m c k) (hv : s < r_S k) (hj : j < r_pu k) (hR : R (some (.int (nI (r_P k s j)))) sh m) : wX9_codeBy [.ref c, .int (nI s), .int (nI j)] sh m R := by
  obtain ⟨z0, z1, z2, z3, z4, z5, z6, z7, z8, z9, z10, z11, z12, z13, z14, z15, z16⟩ := id hs
  have h3 : r_tn k ≤ 3 := hk.1
  have h4 : r_pu k ≤ 4 := hk.2.2.2.1
  have hSl := (r_Sle hk).2
  have w0 : 1 ≤ r_N k 1 * r_N k 2 ∧ r_N k 1 * r_N k 2 ≤ 144 := r_wtpos hk 0
  have N0 := r_Npos hk 0
  have N1 := r_Npos hk 1
  have N2 := r_Npos hk 2
  have dv1 := Nat.div_le_self s (r_N k 2)
  have d0 := r_dglt hk s 0
  have d1 := r_dglt hk s 1
  have d2 := r_dglt hk s 2
  have sv0 := hk.2.2.2.2.2.2.2.2 j 0
  have sv1 := hk.2.2.2.2.2.2.2.2 j 1
  have sv2 := hk.2.2.2.2.2.2.2.2 j 2
  have nz : ∀ n, 1 ≤ n → n ≤ 144 → ¬ nI n = 0 := fun n h1 h2 q => by
    have := (nI_eq (b := 0) (by omega) (by decide)).mp q; omega
  have key : ∀ i, i < 3 → (r_dg k s i + (if i < r_tn k then r_sv k j i else 0)) % r_N k i = r_dg k (r_P k s j) i := by
    intro i hi
    rw [r_Pdg hk _ _ _ hi]
    by_cases q : i < r_tn k
    · rw [if_pos q]
    · have e1 : r_N k i = 1 := hk.2.2.2.2.2.1 i (by omega)
      rw [e1, Nat.mod_one, Nat.mod_one]
  have k0 := key 0 (by decide)
  have k1 := key 1 (by decide)
  have k2 := key 2 (by decide)
  have e0 := r_dglt hk (r_P k s j) 0
  have e1 := r_dglt hk (r_P k s j) 1
  have e2 := r_dglt hk (r_P k s j) 2
  have kf := r_key hk (r_Plt hk s j)
  have at130 : q_WP TX9_codeBy 130 [some (.ref c), some (.int (nI s)), some (.int (nI j)), some (.int (nI (r_dg k (r_P k s j) 0))), some (.int (nI (r_dg k (r_P k s j) 1))), some (.int (nI (r_dg k s 2)))] [.int (nI (if 2 < r_tn k then r_sv k j 2 else 0)), .int (nI (r_dg k s 2))] sh m (q_R0 sh rmX9_codeBy R) := by
    refine uX9_codeBy_130 ?_
    simp only [o_no, o_cut, o_ic, o_lc, o_str, o_il, o_ll, o_al, o_is, o_as, o_inc, o_iadd, o_isub, o_imul, o_iand, o_ior, o_ishl, o_ishr, o_iushr, o_idiv, o_irem, o_ladd, o_lmul, o_land, o_lor, o_lrem, o_lshl, o_lshr, o_lcmp, o_i2l, o_l2i, o_dup, o_dup2, o_ifeq, o_ifne, o_iflt, o_ifge, o_ifgt, o_ifle, o_iceq, o_icne, o_iclt, o_icge, o_icgt, o_icle, o_sw, o_iret, o_zret, o_vret, o_getf, o_putf, o_putz, o_putr, o_iald, o_zald, o_iast, o_zast, o_alen, o_aald, o_aast, o_obj_e, o_mmax_e, o_mmin_e, o_gsc, o_gsf, o_sval, o_scod, o_salen, o_sbald, o_i2c, o_pop, o_nret, o_call_0, o_call_1, o_call_2, o_call_3, o_call_4, o_call_5, o_call_6, o_call_7, o_callV_0, o_callV_1, o_callV_2, o_callV_3, o_callV_4, o_callV_5, o_callV_6, o_callT_0, o_callT_1, q_cn_0, q_cn_i, q_cn_r, q_cn_a, q_cn_l, q_cat_eq, q_nl_none, q_nl_sn, q_nl_i, q_nl_r, q_nl_a, q_vp_0, q_vp_1, q_vp_2, q_vp_3, q_vp_4, q_vp_5, q_vp_6, q_vp_7, q_vp_8, List.getElem?_cons_zero, List.getElem?_cons_succ, List.getElem?_nil, List.set_cons_zero, List.set_cons_succ, List.set_nil, Option.toList_some, Option.toList_none, List.cons_append, List.nil_append, Nat.reduceAdd, Nat.reduceSub, Nat.reduceLeDiff, Nat.add_zero, Nat.zero_add, Nat.reduceLT, Nat.zero_le, true_and, and_true, Value.category, true_or, or_true, q_z10, q_z01, Int32.reduceLT, Int32.reduceLE, Int32.reduceToNatClampNeg, not_true_eq_false, not_false_eq_true, false_implies, true_implies, implies_true, BX9_codeBy_62, BX9_codeBy_51, BX9_codeBy_0, BX9_codeBy_95, BX9_codeBy_82, BX9_codeBy_63, BX9_codeBy_129, BX9_codeBy_116, BX9_codeBy_96, BX9_codeBy_130, rmX9_codeBy, z0, z1, z2, z3, z4, z5, z6, z7, z8, z9, z10, z11, z12, z13, z14, z15, z16, q_cls_of z0, q_R0_same]
    have l2 : (if 2 < r_tn k then r_sv k j 2 else 0) ≤ 11 := by split <;> omega
    rw [hmn 2 (by decide), hmn 1 (by decide), nI_add, pk_rem (by omega) (by omega) (by omega), k2, pk_mul, nI_add, pk_mul, nI_add, kf]
    exact ⟨nz _ N2.1 (by omega), hR⟩
  have at96 : q_WP TX9_codeBy 96 [some (.ref c), some (.int (nI s)), some (.int (nI j)), some (.int (nI (r_dg k (r_P k s j) 0))), some (.int (nI (r_dg k s 1))), some (.int (nI (r_dg k s 2)))] [.int (nI (if 1 < r_tn k then r_sv k j 1 else 0)), .int (nI (r_dg k s 1))] sh m (q_R0 sh rmX9_codeBy R) := by
    refine uX9_codeBy_96 ?_
    simp only [o_no, o_cut, o_ic, o_lc, o_str, o_il, o_ll, o_al, o_is, o_as, o_inc, o_iadd, o_isub, o_imul, o_iand, o_ior, o_ishl, o_ishr, o_iushr, o_idiv, o_irem, o_ladd, o_lmul, o_land, o_lor, o_lrem, o_lshl, o_lshr, o_lcmp, o_i2l, o_l2i, o_dup, o_dup2, o_ifeq, o_ifne, o_iflt, o_ifge, o_ifgt, o_ifle, o_iceq, o_icne, o_iclt, o_icge, o_icgt, o_icle, o_sw, o_iret, o_zret, o_vret, o_getf, o_putf, o_putz, o_putr, o_iald, o_zald, o_iast, o_zast, o_alen, o_aald, o_aast, o_obj_e, o_mmax_e, o_mmin_e, o_gsc, o_gsf, o_sval, o_scod, o_salen, o_sbald, o_i2c, o_pop, o_nret, o_call_0, o_call_1, o_call_2, o_call_3, o_call_4, o_call_5, o_call_6, o_call_7, o_callV_0, o_callV_1, o_callV_2, o_callV_3, o_callV_4, o_callV_5, o_callV_6, o_callT_0, o_callT_1, q_cn_0, q_cn_i, q_cn_r, q_cn_a, q_cn_l, q_cat_eq, q_nl_none, q_nl_sn, q_nl_i, q_nl_r, q_nl_a, q_vp_0, q_vp_1, q_vp_2, q_vp_3, q_vp_4, q_vp_5, q_vp_6, q_vp_7, q_vp_8, List.getElem?_cons_zero, List.getElem?_cons_succ, List.getElem?_nil, List.set_cons_zero, List.set_cons_succ, List.set_nil, Option.toList_some, Option.toList_none, List.cons_append, List.nil_append, Nat.reduceAdd, Nat.reduceSub, Nat.reduceLeDiff, Nat.add_zero, Nat.zero_add, Nat.reduceLT, Nat.zero_le, true_and, and_true, Value.category, true_or, or_true, q_z10, q_z01, Int32.reduceLT, Int32.reduceLE, Int32.reduceToNatClampNeg, not_true_eq_false, not_false_eq_true, false_implies, true_implies, implies_true, BX9_codeBy_62, BX9_codeBy_51, BX9_codeBy_0, BX9_codeBy_95, BX9_codeBy_82, BX9_codeBy_63, BX9_codeBy_129, BX9_codeBy_116, BX9_codeBy_96, BX9_codeBy_130, rmX9_codeBy, z0, z1, z2, z3, z4, z5, z6, z7, z8, z9, z10, z11, z12, z13, z14, z15, z16, q_cls_of z0, q_R0_same]
    have l1 : (if 1 < r_tn k then r_sv k j 1 else 0) ≤ 11 := by split <;> omega
    rw [hmn 1 (by decide), nI_add, pk_rem (by omega) (by omega) (by omega), k1, hm.1, q_n2, nI_leI (by omega) (by decide)]
    refine ⟨nz _ N1.1 (by omega), fun y => ?_, fun y => ?_⟩
    · rw [if_neg (show ¬ 2 < r_tn k by omega)] at at130; exact at130
    · rw [if_pos (show 2 < r_tn k by omega)] at at130
      rw [show (3 : Int32) = nI 3 from rfl, pk_mul, nI_add, nI_clamp (by omega), hm.2.2.2.2.2.2.2.2.2 j 2 hj (by decide)]
      exact ⟨vp_in_nI (by omega) (by decide), at130⟩
  have at63 : q_WP TX9_codeBy 63 [some (.ref c), some (.int (nI s)), some (.int (nI j)), some (.int (nI (r_dg k s 0))), some (.int (nI (r_dg k s 1))), some (.int (nI (r_dg k s 2)))] [.int (nI (if 0 < r_tn k then r_sv k j 0 else 0)), .int (nI (r_dg k s 0))] sh m (q_R0 sh rmX9_codeBy R) := by
    refine uX9_codeBy_63 ?_
    simp only [o_no, o_cut, o_ic, o_lc, o_str, o_il, o_ll, o_al, o_is, o_as, o_inc, o_iadd, o_isub, o_imul, o_iand, o_ior, o_ishl, o_ishr, o_iushr, o_idiv, o_irem, o_ladd, o_lmul, o_land, o_lor, o_lrem, o_lshl, o_lshr, o_lcmp, o_i2l, o_l2i, o_dup, o_dup2, o_ifeq, o_ifne, o_iflt, o_ifge, o_ifgt, o_ifle, o_iceq, o_icne, o_iclt, o_icge, o_icgt, o_icle, o_sw, o_iret, o_zret, o_vret, o_getf, o_putf, o_putz, o_putr, o_iald, o_zald, o_iast, o_zast, o_alen, o_aald, o_aast, o_obj_e, o_mmax_e, o_mmin_e, o_gsc, o_gsf, o_sval, o_scod, o_salen, o_sbald, o_i2c, o_pop, o_nret, o_call_0, o_call_1, o_call_2, o_call_3, o_call_4, o_call_5, o_call_6, o_call_7, o_callV_0, o_callV_1, o_callV_2, o_callV_3, o_callV_4, o_callV_5, o_callV_6, o_callT_0, o_callT_1, q_cn_0, q_cn_i, q_cn_r, q_cn_a, q_cn_l, q_cat_eq, q_nl_none, q_nl_sn, q_nl_i, q_nl_r, q_nl_a, q_vp_0, q_vp_1, q_vp_2, q_vp_3, q_vp_4, q_vp_5, q_vp_6, q_vp_7, q_vp_8, List.getElem?_cons_zero, List.getElem?_cons_succ, List.getElem?_nil, List.set_cons_zero, List.set_cons_succ, List.set_nil, Option.toList_some, Option.toList_none, List.cons_append, List.nil_append, Nat.reduceAdd, Nat.reduceSub, Nat.reduceLeDiff, Nat.add_zero, Nat.zero_add, Nat.reduceLT, Nat.zero_le, true_and, and_true, Value.category, true_or, or_true, q_z10, q_z01, Int32.reduceLT, Int32.reduceLE, Int32.reduceToNatClampNeg, not_true_eq_false, not_false_eq_true, false_implies, true_implies, implies_true, BX9_codeBy_62, BX9_codeBy_51, BX9_codeBy_0, BX9_codeBy_95, BX9_codeBy_82, BX9_codeBy_63, BX9_codeBy_129, BX9_codeBy_116, BX9_codeBy_96, BX9_codeBy_130, rmX9_codeBy, z0, z1, z2, z3, z4, z5, z6, z7, z8, z9, z10, z11, z12, z13, z14, z15, z16, q_cls_of z0, q_R0_same]
    have l0 : (if 0 < r_tn k then r_sv k j 0 else 0) ≤ 11 := by split <;> omega
    rw [hmn 0 (by decide), nI_add, pk_rem (by omega) (by omega) (by omega), k0, hm.1, q_n1, nI_leI (by omega) (by decide)]
    refine ⟨nz _ N0.1 (by omega), fun y => ?_, fun y => ?_⟩
    · rw [if_neg (show ¬ 1 < r_tn k by omega)] at at96; exact at96
    · rw [if_pos (show 1 < r_tn k by omega)] at at96
      rw [show (3 : Int32) = nI 3 from rfl, pk_mul, nI_add, nI_clamp (by omega), hm.2.2.2.2.2.2.2.2.2 j 1 hj (by decide)]
      exact ⟨vp_in_nI (by omega) (by decide), at96⟩
  refine eX9_codeBy ?_
  simp only [o_no, o_cut, o_ic, o_lc, o_str, o_il, o_ll, o_al, o_is, o_as, o_inc, o_iadd, o_isub, o_imul, o_iand, o_ior, o_ishl, o_ishr, o_iushr, o_idiv, o_irem, o_ladd, o_lmul, o_land, o_lor, o_lrem, o_lshl, o_lshr, o_lcmp, o_i2l, o_l2i, o_dup, o_dup2, o_ifeq, o_ifne, o_iflt, o_ifge, o_ifgt, o_ifle, o_iceq, o_icne, o_iclt, o_icge, o_icgt, o_icle, o_sw, o_iret, o_zret, o_vret, o_getf, o_putf, o_putz, o_putr, o_iald, o_zald, o_iast, o_zast, o_alen, o_aald, o_aast, o_obj_e, o_mmax_e, o_mmin_e, o_gsc, o_gsf, o_sval, o_scod, o_salen, o_sbald, o_i2c, o_pop, o_nret, o_call_0, o_call_1, o_call_2, o_call_3, o_call_4, o_call_5, o_call_6, o_call_7, o_callV_0, o_callV_1, o_callV_2, o_callV_3, o_callV_4, o_callV_5, o_callV_6, o_callT_0, o_callT_1, q_cn_0, q_cn_i, q_cn_r, q_cn_a, q_cn_l, q_cat_eq, q_nl_none, q_nl_sn, q_nl_i, q_nl_r, q_nl_a, q_vp_0, q_vp_1, q_vp_2, q_vp_3, q_vp_4, q_vp_5, q_vp_6, q_vp_7, q_vp_8, List.getElem?_cons_zero, List.getElem?_cons_succ, List.getElem?_nil, List.set_cons_zero, List.set_cons_succ, List.set_nil, Option.toList_some, Option.toList_none, List.cons_append, List.nil_append, Nat.reduceAdd, Nat.reduceSub, Nat.reduceLeDiff, Nat.add_zero, Nat.zero_add, Nat.reduceLT, Nat.zero_le, true_and, and_true, Value.category, true_or, or_true, q_z10, q_z01, Int32.reduceLT, Int32.reduceLE, Int32.reduceToNatClampNeg, not_true_eq_false, not_false_eq_true, false_implies, true_implies, implies_true, BX9_codeBy_62, BX9_codeBy_51, BX9_codeBy_0, BX9_codeBy_95, BX9_codeBy_82, BX9_codeBy_63, BX9_codeBy_129, BX9_codeBy_116, BX9_codeBy_96, BX9_codeBy_130, rmX9_codeBy, z0, z1, z2, z3, z4, z5, z6, z7, z8, z9, z10, z11, z12, z13, z14, z15, z16, q_cls_of z0, q_R0_same]
  rw [hmn 1 (by decide), hmn 2 (by decide), pk_mul, pk_div (by omega) (by omega) (by omega), pk_div (by omega) (by omega) (by omega), pk_rem (by omega) (by omega) (by omega), pk_rem2, ← r_dg0 hk hv, ← r_dg2, show s / r_N k 2 % r_N k 1 = r_dg k s 1 from rfl, hm.1]
  refine ⟨nz _ w0.1 w0.2, nz _ N2.1 (by omega), nz _ N1.1 (by omega), nz _ N2.1 (by omega), fun y => ?_, fun y => ?_⟩
  · have y := (nI_leI (a := r_tn k) (b := 0) (by omega) (by decide)).mp y
    rw [if_neg (show ¬ 0 < r_tn k by omega)] at at63; exact at63
  · have y : 0 < r_tn k := by
      rcases Nat.eq_zero_or_pos (r_tn k) with q | q
      · exact absurd (by rw [q]; decide) y
      · exact q
    rw [if_pos y] at at63
    rw [show (3 : Int32) = nI 3 from rfl, pk_mul, nI_clamp (by omega), show m (c + 7) (3 * j) = nI (r_sv k j 0) from hm.2.2.2.2.2.2.2.2.2 j 0 hj (by decide)]
    exact ⟨vp_in_nI (by omega) (by decide), at63⟩
end MD
