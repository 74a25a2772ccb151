/-! Look: the class. -/
def l_v (st : Nat × Nat) (w : Nat) : Int32 := if st.2 = 0 then -1 else if w = 0 then nI ((st.2 - 1) % 8) else if w = 1 then nI ((st.2 - 1) / 8) else nI st.1
theorem l_G_app (k : RK) (A : List Nat) (v j : Nat) : l_G k (A ++ [v]) j = l_G k A j + (if f_bit (r_ls k (r_ad k v (j / 8))) (j % 8) = true then 1 else 0) := by
  rw [l_G, l_G, List.countP_append, List.countP_cons, List.countP_nil, Nat.zero_add]
  congr 1
  have := r_set_bit (fun p => r_lt k p (r_ad k v (j / 8))) (r_pl k) (j % 8)
  rw [f_bit, r_ls, this]
  by_cases c1 : j % 8 < r_pl k
  · by_cases c2 : r_lt k (j % 8) (r_ad k v (j / 8)) = true
    · simp [c1, c2]
    · simp [c1, c2]
  · simp [c1]
theorem l_G_le (k : RK) (A : List Nat) (j : Nat) : l_G k A j ≤ A.length := List.countP_le_length
theorem f_store_st (D : Nat → Nat) : ∀ n, ((f_store D n).2 = 0 ∧ (f_store D n).1 = 1729) ∨ (0 < (f_store D n).2 ∧ (f_store D n).2 ≤ n ∧ (f_store D n).1 < 1729)
  | 0 => Or.inl ⟨rfl, rfl⟩
  | n + 1 => by
    have ih := f_store_st D n
    rw [f_store]
    by_cases c : D n < (f_store D n).1
    · rw [if_pos c]
      refine Or.inr ⟨Nat.succ_pos _, Nat.le_refl _, ?_⟩
      rcases ih with q | q <;> (show D n < 1729; omega)
    · rw [if_neg c]
      rcases ih with q | q
      · exact Or.inl q
      · exact Or.inr ⟨q.1, by omega, q.2.2⟩
theorem f_store_skip {D : Nat → Nat} {n : Nat} : ∀ d, (∀ i, i < d → D (n + i) = 1729) → f_store D (n + d) = f_store D n
  | 0, _ => rfl
  | d + 1, h => by
    have ih := f_store_skip d (fun i hi => h i (by omega))
    rw [← Nat.add_assoc, f_store, ih, h d (by omega), if_neg]
    rcases f_store_st D n with q | q <;> omega
def x_lk (m : q_Mm) (st : Nat × Nat) : Prop := m 9 2 = l_v st 0 ∧ m 9 3 = l_v st 1 ∧ m 9 4 = l_v st 2
section LK
variable {m : q_Mm} {rb sb c s : Nat} {k : RK} {sh : q_Sh} {R : q_KR} {l : SN}
theorem p6_addLit {t u : Nat} (x9 : sh[9]? = some (.inl (6, [none, none, none, none, none, none, some (.ref 10), some (.ref 11)]))) (y11 : sh[11]? = some (.inr (.inl (0, 192)))) (ht : t < 24) (hu : u < 256) (hR : ∀ m', q_but 11 m m' → (∀ j, m' 11 j = if j / 8 = t then m 11 j + (if f_bit u (j % 8) = true then 1 else 0) else m 11 j) → R none sh m') : wX6_addLit [.ref 9, .int (nI (t * 8)), .int (nI u)] sh m R := by
  refine eX6_addLit ?_
  simp only [o_no, o_cut, o_ic, o_lc, o_str, o_il, o_ll, o_al, o_is, o_as, o_inc, o_iadd, o_isub, o_imul, o_iand, o_ior, o_ishl, o_ishr, o_iushr, o_idiv, o_irem, o_ladd, o_lmul, o_land, o_lor, o_lrem, o_lshl, o_lshr, o_lcmp, o_i2l, o_l2i, o_dup, o_dup2, o_ifeq, o_ifne, o_iflt, o_ifge, o_ifgt, o_ifle, o_iceq, o_icne, o_iclt, o_icge, o_icgt, o_icle, o_sw, o_iret, o_zret, o_vret, o_getf, o_putf, o_putz, o_putr, o_iald, o_zald, o_iast, o_zast, o_alen, o_aald, o_aast, o_obj_e, o_mmax_e, o_mmin_e, o_gsc, o_gsf, o_sval, o_scod, o_salen, o_sbald, o_i2c, o_pop, o_nret, o_call_0, o_call_1, o_call_2, o_call_3, o_call_4, o_call_5, o_call_6, o_call_7, o_callV_0, o_callV_1, o_callV_2, o_callV_3, o_callV_4, o_callV_5, o_callV_6, o_callT_0, o_callT_1, q_cn_0, q_cn_i, q_cn_r, q_cn_a, q_cn_l, q_cat_eq, q_nl_none, q_nl_sn, q_nl_i, q_nl_r, q_nl_a, q_vp_0, q_vp_1, q_vp_2, q_vp_3, q_vp_4, q_vp_5, q_vp_6, q_vp_7, q_vp_8, List.getElem?_cons_zero, List.getElem?_cons_succ, List.getElem?_nil, List.set_cons_zero, List.set_cons_succ, List.set_nil, Option.toList_some, Option.toList_none, List.cons_append, List.nil_append, Nat.reduceAdd, Nat.reduceSub, Nat.reduceLeDiff, Nat.add_zero, Nat.zero_add, Nat.reduceLT, Nat.zero_le, true_and, and_true, Value.category, true_or, or_true, q_z10, q_z01, Int32.reduceLT, Int32.reduceLE, Int32.reduceToNatClampNeg, not_true_eq_false, not_false_eq_true, false_implies, true_implies, implies_true, BX6_addLit_0, BX6_addLit_49, BX6_addLit_43, BX6_addLit_28, BX6_addLit_18, BX6_addLit_8, BX6_addLit_2, rmX6_addLit, x9, q_cls_of x9, q_R0_same]
  have loop : ∀ d n (m1 : q_Mm) (v : Option Value), n + d = 8 → q_but 11 m m1 → (∀ j, m1 11 j = if j / 8 = t ∧ j % 8 < n then m 11 j + (if f_bit u (j % 8) = true then 1 else 0) else m 11 j) → q_WP TX6_addLit 2 [some (.ref 9), some (.int (nI (t * 8))), some (.int (nI u)), some (.int (nI n)), v] [] sh m1 (q_R0 sh rmX6_addLit R) := by
    intro d
    induction d with
    | zero =>
      intro n m1 v hn hb h1
      obtain rfl : n = 8 := by omega
      refine uX6_addLit_2 ?_
      simp only [o_no, o_cut, o_ic, o_lc, o_str, o_il, o_ll, o_al, o_is, o_as, o_inc, o_iadd, o_isub, o_imul, o_iand, o_ior, o_ishl, o_ishr, o_iushr, o_idiv, o_irem, o_ladd, o_lmul, o_land, o_lor, o_lrem, o_lshl, o_lshr, o_lcmp, o_i2l, o_l2i, o_dup, o_dup2, o_ifeq, o_ifne, o_iflt, o_ifge, o_ifgt, o_ifle, o_iceq, o_icne, o_iclt, o_icge, o_icgt, o_icle, o_sw, o_iret, o_zret, o_vret, o_getf, o_putf, o_putz, o_putr, o_iald, o_zald, o_iast, o_zast, o_alen, o_aald, o_aast, o_obj_e, o_mmax_e, o_mmin_e, o_gsc, o_gsf, o_sval, o_scod, o_salen, o_sbald, o_i2c, o_pop, o_nret, o_call_0, o_call_1, o_call_2, o_call_3, o_call_4, o_call_5, o_call_6, o_call_7, o_callV_0, o_callV_1, o_callV_2, o_callV_3, o_callV_4, o_callV_5, o_callV_6, o_callT_0, o_callT_1, q_cn_0, q_cn_i, q_cn_r, q_cn_a, q_cn_l, q_cat_eq, q_nl_none, q_nl_sn, q_nl_i, q_nl_r, q_nl_a, q_vp_0, q_vp_1, q_vp_2, q_vp_3, q_vp_4, q_vp_5, q_vp_6, q_vp_7, q_vp_8, List.getElem?_cons_zero, List.getElem?_cons_succ, List.getElem?_nil, List.set_cons_zero, List.set_cons_succ, List.set_nil, Option.toList_some, Option.toList_none, List.cons_append, List.nil_append, Nat.reduceAdd, Nat.reduceSub, Nat.reduceLeDiff, Nat.add_zero, Nat.zero_add, Nat.reduceLT, Nat.zero_le, true_and, and_true, Value.category, true_or, or_true, q_z10, q_z01, Int32.reduceLT, Int32.reduceLE, Int32.reduceToNatClampNeg, not_true_eq_false, not_false_eq_true, false_implies, true_implies, implies_true, BX6_addLit_0, BX6_addLit_49, BX6_addLit_43, BX6_addLit_28, BX6_addLit_18, BX6_addLit_8, BX6_addLit_2, rmX6_addLit, x9, q_cls_of x9, q_R0_same]
      refine ⟨fun _ => ?_, fun q => absurd (by decide) q⟩
      refine hR m1 hb (fun j => ?_)
      rw [h1 j]
      by_cases y : j / 8 = t
      · rw [if_pos y, if_pos ⟨y, by omega⟩]
      · rw [if_neg y, if_neg (fun q => y q.1)]
    | succ d ih =>
      intro n m1 v hn hb h1
      refine uX6_addLit_2 ?_
      simp only [o_no, o_cut, o_ic, o_lc, o_str, o_il, o_ll, o_al, o_is, o_as, o_inc, o_iadd, o_isub, o_imul, o_iand, o_ior, o_ishl, o_ishr, o_iushr, o_idiv, o_irem, o_ladd, o_lmul, o_land, o_lor, o_lrem, o_lshl, o_lshr, o_lcmp, o_i2l, o_l2i, o_dup, o_dup2, o_ifeq, o_ifne, o_iflt, o_ifge, o_ifgt, o_ifle, o_iceq, o_icne, o_iclt, o_icge, o_icgt, o_icle, o_sw, o_iret, o_zret, o_vret, o_getf, o_putf, o_putz, o_putr, o_iald, o_zald, o_iast, o_zast, o_alen, o_aald, o_aast, o_obj_e, o_mmax_e, o_mmin_e, o_gsc, o_gsf, o_sval, o_scod, o_salen, o_sbald, o_i2c, o_pop, o_nret, o_call_0, o_call_1, o_call_2, o_call_3, o_call_4, o_call_5, o_call_6, o_call_7, o_callV_0, o_callV_1, o_callV_2, o_callV_3, o_callV_4, o_callV_5, o_callV_6, o_callT_0, o_callT_1, q_cn_0, q_cn_i, q_cn_r, q_cn_a, q_cn_l, q_cat_eq, q_nl_none, q_nl_sn, q_nl_i, q_nl_r, q_nl_a, q_vp_0, q_vp_1, q_vp_2, q_vp_3, q_vp_4, q_vp_5, q_vp_6, q_vp_7, q_vp_8, List.getElem?_cons_zero, List.getElem?_cons_succ, List.getElem?_nil, List.set_cons_zero, List.set_cons_succ, List.set_nil, Option.toList_some, Option.toList_none, List.cons_append, List.nil_append, Nat.reduceAdd, Nat.reduceSub, Nat.reduceLeDiff, Nat.add_zero, Nat.zero_add, Nat.reduceLT, Nat.zero_le, true_and, and_true, Value.category, true_or, or_true, q_z10, q_z01, Int32.reduceLT, Int32.reduceLE, Int32.reduceToNatClampNeg, not_true_eq_false, not_false_eq_true, false_implies, true_implies, implies_true, BX6_addLit_0, BX6_addLit_49, BX6_addLit_43, BX6_addLit_28, BX6_addLit_18, BX6_addLit_8, BX6_addLit_2, rmX6_addLit, x9, q_cls_of x9, q_R0_same, y11]
      refine ⟨fun y => ?_, fun _ => ?_⟩
      · rw [show (8 : Int32) = nI 8 from rfl] at y; exact absurd y (nI_ge (by omega) (by omega))
      · rw [nI_add]
        refine ⟨fun y => absurd y (nI_pos (by omega)), fun _ => ⟨fun y => ?_, fun _ => ?_⟩⟩
        · exact absurd y (nI_ge (by omega) (by omega))
        · rw [nI_clamp (by omega), f_bit_nI hu (by omega), nI_1]
          refine ⟨vp_in_nI (by omega) (by decide), vp_in_nI (by omega) (by decide), ih (n + 1) _ _ (by omega) (hb.tr q_but.up) (fun j => ?_)⟩
          rw [q_up_app]
          by_cases y : j = t * 8 + n
          · have e8 : (t * 8 + n) % 8 = n := by omega
            rw [if_pos ⟨rfl, y⟩, y, h1 (t * 8 + n), if_neg (show ¬ ((t * 8 + n) / 8 = t ∧ (t * 8 + n) % 8 < n) by omega), if_pos (show (t * 8 + n) / 8 = t ∧ (t * 8 + n) % 8 < n + 1 by omega), e8]
          · rw [if_neg (fun q => y q.2), h1 j]
            by_cases y2 : j / 8 = t ∧ j % 8 < n
            · rw [if_pos y2, if_pos (show j / 8 = t ∧ j % 8 < n + 1 by omega)]
            · rw [if_neg y2, if_neg (show ¬ (j / 8 = t ∧ j % 8 < n + 1) by omega)]
  exact loop 8 0 m none (by omega) q_but.rf (fun j => by rw [if_neg (by omega)])
theorem p6_countLit {L : List Nat} (x9 : sh[9]? = some (.inl (6, [none, none, none, none, none, none, some (.ref 10), some (.ref 11)]))) (y10 : sh[10]? = some (.inr (.inl (0, 1728)))) (y11 : sh[11]? = some (.inr (.inl (0, 192)))) (hr : q_rk sh rb) (hk : r_ok k) (hrb : 11 < rb) (hx : x_rock m rb k) (hL : L.length ≤ 1728) (hLS : ∀ v, v ∈ L → v < r_S k) (hf : x_fits m L) (hR : ∀ m', q_but 11 m m' → (∀ j, j < 192 → m' 11 j = nI (l_G k L j)) → R none sh m') : wX6_countLit [.ref 9, .ref rb] sh m R := by
  have hSl := (r_Sle hk).2
  refine eX6_countLit ?_
  simp only [o_no, o_cut, o_ic, o_lc, o_str, o_il, o_ll, o_al, o_is, o_as, o_inc, o_iadd, o_isub, o_imul, o_iand, o_ior, o_ishl, o_ishr, o_iushr, o_idiv, o_irem, o_ladd, o_lmul, o_land, o_lor, o_lrem, o_lshl, o_lshr, o_lcmp, o_i2l, o_l2i, o_dup, o_dup2, o_ifeq, o_ifne, o_iflt, o_ifge, o_ifgt, o_ifle, o_iceq, o_icne, o_iclt, o_icge, o_icgt, o_icle, o_sw, o_iret, o_zret, o_vret, o_getf, o_putf, o_putz, o_putr, o_iald, o_zald, o_iast, o_zast, o_alen, o_aald, o_aast, o_obj_e, o_mmax_e, o_mmin_e, o_gsc, o_gsf, o_sval, o_scod, o_salen, o_sbald, o_i2c, o_pop, o_nret, o_call_0, o_call_1, o_call_2, o_call_3, o_call_4, o_call_5, o_call_6, o_call_7, o_callV_0, o_callV_1, o_callV_2, o_callV_3, o_callV_4, o_callV_5, o_callV_6, o_callT_0, o_callT_1, q_cn_0, q_cn_i, q_cn_r, q_cn_a, q_cn_l, q_cat_eq, q_nl_none, q_nl_sn, q_nl_i, q_nl_r, q_nl_a, q_vp_0, q_vp_1, q_vp_2, q_vp_3, q_vp_4, q_vp_5, q_vp_6, q_vp_7, q_vp_8, List.getElem?_cons_zero, List.getElem?_cons_succ, List.getElem?_nil, List.set_cons_zero, List.set_cons_succ, List.set_nil, Option.toList_some, Option.toList_none, List.cons_append, List.nil_append, Nat.reduceAdd, Nat.reduceSub, Nat.reduceLeDiff, Nat.add_zero, Nat.zero_add, Nat.reduceLT, Nat.zero_le, true_and, and_true, Value.category, true_or, or_true, q_z10, q_z01, Int32.reduceLT, Int32.reduceLE, Int32.reduceToNatClampNeg, not_true_eq_false, not_false_eq_true, false_implies, true_implies, implies_true, BX6_countLit_0, BX6_countLit_24, BX6_countLit_11, BX6_countLit_2, BX6_countLit_82, BX6_countLit_34, BX6_countLit_26, BX6_countLit_76, BX6_countLit_50, BX6_countLit_43, rmX6_countLit, x9, q_cls_of x9, q_R0_same]
  have loop2 : ∀ (l2 l1 : List Nat) (m1 : q_Mm) (v3 v4 : Option Value), L = l1 ++ l2 → q_but 11 m m1 → (∀ j, j < 192 → m1 11 j = nI (l_G k l1 j)) → q_WP TX6_countLit 26 [some (.ref 9), some (.ref rb), some (.int (nI l1.length)), v3, v4] [] sh m1 (q_R0 sh rmX6_countLit R) := by
    intro l2
    induction l2 with
    | nil =>
      intro l1 m1 v3 v4 e hb h1
      rw [List.append_nil] at e
      subst e
      have n9 : (9 : Nat) ≠ 11 := by decide
      refine uX6_countLit_26 ?_
      simp only [o_no, o_cut, o_ic, o_lc, o_str, o_il, o_ll, o_al, o_is, o_as, o_inc, o_iadd, o_isub, o_imul, o_iand, o_ior, o_ishl, o_ishr, o_iushr, o_idiv, o_irem, o_ladd, o_lmul, o_land, o_lor, o_lrem, o_lshl, o_lshr, o_lcmp, o_i2l, o_l2i, o_dup, o_dup2, o_ifeq, o_ifne, o_iflt, o_ifge, o_ifgt, o_ifle, o_iceq, o_icne, o_iclt, o_icge, o_icgt, o_icle, o_sw, o_iret, o_zret, o_vret, o_getf, o_putf, o_putz, o_putr, o_iald, o_zald, o_iast, o_zast, o_alen, o_aald, o_aast, o_obj_e, o_mmax_e, o_mmin_e, o_gsc, o_gsf, o_sval, o_scod, o_salen, o_sbald, o_i2c, o_pop, o_nret, o_call_0, o_call_1, o_call_2, o_call_3, o_call_4, o_call_5, o_call_6, o_call_7, o_callV_0, o_callV_1, o_callV_2, o_callV_3, o_callV_4, o_callV_5, o_callV_6, o_callT_0, o_callT_1, q_cn_0, q_cn_i, q_cn_r, q_cn_a, q_cn_l, q_cat_eq, q_nl_none, q_nl_sn, q_nl_i, q_nl_r, q_nl_a, q_vp_0, q_vp_1, q_vp_2, q_vp_3, q_vp_4, q_vp_5, q_vp_6, q_vp_7, q_vp_8, List.getElem?_cons_zero, List.getElem?_cons_succ, List.getElem?_nil, List.set_cons_zero, List.set_cons_succ, List.set_nil, Option.toList_some, Option.toList_none, List.cons_append, List.nil_append, Nat.reduceAdd, Nat.reduceSub, Nat.reduceLeDiff, Nat.add_zero, Nat.zero_add, Nat.reduceLT, Nat.zero_le, true_and, and_true, Value.category, true_or, or_true, q_z10, q_z01, Int32.reduceLT, Int32.reduceLE, Int32.reduceToNatClampNeg, not_true_eq_false, not_false_eq_true, false_implies, true_implies, implies_true, BX6_countLit_0, BX6_countLit_24, BX6_countLit_11, BX6_countLit_2, BX6_countLit_82, BX6_countLit_34, BX6_countLit_26, BX6_countLit_76, BX6_countLit_50, BX6_countLit_43, rmX6_countLit, x9, q_cls_of x9, q_R0_same, hb 9 n9]
      rw [hf.1]
      exact ⟨fun _ => hR m1 hb h1, fun q => absurd (nI_le (by omega) (by omega)) q⟩
    | cons v l2 ih =>
      intro l1 m1 v3 v4 e hb h1
      have hlen : L.length = l1.length + (l2.length + 1) := by rw [e, List.length_append, List.length_cons]
      have hv : L[l1.length]? = some v := by rw [e, List.getElem?_append_right (Nat.le_refl _), Nat.sub_self, List.getElem?_cons_zero]
      have hvS : v < r_S k := hLS v (by rw [e]; simp)
      have n9 : (9 : Nat) ≠ 11 := by decide
      have n10 : (10 : Nat) ≠ 11 := by decide
      have inner : ∀ d n (m2 : q_Mm), n + d = 24 → q_but 11 m m2 → (∀ j, j < 192 → m2 11 j = nI (if j / 8 < n then l_G k (l1 ++ [v]) j else l_G k l1 j)) → q_WP TX6_countLit 43 [some (.ref 9), some (.ref rb), some (.int (nI l1.length)), some (.int (nI (r_ad k v n))), some (.int (nI n))] [] sh m2 (q_R0 sh rmX6_countLit R) := by
        intro d
        induction d with
        | zero =>
          intro n m2 hn hb2 h2
          obtain rfl : n = 24 := by omega
          refine uX6_countLit_43 ?_
          simp only [o_no, o_cut, o_ic, o_lc, o_str, o_il, o_ll, o_al, o_is, o_as, o_inc, o_iadd, o_isub, o_imul, o_iand, o_ior, o_ishl, o_ishr, o_iushr, o_idiv, o_irem, o_ladd, o_lmul, o_land, o_lor, o_lrem, o_lshl, o_lshr, o_lcmp, o_i2l, o_l2i, o_dup, o_dup2, o_ifeq, o_ifne, o_iflt, o_ifge, o_ifgt, o_ifle, o_iceq, o_icne, o_iclt, o_icge, o_icgt, o_icle, o_sw, o_iret, o_zret, o_vret, o_getf, o_putf, o_putz, o_putr, o_iald, o_zald, o_iast, o_zast, o_alen, o_aald, o_aast, o_obj_e, o_mmax_e, o_mmin_e, o_gsc, o_gsf, o_sval, o_scod, o_salen, o_sbald, o_i2c, o_pop, o_nret, o_call_0, o_call_1, o_call_2, o_call_3, o_call_4, o_call_5, o_call_6, o_call_7, o_callV_0, o_callV_1, o_callV_2, o_callV_3, o_callV_4, o_callV_5, o_callV_6, o_callT_0, o_callT_1, q_cn_0, q_cn_i, q_cn_r, q_cn_a, q_cn_l, q_cat_eq, q_nl_none, q_nl_sn, q_nl_i, q_nl_r, q_nl_a, q_vp_0, q_vp_1, q_vp_2, q_vp_3, q_vp_4, q_vp_5, q_vp_6, q_vp_7, q_vp_8, List.getElem?_cons_zero, List.getElem?_cons_succ, List.getElem?_nil, List.set_cons_zero, List.set_cons_succ, List.set_nil, Option.toList_some, Option.toList_none, List.cons_append, List.nil_append, Nat.reduceAdd, Nat.reduceSub, Nat.reduceLeDiff, Nat.add_zero, Nat.zero_add, Nat.reduceLT, Nat.zero_le, true_and, and_true, Value.category, true_or, or_true, q_z10, q_z01, Int32.reduceLT, Int32.reduceLE, Int32.reduceToNatClampNeg, not_true_eq_false, not_false_eq_true, false_implies, true_implies, implies_true, BX6_countLit_0, BX6_countLit_24, BX6_countLit_11, BX6_countLit_2, BX6_countLit_82, BX6_countLit_34, BX6_countLit_26, BX6_countLit_76, BX6_countLit_50, BX6_countLit_43, rmX6_countLit, x9, q_cls_of x9, q_R0_same]
          refine ⟨fun _ => ?_, fun q => absurd (by decide) q⟩
          have := ih (l1 ++ [v]) m2 (some (.int (nI (r_ad k v 24)))) (some (.int (nI 24))) (by rw [e, List.append_assoc]; rfl) hb2 (fun j hj => by rw [h2 j hj, if_pos (by omega)])
          rw [List.length_append, show [v].length = 1 from rfl] at this
          rw [nI_1]
          exact this
        | succ d ihd =>
          intro n m2 hn hb2 h2
          have hx2 : x_rock m2 rb k := x_rock_but hx hb2 (by omega)
          refine uX6_countLit_43 ?_
          simp only [o_no, o_cut, o_ic, o_lc, o_str, o_il, o_ll, o_al, o_is, o_as, o_inc, o_iadd, o_isub, o_imul, o_iand, o_ior, o_ishl, o_ishr, o_iushr, o_idiv, o_irem, o_ladd, o_lmul, o_land, o_lor, o_lrem, o_lshl, o_lshr, o_lcmp, o_i2l, o_l2i, o_dup, o_dup2, o_ifeq, o_ifne, o_iflt, o_ifge, o_ifgt, o_ifle, o_iceq, o_icne, o_iclt, o_icge, o_icgt, o_icle, o_sw, o_iret, o_zret, o_vret, o_getf, o_putf, o_putz, o_putr, o_iald, o_zald, o_iast, o_zast, o_alen, o_aald, o_aast, o_obj_e, o_mmax_e, o_mmin_e, o_gsc, o_gsf, o_sval, o_scod, o_salen, o_sbald, o_i2c, o_pop, o_nret, o_call_0, o_call_1, o_call_2, o_call_3, o_call_4, o_call_5, o_call_6, o_call_7, o_callV_0, o_callV_1, o_callV_2, o_callV_3, o_callV_4, o_callV_5, o_callV_6, o_callT_0, o_callT_1, q_cn_0, q_cn_i, q_cn_r, q_cn_a, q_cn_l, q_cat_eq, q_nl_none, q_nl_sn, q_nl_i, q_nl_r, q_nl_a, q_vp_0, q_vp_1, q_vp_2, q_vp_3, q_vp_4, q_vp_5, q_vp_6, q_vp_7, q_vp_8, List.getElem?_cons_zero, List.getElem?_cons_succ, List.getElem?_nil, List.set_cons_zero, List.set_cons_succ, List.set_nil, Option.toList_some, Option.toList_none, List.cons_append, List.nil_append, Nat.reduceAdd, Nat.reduceSub, Nat.reduceLeDiff, Nat.add_zero, Nat.zero_add, Nat.reduceLT, Nat.zero_le, true_and, and_true, Value.category, true_or, or_true, q_z10, q_z01, Int32.reduceLT, Int32.reduceLE, Int32.reduceToNatClampNeg, not_true_eq_false, not_false_eq_true, false_implies, true_implies, implies_true, BX6_countLit_0, BX6_countLit_24, BX6_countLit_11, BX6_countLit_2, BX6_countLit_82, BX6_countLit_34, BX6_countLit_26, BX6_countLit_76, BX6_countLit_50, BX6_countLit_43, rmX6_countLit, x9, q_cls_of x9, q_cls_of hr.1, q_R0_same]
          refine ⟨fun y => ?_, fun _ => ?_⟩
          · rw [show (24 : Int32) = nI 24 from rfl] at y; exact absurd y (nI_ge (by omega) (by omega))
          · refine p4_litSet hr ?_
            simp only [o_no, o_cut, o_ic, o_lc, o_str, o_il, o_ll, o_al, o_is, o_as, o_inc, o_iadd, o_isub, o_imul, o_iand, o_ior, o_ishl, o_ishr, o_iushr, o_idiv, o_irem, o_ladd, o_lmul, o_land, o_lor, o_lrem, o_lshl, o_lshr, o_lcmp, o_i2l, o_l2i, o_dup, o_dup2, o_ifeq, o_ifne, o_iflt, o_ifge, o_ifgt, o_ifle, o_iceq, o_icne, o_iclt, o_icge, o_icgt, o_icle, o_sw, o_iret, o_zret, o_vret, o_getf, o_putf, o_putz, o_putr, o_iald, o_zald, o_iast, o_zast, o_alen, o_aald, o_aast, o_obj_e, o_mmax_e, o_mmin_e, o_gsc, o_gsf, o_sval, o_scod, o_salen, o_sbald, o_i2c, o_pop, o_nret, o_call_0, o_call_1, o_call_2, o_call_3, o_call_4, o_call_5, o_call_6, o_call_7, o_callV_0, o_callV_1, o_callV_2, o_callV_3, o_callV_4, o_callV_5, o_callV_6, o_callT_0, o_callT_1, q_cn_0, q_cn_i, q_cn_r, q_cn_a, q_cn_l, q_cat_eq, q_nl_none, q_nl_sn, q_nl_i, q_nl_r, q_nl_a, q_vp_0, q_vp_1, q_vp_2, q_vp_3, q_vp_4, q_vp_5, q_vp_6, q_vp_7, q_vp_8, List.getElem?_cons_zero, List.getElem?_cons_succ, List.getElem?_nil, List.set_cons_zero, List.set_cons_succ, List.set_nil, Option.toList_some, Option.toList_none, List.cons_append, List.nil_append, Nat.reduceAdd, Nat.reduceSub, Nat.reduceLeDiff, Nat.add_zero, Nat.zero_add, Nat.reduceLT, Nat.zero_le, true_and, and_true, Value.category, true_or, or_true, q_z10, q_z01, Int32.reduceLT, Int32.reduceLE, Int32.reduceToNatClampNeg, not_true_eq_false, not_false_eq_true, false_implies, true_implies, implies_true, BX6_countLit_0, BX6_countLit_24, BX6_countLit_11, BX6_countLit_2, BX6_countLit_82, BX6_countLit_34, BX6_countLit_26, BX6_countLit_76, BX6_countLit_50, BX6_countLit_43, rmX6_countLit, x9, q_cls_of x9, q_cls_of hr.1, q_R0_same]
            rw [xs_lit hk hx2 (r_adlt hk _ _), show (8 : Int32) = nI 8 from rfl, pk_mul]
            refine p6_addLit x9 y11 (by omega) (r_ls_lt hk _) (fun m3 hb3 h3 => ?_)
            simp only [o_no, o_cut, o_ic, o_lc, o_str, o_il, o_ll, o_al, o_is, o_as, o_inc, o_iadd, o_isub, o_imul, o_iand, o_ior, o_ishl, o_ishr, o_iushr, o_idiv, o_irem, o_ladd, o_lmul, o_land, o_lor, o_lrem, o_lshl, o_lshr, o_lcmp, o_i2l, o_l2i, o_dup, o_dup2, o_ifeq, o_ifne, o_iflt, o_ifge, o_ifgt, o_ifle, o_iceq, o_icne, o_iclt, o_icge, o_icgt, o_icle, o_sw, o_iret, o_zret, o_vret, o_getf, o_putf, o_putz, o_putr, o_iald, o_zald, o_iast, o_zast, o_alen, o_aald, o_aast, o_obj_e, o_mmax_e, o_mmin_e, o_gsc, o_gsf, o_sval, o_scod, o_salen, o_sbald, o_i2c, o_pop, o_nret, o_call_0, o_call_1, o_call_2, o_call_3, o_call_4, o_call_5, o_call_6, o_call_7, o_callV_0, o_callV_1, o_callV_2, o_callV_3, o_callV_4, o_callV_5, o_callV_6, o_callT_0, o_callT_1, q_cn_0, q_cn_i, q_cn_r, q_cn_a, q_cn_l, q_cat_eq, q_nl_none, q_nl_sn, q_nl_i, q_nl_r, q_nl_a, q_vp_0, q_vp_1, q_vp_2, q_vp_3, q_vp_4, q_vp_5, q_vp_6, q_vp_7, q_vp_8, List.getElem?_cons_zero, List.getElem?_cons_succ, List.getElem?_nil, List.set_cons_zero, List.set_cons_succ, List.set_nil, Option.toList_some, Option.toList_none, List.cons_append, List.nil_append, Nat.reduceAdd, Nat.reduceSub, Nat.reduceLeDiff, Nat.add_zero, Nat.zero_add, Nat.reduceLT, Nat.zero_le, true_and, and_true, Value.category, true_or, or_true, q_z10, q_z01, Int32.reduceLT, Int32.reduceLE, Int32.reduceToNatClampNeg, not_true_eq_false, not_false_eq_true, false_implies, true_implies, implies_true, BX6_countLit_0, BX6_countLit_24, BX6_countLit_11, BX6_countLit_2, BX6_countLit_82, BX6_countLit_34, BX6_countLit_26, BX6_countLit_76, BX6_countLit_50, BX6_countLit_43, rmX6_countLit, x9, q_cls_of x9, q_cls_of hr.1, q_R0_same]
            have hx3 : x_rock m3 rb k := x_rock_but hx2 hb3 (by omega)
            refine p4_stepLater hr ?_
            simp only [o_no, o_cut, o_ic, o_lc, o_str, o_il, o_ll, o_al, o_is, o_as, o_inc, o_iadd, o_isub, o_imul, o_iand, o_ior, o_ishl, o_ishr, o_iushr, o_idiv, o_irem, o_ladd, o_lmul, o_land, o_lor, o_lrem, o_lshl, o_lshr, o_lcmp, o_i2l, o_l2i, o_dup, o_dup2, o_ifeq, o_ifne, o_iflt, o_ifge, o_ifgt, o_ifle, o_iceq, o_icne, o_iclt, o_icge, o_icgt, o_icle, o_sw, o_iret, o_zret, o_vret, o_getf, o_putf, o_putz, o_putr, o_iald, o_zald, o_iast, o_zast, o_alen, o_aald, o_aast, o_obj_e, o_mmax_e, o_mmin_e, o_gsc, o_gsf, o_sval, o_scod, o_salen, o_sbald, o_i2c, o_pop, o_nret, o_call_0, o_call_1, o_call_2, o_call_3, o_call_4, o_call_5, o_call_6, o_call_7, o_callV_0, o_callV_1, o_callV_2, o_callV_3, o_callV_4, o_callV_5, o_callV_6, o_callT_0, o_callT_1, q_cn_0, q_cn_i, q_cn_r, q_cn_a, q_cn_l, q_cat_eq, q_nl_none, q_nl_sn, q_nl_i, q_nl_r, q_nl_a, q_vp_0, q_vp_1, q_vp_2, q_vp_3, q_vp_4, q_vp_5, q_vp_6, q_vp_7, q_vp_8, List.getElem?_cons_zero, List.getElem?_cons_succ, List.getElem?_nil, List.set_cons_zero, List.set_cons_succ, List.set_nil, Option.toList_some, Option.toList_none, List.cons_append, List.nil_append, Nat.reduceAdd, Nat.reduceSub, Nat.reduceLeDiff, Nat.add_zero, Nat.zero_add, Nat.reduceLT, Nat.zero_le, true_and, and_true, Value.category, true_or, or_true, q_z10, q_z01, Int32.reduceLT, Int32.reduceLE, Int32.reduceToNatClampNeg, not_true_eq_false, not_false_eq_true, false_implies, true_implies, implies_true, BX6_countLit_0, BX6_countLit_24, BX6_countLit_11, BX6_countLit_2, BX6_countLit_82, BX6_countLit_34, BX6_countLit_26, BX6_countLit_76, BX6_countLit_50, BX6_countLit_43, rmX6_countLit, x9, q_cls_of x9, q_cls_of hr.1, q_R0_same]
            rw [xs_later hk hx3 (r_adlt hk _ _), r_adad hk, nI_1]
            refine ihd (n + 1) m3 (by omega) (hb2.tr hb3) (fun j hj => ?_)
            rw [h3 j, h2 j hj]
            by_cases y : j / 8 = n
            · rw [if_pos y, if_neg (show ¬ j / 8 < n by omega), if_pos (show j / 8 < n + 1 by omega), l_G_app, y, nI_if]
            · rw [if_neg y]
              by_cases y2 : j / 8 < n
              · rw [if_pos y2, if_pos (by omega)]
              · rw [if_neg y2, if_neg (by omega)]
      refine uX6_countLit_26 ?_
      simp only [o_no, o_cut, o_ic, o_lc, o_str, o_il, o_ll, o_al, o_is, o_as, o_inc, o_iadd, o_isub, o_imul, o_iand, o_ior, o_ishl, o_ishr, o_iushr, o_idiv, o_irem, o_ladd, o_lmul, o_land, o_lor, o_lrem, o_lshl, o_lshr, o_lcmp, o_i2l, o_l2i, o_dup, o_dup2, o_ifeq, o_ifne, o_iflt, o_ifge, o_ifgt, o_ifle, o_iceq, o_icne, o_iclt, o_icge, o_icgt, o_icle, o_sw, o_iret, o_zret, o_vret, o_getf, o_putf, o_putz, o_putr, o_iald, o_zald, o_iast, o_zast, o_alen, o_aald, o_aast, o_obj_e, o_mmax_e, o_mmin_e, o_gsc, o_gsf, o_sval, o_scod, o_salen, o_sbald, o_i2c, o_pop, o_nret, o_call_0, o_call_1, o_call_2, o_call_3, o_call_4, o_call_5, o_call_6, o_call_7, o_callV_0, o_callV_1, o_callV_2, o_callV_3, o_callV_4, o_callV_5, o_callV_6, o_callT_0, o_callT_1, q_cn_0, q_cn_i, q_cn_r, q_cn_a, q_cn_l, q_cat_eq, q_nl_none, q_nl_sn, q_nl_i, q_nl_r, q_nl_a, q_vp_0, q_vp_1, q_vp_2, q_vp_3, q_vp_4, q_vp_5, q_vp_6, q_vp_7, q_vp_8, List.getElem?_cons_zero, List.getElem?_cons_succ, List.getElem?_nil, List.set_cons_zero, List.set_cons_succ, List.set_nil, Option.toList_some, Option.toList_none, List.cons_append, List.nil_append, Nat.reduceAdd, Nat.reduceSub, Nat.reduceLeDiff, Nat.add_zero, Nat.zero_add, Nat.reduceLT, Nat.zero_le, true_and, and_true, Value.category, true_or, or_true, q_z10, q_z01, Int32.reduceLT, Int32.reduceLE, Int32.reduceToNatClampNeg, not_true_eq_false, not_false_eq_true, false_implies, true_implies, implies_true, BX6_countLit_0, BX6_countLit_24, BX6_countLit_11, BX6_countLit_2, BX6_countLit_82, BX6_countLit_34, BX6_countLit_26, BX6_countLit_76, BX6_countLit_50, BX6_countLit_43, rmX6_countLit, x9, q_cls_of x9, q_R0_same, hb 9 n9]
      rw [hf.1]
      refine ⟨fun q => absurd q (nI_ge (by omega) (by omega)), fun _ => ?_⟩
      refine p6_fitAt x9 y10 (by omega) ?_
      simp only [o_no, o_cut, o_ic, o_lc, o_str, o_il, o_ll, o_al, o_is, o_as, o_inc, o_iadd, o_isub, o_imul, o_iand, o_ior, o_ishl, o_ishr, o_iushr, o_idiv, o_irem, o_ladd, o_lmul, o_land, o_lor, o_lrem, o_lshl, o_lshr, o_lcmp, o_i2l, o_l2i, o_dup, o_dup2, o_ifeq, o_ifne, o_iflt, o_ifge, o_ifgt, o_ifle, o_iceq, o_icne, o_iclt, o_icge, o_icgt, o_icle, o_sw, o_iret, o_zret, o_vret, o_getf, o_putf, o_putz, o_putr, o_iald, o_zald, o_iast, o_zast, o_alen, o_aald, o_aast, o_obj_e, o_mmax_e, o_mmin_e, o_gsc, o_gsf, o_sval, o_scod, o_salen, o_sbald, o_i2c, o_pop, o_nret, o_call_0, o_call_1, o_call_2, o_call_3, o_call_4, o_call_5, o_call_6, o_call_7, o_callV_0, o_callV_1, o_callV_2, o_callV_3, o_callV_4, o_callV_5, o_callV_6, o_callT_0, o_callT_1, q_cn_0, q_cn_i, q_cn_r, q_cn_a, q_cn_l, q_cat_eq, q_nl_none, q_nl_sn, q_nl_i, q_nl_r, q_nl_a, q_vp_0, q_vp_1, q_vp_2, q_vp_3, q_vp_4, q_vp_5, q_vp_6, q_vp_7, q_vp_8, List.getElem?_cons_zero, List.getElem?_cons_succ, List.getElem?_nil, List.set_cons_zero, List.set_cons_succ, List.set_nil, Option.toList_some, Option.toList_none, List.cons_append, List.nil_append, Nat.reduceAdd, Nat.reduceSub, Nat.reduceLeDiff, Nat.add_zero, Nat.zero_add, Nat.reduceLT, Nat.zero_le, true_and, and_true, Value.category, true_or, or_true, q_z10, q_z01, Int32.reduceLT, Int32.reduceLE, Int32.reduceToNatClampNeg, not_true_eq_false, not_false_eq_true, false_implies, true_implies, implies_true, BX6_countLit_0, BX6_countLit_24, BX6_countLit_11, BX6_countLit_2, BX6_countLit_82, BX6_countLit_34, BX6_countLit_26, BX6_countLit_76, BX6_countLit_50, BX6_countLit_43, rmX6_countLit, x9, q_cls_of x9, q_R0_same, hb 9 n9]
      rw [hb 10 n10, hf.2 _ _ hv]
      have := inner 24 0 m1 (by omega) hb (fun j hj => by rw [if_neg (by omega)]; exact h1 j hj)
      rw [r_ad0 hk hvS] at this
      exact this
  have loop1 : ∀ d n (m1 : q_Mm), n + d = 192 → q_but 11 m m1 → (∀ j, j < n → m1 11 j = 0) → q_WP TX6_countLit 2 [some (.ref 9), some (.ref rb), some (.int (nI n)), none, none] [] sh m1 (q_R0 sh rmX6_countLit R) := by
    intro d
    induction d with
    | zero =>
      intro n m1 hn hb h1
      obtain rfl : n = 192 := by omega
      refine uX6_countLit_2 ?_
      simp only [o_no, o_cut, o_ic, o_lc, o_str, o_il, o_ll, o_al, o_is, o_as, o_inc, o_iadd, o_isub, o_imul, o_iand, o_ior, o_ishl, o_ishr, o_iushr, o_idiv, o_irem, o_ladd, o_lmul, o_land, o_lor, o_lrem, o_lshl, o_lshr, o_lcmp, o_i2l, o_l2i, o_dup, o_dup2, o_ifeq, o_ifne, o_iflt, o_ifge, o_ifgt, o_ifle, o_iceq, o_icne, o_iclt, o_icge, o_icgt, o_icle, o_sw, o_iret, o_zret, o_vret, o_getf, o_putf, o_putz, o_putr, o_iald, o_zald, o_iast, o_zast, o_alen, o_aald, o_aast, o_obj_e, o_mmax_e, o_mmin_e, o_gsc, o_gsf, o_sval, o_scod, o_salen, o_sbald, o_i2c, o_pop, o_nret, o_call_0, o_call_1, o_call_2, o_call_3, o_call_4, o_call_5, o_call_6, o_call_7, o_callV_0, o_callV_1, o_callV_2, o_callV_3, o_callV_4, o_callV_5, o_callV_6, o_callT_0, o_callT_1, q_cn_0, q_cn_i, q_cn_r, q_cn_a, q_cn_l, q_cat_eq, q_nl_none, q_nl_sn, q_nl_i, q_nl_r, q_nl_a, q_vp_0, q_vp_1, q_vp_2, q_vp_3, q_vp_4, q_vp_5, q_vp_6, q_vp_7, q_vp_8, List.getElem?_cons_zero, List.getElem?_cons_succ, List.getElem?_nil, List.set_cons_zero, List.set_cons_succ, List.set_nil, Option.toList_some, Option.toList_none, List.cons_append, List.nil_append, Nat.reduceAdd, Nat.reduceSub, Nat.reduceLeDiff, Nat.add_zero, Nat.zero_add, Nat.reduceLT, Nat.zero_le, true_and, and_true, Value.category, true_or, or_true, q_z10, q_z01, Int32.reduceLT, Int32.reduceLE, Int32.reduceToNatClampNeg, not_true_eq_false, not_false_eq_true, false_implies, true_implies, implies_true, BX6_countLit_0, BX6_countLit_24, BX6_countLit_11, BX6_countLit_2, BX6_countLit_82, BX6_countLit_34, BX6_countLit_26, BX6_countLit_76, BX6_countLit_50, BX6_countLit_43, rmX6_countLit, x9, q_cls_of x9, q_R0_same, y11]
      refine ⟨fun _ => ?_, fun q => absurd (nI_le (Nat.le_refl _) (by decide)) q⟩
      exact loop2 L [] m1 none none rfl hb (fun j hj => h1 j hj)
    | succ d ih =>
      intro n m1 hn hb h1
      refine uX6_countLit_2 ?_
      simp only [o_no, o_cut, o_ic, o_lc, o_str, o_il, o_ll, o_al, o_is, o_as, o_inc, o_iadd, o_isub, o_imul, o_iand, o_ior, o_ishl, o_ishr, o_iushr, o_idiv, o_irem, o_ladd, o_lmul, o_land, o_lor, o_lrem, o_lshl, o_lshr, o_lcmp, o_i2l, o_l2i, o_dup, o_dup2, o_ifeq, o_ifne, o_iflt, o_ifge, o_ifgt, o_ifle, o_iceq, o_icne, o_iclt, o_icge, o_icgt, o_icle, o_sw, o_iret, o_zret, o_vret, o_getf, o_putf, o_putz, o_putr, o_iald, o_zald, o_iast, o_zast, o_alen, o_aald, o_aast, o_obj_e, o_mmax_e, o_mmin_e, o_gsc, o_gsf, o_sval, o_scod, o_salen, o_sbald, o_i2c, o_pop, o_nret, o_call_0, o_call_1, o_call_2, o_call_3, o_call_4, o_call_5, o_call_6, o_call_7, o_callV_0, o_callV_1, o_callV_2, o_callV_3, o_callV_4, o_callV_5, o_callV_6, o_callT_0, o_callT_1, q_cn_0, q_cn_i, q_cn_r, q_cn_a, q_cn_l, q_cat_eq, q_nl_none, q_nl_sn, q_nl_i, q_nl_r, q_nl_a, q_vp_0, q_vp_1, q_vp_2, q_vp_3, q_vp_4, q_vp_5, q_vp_6, q_vp_7, q_vp_8, List.getElem?_cons_zero, List.getElem?_cons_succ, List.getElem?_nil, List.set_cons_zero, List.set_cons_succ, List.set_nil, Option.toList_some, Option.toList_none, List.cons_append, List.nil_append, Nat.reduceAdd, Nat.reduceSub, Nat.reduceLeDiff, Nat.add_zero, Nat.zero_add, Nat.reduceLT, Nat.zero_le, true_and, and_true, Value.category, true_or, or_true, q_z10, q_z01, Int32.reduceLT, Int32.reduceLE, Int32.reduceToNatClampNeg, not_true_eq_false, not_false_eq_true, false_implies, true_implies, implies_true, BX6_countLit_0, BX6_countLit_24, BX6_countLit_11, BX6_countLit_2, BX6_countLit_82, BX6_countLit_34, BX6_countLit_26, BX6_countLit_76, BX6_countLit_50, BX6_countLit_43, rmX6_countLit, x9, q_cls_of x9, q_R0_same, y11]
      refine ⟨fun q => absurd q (nI_ge (by omega) (by omega)), fun _ => ?_⟩
      rw [nI_clamp (by omega), nI_1]
      refine ⟨vp_in_nI (by omega) (by decide), ih (n + 1) _ (by omega) (hb.tr q_but.up) (fun j hj => ?_)⟩
      rw [q_up_app]
      by_cases y : j = n
      · rw [if_pos ⟨rfl, y⟩]
      · rw [if_neg (fun q => y q.2)]; exact h1 j (by omega)
  exact loop1 192 0 m (by omega) q_but.rf (fun j hj => absurd hj (Nat.not_lt_zero _))
theorem p6_tryLook {t p : Nat} (x9 : sh[9]? = some (.inl (6, [none, none, none, none, none, none, some (.ref 10), some (.ref 11)]))) (y11 : sh[11]? = some (.inr (.inl (0, 192)))) (hL : (s_L k l).length ≤ 1728) (ht : t < 24) (hp8 : p < 8) (hp : p < r_pl k) (h1 : m 9 1 = nI (s_L k l).length) (h11 : ∀ j, j < 192 → m 11 j = nI (l_G k (s_L k l) j)) (hlk : x_lk m (f_store (v_D k l) (t * 8 + p))) (hR : ∀ m', q_but 9 m m' → (∀ e, e < 2 ∨ 5 ≤ e → m' 9 e = m 9 e) → x_lk m' (f_store (v_D k l) (t * 8 + p + 1)) → R none sh m') : wX6_tryLook [.ref 9, .int (nI t), .int (nI p)] sh m R := by
  have hG := l_G_le k (s_L k l) (t * 8 + p)
  have hst := f_store_st (v_D k l) (t * 8 + p)
  have e8 : (t * 8 + p) % 8 = p := by omega
  have e8' : (t * 8 + p) / 8 = t := by omega
  refine eX6_tryLook ?_
  simp only [o_no, o_cut, o_ic, o_lc, o_str, o_il, o_ll, o_al, o_is, o_as, o_inc, o_iadd, o_isub, o_imul, o_iand, o_ior, o_ishl, o_ishr, o_iushr, o_idiv, o_irem, o_ladd, o_lmul, o_land, o_lor, o_lrem, o_lshl, o_lshr, o_lcmp, o_i2l, o_l2i, o_dup, o_dup2, o_ifeq, o_ifne, o_iflt, o_ifge, o_ifgt, o_ifle, o_iceq, o_icne, o_iclt, o_icge, o_icgt, o_icle, o_sw, o_iret, o_zret, o_vret, o_getf, o_putf, o_putz, o_putr, o_iald, o_zald, o_iast, o_zast, o_alen, o_aald, o_aast, o_obj_e, o_mmax_e, o_mmin_e, o_gsc, o_gsf, o_sval, o_scod, o_salen, o_sbald, o_i2c, o_pop, o_nret, o_call_0, o_call_1, o_call_2, o_call_3, o_call_4, o_call_5, o_call_6, o_call_7, o_callV_0, o_callV_1, o_callV_2, o_callV_3, o_callV_4, o_callV_5, o_callV_6, o_callT_0, o_callT_1, q_cn_0, q_cn_i, q_cn_r, q_cn_a, q_cn_l, q_cat_eq, q_nl_none, q_nl_sn, q_nl_i, q_nl_r, q_nl_a, q_vp_0, q_vp_1, q_vp_2, q_vp_3, q_vp_4, q_vp_5, q_vp_6, q_vp_7, q_vp_8, List.getElem?_cons_zero, List.getElem?_cons_succ, List.getElem?_nil, List.set_cons_zero, List.set_cons_succ, List.set_nil, Option.toList_some, Option.toList_none, List.cons_append, List.nil_append, Nat.reduceAdd, Nat.reduceSub, Nat.reduceLeDiff, Nat.add_zero, Nat.zero_add, Nat.reduceLT, Nat.zero_le, true_and, and_true, Value.category, true_or, or_true, q_z10, q_z01, Int32.reduceLT, Int32.reduceLE, Int32.reduceToNatClampNeg, not_true_eq_false, not_false_eq_true, false_implies, true_implies, implies_true, BX6_tryLook_52, BX6_tryLook_53, BX6_tryLook_43, BX6_tryLook_35, BX6_tryLook_0, rmX6_tryLook, x9, q_cls_of x9, q_R0_same, q_up_app, Nat.reduceEqDiff, and_false, if_false]
  rw [show (8 : Int32) = nI 8 from rfl, pk_mul, nI_add]
  refine p8_at y11 (by decide) ?_
  simp only [o_no, o_cut, o_ic, o_lc, o_str, o_il, o_ll, o_al, o_is, o_as, o_inc, o_iadd, o_isub, o_imul, o_iand, o_ior, o_ishl, o_ishr, o_iushr, o_idiv, o_irem, o_ladd, o_lmul, o_land, o_lor, o_lrem, o_lshl, o_lshr, o_lcmp, o_i2l, o_l2i, o_dup, o_dup2, o_ifeq, o_ifne, o_iflt, o_ifge, o_ifgt, o_ifle, o_iceq, o_icne, o_iclt, o_icge, o_icgt, o_icle, o_sw, o_iret, o_zret, o_vret, o_getf, o_putf, o_putz, o_putr, o_iald, o_zald, o_iast, o_zast, o_alen, o_aald, o_aast, o_obj_e, o_mmax_e, o_mmin_e, o_gsc, o_gsf, o_sval, o_scod, o_salen, o_sbald, o_i2c, o_pop, o_nret, o_call_0, o_call_1, o_call_2, o_call_3, o_call_4, o_call_5, o_call_6, o_call_7, o_callV_0, o_callV_1, o_callV_2, o_callV_3, o_callV_4, o_callV_5, o_callV_6, o_callT_0, o_callT_1, q_cn_0, q_cn_i, q_cn_r, q_cn_a, q_cn_l, q_cat_eq, q_nl_none, q_nl_sn, q_nl_i, q_nl_r, q_nl_a, q_vp_0, q_vp_1, q_vp_2, q_vp_3, q_vp_4, q_vp_5, q_vp_6, q_vp_7, q_vp_8, List.getElem?_cons_zero, List.getElem?_cons_succ, List.getElem?_nil, List.set_cons_zero, List.set_cons_succ, List.set_nil, Option.toList_some, Option.toList_none, List.cons_append, List.nil_append, Nat.reduceAdd, Nat.reduceSub, Nat.reduceLeDiff, Nat.add_zero, Nat.zero_add, Nat.reduceLT, Nat.zero_le, true_and, and_true, Value.category, true_or, or_true, q_z10, q_z01, Int32.reduceLT, Int32.reduceLE, Int32.reduceToNatClampNeg, not_true_eq_false, not_false_eq_true, false_implies, true_implies, implies_true, BX6_tryLook_52, BX6_tryLook_53, BX6_tryLook_43, BX6_tryLook_35, BX6_tryLook_0, rmX6_tryLook, x9, q_cls_of x9, q_R0_same, q_up_app, Nat.reduceEqDiff, and_false, if_false]
  rw [q_at_n (by omega) (by decide), h11 _ (by omega), h1, pk_sub hG, nI_max (by omega) (by omega), hlk.2.2]
  have hD : v_D k l (t * 8 + p) = if max (l_G k (s_L k l) (t * 8 + p)) ((s_L k l).length - l_G k (s_L k l) (t * 8 + p)) < (s_L k l).length then max (l_G k (s_L k l) (t * 8 + p)) ((s_L k l).length - l_G k (s_L k l) (t * 8 + p)) else 1729 := by
    unfold v_D
    by_cases q : max (l_G k (s_L k l) (t * 8 + p)) ((s_L k l).length - l_G k (s_L k l) (t * 8 + p)) < (s_L k l).length
    · rw [if_pos ⟨by omega, q⟩, if_pos q]
    · rw [if_neg (fun z => q z.2), if_neg q]
  have hG2 : max (l_G k (s_L k l) (t * 8 + p)) ((s_L k l).length - l_G k (s_L k l) (t * 8 + p)) ≤ (s_L k l).length := by omega
  rw [f_store, hD] at hR
  generalize max (l_G k (s_L k l) (t * 8 + p)) ((s_L k l).length - l_G k (s_L k l) (t * 8 + p)) = g at *
  have set : g < (s_L k l).length → g < (f_store (v_D k l) (t * 8 + p)).1 → R none sh (q_up (q_up (q_up m 9 4 (nI g)) 9 3 (nI t)) 9 2 (nI p)) := by
    intro y y2
    rw [if_pos y, if_pos y2] at hR
    refine hR _ ((q_but.up.tr q_but.up).tr q_but.up) (fun e he => ?_) ⟨?_, ?_, ?_⟩
    · rw [q_up_app, if_neg (by omega), q_up_app, if_neg (by omega), q_up_app, if_neg (by omega)]
    · rw [q_up_app, if_pos ⟨rfl, rfl⟩, l_v]
      show _ = if t * 8 + p + 1 = 0 then -1 else nI ((t * 8 + p + 1 - 1) % 8)
      rw [if_neg (by omega), Nat.add_sub_cancel, e8]
    · rw [q_up_app, if_neg (by decide), q_up_app, if_pos ⟨rfl, rfl⟩, l_v]
      show _ = if t * 8 + p + 1 = 0 then -1 else nI ((t * 8 + p + 1 - 1) / 8)
      rw [if_neg (by omega), Nat.add_sub_cancel, e8']
    · rw [q_up_app, if_neg (by decide), q_up_app, if_neg (by decide), q_up_app, if_pos ⟨rfl, rfl⟩, l_v]
      show _ = if t * 8 + p + 1 = 0 then -1 else nI g
      rw [if_neg (by omega)]
  refine ⟨fun y => ?_, fun y => ⟨fun y2 => ?_, fun y2 => ⟨fun y3 => ?_, fun y3 => ?_⟩⟩⟩
  · have y : g = (s_L k l).length := (nI_eq (by omega) (by omega)).mp y
    rw [if_neg (show ¬ g < (s_L k l).length by omega), if_neg (by omega)] at hR
    exact hR m q_but.rf (fun _ _ => rfl) hlk
  · have y : g < (s_L k l).length := by
      rcases Nat.lt_or_ge g (s_L k l).length with q | q
      · exact q
      · exact absurd (by rw [show g = (s_L k l).length by omega]) y
    refine set y ?_
    rcases hst with q | q
    · omega
    · rw [l_v, if_neg (by omega), if_neg (by decide), if_neg (by decide)] at y2
      have := congrArg Int32.toInt y2
      rw [nI_toInt (by omega), show (-1 : Int32).toInt = -1 from by decide] at this
      omega
  all_goals
    have y : g < (s_L k l).length := by
      rcases Nat.lt_or_ge g (s_L k l).length with q | q
      · exact q
      · exact absurd (by rw [show g = (s_L k l).length by omega]) y
    have q2 : (f_store (v_D k l) (t * 8 + p)).2 ≠ 0 := fun q => y2 (by rw [l_v, if_pos q])
    rw [l_v, if_neg q2, if_neg (by decide), if_neg (by decide)] at y3
  · exact set y ((nI_ltI (by omega) (by omega)).mp y3)
  · rw [if_pos y, if_neg (fun q => y3 (nI_lt q (by omega)))] at hR
    exact hR m q_but.rf (fun _ _ => rfl) hlk
end LK
