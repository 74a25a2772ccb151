/-! Rock, once it is settled: its short methods in the rock's own numbers; heights. -/
def x_told (m : q_Mm) (b : Nat) (k : RK) : Prop :=
  m b 0 = nI (r_tn k) ∧ m b 1 = nI (r_pl k) ∧ m b 2 = nI (r_wy k) ∧ m b 3 = nI (r_pu k) ∧ (∀ i, i < 3 → m (b + 1) i = nI (r_N k i)) ∧ (∀ i j, i < r_tn k → j < r_N k i → m (b + 3) (12 * i + j) = r_pt k i j) ∧ (∀ p i, p < r_pl k → i < 3 → m (b + 4) (3 * p + i) = r_fc k p i) ∧ (∀ p, p < 8 → m (b + 5) p = nI (r_rd k p)) ∧ (∀ q i, q < r_pu k → i < 3 → m (b + 6) (3 * q + i) = nI (r_sv k q i))
def x_wts (m : q_Mm) (b : Nat) (k : RK) : Prop := ∀ i, i < 3 → m (b + 2) i = nI (r_wt k i)
def x_tabs (m : q_Mm) (b : Nat) (k : RK) : Prop := m b 4 = nI (r_S k) ∧ m b 5 = nI (r_per k) ∧ (∀ s, s < r_S k → m (b + 7) s = nI (r_ls k s)) ∧ (∀ s, s < r_S k → m (b + 8) s = nI (r_ad k s 1))
def x_rock (m : q_Mm) (b : Nat) (k : RK) : Prop := x_told m b k ∧ x_wts m b k ∧ x_tabs m b k
section XS
variable {m : q_Mm} {b : Nat} {k : RK} {sh : q_Sh} {R : q_KR}
theorem xs_size (ht : x_told m b k) {i : Nat} (hi : i < 3) : x_size m b (nI i) = nI (r_N k i) := by
  rw [x_size, q_at_n hi (by decide)]; exact ht.2.2.2.2.1 i hi
theorem xs_wgt (hw : x_wts m b k) {i : Nat} (hi : i < 3) : x_wgt m b (nI i) = nI (r_wt k i) := by
  rw [x_wgt, q_at_n hi (by decide)]; exact hw i hi
theorem xs_digit (h : r_ok k) (ht : x_told m b k) (hw : x_wts m b k) {s i : Nat} (hs : s < 2 ^ 31) (hi : i < 3) : x_digit m b (nI s) (nI i) = nI (r_dg k s i) := by
  have h1 := r_wtpos h i
  have h2 := r_Npos h i
  have h3 := Nat.div_le_self s (r_wt k i)
  have h0 : ¬ nI (r_wt k i) < 1 := by rw [q_n1]; exact nI_nlt (by omega) (by omega)
  rw [x_digit, xs_wgt hw hi, xs_size ht hi, if_neg h0, pk_div hs (by omega) (by omega), q_lo2_n (by omega) (by omega) (by omega)]
  rfl
theorem xs_turned (h : r_ok k) (ht : x_told m b k) (hw : x_wts m b k) {s i c : Nat} (hs : s < 2 ^ 30) (hc : c < 2 ^ 30) (hi : i < 3) : x_turned m b (nI s) (nI i) (nI c) = nI ((s / r_wt k i + c) % r_N k i * r_wt k i) := by
  have h1 := r_wtpos h i
  have h2 := r_Npos h i
  have h3 := Nat.div_le_self s (r_wt k i)
  have h0 : ¬ nI (r_wt k i) < 1 := by rw [q_n1]; exact nI_nlt (by omega) (by omega)
  rw [x_turned, xs_wgt hw hi, xs_size ht hi, if_neg h0, pk_div (by omega) (by omega) (by omega), nI_add, q_lo2_n (by omega) (by omega) (by omega), pk_mul]
theorem xs_moved (h : r_ok k) (ht : x_told m b k) (hw : x_wts m b k) {s c0 c1 c2 : Nat} (hs : s < 2 ^ 30) (h0 : c0 < 2 ^ 30) (h1 : c1 < 2 ^ 30) (h2 : c2 < 2 ^ 30) : x_moved m b (nI s) (nI c0) (nI c1) (nI c2) = nI (r_mv k s c0 c1 c2) := by
  have e0 := xs_turned h ht hw hs h0 (show 0 < 3 by decide)
  have e1 := xs_turned h ht hw hs h1 (show 1 < 3 by decide)
  have e2 := xs_turned h ht hw hs h2 (show 2 < 3 by decide)
  rw [x_moved, show (0 : Int32) = nI 0 from rfl, q_n1, q_n2, e0, e1, e2, nI_add, nI_add]
  rfl
theorem xs_ad (h : r_ok k) (hx : x_rock m b k) {s t : Nat} (hs : s < 2 ^ 30) (ht : t < 2 ^ 30) : x_moved m b (nI s) (nI t) (nI t) (nI t) = nI (r_ad k s t) := xs_moved h hx.1 hx.2.1 hs ht ht ht
theorem xs_part (ht : x_told m b k) {i j : Nat} (hi : i < r_tn k) (h3 : r_tn k ≤ 3) (hj : j < r_N k i) (hN : r_N k i ≤ 12) : x_part m b (nI i) (nI j) = r_pt k i j := by
  rw [x_part, show (12 : Int32) = nI 12 from rfl, pk_mul, nI_add, q_at_n (by omega) (by decide), Nat.mul_comm]
  exact ht.2.2.2.2.2.1 i j hi hj
theorem xs_face (ht : x_told m b k) {p i : Nat} (hp : p < r_pl k) (h8 : r_pl k ≤ 8) (hi : i < 3) : x_face m b (nI p) (nI i) = r_fc k p i := by
  rw [x_face, show (3 : Int32) = nI 3 from rfl, pk_mul, nI_add, q_at_n (by omega) (by decide), Nat.mul_comm]
  exact ht.2.2.2.2.2.2.1 p i hp hi
theorem xs_road (ht : x_told m b k) {p : Nat} (hp : p < 8) : x_road m b (nI p) = nI (r_rd k p) := by
  rw [x_road, q_at_n hp (by decide)]; exact ht.2.2.2.2.2.2.2.1 p hp
theorem xs_shove (ht : x_told m b k) {q i : Nat} (hq : q < r_pu k) (h4 : r_pu k ≤ 4) (hi : i < 3) : x_shove m b (nI q) (nI i) = nI (r_sv k q i) := by
  rw [x_shove, show (3 : Int32) = nI 3 from rfl, pk_mul, nI_add, q_at_n (by omega) (by decide), Nat.mul_comm]
  exact ht.2.2.2.2.2.2.2.2 q i hq hi
theorem xs_later (h : r_ok k) (hx : x_rock m b k) {s : Nat} (hs : s < r_S k) : x_later m b (nI s) = nI (r_ad k s 1) := by
  rw [x_later, q_at_n (by have := (r_Sle h).2; omega) (by decide)]; exact hx.2.2.2.2.2 s hs
theorem xs_lit (h : r_ok k) (hx : x_rock m b k) {s : Nat} (hs : s < r_S k) : x_lit m b (nI s) = nI (r_ls k s) := by
  rw [x_lit, q_at_n (by have := (r_Sle h).2; omega) (by decide)]; exact hx.2.2.2.2.1 s hs
theorem r_ls_lt (h : r_ok k) (s : Nat) : r_ls k s < 256 := by
  have h1 := r_set_lt (fun p => r_lt k p s) (r_pl k)
  have h2 : 2 ^ r_pl k ≤ 2 ^ 8 := Nat.pow_le_pow_right (by decide) h.2.1
  have h3 : (2 : Nat) ^ 8 = 256 := by decide
  have h4 : r_ls k s < 2 ^ r_pl k := h1
  omega
theorem xs_litBit (h : r_ok k) (hx : x_rock m b k) {p s : Nat} (hp : p < r_pl k) (hs : s < r_S k) : q_bit (x_lit m b (nI s)) (nI p) = if r_lt k p s then 1 else 0 := by
  have h1 := r_ls_lt h s
  have h2 : r_pl k ≤ 8 := h.2.1
  rw [xs_lit h hx hs, q_bit_n (by omega) (by omega), r_ls, r_set_bit]
  by_cases c : r_lt k p s = true
  · rw [if_pos ⟨hp, c⟩, if_pos c]; rfl
  · rw [if_neg (fun z => c z.2), if_neg c]; rfl
theorem p4_heightOf (h : r_ok k) (hs : q_rk sh b) (ht : x_told m b k) (hw : x_wts m b k) {p s : Nat} (hp : p < r_pl k) (hs31 : s < 2 ^ 31) (hR : R (some (.int (r_ht k p s))) sh m) : wX4_heightOf [.ref b, .int (nI p), .int (nI s)] sh m R := by
  have h0 := q_cls_of hs.1
  obtain ⟨h3, h8, -⟩ := id h
  refine eX4_heightOf ?_
  simp only [o_no, o_cut, o_ic, o_lc, o_str, o_il, o_ll, o_al, o_is, o_as, o_inc, o_iadd, o_isub, o_imul, o_iand, o_ior, o_ishl, o_ishr, o_iushr, o_idiv, o_irem, o_ladd, o_lmul, o_land, o_lor, o_lrem, o_lshl, o_lshr, o_lcmp, o_i2l, o_l2i, o_dup, o_dup2, o_ifeq, o_ifne, o_iflt, o_ifge, o_ifgt, o_ifle, o_iceq, o_icne, o_iclt, o_icge, o_icgt, o_icle, o_sw, o_iret, o_zret, o_vret, o_getf, o_putf, o_putz, o_putr, o_iald, o_zald, o_iast, o_zast, o_alen, o_aald, o_aast, o_obj_e, o_mmax_e, o_mmin_e, o_gsc, o_gsf, o_sval, o_scod, o_salen, o_sbald, o_i2c, o_pop, o_nret, o_call_0, o_call_1, o_call_2, o_call_3, o_call_4, o_call_5, o_call_6, o_call_7, o_callV_0, o_callV_1, o_callV_2, o_callV_3, o_callV_4, o_callV_5, o_callV_6, o_callT_0, o_callT_1, q_cn_0, q_cn_i, q_cn_r, q_cn_a, q_cn_l, q_cat_eq, q_nl_none, q_nl_sn, q_nl_i, q_nl_r, q_nl_a, q_vp_0, q_vp_1, q_vp_2, q_vp_3, q_vp_4, q_vp_5, q_vp_6, q_vp_7, q_vp_8, List.getElem?_cons_zero, List.getElem?_cons_succ, List.getElem?_nil, List.set_cons_zero, List.set_cons_succ, List.set_nil, Option.toList_some, Option.toList_none, List.cons_append, List.nil_append, Nat.reduceAdd, Nat.reduceSub, Nat.reduceLeDiff, Nat.add_zero, Nat.zero_add, Nat.reduceLT, Nat.zero_le, true_and, and_true, Value.category, true_or, or_true, q_z10, q_z01, Int32.reduceLT, Int32.reduceLE, Int32.reduceToNatClampNeg, not_true_eq_false, not_false_eq_true, false_implies, true_implies, implies_true, BX4_heightOf_0, BX4_heightOf_44, BX4_heightOf_14, BX4_heightOf_5, rmX4_heightOf, h0, hs.1, q_R0_same]
  have loop : ∀ d n, n + d = r_tn k → q_WP TX4_heightOf 5 [some (.ref b), some (.int (nI p)), some (.int (nI s)), some (.int (r_hs (fun i => r_fc k p i * r_pt k i (r_dg k s i)) n)), some (.int (nI n))] [] sh m (q_R0 sh rmX4_heightOf R) := by
    intro d
    induction d with
    | zero =>
      intro n hn
      refine uX4_heightOf_5 ?_
      simp only [o_no, o_cut, o_ic, o_lc, o_str, o_il, o_ll, o_al, o_is, o_as, o_inc, o_iadd, o_isub, o_imul, o_iand, o_ior, o_ishl, o_ishr, o_iushr, o_idiv, o_irem, o_ladd, o_lmul, o_land, o_lor, o_lrem, o_lshl, o_lshr, o_lcmp, o_i2l, o_l2i, o_dup, o_dup2, o_ifeq, o_ifne, o_iflt, o_ifge, o_ifgt, o_ifle, o_iceq, o_icne, o_iclt, o_icge, o_icgt, o_icle, o_sw, o_iret, o_zret, o_vret, o_getf, o_putf, o_putz, o_putr, o_iald, o_zald, o_iast, o_zast, o_alen, o_aald, o_aast, o_obj_e, o_mmax_e, o_mmin_e, o_gsc, o_gsf, o_sval, o_scod, o_salen, o_sbald, o_i2c, o_pop, o_nret, o_call_0, o_call_1, o_call_2, o_call_3, o_call_4, o_call_5, o_call_6, o_call_7, o_callV_0, o_callV_1, o_callV_2, o_callV_3, o_callV_4, o_callV_5, o_callV_6, o_callT_0, o_callT_1, q_cn_0, q_cn_i, q_cn_r, q_cn_a, q_cn_l, q_cat_eq, q_nl_none, q_nl_sn, q_nl_i, q_nl_r, q_nl_a, q_vp_0, q_vp_1, q_vp_2, q_vp_3, q_vp_4, q_vp_5, q_vp_6, q_vp_7, q_vp_8, List.getElem?_cons_zero, List.getElem?_cons_succ, List.getElem?_nil, List.set_cons_zero, List.set_cons_succ, List.set_nil, Option.toList_some, Option.toList_none, List.cons_append, List.nil_append, Nat.reduceAdd, Nat.reduceSub, Nat.reduceLeDiff, Nat.add_zero, Nat.zero_add, Nat.reduceLT, Nat.zero_le, true_and, and_true, Value.category, true_or, or_true, q_z10, q_z01, Int32.reduceLT, Int32.reduceLE, Int32.reduceToNatClampNeg, not_true_eq_false, not_false_eq_true, false_implies, true_implies, implies_true, BX4_heightOf_0, BX4_heightOf_44, BX4_heightOf_14, BX4_heightOf_5, rmX4_heightOf, h0, hs.1, q_R0_same]
      refine ⟨fun _ => ?_, fun c => ?_⟩
      · rw [show n = r_tn k by omega]; exact hR
      · exact absurd (by rw [ht.1]; exact nI_le (by omega) (by omega)) c
    | succ d ih =>
      intro n hn
      refine uX4_heightOf_5 ?_
      simp only [o_no, o_cut, o_ic, o_lc, o_str, o_il, o_ll, o_al, o_is, o_as, o_inc, o_iadd, o_isub, o_imul, o_iand, o_ior, o_ishl, o_ishr, o_iushr, o_idiv, o_irem, o_ladd, o_lmul, o_land, o_lor, o_lrem, o_lshl, o_lshr, o_lcmp, o_i2l, o_l2i, o_dup, o_dup2, o_ifeq, o_ifne, o_iflt, o_ifge, o_ifgt, o_ifle, o_iceq, o_icne, o_iclt, o_icge, o_icgt, o_icle, o_sw, o_iret, o_zret, o_vret, o_getf, o_putf, o_putz, o_putr, o_iald, o_zald, o_iast, o_zast, o_alen, o_aald, o_aast, o_obj_e, o_mmax_e, o_mmin_e, o_gsc, o_gsf, o_sval, o_scod, o_salen, o_sbald, o_i2c, o_pop, o_nret, o_call_0, o_call_1, o_call_2, o_call_3, o_call_4, o_call_5, o_call_6, o_call_7, o_callV_0, o_callV_1, o_callV_2, o_callV_3, o_callV_4, o_callV_5, o_callV_6, o_callT_0, o_callT_1, q_cn_0, q_cn_i, q_cn_r, q_cn_a, q_cn_l, q_cat_eq, q_nl_none, q_nl_sn, q_nl_i, q_nl_r, q_nl_a, q_vp_0, q_vp_1, q_vp_2, q_vp_3, q_vp_4, q_vp_5, q_vp_6, q_vp_7, q_vp_8, List.getElem?_cons_zero, List.getElem?_cons_succ, List.getElem?_nil, List.set_cons_zero, List.set_cons_succ, List.set_nil, Option.toList_some, Option.toList_none, List.cons_append, List.nil_append, Nat.reduceAdd, Nat.reduceSub, Nat.reduceLeDiff, Nat.add_zero, Nat.zero_add, Nat.reduceLT, Nat.zero_le, true_and, and_true, Value.category, true_or, or_true, q_z10, q_z01, Int32.reduceLT, Int32.reduceLE, Int32.reduceToNatClampNeg, not_true_eq_false, not_false_eq_true, false_implies, true_implies, implies_true, BX4_heightOf_0, BX4_heightOf_44, BX4_heightOf_14, BX4_heightOf_5, rmX4_heightOf, h0, hs.1, q_R0_same]
      refine ⟨fun c => ?_, fun _ => ?_⟩
      · rw [ht.1] at c; exact absurd c (nI_ge (by omega) (by omega))
      · refine p4_face hs ?_
        simp only [o_no, o_cut, o_ic, o_lc, o_str, o_il, o_ll, o_al, o_is, o_as, o_inc, o_iadd, o_isub, o_imul, o_iand, o_ior, o_ishl, o_ishr, o_iushr, o_idiv, o_irem, o_ladd, o_lmul, o_land, o_lor, o_lrem, o_lshl, o_lshr, o_lcmp, o_i2l, o_l2i, o_dup, o_dup2, o_ifeq, o_ifne, o_iflt, o_ifge, o_ifgt, o_ifle, o_iceq, o_icne, o_iclt, o_icge, o_icgt, o_icle, o_sw, o_iret, o_zret, o_vret, o_getf, o_putf, o_putz, o_putr, o_iald, o_zald, o_iast, o_zast, o_alen, o_aald, o_aast, o_obj_e, o_mmax_e, o_mmin_e, o_gsc, o_gsf, o_sval, o_scod, o_salen, o_sbald, o_i2c, o_pop, o_nret, o_call_0, o_call_1, o_call_2, o_call_3, o_call_4, o_call_5, o_call_6, o_call_7, o_callV_0, o_callV_1, o_callV_2, o_callV_3, o_callV_4, o_callV_5, o_callV_6, o_callT_0, o_callT_1, q_cn_0, q_cn_i, q_cn_r, q_cn_a, q_cn_l, q_cat_eq, q_nl_none, q_nl_sn, q_nl_i, q_nl_r, q_nl_a, q_vp_0, q_vp_1, q_vp_2, q_vp_3, q_vp_4, q_vp_5, q_vp_6, q_vp_7, q_vp_8, List.getElem?_cons_zero, List.getElem?_cons_succ, List.getElem?_nil, List.set_cons_zero, List.set_cons_succ, List.set_nil, Option.toList_some, Option.toList_none, List.cons_append, List.nil_append, Nat.reduceAdd, Nat.reduceSub, Nat.reduceLeDiff, Nat.add_zero, Nat.zero_add, Nat.reduceLT, Nat.zero_le, true_and, and_true, Value.category, true_or, or_true, q_z10, q_z01, Int32.reduceLT, Int32.reduceLE, Int32.reduceToNatClampNeg, not_true_eq_false, not_false_eq_true, false_implies, true_implies, implies_true, BX4_heightOf_0, BX4_heightOf_44, BX4_heightOf_14, BX4_heightOf_5, rmX4_heightOf, h0, hs.1, q_R0_same]
        refine p4_digit hs ?_
        simp only [o_no, o_cut, o_ic, o_lc, o_str, o_il, o_ll, o_al, o_is, o_as, o_inc, o_iadd, o_isub, o_imul, o_iand, o_ior, o_ishl, o_ishr, o_iushr, o_idiv, o_irem, o_ladd, o_lmul, o_land, o_lor, o_lrem, o_lshl, o_lshr, o_lcmp, o_i2l, o_l2i, o_dup, o_dup2, o_ifeq, o_ifne, o_iflt, o_ifge, o_ifgt, o_ifle, o_iceq, o_icne, o_iclt, o_icge, o_icgt, o_icle, o_sw, o_iret, o_zret, o_vret, o_getf, o_putf, o_putz, o_putr, o_iald, o_zald, o_iast, o_zast, o_alen, o_aald, o_aast, o_obj_e, o_mmax_e, o_mmin_e, o_gsc, o_gsf, o_sval, o_scod, o_salen, o_sbald, o_i2c, o_pop, o_nret, o_call_0, o_call_1, o_call_2, o_call_3, o_call_4, o_call_5, o_call_6, o_call_7, o_callV_0, o_callV_1, o_callV_2, o_callV_3, o_callV_4, o_callV_5, o_callV_6, o_callT_0, o_callT_1, q_cn_0, q_cn_i, q_cn_r, q_cn_a, q_cn_l, q_cat_eq, q_nl_none, q_nl_sn, q_nl_i, q_nl_r, q_nl_a, q_vp_0, q_vp_1, q_vp_2, q_vp_3, q_vp_4, q_vp_5, q_vp_6, q_vp_7, q_vp_8, List.getElem?_cons_zero, List.getElem?_cons_succ, List.getElem?_nil, List.set_cons_zero, List.set_cons_succ, List.set_nil, Option.toList_some, Option.toList_none, List.cons_append, List.nil_append, Nat.reduceAdd, Nat.reduceSub, Nat.reduceLeDiff, Nat.add_zero, Nat.zero_add, Nat.reduceLT, Nat.zero_le, true_and, and_true, Value.category, true_or, or_true, q_z10, q_z01, Int32.reduceLT, Int32.reduceLE, Int32.reduceToNatClampNeg, not_true_eq_false, not_false_eq_true, false_implies, true_implies, implies_true, BX4_heightOf_0, BX4_heightOf_44, BX4_heightOf_14, BX4_heightOf_5, rmX4_heightOf, h0, hs.1, q_R0_same]
        refine p4_part hs ?_
        simp only [o_no, o_cut, o_ic, o_lc, o_str, o_il, o_ll, o_al, o_is, o_as, o_inc, o_iadd, o_isub, o_imul, o_iand, o_ior, o_ishl, o_ishr, o_iushr, o_idiv, o_irem, o_ladd, o_lmul, o_land, o_lor, o_lrem, o_lshl, o_lshr, o_lcmp, o_i2l, o_l2i, o_dup, o_dup2, o_ifeq, o_ifne, o_iflt, o_ifge, o_ifgt, o_ifle, o_iceq, o_icne, o_iclt, o_icge, o_icgt, o_icle, o_sw, o_iret, o_zret, o_vret, o_getf, o_putf, o_putz, o_putr, o_iald, o_zald, o_iast, o_zast, o_alen, o_aald, o_aast, o_obj_e, o_mmax_e, o_mmin_e, o_gsc, o_gsf, o_sval, o_scod, o_salen, o_sbald, o_i2c, o_pop, o_nret, o_call_0, o_call_1, o_call_2, o_call_3, o_call_4, o_call_5, o_call_6, o_call_7, o_callV_0, o_callV_1, o_callV_2, o_callV_3, o_callV_4, o_callV_5, o_callV_6, o_callT_0, o_callT_1, q_cn_0, q_cn_i, q_cn_r, q_cn_a, q_cn_l, q_cat_eq, q_nl_none, q_nl_sn, q_nl_i, q_nl_r, q_nl_a, q_vp_0, q_vp_1, q_vp_2, q_vp_3, q_vp_4, q_vp_5, q_vp_6, q_vp_7, q_vp_8, List.getElem?_cons_zero, List.getElem?_cons_succ, List.getElem?_nil, List.set_cons_zero, List.set_cons_succ, List.set_nil, Option.toList_some, Option.toList_none, List.cons_append, List.nil_append, Nat.reduceAdd, Nat.reduceSub, Nat.reduceLeDiff, Nat.add_zero, Nat.zero_add, Nat.reduceLT, Nat.zero_le, true_and, and_true, Value.category, true_or, or_true, q_z10, q_z01, Int32.reduceLT, Int32.reduceLE, Int32.reduceToNatClampNeg, not_true_eq_false, not_false_eq_true, false_implies, true_implies, implies_true, BX4_heightOf_0, BX4_heightOf_44, BX4_heightOf_14, BX4_heightOf_5, rmX4_heightOf, h0, hs.1, q_R0_same]
        rw [xs_digit h ht hw hs31 (by omega), xs_face ht hp h8 (by omega), xs_part ht (by omega) h3 (r_dglt h s n) (r_Npos h n).2, nI_1]
        exact ih (n + 1) (by omega)
  exact loop (r_tn k) 0 (by omega)
end XS
