/-! What was seen. -/
abbrev SN : Type := List (Nat × Nat × Bool)
def s_P (k : RK) (o : Nat × Nat × Bool) (code : Nat) : Bool := r_lt k o.1 (r_ad k code o.2.1) == o.2.2
def s_Q (k : RK) (l : SN) (code : Nat) : Bool := l.all (fun o => s_P k o code)
def s_L (k : RK) (l : SN) : List Nat := (List.range (r_S k)).filter (s_Q k l)
def s_ok (k : RK) (l : SN) : Prop := l.length ≤ 20 ∧ ∀ o, o ∈ l → o.1 < r_pl k ∧ o.2.1 ≤ 9999
def x_fits (m : q_Mm) (L : List Nat) : Prop := m 9 1 = nI L.length ∧ ∀ i v, L[i]? = some v → m 10 i = nI v
theorem q_snoc {A : List Nat} {v w j : Nat} (h : (A ++ [v])[j]? = some w) : A[j]? = some w ∨ (j = A.length ∧ w = v) := by
  rcases Nat.lt_or_ge j A.length with q | q
  · rw [List.getElem?_append_left q] at h; exact Or.inl h
  · rw [List.getElem?_append_right q] at h
    rcases Nat.eq_zero_or_pos (j - A.length) with y | y
    · rw [y, List.getElem?_cons_zero] at h
      exact Or.inr ⟨by omega, (Option.some.inj h).symm⟩
    · rw [List.getElem?_eq_none (by simp only [List.length_cons, List.length_nil]; omega)] at h
      exact absurd h (by simp)
theorem s_L_app (k : RK) (l : SN) (o : Nat × Nat × Bool) : s_L k (l ++ [o]) = (s_L k l).filter (s_P k o) := by
  rw [s_L, s_L, List.filter_filter]
  congr 1
  funext code
  rw [s_Q, List.all_append, List.all_cons, List.all_nil, Bool.and_true, Bool.and_comm]
  rfl
theorem s_L_lt {k : RK} {l : SN} {v : Nat} (h : v ∈ s_L k l) : v < r_S k := List.mem_range.mp (List.mem_filter.mp h).1
theorem s_L_len (k : RK) (l : SN) : (s_L k l).length ≤ r_S k := by
  have := List.length_filter_le (s_Q k l) (List.range (r_S k))
  rw [List.length_range] at this
  exact this
theorem s_L_nil (k : RK) : s_L k [] = List.range (r_S k) := by
  rw [s_L]
  exact List.filter_eq_self.mpr (fun _ _ => rfl)
section SI
variable {m : q_Mm} {rb sb c s : Nat} {k : RK} {sh : q_Sh} {R : q_KR} {l : SN}
theorem p6_forget (x9 : sh[9]? = some (.inl (6, [none, none, none, none, none, none, some (.ref 10), some (.ref 11)]))) (y10 : sh[10]? = some (.inr (.inl (0, 1728)))) (hr : q_rk sh rb) (hk : r_ok k) (h4 : m rb 4 = nI (r_S k)) (hb9 : rb ≠ 9) (hR : ∀ m', q_bt2 9 10 m m' → m' 9 0 = 0 → m' 9 5 = 0 → x_fits m' (s_L k []) → R none sh m') : wX6_forget [.ref 9, .ref rb] sh m R := by
  have hSl := (r_Sle hk).2
  refine eX6_forget ?_
  simp only [o_no, o_cut, o_ic, o_lc, o_str, o_il, o_ll, o_al, o_is, o_as, o_inc, o_iadd, o_isub, o_imul, o_iand, o_ior, o_ishl, o_ishr, o_iushr, o_idiv, o_irem, o_ladd, o_lmul, o_land, o_lor, o_lrem, o_lshl, o_lshr, o_lcmp, o_i2l, o_l2i, o_dup, o_dup2, o_ifeq, o_ifne, o_iflt, o_ifge, o_ifgt, o_ifle, o_iceq, o_icne, o_iclt, o_icge, o_icgt, o_icle, o_sw, o_iret, o_zret, o_vret, o_getf, o_putf, o_putz, o_putr, o_iald, o_zald, o_iast, o_zast, o_alen, o_aald, o_aast, o_obj_e, o_mmax_e, o_mmin_e, o_gsc, o_gsf, o_sval, o_scod, o_salen, o_sbald, o_i2c, o_pop, o_nret, o_call_0, o_call_1, o_call_2, o_call_3, o_call_4, o_call_5, o_call_6, o_call_7, o_callV_0, o_callV_1, o_callV_2, o_callV_3, o_callV_4, o_callV_5, o_callV_6, o_callT_0, o_callT_1, q_cn_0, q_cn_i, q_cn_r, q_cn_a, q_cn_l, q_cat_eq, q_nl_none, q_nl_sn, q_nl_i, q_nl_r, q_nl_a, q_vp_0, q_vp_1, q_vp_2, q_vp_3, q_vp_4, q_vp_5, q_vp_6, q_vp_7, q_vp_8, List.getElem?_cons_zero, List.getElem?_cons_succ, List.getElem?_nil, List.set_cons_zero, List.set_cons_succ, List.set_nil, Option.toList_some, Option.toList_none, List.cons_append, List.nil_append, Nat.reduceAdd, Nat.reduceSub, Nat.reduceLeDiff, Nat.add_zero, Nat.zero_add, Nat.reduceLT, Nat.zero_le, true_and, and_true, Value.category, true_or, or_true, q_z10, q_z01, Int32.reduceLT, Int32.reduceLE, Int32.reduceToNatClampNeg, not_true_eq_false, not_false_eq_true, false_implies, true_implies, implies_true, BX6_forget_0, BX6_forget_49, BX6_forget_34, BX6_forget_26, rmX6_forget, x9, q_cls_of x9, q_R0_same, q_cls_of hr.1, hr.1, q_up_app, hb9, false_and, if_false]
  rw [h4, show (1728 : Int32) = nI 1728 from rfl, nI_min (by omega) (by decide), Nat.min_eq_left hSl]
  obtain ⟨m0, e0⟩ : ∃ m0, m0 = q_up (q_up (q_up m 9 0 0) 9 5 0) 9 1 (nI (r_S k)) := ⟨_, rfl⟩
  rw [← e0]
  have loop : ∀ d n (m1 : q_Mm), n + d = r_S k → q_but 10 m0 m1 → (∀ j, j < n → m1 10 j = nI j) → q_WP TX6_forget 26 [some (.ref 9), some (.ref rb), some (.int (nI n))] [] sh m1 (q_R0 sh rmX6_forget R) := by
    intro d
    induction d with
    | zero =>
      intro n m1 hn hb h1
      have e1 : m1 9 1 = nI (r_S k) := by rw [hb 9 (by decide), e0, q_up_app, if_pos ⟨rfl, rfl⟩]
      refine uX6_forget_26 ?_
      simp only [o_no, o_cut, o_ic, o_lc, o_str, o_il, o_ll, o_al, o_is, o_as, o_inc, o_iadd, o_isub, o_imul, o_iand, o_ior, o_ishl, o_ishr, o_iushr, o_idiv, o_irem, o_ladd, o_lmul, o_land, o_lor, o_lrem, o_lshl, o_lshr, o_lcmp, o_i2l, o_l2i, o_dup, o_dup2, o_ifeq, o_ifne, o_iflt, o_ifge, o_ifgt, o_ifle, o_iceq, o_icne, o_iclt, o_icge, o_icgt, o_icle, o_sw, o_iret, o_zret, o_vret, o_getf, o_putf, o_putz, o_putr, o_iald, o_zald, o_iast, o_zast, o_alen, o_aald, o_aast, o_obj_e, o_mmax_e, o_mmin_e, o_gsc, o_gsf, o_sval, o_scod, o_salen, o_sbald, o_i2c, o_pop, o_nret, o_call_0, o_call_1, o_call_2, o_call_3, o_call_4, o_call_5, o_call_6, o_call_7, o_callV_0, o_callV_1, o_callV_2, o_callV_3, o_callV_4, o_callV_5, o_callV_6, o_callT_0, o_callT_1, q_cn_0, q_cn_i, q_cn_r, q_cn_a, q_cn_l, q_cat_eq, q_nl_none, q_nl_sn, q_nl_i, q_nl_r, q_nl_a, q_vp_0, q_vp_1, q_vp_2, q_vp_3, q_vp_4, q_vp_5, q_vp_6, q_vp_7, q_vp_8, List.getElem?_cons_zero, List.getElem?_cons_succ, List.getElem?_nil, List.set_cons_zero, List.set_cons_succ, List.set_nil, Option.toList_some, Option.toList_none, List.cons_append, List.nil_append, Nat.reduceAdd, Nat.reduceSub, Nat.reduceLeDiff, Nat.add_zero, Nat.zero_add, Nat.reduceLT, Nat.zero_le, true_and, and_true, Value.category, true_or, or_true, q_z10, q_z01, Int32.reduceLT, Int32.reduceLE, Int32.reduceToNatClampNeg, not_true_eq_false, not_false_eq_true, false_implies, true_implies, implies_true, BX6_forget_0, BX6_forget_49, BX6_forget_34, BX6_forget_26, rmX6_forget, x9, q_cls_of x9, q_R0_same]
      rw [e1]
      refine ⟨fun _ => ?_, fun q => absurd (nI_le (by omega) (by omega)) q⟩
      refine hR m1 (fun a h1 h2 => ?_) ?_ ?_ ⟨?_, fun i v hv => ?_⟩
      · rw [hb a h2, e0, q_up_o h1, q_up_o h1, q_up_o h1]
      · rw [hb 9 (by decide), e0, q_up_app, if_neg (by decide), q_up_app, if_neg (by decide), q_up_app, if_pos ⟨rfl, rfl⟩]
      · rw [hb 9 (by decide), e0, q_up_app, if_neg (by decide), q_up_app, if_pos ⟨rfl, rfl⟩]
      · rw [e1, s_L_nil, List.length_range]
      · rw [s_L_nil] at hv
        obtain ⟨hi, hv⟩ := List.getElem?_eq_some_iff.mp hv
        rw [List.length_range] at hi
        rw [List.getElem_range] at hv
        rw [h1 i (by omega), hv]
    | succ d ih =>
      intro n m1 hn hb h1
      have e1 : m1 9 1 = nI (r_S k) := by rw [hb 9 (by decide), e0, q_up_app, if_pos ⟨rfl, rfl⟩]
      refine uX6_forget_26 ?_
      simp only [o_no, o_cut, o_ic, o_lc, o_str, o_il, o_ll, o_al, o_is, o_as, o_inc, o_iadd, o_isub, o_imul, o_iand, o_ior, o_ishl, o_ishr, o_iushr, o_idiv, o_irem, o_ladd, o_lmul, o_land, o_lor, o_lrem, o_lshl, o_lshr, o_lcmp, o_i2l, o_l2i, o_dup, o_dup2, o_ifeq, o_ifne, o_iflt, o_ifge, o_ifgt, o_ifle, o_iceq, o_icne, o_iclt, o_icge, o_icgt, o_icle, o_sw, o_iret, o_zret, o_vret, o_getf, o_putf, o_putz, o_putr, o_iald, o_zald, o_iast, o_zast, o_alen, o_aald, o_aast, o_obj_e, o_mmax_e, o_mmin_e, o_gsc, o_gsf, o_sval, o_scod, o_salen, o_sbald, o_i2c, o_pop, o_nret, o_call_0, o_call_1, o_call_2, o_call_3, o_call_4, o_call_5, o_call_6, o_call_7, o_callV_0, o_callV_1, o_callV_2, o_callV_3, o_callV_4, o_callV_5, o_callV_6, o_callT_0, o_callT_1, q_cn_0, q_cn_i, q_cn_r, q_cn_a, q_cn_l, q_cat_eq, q_nl_none, q_nl_sn, q_nl_i, q_nl_r, q_nl_a, q_vp_0, q_vp_1, q_vp_2, q_vp_3, q_vp_4, q_vp_5, q_vp_6, q_vp_7, q_vp_8, List.getElem?_cons_zero, List.getElem?_cons_succ, List.getElem?_nil, List.set_cons_zero, List.set_cons_succ, List.set_nil, Option.toList_some, Option.toList_none, List.cons_append, List.nil_append, Nat.reduceAdd, Nat.reduceSub, Nat.reduceLeDiff, Nat.add_zero, Nat.zero_add, Nat.reduceLT, Nat.zero_le, true_and, and_true, Value.category, true_or, or_true, q_z10, q_z01, Int32.reduceLT, Int32.reduceLE, Int32.reduceToNatClampNeg, not_true_eq_false, not_false_eq_true, false_implies, true_implies, implies_true, BX6_forget_0, BX6_forget_49, BX6_forget_34, BX6_forget_26, rmX6_forget, x9, q_cls_of x9, q_R0_same]
      rw [e1]
      refine ⟨fun q => absurd q (nI_ge (by omega) (by omega)), fun _ => ?_⟩
      refine p8_put y10 (by decide) ?_
      rw [q_pt_n (by omega) (by decide)]
      simp only [o_no, o_cut, o_ic, o_lc, o_str, o_il, o_ll, o_al, o_is, o_as, o_inc, o_iadd, o_isub, o_imul, o_iand, o_ior, o_ishl, o_ishr, o_iushr, o_idiv, o_irem, o_ladd, o_lmul, o_land, o_lor, o_lrem, o_lshl, o_lshr, o_lcmp, o_i2l, o_l2i, o_dup, o_dup2, o_ifeq, o_ifne, o_iflt, o_ifge, o_ifgt, o_ifle, o_iceq, o_icne, o_iclt, o_icge, o_icgt, o_icle, o_sw, o_iret, o_zret, o_vret, o_getf, o_putf, o_putz, o_putr, o_iald, o_zald, o_iast, o_zast, o_alen, o_aald, o_aast, o_obj_e, o_mmax_e, o_mmin_e, o_gsc, o_gsf, o_sval, o_scod, o_salen, o_sbald, o_i2c, o_pop, o_nret, o_call_0, o_call_1, o_call_2, o_call_3, o_call_4, o_call_5, o_call_6, o_call_7, o_callV_0, o_callV_1, o_callV_2, o_callV_3, o_callV_4, o_callV_5, o_callV_6, o_callT_0, o_callT_1, q_cn_0, q_cn_i, q_cn_r, q_cn_a, q_cn_l, q_cat_eq, q_nl_none, q_nl_sn, q_nl_i, q_nl_r, q_nl_a, q_vp_0, q_vp_1, q_vp_2, q_vp_3, q_vp_4, q_vp_5, q_vp_6, q_vp_7, q_vp_8, List.getElem?_cons_zero, List.getElem?_cons_succ, List.getElem?_nil, List.set_cons_zero, List.set_cons_succ, List.set_nil, Option.toList_some, Option.toList_none, List.cons_append, List.nil_append, Nat.reduceAdd, Nat.reduceSub, Nat.reduceLeDiff, Nat.add_zero, Nat.zero_add, Nat.reduceLT, Nat.zero_le, true_and, and_true, Value.category, true_or, or_true, q_z10, q_z01, Int32.reduceLT, Int32.reduceLE, Int32.reduceToNatClampNeg, not_true_eq_false, not_false_eq_true, false_implies, true_implies, implies_true, BX6_forget_0, BX6_forget_49, BX6_forget_34, BX6_forget_26, rmX6_forget, x9, q_cls_of x9, q_R0_same]
      rw [nI_1]
      refine ih (n + 1) _ (by omega) (hb.tr q_but.up) (fun j hj => ?_)
      rw [q_up_app]
      by_cases y : j = n
      · rw [if_pos ⟨rfl, y⟩, y]
      · rw [if_neg (fun q => y q.2)]; exact h1 j (by omega)
  have := loop (r_S k) 0 m0 (by omega) q_but.rf (fun j hj => by omega)
  exact this
theorem p6_fitAt {i : Nat} (x9 : sh[9]? = some (.inl (6, [none, none, none, none, none, none, some (.ref 10), some (.ref 11)]))) (y10 : sh[10]? = some (.inr (.inl (0, 1728)))) (hi : i < 1728) (hR : R (some (.int (m 10 i))) sh m) : wX6_fitAt [.ref 9, .int (nI i)] sh m R := by
  refine eX6_fitAt ?_
  simp only [o_no, o_cut, o_ic, o_lc, o_str, o_il, o_ll, o_al, o_is, o_as, o_inc, o_iadd, o_isub, o_imul, o_iand, o_ior, o_ishl, o_ishr, o_iushr, o_idiv, o_irem, o_ladd, o_lmul, o_land, o_lor, o_lrem, o_lshl, o_lshr, o_lcmp, o_i2l, o_l2i, o_dup, o_dup2, o_ifeq, o_ifne, o_iflt, o_ifge, o_ifgt, o_ifle, o_iceq, o_icne, o_iclt, o_icge, o_icgt, o_icle, o_sw, o_iret, o_zret, o_vret, o_getf, o_putf, o_putz, o_putr, o_iald, o_zald, o_iast, o_zast, o_alen, o_aald, o_aast, o_obj_e, o_mmax_e, o_mmin_e, o_gsc, o_gsf, o_sval, o_scod, o_salen, o_sbald, o_i2c, o_pop, o_nret, o_call_0, o_call_1, o_call_2, o_call_3, o_call_4, o_call_5, o_call_6, o_call_7, o_callV_0, o_callV_1, o_callV_2, o_callV_3, o_callV_4, o_callV_5, o_callV_6, o_callT_0, o_callT_1, q_cn_0, q_cn_i, q_cn_r, q_cn_a, q_cn_l, q_cat_eq, q_nl_none, q_nl_sn, q_nl_i, q_nl_r, q_nl_a, q_vp_0, q_vp_1, q_vp_2, q_vp_3, q_vp_4, q_vp_5, q_vp_6, q_vp_7, q_vp_8, List.getElem?_cons_zero, List.getElem?_cons_succ, List.getElem?_nil, List.set_cons_zero, List.set_cons_succ, List.set_nil, Option.toList_some, Option.toList_none, List.cons_append, List.nil_append, Nat.reduceAdd, Nat.reduceSub, Nat.reduceLeDiff, Nat.add_zero, Nat.zero_add, Nat.reduceLT, Nat.zero_le, true_and, and_true, Value.category, true_or, or_true, q_z10, q_z01, Int32.reduceLT, Int32.reduceLE, Int32.reduceToNatClampNeg, not_true_eq_false, not_false_eq_true, false_implies, true_implies, implies_true, BX6_fitAt_0, rmX6_fitAt, x9, q_cls_of x9, q_R0_same]
  refine p8_at y10 (by decide) ?_
  simp only [o_no, o_cut, o_ic, o_lc, o_str, o_il, o_ll, o_al, o_is, o_as, o_inc, o_iadd, o_isub, o_imul, o_iand, o_ior, o_ishl, o_ishr, o_iushr, o_idiv, o_irem, o_ladd, o_lmul, o_land, o_lor, o_lrem, o_lshl, o_lshr, o_lcmp, o_i2l, o_l2i, o_dup, o_dup2, o_ifeq, o_ifne, o_iflt, o_ifge, o_ifgt, o_ifle, o_iceq, o_icne, o_iclt, o_icge, o_icgt, o_icle, o_sw, o_iret, o_zret, o_vret, o_getf, o_putf, o_putz, o_putr, o_iald, o_zald, o_iast, o_zast, o_alen, o_aald, o_aast, o_obj_e, o_mmax_e, o_mmin_e, o_gsc, o_gsf, o_sval, o_scod, o_salen, o_sbald, o_i2c, o_pop, o_nret, o_call_0, o_call_1, o_call_2, o_call_3, o_call_4, o_call_5, o_call_6, o_call_7, o_callV_0, o_callV_1, o_callV_2, o_callV_3, o_callV_4, o_callV_5, o_callV_6, o_callT_0, o_callT_1, q_cn_0, q_cn_i, q_cn_r, q_cn_a, q_cn_l, q_cat_eq, q_nl_none, q_nl_sn, q_nl_i, q_nl_r, q_nl_a, q_vp_0, q_vp_1, q_vp_2, q_vp_3, q_vp_4, q_vp_5, q_vp_6, q_vp_7, q_vp_8, List.getElem?_cons_zero, List.getElem?_cons_succ, List.getElem?_nil, List.set_cons_zero, List.set_cons_succ, List.set_nil, Option.toList_some, Option.toList_none, List.cons_append, List.nil_append, Nat.reduceAdd, Nat.reduceSub, Nat.reduceLeDiff, Nat.add_zero, Nat.zero_add, Nat.reduceLT, Nat.zero_le, true_and, and_true, Value.category, true_or, or_true, q_z10, q_z01, Int32.reduceLT, Int32.reduceLE, Int32.reduceToNatClampNeg, not_true_eq_false, not_false_eq_true, false_implies, true_implies, implies_true, BX6_fitAt_0, rmX6_fitAt, x9, q_cls_of x9, q_R0_same]
  rw [q_at_n hi (by decide)]
  exact hR
theorem p6_narrow {p st : Nat} {b : Bool} {L : List Nat} (x9 : sh[9]? = some (.inl (6, [none, none, none, none, none, none, some (.ref 10), some (.ref 11)]))) (y10 : sh[10]? = some (.inr (.inl (0, 1728)))) (hr : q_rk sh rb) (hk : r_ok k) (hrb : 10 < rb) (hx : x_rock m rb k) (hp : p < r_pl k) (hst : st ≤ 9999) (hL : L.length ≤ 1728) (hLS : ∀ v, v ∈ L → v < r_S k) (hf : x_fits m L) (hR : ∀ m', q_bt2 9 10 m m' → m' 9 0 = m 9 0 + 1 → m' 9 5 = 0 → x_fits m' (L.filter (s_P k (p, st, b))) → R none sh m') : wX6_narrow [.ref 9, .ref rb, .int (nI p), .int (nI st), .int (if b = true then 1 else 0)] sh m R := by
  have hSl := (r_Sle hk).2
  have h8 : r_pl k ≤ 8 := hk.2.1
  have loop : ∀ (l2 l1 : List Nat) (v8 : Option Value) (m1 : q_Mm), L = l1 ++ l2 → q_but 10 m m1 → (∀ j v, (l1.filter (s_P k (p, st, b)))[j]? = some v → m1 10 j = nI v) → (∀ j, l1.length ≤ j → m1 10 j = m 10 j) → q_WP TX6_narrow 18 [some (.ref 9), some (.ref rb), some (.int (nI p)), some (.int (nI st)), some (.int (if b = true then 1 else 0)), some (.int (if b = true then 1 else 0)), some (.int (nI (l1.filter (s_P k (p, st, b))).length)), some (.int (nI l1.length)), v8] [] sh m1 (q_R0 sh rmX6_narrow R) := by
    intro l2
    induction l2 with
    | nil =>
      intro l1 v8 m1 hl hb h1 h2
      rw [List.append_nil] at hl
      subst hl
      have n910 : (9 : Nat) ≠ 10 := by decide
      refine uX6_narrow_18 ?_
      simp only [o_no, o_cut, o_ic, o_lc, o_str, o_il, o_ll, o_al, o_is, o_as, o_inc, o_iadd, o_isub, o_imul, o_iand, o_ior, o_ishl, o_ishr, o_iushr, o_idiv, o_irem, o_ladd, o_lmul, o_land, o_lor, o_lrem, o_lshl, o_lshr, o_lcmp, o_i2l, o_l2i, o_dup, o_dup2, o_ifeq, o_ifne, o_iflt, o_ifge, o_ifgt, o_ifle, o_iceq, o_icne, o_iclt, o_icge, o_icgt, o_icle, o_sw, o_iret, o_zret, o_vret, o_getf, o_putf, o_putz, o_putr, o_iald, o_zald, o_iast, o_zast, o_alen, o_aald, o_aast, o_obj_e, o_mmax_e, o_mmin_e, o_gsc, o_gsf, o_sval, o_scod, o_salen, o_sbald, o_i2c, o_pop, o_nret, o_call_0, o_call_1, o_call_2, o_call_3, o_call_4, o_call_5, o_call_6, o_call_7, o_callV_0, o_callV_1, o_callV_2, o_callV_3, o_callV_4, o_callV_5, o_callV_6, o_callT_0, o_callT_1, q_cn_0, q_cn_i, q_cn_r, q_cn_a, q_cn_l, q_cat_eq, q_nl_none, q_nl_sn, q_nl_i, q_nl_r, q_nl_a, q_vp_0, q_vp_1, q_vp_2, q_vp_3, q_vp_4, q_vp_5, q_vp_6, q_vp_7, q_vp_8, List.getElem?_cons_zero, List.getElem?_cons_succ, List.getElem?_nil, List.set_cons_zero, List.set_cons_succ, List.set_nil, Option.toList_some, Option.toList_none, List.cons_append, List.nil_append, Nat.reduceAdd, Nat.reduceSub, Nat.reduceLeDiff, Nat.add_zero, Nat.zero_add, Nat.reduceLT, Nat.zero_le, true_and, and_true, Value.category, true_or, or_true, q_z10, q_z01, Int32.reduceLT, Int32.reduceLE, Int32.reduceToNatClampNeg, not_true_eq_false, not_false_eq_true, false_implies, true_implies, implies_true, BX6_narrow_10, BX6_narrow_9, BX6_narrow_5, BX6_narrow_0, BX6_narrow_77, BX6_narrow_71, BX6_narrow_57, BX6_narrow_54, BX6_narrow_27, BX6_narrow_18, rmX6_narrow, x9, q_cls_of x9, q_R0_same, hb 9 n910]
      rw [hf.1]
      refine ⟨fun _ => ?_, fun q => absurd (nI_le (by omega) (by omega)) q⟩
      refine hR _ (fun a g1 g2 => ?_) ?_ ?_ ⟨?_, fun i v hv => ?_⟩
      · rw [q_up_o g1, q_up_o g1, q_up_o g1, hb a g2]
      · rw [q_up_app, if_neg (by decide), q_up_app, if_pos ⟨rfl, rfl⟩, q_up_app, if_neg (by decide), hb 9 n910]
      · rw [q_up_app, if_pos ⟨rfl, rfl⟩]
      · rw [q_up_app, if_neg (by decide), q_up_app, if_neg (by decide), q_up_app, if_pos ⟨rfl, rfl⟩]
      · rw [q_up_o (by decide), q_up_o (by decide), q_up_o (by decide)]; exact h1 i v hv
    | cons v l2 ih =>
      intro l1 v8 m1 hl hb h1 h2
      have hlen : L.length = l1.length + (l2.length + 1) := by rw [hl, List.length_append, List.length_cons]
      have hfl := List.length_filter_le (s_P k (p, st, b)) l1
      have hv : L[l1.length]? = some v := by rw [hl, List.getElem?_append_right (Nat.le_refl _), Nat.sub_self, List.getElem?_cons_zero]
      have hvS : v < r_S k := hLS v (by rw [hl]; simp)
      have hx1 : x_rock m1 rb k := x_rock_but hx hb (by omega)
      have n910 : (9 : Nat) ≠ 10 := by decide
      refine uX6_narrow_18 ?_
      simp only [o_no, o_cut, o_ic, o_lc, o_str, o_il, o_ll, o_al, o_is, o_as, o_inc, o_iadd, o_isub, o_imul, o_iand, o_ior, o_ishl, o_ishr, o_iushr, o_idiv, o_irem, o_ladd, o_lmul, o_land, o_lor, o_lrem, o_lshl, o_lshr, o_lcmp, o_i2l, o_l2i, o_dup, o_dup2, o_ifeq, o_ifne, o_iflt, o_ifge, o_ifgt, o_ifle, o_iceq, o_icne, o_iclt, o_icge, o_icgt, o_icle, o_sw, o_iret, o_zret, o_vret, o_getf, o_putf, o_putz, o_putr, o_iald, o_zald, o_iast, o_zast, o_alen, o_aald, o_aast, o_obj_e, o_mmax_e, o_mmin_e, o_gsc, o_gsf, o_sval, o_scod, o_salen, o_sbald, o_i2c, o_pop, o_nret, o_call_0, o_call_1, o_call_2, o_call_3, o_call_4, o_call_5, o_call_6, o_call_7, o_callV_0, o_callV_1, o_callV_2, o_callV_3, o_callV_4, o_callV_5, o_callV_6, o_callT_0, o_callT_1, q_cn_0, q_cn_i, q_cn_r, q_cn_a, q_cn_l, q_cat_eq, q_nl_none, q_nl_sn, q_nl_i, q_nl_r, q_nl_a, q_vp_0, q_vp_1, q_vp_2, q_vp_3, q_vp_4, q_vp_5, q_vp_6, q_vp_7, q_vp_8, List.getElem?_cons_zero, List.getElem?_cons_succ, List.getElem?_nil, List.set_cons_zero, List.set_cons_succ, List.set_nil, Option.toList_some, Option.toList_none, List.cons_append, List.nil_append, Nat.reduceAdd, Nat.reduceSub, Nat.reduceLeDiff, Nat.add_zero, Nat.zero_add, Nat.reduceLT, Nat.zero_le, true_and, and_true, Value.category, true_or, or_true, q_z10, q_z01, Int32.reduceLT, Int32.reduceLE, Int32.reduceToNatClampNeg, not_true_eq_false, not_false_eq_true, false_implies, true_implies, implies_true, BX6_narrow_10, BX6_narrow_9, BX6_narrow_5, BX6_narrow_0, BX6_narrow_77, BX6_narrow_71, BX6_narrow_57, BX6_narrow_54, BX6_narrow_27, BX6_narrow_18, rmX6_narrow, x9, q_cls_of x9, q_cls_of hr.1, q_R0_same, hb 9 n910]
      rw [hf.1]
      refine ⟨fun q => absurd q (nI_ge (by omega) (by omega)), fun _ => ?_⟩
      refine p6_fitAt x9 y10 (by omega) ?_
      simp only [o_no, o_cut, o_ic, o_lc, o_str, o_il, o_ll, o_al, o_is, o_as, o_inc, o_iadd, o_isub, o_imul, o_iand, o_ior, o_ishl, o_ishr, o_iushr, o_idiv, o_irem, o_ladd, o_lmul, o_land, o_lor, o_lrem, o_lshl, o_lshr, o_lcmp, o_i2l, o_l2i, o_dup, o_dup2, o_ifeq, o_ifne, o_iflt, o_ifge, o_ifgt, o_ifle, o_iceq, o_icne, o_iclt, o_icge, o_icgt, o_icle, o_sw, o_iret, o_zret, o_vret, o_getf, o_putf, o_putz, o_putr, o_iald, o_zald, o_iast, o_zast, o_alen, o_aald, o_aast, o_obj_e, o_mmax_e, o_mmin_e, o_gsc, o_gsf, o_sval, o_scod, o_salen, o_sbald, o_i2c, o_pop, o_nret, o_call_0, o_call_1, o_call_2, o_call_3, o_call_4, o_call_5, o_call_6, o_call_7, o_callV_0, o_callV_1, o_callV_2, o_callV_3, o_callV_4, o_callV_5, o_callV_6, o_callT_0, o_callT_1, q_cn_0, q_cn_i, q_cn_r, q_cn_a, q_cn_l, q_cat_eq, q_nl_none, q_nl_sn, q_nl_i, q_nl_r, q_nl_a, q_vp_0, q_vp_1, q_vp_2, q_vp_3, q_vp_4, q_vp_5, q_vp_6, q_vp_7, q_vp_8, List.getElem?_cons_zero, List.getElem?_cons_succ, List.getElem?_nil, List.set_cons_zero, List.set_cons_succ, List.set_nil, Option.toList_some, Option.toList_none, List.cons_append, List.nil_append, Nat.reduceAdd, Nat.reduceSub, Nat.reduceLeDiff, Nat.add_zero, Nat.zero_add, Nat.reduceLT, Nat.zero_le, true_and, and_true, Value.category, true_or, or_true, q_z10, q_z01, Int32.reduceLT, Int32.reduceLE, Int32.reduceToNatClampNeg, not_true_eq_false, not_false_eq_true, false_implies, true_implies, implies_true, BX6_narrow_10, BX6_narrow_9, BX6_narrow_5, BX6_narrow_0, BX6_narrow_77, BX6_narrow_71, BX6_narrow_57, BX6_narrow_54, BX6_narrow_27, BX6_narrow_18, rmX6_narrow, x9, q_cls_of x9, q_cls_of hr.1, q_R0_same, hb 9 n910]
      rw [h2 _ (Nat.le_refl _), hf.2 _ _ hv]
      refine p4_moved hr ?_
      simp only [o_no, o_cut, o_ic, o_lc, o_str, o_il, o_ll, o_al, o_is, o_as, o_inc, o_iadd, o_isub, o_imul, o_iand, o_ior, o_ishl, o_ishr, o_iushr, o_idiv, o_irem, o_ladd, o_lmul, o_land, o_lor, o_lrem, o_lshl, o_lshr, o_lcmp, o_i2l, o_l2i, o_dup, o_dup2, o_ifeq, o_ifne, o_iflt, o_ifge, o_ifgt, o_ifle, o_iceq, o_icne, o_iclt, o_icge, o_icgt, o_icle, o_sw, o_iret, o_zret, o_vret, o_getf, o_putf, o_putz, o_putr, o_iald, o_zald, o_iast, o_zast, o_alen, o_aald, o_aast, o_obj_e, o_mmax_e, o_mmin_e, o_gsc, o_gsf, o_sval, o_scod, o_salen, o_sbald, o_i2c, o_pop, o_nret, o_call_0, o_call_1, o_call_2, o_call_3, o_call_4, o_call_5, o_call_6, o_call_7, o_callV_0, o_callV_1, o_callV_2, o_callV_3, o_callV_4, o_callV_5, o_callV_6, o_callT_0, o_callT_1, q_cn_0, q_cn_i, q_cn_r, q_cn_a, q_cn_l, q_cat_eq, q_nl_none, q_nl_sn, q_nl_i, q_nl_r, q_nl_a, q_vp_0, q_vp_1, q_vp_2, q_vp_3, q_vp_4, q_vp_5, q_vp_6, q_vp_7, q_vp_8, List.getElem?_cons_zero, List.getElem?_cons_succ, List.getElem?_nil, List.set_cons_zero, List.set_cons_succ, List.set_nil, Option.toList_some, Option.toList_none, List.cons_append, List.nil_append, Nat.reduceAdd, Nat.reduceSub, Nat.reduceLeDiff, Nat.add_zero, Nat.zero_add, Nat.reduceLT, Nat.zero_le, true_and, and_true, Value.category, true_or, or_true, q_z10, q_z01, Int32.reduceLT, Int32.reduceLE, Int32.reduceToNatClampNeg, not_true_eq_false, not_false_eq_true, false_implies, true_implies, implies_true, BX6_narrow_10, BX6_narrow_9, BX6_narrow_5, BX6_narrow_0, BX6_narrow_77, BX6_narrow_71, BX6_narrow_57, BX6_narrow_54, BX6_narrow_27, BX6_narrow_18, rmX6_narrow, x9, q_cls_of x9, q_cls_of hr.1, q_R0_same, hb 9 n910]
      rw [xs_ad hk hx1 (by omega) (by omega)]
      refine p4_litBit hr ?_
      simp only [o_no, o_cut, o_ic, o_lc, o_str, o_il, o_ll, o_al, o_is, o_as, o_inc, o_iadd, o_isub, o_imul, o_iand, o_ior, o_ishl, o_ishr, o_iushr, o_idiv, o_irem, o_ladd, o_lmul, o_land, o_lor, o_lrem, o_lshl, o_lshr, o_lcmp, o_i2l, o_l2i, o_dup, o_dup2, o_ifeq, o_ifne, o_iflt, o_ifge, o_ifgt, o_ifle, o_iceq, o_icne, o_iclt, o_icge, o_icgt, o_icle, o_sw, o_iret, o_zret, o_vret, o_getf, o_putf, o_putz, o_putr, o_iald, o_zald, o_iast, o_zast, o_alen, o_aald, o_aast, o_obj_e, o_mmax_e, o_mmin_e, o_gsc, o_gsf, o_sval, o_scod, o_salen, o_sbald, o_i2c, o_pop, o_nret, o_call_0, o_call_1, o_call_2, o_call_3, o_call_4, o_call_5, o_call_6, o_call_7, o_callV_0, o_callV_1, o_callV_2, o_callV_3, o_callV_4, o_callV_5, o_callV_6, o_callT_0, o_callT_1, q_cn_0, q_cn_i, q_cn_r, q_cn_a, q_cn_l, q_cat_eq, q_nl_none, q_nl_sn, q_nl_i, q_nl_r, q_nl_a, q_vp_0, q_vp_1, q_vp_2, q_vp_3, q_vp_4, q_vp_5, q_vp_6, q_vp_7, q_vp_8, List.getElem?_cons_zero, List.getElem?_cons_succ, List.getElem?_nil, List.set_cons_zero, List.set_cons_succ, List.set_nil, Option.toList_some, Option.toList_none, List.cons_append, List.nil_append, Nat.reduceAdd, Nat.reduceSub, Nat.reduceLeDiff, Nat.add_zero, Nat.zero_add, Nat.reduceLT, Nat.zero_le, true_and, and_true, Value.category, true_or, or_true, q_z10, q_z01, Int32.reduceLT, Int32.reduceLE, Int32.reduceToNatClampNeg, not_true_eq_false, not_false_eq_true, false_implies, true_implies, implies_true, BX6_narrow_10, BX6_narrow_9, BX6_narrow_5, BX6_narrow_0, BX6_narrow_77, BX6_narrow_71, BX6_narrow_57, BX6_narrow_54, BX6_narrow_27, BX6_narrow_18, rmX6_narrow, x9, q_cls_of x9, q_cls_of hr.1, q_R0_same, hb 9 n910]
      rw [xs_litBit hk hx1 hp (r_adlt hk _ _)]
      refine ⟨fun z => ?_, fun z => ?_⟩
      · have hP : s_P k (p, st, b) v = true := by
          show (r_lt k p (r_ad k v st) == b) = true
          revert z
          cases r_lt k p (r_ad k v st) <;> cases b <;> decide
        refine p8_put y10 (by decide) ?_
        rw [q_pt_n (by omega) (by decide)]
        simp only [o_no, o_cut, o_ic, o_lc, o_str, o_il, o_ll, o_al, o_is, o_as, o_inc, o_iadd, o_isub, o_imul, o_iand, o_ior, o_ishl, o_ishr, o_iushr, o_idiv, o_irem, o_ladd, o_lmul, o_land, o_lor, o_lrem, o_lshl, o_lshr, o_lcmp, o_i2l, o_l2i, o_dup, o_dup2, o_ifeq, o_ifne, o_iflt, o_ifge, o_ifgt, o_ifle, o_iceq, o_icne, o_iclt, o_icge, o_icgt, o_icle, o_sw, o_iret, o_zret, o_vret, o_getf, o_putf, o_putz, o_putr, o_iald, o_zald, o_iast, o_zast, o_alen, o_aald, o_aast, o_obj_e, o_mmax_e, o_mmin_e, o_gsc, o_gsf, o_sval, o_scod, o_salen, o_sbald, o_i2c, o_pop, o_nret, o_call_0, o_call_1, o_call_2, o_call_3, o_call_4, o_call_5, o_call_6, o_call_7, o_callV_0, o_callV_1, o_callV_2, o_callV_3, o_callV_4, o_callV_5, o_callV_6, o_callT_0, o_callT_1, q_cn_0, q_cn_i, q_cn_r, q_cn_a, q_cn_l, q_cat_eq, q_nl_none, q_nl_sn, q_nl_i, q_nl_r, q_nl_a, q_vp_0, q_vp_1, q_vp_2, q_vp_3, q_vp_4, q_vp_5, q_vp_6, q_vp_7, q_vp_8, List.getElem?_cons_zero, List.getElem?_cons_succ, List.getElem?_nil, List.set_cons_zero, List.set_cons_succ, List.set_nil, Option.toList_some, Option.toList_none, List.cons_append, List.nil_append, Nat.reduceAdd, Nat.reduceSub, Nat.reduceLeDiff, Nat.add_zero, Nat.zero_add, Nat.reduceLT, Nat.zero_le, true_and, and_true, Value.category, true_or, or_true, q_z10, q_z01, Int32.reduceLT, Int32.reduceLE, Int32.reduceToNatClampNeg, not_true_eq_false, not_false_eq_true, false_implies, true_implies, implies_true, BX6_narrow_10, BX6_narrow_9, BX6_narrow_5, BX6_narrow_0, BX6_narrow_77, BX6_narrow_71, BX6_narrow_57, BX6_narrow_54, BX6_narrow_27, BX6_narrow_18, rmX6_narrow, x9, q_cls_of x9, q_cls_of hr.1, q_R0_same, hb 9 n910]
        rw [nI_1, nI_1]
        have := ih (l1 ++ [v]) (some (.int (nI v))) (q_up m1 10 (l1.filter (s_P k (p, st, b))).length (nI v)) (by rw [hl, List.append_assoc]; rfl) (hb.tr q_but.up) (fun j w hw => ?_) (fun j hj => ?_)
        · rw [List.filter_append, List.filter_cons, if_pos hP, List.filter_nil, List.length_append, List.length_append] at this
          exact this
        · rw [List.filter_append, List.filter_cons, if_pos hP, List.filter_nil] at hw
          rw [q_up_app]
          rcases q_snoc hw with g | ⟨g1, g2⟩
          · have := (List.getElem?_eq_some_iff.mp g).1
            rw [if_neg (by omega)]
            exact h1 j w g
          · rw [if_pos ⟨rfl, g1⟩, g2]
        · rw [List.length_append] at hj
          have hj : l1.length + 1 ≤ j := hj
          rw [q_up_app, if_neg (by omega)]
          exact h2 j (by omega)
      · have hP : ¬ s_P k (p, st, b) v = true := by
          show ¬ (r_lt k p (r_ad k v st) == b) = true
          revert z
          cases r_lt k p (r_ad k v st) <;> cases b <;> decide
        have ef : (l1 ++ [v]).filter (s_P k (p, st, b)) = l1.filter (s_P k (p, st, b)) := by
          rw [List.filter_append, List.filter_cons, if_neg hP, List.filter_nil, List.append_nil]
        rw [nI_1]
        have := ih (l1 ++ [v]) (some (.int (nI v))) m1 (by rw [hl, List.append_assoc]; rfl) hb (fun j w hw => ?_) (fun j hj => ?_)
        · rw [ef, List.length_append] at this
          exact this
        · rw [ef] at hw; exact h1 j w hw
        · rw [List.length_append] at hj
          have hj : l1.length + 1 ≤ j := hj
          exact h2 j (by omega)
  have st0 := loop L [] none m rfl q_but.rf (fun j v hv => by simp at hv) (fun j _ => rfl)
  refine eX6_narrow ?_
  simp only [o_no, o_cut, o_ic, o_lc, o_str, o_il, o_ll, o_al, o_is, o_as, o_inc, o_iadd, o_isub, o_imul, o_iand, o_ior, o_ishl, o_ishr, o_iushr, o_idiv, o_irem, o_ladd, o_lmul, o_land, o_lor, o_lrem, o_lshl, o_lshr, o_lcmp, o_i2l, o_l2i, o_dup, o_dup2, o_ifeq, o_ifne, o_iflt, o_ifge, o_ifgt, o_ifle, o_iceq, o_icne, o_iclt, o_icge, o_icgt, o_icle, o_sw, o_iret, o_zret, o_vret, o_getf, o_putf, o_putz, o_putr, o_iald, o_zald, o_iast, o_zast, o_alen, o_aald, o_aast, o_obj_e, o_mmax_e, o_mmin_e, o_gsc, o_gsf, o_sval, o_scod, o_salen, o_sbald, o_i2c, o_pop, o_nret, o_call_0, o_call_1, o_call_2, o_call_3, o_call_4, o_call_5, o_call_6, o_call_7, o_callV_0, o_callV_1, o_callV_2, o_callV_3, o_callV_4, o_callV_5, o_callV_6, o_callT_0, o_callT_1, q_cn_0, q_cn_i, q_cn_r, q_cn_a, q_cn_l, q_cat_eq, q_nl_none, q_nl_sn, q_nl_i, q_nl_r, q_nl_a, q_vp_0, q_vp_1, q_vp_2, q_vp_3, q_vp_4, q_vp_5, q_vp_6, q_vp_7, q_vp_8, List.getElem?_cons_zero, List.getElem?_cons_succ, List.getElem?_nil, List.set_cons_zero, List.set_cons_succ, List.set_nil, Option.toList_some, Option.toList_none, List.cons_append, List.nil_append, Nat.reduceAdd, Nat.reduceSub, Nat.reduceLeDiff, Nat.add_zero, Nat.zero_add, Nat.reduceLT, Nat.zero_le, true_and, and_true, Value.category, true_or, or_true, q_z10, q_z01, Int32.reduceLT, Int32.reduceLE, Int32.reduceToNatClampNeg, not_true_eq_false, not_false_eq_true, false_implies, true_implies, implies_true, BX6_narrow_10, BX6_narrow_9, BX6_narrow_5, BX6_narrow_0, BX6_narrow_77, BX6_narrow_71, BX6_narrow_57, BX6_narrow_54, BX6_narrow_27, BX6_narrow_18, rmX6_narrow, x9, q_cls_of x9, q_R0_same]
  cases b with
  | true => exact ⟨fun z => absurd z (by decide), fun _ => st0⟩
  | false => exact ⟨fun _ => st0, fun z => absurd rfl z⟩
/-- how many of A are lit at a place and step -/
def l_G (k : RK) (A : List Nat) (j : Nat) : Nat := A.countP (fun v => decide (j % 8 < r_pl k) && r_lt k (j % 8) (r_ad k v (j / 8)))
/-- what sight keeps -/
def v_D (k : RK) (l : SN) (j : Nat) : Nat := if j % 8 < r_pl k ∧ max (l_G k (s_L k l) j) ((s_L k l).length - l_G k (s_L k l) j) < (s_L k l).length then max (l_G k (s_L k l) j) ((s_L k l).length - l_G k (s_L k l) j) else 1729
def v_lk (k : RK) (l : SN) : Nat × Nat := f_store (v_D k l) 192
def v_look (k : RK) (l : SN) (w : Nat) : Int32 := if (v_lk k l).2 = 0 then -1 else if w = 0 then nI (((v_lk k l).2 - 1) % 8) else if w = 1 then nI (((v_lk k l).2 - 1) / 8) else nI (v_lk k l).1
def x_seen (m : q_Mm) (k : RK) (l : SN) : Prop := m 9 0 = nI l.length ∧ x_fits m (s_L k l) ∧ (¬ m 9 5 = 0 → m 9 2 = v_look k l 0 ∧ m 9 3 = v_look k l 1 ∧ m 9 4 = v_look k l 2)
def m_seen (m : q_Mm) (c : Nat) (l : SN) : Prop := m c 28 = nI l.length ∧ ∀ i o, l[i]? = some o → m (c + 11) i = nI o.1 ∧ m (c + 12) i = nI o.2.1 ∧ m (c + 13) i = if o.2.2 = true then 1 else 0
noncomputable def a_see (k : RK) (l : SN) (p st : Int32) : Int32 := a_plc k p (q_if (q_rg st 9999) (if l.length = 20 then -1000000004 else nI (l.length + 1)) (-1000000002))
noncomputable def n_see (k : RK) (l : SN) (p st : Int32) (b : Bool) : SN := @ite _ (q_lt p (r_pl k) ∧ q_rg st 9999 ∧ l.length ≠ 20) (Classical.propDecidable _) (l ++ [(q_ix p, q_ix st, b)]) l
theorem n_see_ok {p st : Int32} {b : Bool} (hk : r_ok k) (h : s_ok k l) : s_ok k (n_see k l p st b) := by
  have h8 : r_pl k ≤ 8 := hk.2.1
  unfold n_see
  split
  · rename_i q
    obtain ⟨⟨j, hj, rfl⟩, ⟨t, ht, rfl⟩, q3⟩ := q
    rw [q_ix_n (by omega), q_ix_n (by omega)]
    have h1 := h.1
    refine ⟨by rw [List.length_append]; show l.length + 1 ≤ 20; omega, fun o ho => ?_⟩
    rcases List.mem_append.mp ho with g | g
    · exact h.2 o g
    · rw [List.mem_singleton.mp g]; exact ⟨hj, ht⟩
  · exact h
theorem p8_see {p st : Int32} {b : Bool} (hs : q_xs sh rb sb) (hk : r_ok k) (hx : x_rock m rb k) (hl : x_seen m k l) (ho : s_ok k l) (hR : ∀ m', q_bt2 9 10 m m' → x_seen m' k (n_see k l p st b) → R (some (.int (a_see k l p st))) sh m') : wX8_see [.ref 0, .int p, .int st, .int (if b = true then 1 else 0)] sh m R := by
  obtain ⟨x0, x1, x3, x4, x6, x7, x9, x12, x15, x18, hr, hb, y2, y5, y8, y10, y11, y13, y14, y16, y17, y19, hrb⟩ := id hs
  have h8 : r_pl k ≤ 8 := hk.2.1
  have hSl := (r_Sle hk).2
  have h20 := ho.1
  refine eX8_see ?_
  simp only [o_no, o_cut, o_ic, o_lc, o_str, o_il, o_ll, o_al, o_is, o_as, o_inc, o_iadd, o_isub, o_imul, o_iand, o_ior, o_ishl, o_ishr, o_iushr, o_idiv, o_irem, o_ladd, o_lmul, o_land, o_lor, o_lrem, o_lshl, o_lshr, o_lcmp, o_i2l, o_l2i, o_dup, o_dup2, o_ifeq, o_ifne, o_iflt, o_ifge, o_ifgt, o_ifle, o_iceq, o_icne, o_iclt, o_icge, o_icgt, o_icle, o_sw, o_iret, o_zret, o_vret, o_getf, o_putf, o_putz, o_putr, o_iald, o_zald, o_iast, o_zast, o_alen, o_aald, o_aast, o_obj_e, o_mmax_e, o_mmin_e, o_gsc, o_gsf, o_sval, o_scod, o_salen, o_sbald, o_i2c, o_pop, o_nret, o_call_0, o_call_1, o_call_2, o_call_3, o_call_4, o_call_5, o_call_6, o_call_7, o_callV_0, o_callV_1, o_callV_2, o_callV_3, o_callV_4, o_callV_5, o_callV_6, o_callT_0, o_callT_1, q_cn_0, q_cn_i, q_cn_r, q_cn_a, q_cn_l, q_cat_eq, q_nl_none, q_nl_sn, q_nl_i, q_nl_r, q_nl_a, q_vp_0, q_vp_1, q_vp_2, q_vp_3, q_vp_4, q_vp_5, q_vp_6, q_vp_7, q_vp_8, List.getElem?_cons_zero, List.getElem?_cons_succ, List.getElem?_nil, List.set_cons_zero, List.set_cons_succ, List.set_nil, Option.toList_some, Option.toList_none, List.cons_append, List.nil_append, Nat.reduceAdd, Nat.reduceSub, Nat.reduceLeDiff, Nat.add_zero, Nat.zero_add, Nat.reduceLT, Nat.zero_le, true_and, and_true, Value.category, true_or, or_true, q_z10, q_z01, Int32.reduceLT, Int32.reduceLE, Int32.reduceToNatClampNeg, not_true_eq_false, not_false_eq_true, false_implies, true_implies, implies_true, BX8_see_40, BX8_see_37, BX8_see_25, BX8_see_22, BX8_see_11, BX8_see_8, BX8_see_0, rmX8_see, x0, x1, x3, x4, x6, x7, x9, x12, x15, x18, q_cls_of x0, q_cls_of x1, q_cls_of x3, q_cls_of x4, q_cls_of x6, q_cls_of x7, q_cls_of x9, q_cls_of x12, q_cls_of x15, q_cls_of x18, q_cls_of hr.1, hr.1, q_R0_same]
  unfold a_see n_see a_plc at hR
  refine p8_isPlace hs hk hx (fun z => ?_) (fun z => ?_)
  · rw [q_if_t z] at hR
    obtain ⟨j, hj, rfl⟩ := id z
    rw [q_ix_n (by omega)] at hR
    simp only [o_no, o_cut, o_ic, o_lc, o_str, o_il, o_ll, o_al, o_is, o_as, o_inc, o_iadd, o_isub, o_imul, o_iand, o_ior, o_ishl, o_ishr, o_iushr, o_idiv, o_irem, o_ladd, o_lmul, o_land, o_lor, o_lrem, o_lshl, o_lshr, o_lcmp, o_i2l, o_l2i, o_dup, o_dup2, o_ifeq, o_ifne, o_iflt, o_ifge, o_ifgt, o_ifle, o_iceq, o_icne, o_iclt, o_icge, o_icgt, o_icle, o_sw, o_iret, o_zret, o_vret, o_getf, o_putf, o_putz, o_putr, o_iald, o_zald, o_iast, o_zast, o_alen, o_aald, o_aast, o_obj_e, o_mmax_e, o_mmin_e, o_gsc, o_gsf, o_sval, o_scod, o_salen, o_sbald, o_i2c, o_pop, o_nret, o_call_0, o_call_1, o_call_2, o_call_3, o_call_4, o_call_5, o_call_6, o_call_7, o_callV_0, o_callV_1, o_callV_2, o_callV_3, o_callV_4, o_callV_5, o_callV_6, o_callT_0, o_callT_1, q_cn_0, q_cn_i, q_cn_r, q_cn_a, q_cn_l, q_cat_eq, q_nl_none, q_nl_sn, q_nl_i, q_nl_r, q_nl_a, q_vp_0, q_vp_1, q_vp_2, q_vp_3, q_vp_4, q_vp_5, q_vp_6, q_vp_7, q_vp_8, List.getElem?_cons_zero, List.getElem?_cons_succ, List.getElem?_nil, List.set_cons_zero, List.set_cons_succ, List.set_nil, Option.toList_some, Option.toList_none, List.cons_append, List.nil_append, Nat.reduceAdd, Nat.reduceSub, Nat.reduceLeDiff, Nat.add_zero, Nat.zero_add, Nat.reduceLT, Nat.zero_le, true_and, and_true, Value.category, true_or, or_true, q_z10, q_z01, Int32.reduceLT, Int32.reduceLE, Int32.reduceToNatClampNeg, not_true_eq_false, not_false_eq_true, false_implies, true_implies, implies_true, BX8_see_40, BX8_see_37, BX8_see_25, BX8_see_22, BX8_see_11, BX8_see_8, BX8_see_0, rmX8_see, x0, x1, x3, x4, x6, x7, x9, x12, x15, x18, q_cls_of x0, q_cls_of x1, q_cls_of x3, q_cls_of x4, q_cls_of x6, q_cls_of x7, q_cls_of x9, q_cls_of x12, q_cls_of x15, q_cls_of x18, q_cls_of hr.1, hr.1, q_R0_same]
    rw [show (9999 : Int32) = nI 9999 from rfl]
    refine p8_insN (by decide) (fun z2 => ?_) (fun z2 => ?_)
    · rw [q_if_t z2] at hR
      obtain ⟨t, ht, rfl⟩ := id z2
      rw [q_ix_n (by omega)] at hR
      simp only [o_no, o_cut, o_ic, o_lc, o_str, o_il, o_ll, o_al, o_is, o_as, o_inc, o_iadd, o_isub, o_imul, o_iand, o_ior, o_ishl, o_ishr, o_iushr, o_idiv, o_irem, o_ladd, o_lmul, o_land, o_lor, o_lrem, o_lshl, o_lshr, o_lcmp, o_i2l, o_l2i, o_dup, o_dup2, o_ifeq, o_ifne, o_iflt, o_ifge, o_ifgt, o_ifle, o_iceq, o_icne, o_iclt, o_icge, o_icgt, o_icle, o_sw, o_iret, o_zret, o_vret, o_getf, o_putf, o_putz, o_putr, o_iald, o_zald, o_iast, o_zast, o_alen, o_aald, o_aast, o_obj_e, o_mmax_e, o_mmin_e, o_gsc, o_gsf, o_sval, o_scod, o_salen, o_sbald, o_i2c, o_pop, o_nret, o_call_0, o_call_1, o_call_2, o_call_3, o_call_4, o_call_5, o_call_6, o_call_7, o_callV_0, o_callV_1, o_callV_2, o_callV_3, o_callV_4, o_callV_5, o_callV_6, o_callT_0, o_callT_1, q_cn_0, q_cn_i, q_cn_r, q_cn_a, q_cn_l, q_cat_eq, q_nl_none, q_nl_sn, q_nl_i, q_nl_r, q_nl_a, q_vp_0, q_vp_1, q_vp_2, q_vp_3, q_vp_4, q_vp_5, q_vp_6, q_vp_7, q_vp_8, List.getElem?_cons_zero, List.getElem?_cons_succ, List.getElem?_nil, List.set_cons_zero, List.set_cons_succ, List.set_nil, Option.toList_some, Option.toList_none, List.cons_append, List.nil_append, Nat.reduceAdd, Nat.reduceSub, Nat.reduceLeDiff, Nat.add_zero, Nat.zero_add, Nat.reduceLT, Nat.zero_le, true_and, and_true, Value.category, true_or, or_true, q_z10, q_z01, Int32.reduceLT, Int32.reduceLE, Int32.reduceToNatClampNeg, not_true_eq_false, not_false_eq_true, false_implies, true_implies, implies_true, BX8_see_40, BX8_see_37, BX8_see_25, BX8_see_22, BX8_see_11, BX8_see_8, BX8_see_0, rmX8_see, x0, x1, x3, x4, x6, x7, x9, x12, x15, x18, q_cls_of x0, q_cls_of x1, q_cls_of x3, q_cls_of x4, q_cls_of x6, q_cls_of x7, q_cls_of x9, q_cls_of x12, q_cls_of x15, q_cls_of x18, q_cls_of hr.1, hr.1, q_R0_same]
      rw [hl.1, show (20 : Int32) = nI 20 from rfl]
      refine ⟨fun y => ?_, fun y => ?_⟩
      · have y : l.length ≠ 20 := fun q => by rw [q] at y; exact absurd y (by decide)
        rw [if_neg y, if_pos ⟨z, z2, y⟩] at hR
        refine p6_narrow x9 y10 hr hk (by omega) hx hj ht (Nat.le_trans (s_L_len k l) hSl) (fun v hv => s_L_lt hv) hl.2.1 (fun m' hb' e1 e2 hf' => ?_)
        simp only [o_no, o_cut, o_ic, o_lc, o_str, o_il, o_ll, o_al, o_is, o_as, o_inc, o_iadd, o_isub, o_imul, o_iand, o_ior, o_ishl, o_ishr, o_iushr, o_idiv, o_irem, o_ladd, o_lmul, o_land, o_lor, o_lrem, o_lshl, o_lshr, o_lcmp, o_i2l, o_l2i, o_dup, o_dup2, o_ifeq, o_ifne, o_iflt, o_ifge, o_ifgt, o_ifle, o_iceq, o_icne, o_iclt, o_icge, o_icgt, o_icle, o_sw, o_iret, o_zret, o_vret, o_getf, o_putf, o_putz, o_putr, o_iald, o_zald, o_iast, o_zast, o_alen, o_aald, o_aast, o_obj_e, o_mmax_e, o_mmin_e, o_gsc, o_gsf, o_sval, o_scod, o_salen, o_sbald, o_i2c, o_pop, o_nret, o_call_0, o_call_1, o_call_2, o_call_3, o_call_4, o_call_5, o_call_6, o_call_7, o_callV_0, o_callV_1, o_callV_2, o_callV_3, o_callV_4, o_callV_5, o_callV_6, o_callT_0, o_callT_1, q_cn_0, q_cn_i, q_cn_r, q_cn_a, q_cn_l, q_cat_eq, q_nl_none, q_nl_sn, q_nl_i, q_nl_r, q_nl_a, q_vp_0, q_vp_1, q_vp_2, q_vp_3, q_vp_4, q_vp_5, q_vp_6, q_vp_7, q_vp_8, List.getElem?_cons_zero, List.getElem?_cons_succ, List.getElem?_nil, List.set_cons_zero, List.set_cons_succ, List.set_nil, Option.toList_some, Option.toList_none, List.cons_append, List.nil_append, Nat.reduceAdd, Nat.reduceSub, Nat.reduceLeDiff, Nat.add_zero, Nat.zero_add, Nat.reduceLT, Nat.zero_le, true_and, and_true, Value.category, true_or, or_true, q_z10, q_z01, Int32.reduceLT, Int32.reduceLE, Int32.reduceToNatClampNeg, not_true_eq_false, not_false_eq_true, false_implies, true_implies, implies_true, BX8_see_40, BX8_see_37, BX8_see_25, BX8_see_22, BX8_see_11, BX8_see_8, BX8_see_0, rmX8_see, x0, x1, x3, x4, x6, x7, x9, x12, x15, x18, q_cls_of x0, q_cls_of x1, q_cls_of x3, q_cls_of x4, q_cls_of x6, q_cls_of x7, q_cls_of x9, q_cls_of x12, q_cls_of x15, q_cls_of x18, q_cls_of hr.1, hr.1, q_R0_same]
        rw [e1, hl.1, nI_1]
        refine hR m' hb' ⟨?_, ?_, fun q => absurd e2 q⟩
        · rw [e1, hl.1, nI_1, List.length_append]; rfl
        · rw [s_L_app]; exact hf'
      · have y : l.length = 20 := by
          rcases Nat.lt_or_ge l.length 20 with q | q
          · exact absurd (nI_lt q (by decide)) y
          · omega
        rw [if_pos y, if_neg (fun q => q.2.2 y)] at hR
        exact hR m q_bt2.rf hl
    · rw [q_if_f z2, if_neg (fun q => z2 q.2.1)] at hR
      simp only [o_no, o_cut, o_ic, o_lc, o_str, o_il, o_ll, o_al, o_is, o_as, o_inc, o_iadd, o_isub, o_imul, o_iand, o_ior, o_ishl, o_ishr, o_iushr, o_idiv, o_irem, o_ladd, o_lmul, o_land, o_lor, o_lrem, o_lshl, o_lshr, o_lcmp, o_i2l, o_l2i, o_dup, o_dup2, o_ifeq, o_ifne, o_iflt, o_ifge, o_ifgt, o_ifle, o_iceq, o_icne, o_iclt, o_icge, o_icgt, o_icle, o_sw, o_iret, o_zret, o_vret, o_getf, o_putf, o_putz, o_putr, o_iald, o_zald, o_iast, o_zast, o_alen, o_aald, o_aast, o_obj_e, o_mmax_e, o_mmin_e, o_gsc, o_gsf, o_sval, o_scod, o_salen, o_sbald, o_i2c, o_pop, o_nret, o_call_0, o_call_1, o_call_2, o_call_3, o_call_4, o_call_5, o_call_6, o_call_7, o_callV_0, o_callV_1, o_callV_2, o_callV_3, o_callV_4, o_callV_5, o_callV_6, o_callT_0, o_callT_1, q_cn_0, q_cn_i, q_cn_r, q_cn_a, q_cn_l, q_cat_eq, q_nl_none, q_nl_sn, q_nl_i, q_nl_r, q_nl_a, q_vp_0, q_vp_1, q_vp_2, q_vp_3, q_vp_4, q_vp_5, q_vp_6, q_vp_7, q_vp_8, List.getElem?_cons_zero, List.getElem?_cons_succ, List.getElem?_nil, List.set_cons_zero, List.set_cons_succ, List.set_nil, Option.toList_some, Option.toList_none, List.cons_append, List.nil_append, Nat.reduceAdd, Nat.reduceSub, Nat.reduceLeDiff, Nat.add_zero, Nat.zero_add, Nat.reduceLT, Nat.zero_le, true_and, and_true, Value.category, true_or, or_true, q_z10, q_z01, Int32.reduceLT, Int32.reduceLE, Int32.reduceToNatClampNeg, not_true_eq_false, not_false_eq_true, false_implies, true_implies, implies_true, BX8_see_40, BX8_see_37, BX8_see_25, BX8_see_22, BX8_see_11, BX8_see_8, BX8_see_0, rmX8_see, x0, x1, x3, x4, x6, x7, x9, x12, x15, x18, q_cls_of x0, q_cls_of x1, q_cls_of x3, q_cls_of x4, q_cls_of x6, q_cls_of x7, q_cls_of x9, q_cls_of x12, q_cls_of x15, q_cls_of x18, q_cls_of hr.1, hr.1, q_R0_same]
      exact hR m q_bt2.rf hl
  · rw [q_if_f z, if_neg (fun q => z q.1)] at hR
    simp only [o_no, o_cut, o_ic, o_lc, o_str, o_il, o_ll, o_al, o_is, o_as, o_inc, o_iadd, o_isub, o_imul, o_iand, o_ior, o_ishl, o_ishr, o_iushr, o_idiv, o_irem, o_ladd, o_lmul, o_land, o_lor, o_lrem, o_lshl, o_lshr, o_lcmp, o_i2l, o_l2i, o_dup, o_dup2, o_ifeq, o_ifne, o_iflt, o_ifge, o_ifgt, o_ifle, o_iceq, o_icne, o_iclt, o_icge, o_icgt, o_icle, o_sw, o_iret, o_zret, o_vret, o_getf, o_putf, o_putz, o_putr, o_iald, o_zald, o_iast, o_zast, o_alen, o_aald, o_aast, o_obj_e, o_mmax_e, o_mmin_e, o_gsc, o_gsf, o_sval, o_scod, o_salen, o_sbald, o_i2c, o_pop, o_nret, o_call_0, o_call_1, o_call_2, o_call_3, o_call_4, o_call_5, o_call_6, o_call_7, o_callV_0, o_callV_1, o_callV_2, o_callV_3, o_callV_4, o_callV_5, o_callV_6, o_callT_0, o_callT_1, q_cn_0, q_cn_i, q_cn_r, q_cn_a, q_cn_l, q_cat_eq, q_nl_none, q_nl_sn, q_nl_i, q_nl_r, q_nl_a, q_vp_0, q_vp_1, q_vp_2, q_vp_3, q_vp_4, q_vp_5, q_vp_6, q_vp_7, q_vp_8, List.getElem?_cons_zero, List.getElem?_cons_succ, List.getElem?_nil, List.set_cons_zero, List.set_cons_succ, List.set_nil, Option.toList_some, Option.toList_none, List.cons_append, List.nil_append, Nat.reduceAdd, Nat.reduceSub, Nat.reduceLeDiff, Nat.add_zero, Nat.zero_add, Nat.reduceLT, Nat.zero_le, true_and, and_true, Value.category, true_or, or_true, q_z10, q_z01, Int32.reduceLT, Int32.reduceLE, Int32.reduceToNatClampNeg, not_true_eq_false, not_false_eq_true, false_implies, true_implies, implies_true, BX8_see_40, BX8_see_37, BX8_see_25, BX8_see_22, BX8_see_11, BX8_see_8, BX8_see_0, rmX8_see, x0, x1, x3, x4, x6, x7, x9, x12, x15, x18, q_cls_of x0, q_cls_of x1, q_cls_of x3, q_cls_of x4, q_cls_of x6, q_cls_of x7, q_cls_of x9, q_cls_of x12, q_cls_of x15, q_cls_of x18, q_cls_of hr.1, hr.1, q_R0_same]
    exact hR m q_bt2.rf hl
/-- the reference's seen rows stay apart -/
def m_fs (c : Nat) (m m' : q_Mm) : Prop := (∀ a, a ≠ c → a ≠ c + 11 → a ≠ c + 12 → a ≠ c + 13 → m' a = m a) ∧ ∀ e, e ≠ 28 → m' c e = m c e
theorem p9_see {p st : Int32} {b : Bool} (hs : q_md sh c) (hk : r_ok k) (hm : m_rock m c k) (hl : m_seen m c l) (ho : s_ok k l) (hR : ∀ m', m_fs c m m' → m_seen m' c (n_see k l p st b) → R (some (.int (a_see k l p st))) sh m') : wX9_see [.ref c, .int p, .int st, .int (if b = true then 1 else 0)] sh m R := by
  obtain ⟨z0, z1, z2, z3, z4, z5, z6, z7, z8, z9, z10, z11, z12, z13, z14, z15, z16⟩ := id hs
  have h8 : r_pl k ≤ 8 := hk.2.1
  have h20 := ho.1
  refine eX9_see ?_
  simp only [o_no, o_cut, o_ic, o_lc, o_str, o_il, o_ll, o_al, o_is, o_as, o_inc, o_iadd, o_isub, o_imul, o_iand, o_ior, o_ishl, o_ishr, o_iushr, o_idiv, o_irem, o_ladd, o_lmul, o_land, o_lor, o_lrem, o_lshl, o_lshr, o_lcmp, o_i2l, o_l2i, o_dup, o_dup2, o_ifeq, o_ifne, o_iflt, o_ifge, o_ifgt, o_ifle, o_iceq, o_icne, o_iclt, o_icge, o_icgt, o_icle, o_sw, o_iret, o_zret, o_vret, o_getf, o_putf, o_putz, o_putr, o_iald, o_zald, o_iast, o_zast, o_alen, o_aald, o_aast, o_obj_e, o_mmax_e, o_mmin_e, o_gsc, o_gsf, o_sval, o_scod, o_salen, o_sbald, o_i2c, o_pop, o_nret, o_call_0, o_call_1, o_call_2, o_call_3, o_call_4, o_call_5, o_call_6, o_call_7, o_callV_0, o_callV_1, o_callV_2, o_callV_3, o_callV_4, o_callV_5, o_callV_6, o_callT_0, o_callT_1, q_cn_0, q_cn_i, q_cn_r, q_cn_a, q_cn_l, q_cat_eq, q_nl_none, q_nl_sn, q_nl_i, q_nl_r, q_nl_a, q_vp_0, q_vp_1, q_vp_2, q_vp_3, q_vp_4, q_vp_5, q_vp_6, q_vp_7, q_vp_8, List.getElem?_cons_zero, List.getElem?_cons_succ, List.getElem?_nil, List.set_cons_zero, List.set_cons_succ, List.set_nil, Option.toList_some, Option.toList_none, List.cons_append, List.nil_append, Nat.reduceAdd, Nat.reduceSub, Nat.reduceLeDiff, Nat.add_zero, Nat.zero_add, Nat.reduceLT, Nat.zero_le, true_and, and_true, Value.category, true_or, or_true, q_z10, q_z01, Int32.reduceLT, Int32.reduceLE, Int32.reduceToNatClampNeg, not_true_eq_false, not_false_eq_true, false_implies, true_implies, implies_true, BX9_see_38, BX9_see_35, BX9_see_26, BX9_see_23, BX9_see_11, BX9_see_8, BX9_see_0, rmX9_see, z0, z1, z2, z3, z4, z5, z6, z7, z8, z9, z10, z11, z12, z13, z14, z15, z16, q_cls_of z0, q_R0_same]
  unfold a_see n_see a_plc at hR
  refine p9_isPlace hs hm hk (fun z => ?_) (fun z => ?_)
  · rw [q_if_t z] at hR
    obtain ⟨j, hj, rfl⟩ := id z
    rw [q_ix_n (by omega)] at hR
    simp only [o_no, o_cut, o_ic, o_lc, o_str, o_il, o_ll, o_al, o_is, o_as, o_inc, o_iadd, o_isub, o_imul, o_iand, o_ior, o_ishl, o_ishr, o_iushr, o_idiv, o_irem, o_ladd, o_lmul, o_land, o_lor, o_lrem, o_lshl, o_lshr, o_lcmp, o_i2l, o_l2i, o_dup, o_dup2, o_ifeq, o_ifne, o_iflt, o_ifge, o_ifgt, o_ifle, o_iceq, o_icne, o_iclt, o_icge, o_icgt, o_icle, o_sw, o_iret, o_zret, o_vret, o_getf, o_putf, o_putz, o_putr, o_iald, o_zald, o_iast, o_zast, o_alen, o_aald, o_aast, o_obj_e, o_mmax_e, o_mmin_e, o_gsc, o_gsf, o_sval, o_scod, o_salen, o_sbald, o_i2c, o_pop, o_nret, o_call_0, o_call_1, o_call_2, o_call_3, o_call_4, o_call_5, o_call_6, o_call_7, o_callV_0, o_callV_1, o_callV_2, o_callV_3, o_callV_4, o_callV_5, o_callV_6, o_callT_0, o_callT_1, q_cn_0, q_cn_i, q_cn_r, q_cn_a, q_cn_l, q_cat_eq, q_nl_none, q_nl_sn, q_nl_i, q_nl_r, q_nl_a, q_vp_0, q_vp_1, q_vp_2, q_vp_3, q_vp_4, q_vp_5, q_vp_6, q_vp_7, q_vp_8, List.getElem?_cons_zero, List.getElem?_cons_succ, List.getElem?_nil, List.set_cons_zero, List.set_cons_succ, List.set_nil, Option.toList_some, Option.toList_none, List.cons_append, List.nil_append, Nat.reduceAdd, Nat.reduceSub, Nat.reduceLeDiff, Nat.add_zero, Nat.zero_add, Nat.reduceLT, Nat.zero_le, true_and, and_true, Value.category, true_or, or_true, q_z10, q_z01, Int32.reduceLT, Int32.reduceLE, Int32.reduceToNatClampNeg, not_true_eq_false, not_false_eq_true, false_implies, true_implies, implies_true, BX9_see_38, BX9_see_35, BX9_see_26, BX9_see_23, BX9_see_11, BX9_see_8, BX9_see_0, rmX9_see, z0, z1, z2, z3, z4, z5, z6, z7, z8, z9, z10, z11, z12, z13, z14, z15, z16, q_cls_of z0, q_R0_same]
    rw [show (9999 : Int64) = (nI 9999).toInt64 from rfl]
    refine p9_insN (by decide) (fun z2 => ?_) (fun z2 => ?_)
    · rw [q_if_t z2] at hR
      obtain ⟨t, ht, rfl⟩ := id z2
      rw [q_ix_n (by omega)] at hR
      have n1 : c ≠ c + 11 := by omega
      have n2 : c ≠ c + 12 := by omega
      have n3 : c ≠ c + 13 := by omega
      simp only [o_no, o_cut, o_ic, o_lc, o_str, o_il, o_ll, o_al, o_is, o_as, o_inc, o_iadd, o_isub, o_imul, o_iand, o_ior, o_ishl, o_ishr, o_iushr, o_idiv, o_irem, o_ladd, o_lmul, o_land, o_lor, o_lrem, o_lshl, o_lshr, o_lcmp, o_i2l, o_l2i, o_dup, o_dup2, o_ifeq, o_ifne, o_iflt, o_ifge, o_ifgt, o_ifle, o_iceq, o_icne, o_iclt, o_icge, o_icgt, o_icle, o_sw, o_iret, o_zret, o_vret, o_getf, o_putf, o_putz, o_putr, o_iald, o_zald, o_iast, o_zast, o_alen, o_aald, o_aast, o_obj_e, o_mmax_e, o_mmin_e, o_gsc, o_gsf, o_sval, o_scod, o_salen, o_sbald, o_i2c, o_pop, o_nret, o_call_0, o_call_1, o_call_2, o_call_3, o_call_4, o_call_5, o_call_6, o_call_7, o_callV_0, o_callV_1, o_callV_2, o_callV_3, o_callV_4, o_callV_5, o_callV_6, o_callT_0, o_callT_1, q_cn_0, q_cn_i, q_cn_r, q_cn_a, q_cn_l, q_cat_eq, q_nl_none, q_nl_sn, q_nl_i, q_nl_r, q_nl_a, q_vp_0, q_vp_1, q_vp_2, q_vp_3, q_vp_4, q_vp_5, q_vp_6, q_vp_7, q_vp_8, List.getElem?_cons_zero, List.getElem?_cons_succ, List.getElem?_nil, List.set_cons_zero, List.set_cons_succ, List.set_nil, Option.toList_some, Option.toList_none, List.cons_append, List.nil_append, Nat.reduceAdd, Nat.reduceSub, Nat.reduceLeDiff, Nat.add_zero, Nat.zero_add, Nat.reduceLT, Nat.zero_le, true_and, and_true, Value.category, true_or, or_true, q_z10, q_z01, Int32.reduceLT, Int32.reduceLE, Int32.reduceToNatClampNeg, not_true_eq_false, not_false_eq_true, false_implies, true_implies, implies_true, BX9_see_38, BX9_see_35, BX9_see_26, BX9_see_23, BX9_see_11, BX9_see_8, BX9_see_0, rmX9_see, z0, z1, z2, z3, z4, z5, z6, z7, z8, z9, z10, z11, z12, z13, z14, z15, z16, q_cls_of z0, q_R0_same, q_up_app, n1, n2, n3, false_and, if_false, and_self, if_true]
      rw [hl.1, show (20 : Int32) = nI 20 from rfl]
      refine ⟨fun y => ?_, fun y => ?_⟩
      · have y : l.length ≠ 20 := fun q => by rw [q] at y; exact absurd rfl y
        rw [if_neg y, if_pos ⟨z, z2, y⟩] at hR
        rw [nI_clamp (by omega), nI_1]
        refine ⟨vp_in_nI (by omega) (by decide), vp_in_nI (by omega) (by decide), vp_in_nI (by omega) (by decide), ?_⟩
        refine ⟨by cases b <;> simp, ?_⟩
        refine hR _ ⟨fun a g1 g2 g3 g4 => ?_, fun e he => ?_⟩ ⟨?_, fun i o hio => ?_⟩
        · rw [q_up_o g1, q_up_o g4, q_up_o g3, q_up_o g2]
        · rw [q_up_app, if_neg (by omega), q_up_o n3, q_up_o n2, q_up_o n1]
        · rw [q_up_app, if_pos ⟨rfl, rfl⟩, List.length_append]; rfl
        · rcases Nat.lt_or_ge i l.length with g | g
          · rw [List.getElem?_append_left g] at hio
            obtain ⟨g1, g2, g3⟩ := hl.2 i o hio
            refine ⟨?_, ?_, ?_⟩
            · rw [q_up_o (by omega), q_up_o (by omega), q_up_o (by omega), q_up_app, if_neg (by omega)]; exact g1
            · rw [q_up_o (by omega), q_up_o (by omega), q_up_app, if_neg (by omega), q_up_o (by omega)]; exact g2
            · rw [q_up_o (by omega), q_up_app, if_neg (by omega), q_up_o (by omega), q_up_o (by omega)]; exact g3
          · rw [List.getElem?_append_right g] at hio
            obtain rfl : i = l.length := by
              rcases Nat.eq_zero_or_pos (i - l.length) with q | q
              · omega
              · rw [List.getElem?_eq_none (by simp only [List.length_cons, List.length_nil]; omega)] at hio
                exact absurd hio (by simp)
            rw [Nat.sub_self, List.getElem?_cons_zero] at hio
            obtain rfl := Option.some.inj hio
            refine ⟨?_, ?_, ?_⟩
            · rw [q_up_o (by omega), q_up_o (by omega), q_up_o (by omega), q_up_app, if_pos ⟨rfl, rfl⟩]
            · rw [q_up_o (by omega), q_up_o (by omega), q_up_app, if_pos ⟨rfl, rfl⟩]
            · rw [q_up_o (by omega), q_up_app, if_pos ⟨rfl, rfl⟩]
      · have y : l.length = 20 := (nI_eq (by omega) (by decide)).mp y
        rw [if_pos y, if_neg (fun q => q.2.2 y)] at hR
        exact hR m ⟨fun _ _ _ _ _ => rfl, fun _ _ => rfl⟩ hl
    · rw [q_if_f z2, if_neg (fun q => z2 q.2.1)] at hR
      simp only [o_no, o_cut, o_ic, o_lc, o_str, o_il, o_ll, o_al, o_is, o_as, o_inc, o_iadd, o_isub, o_imul, o_iand, o_ior, o_ishl, o_ishr, o_iushr, o_idiv, o_irem, o_ladd, o_lmul, o_land, o_lor, o_lrem, o_lshl, o_lshr, o_lcmp, o_i2l, o_l2i, o_dup, o_dup2, o_ifeq, o_ifne, o_iflt, o_ifge, o_ifgt, o_ifle, o_iceq, o_icne, o_iclt, o_icge, o_icgt, o_icle, o_sw, o_iret, o_zret, o_vret, o_getf, o_putf, o_putz, o_putr, o_iald, o_zald, o_iast, o_zast, o_alen, o_aald, o_aast, o_obj_e, o_mmax_e, o_mmin_e, o_gsc, o_gsf, o_sval, o_scod, o_salen, o_sbald, o_i2c, o_pop, o_nret, o_call_0, o_call_1, o_call_2, o_call_3, o_call_4, o_call_5, o_call_6, o_call_7, o_callV_0, o_callV_1, o_callV_2, o_callV_3, o_callV_4, o_callV_5, o_callV_6, o_callT_0, o_callT_1, q_cn_0, q_cn_i, q_cn_r, q_cn_a, q_cn_l, q_cat_eq, q_nl_none, q_nl_sn, q_nl_i, q_nl_r, q_nl_a, q_vp_0, q_vp_1, q_vp_2, q_vp_3, q_vp_4, q_vp_5, q_vp_6, q_vp_7, q_vp_8, List.getElem?_cons_zero, List.getElem?_cons_succ, List.getElem?_nil, List.set_cons_zero, List.set_cons_succ, List.set_nil, Option.toList_some, Option.toList_none, List.cons_append, List.nil_append, Nat.reduceAdd, Nat.reduceSub, Nat.reduceLeDiff, Nat.add_zero, Nat.zero_add, Nat.reduceLT, Nat.zero_le, true_and, and_true, Value.category, true_or, or_true, q_z10, q_z01, Int32.reduceLT, Int32.reduceLE, Int32.reduceToNatClampNeg, not_true_eq_false, not_false_eq_true, false_implies, true_implies, implies_true, BX9_see_38, BX9_see_35, BX9_see_26, BX9_see_23, BX9_see_11, BX9_see_8, BX9_see_0, rmX9_see, z0, z1, z2, z3, z4, z5, z6, z7, z8, z9, z10, z11, z12, z13, z14, z15, z16, q_cls_of z0, q_R0_same]
      exact hR m ⟨fun _ _ _ _ _ => rfl, fun _ _ => rfl⟩ hl
  · rw [q_if_f z, if_neg (fun q => z q.1)] at hR
    simp only [o_no, o_cut, o_ic, o_lc, o_str, o_il, o_ll, o_al, o_is, o_as, o_inc, o_iadd, o_isub, o_imul, o_iand, o_ior, o_ishl, o_ishr, o_iushr, o_idiv, o_irem, o_ladd, o_lmul, o_land, o_lor, o_lrem, o_lshl, o_lshr, o_lcmp, o_i2l, o_l2i, o_dup, o_dup2, o_ifeq, o_ifne, o_iflt, o_ifge, o_ifgt, o_ifle, o_iceq, o_icne, o_iclt, o_icge, o_icgt, o_icle, o_sw, o_iret, o_zret, o_vret, o_getf, o_putf, o_putz, o_putr, o_iald, o_zald, o_iast, o_zast, o_alen, o_aald, o_aast, o_obj_e, o_mmax_e, o_mmin_e, o_gsc, o_gsf, o_sval, o_scod, o_salen, o_sbald, o_i2c, o_pop, o_nret, o_call_0, o_call_1, o_call_2, o_call_3, o_call_4, o_call_5, o_call_6, o_call_7, o_callV_0, o_callV_1, o_callV_2, o_callV_3, o_callV_4, o_callV_5, o_callV_6, o_callT_0, o_callT_1, q_cn_0, q_cn_i, q_cn_r, q_cn_a, q_cn_l, q_cat_eq, q_nl_none, q_nl_sn, q_nl_i, q_nl_r, q_nl_a, q_vp_0, q_vp_1, q_vp_2, q_vp_3, q_vp_4, q_vp_5, q_vp_6, q_vp_7, q_vp_8, List.getElem?_cons_zero, List.getElem?_cons_succ, List.getElem?_nil, List.set_cons_zero, List.set_cons_succ, List.set_nil, Option.toList_some, Option.toList_none, List.cons_append, List.nil_append, Nat.reduceAdd, Nat.reduceSub, Nat.reduceLeDiff, Nat.add_zero, Nat.zero_add, Nat.reduceLT, Nat.zero_le, true_and, and_true, Value.category, true_or, or_true, q_z10, q_z01, Int32.reduceLT, Int32.reduceLE, Int32.reduceToNatClampNeg, not_true_eq_false, not_false_eq_true, false_implies, true_implies, implies_true, BX9_see_38, BX9_see_35, BX9_see_26, BX9_see_23, BX9_see_11, BX9_see_8, BX9_see_0, rmX9_see, z0, z1, z2, z3, z4, z5, z6, z7, z8, z9, z10, z11, z12, z13, z14, z15, z16, q_cls_of z0, q_R0_same]
    exact hR m ⟨fun _ _ _ _ _ => rfl, fun _ _ => rfl⟩ hl
theorem p8_tear {b : BK} (hs : q_xs sh rb sb) (hk : r_ok k) (hx : x_rock m rb k) (hbk : x_book m b) (hl : x_seen m k l) (hR : ∀ m', (∀ a, a ≠ 9 → a ≠ 10 → a ≠ 18 → m' a = m a) → x_book m' (b.1, 0) → x_seen m' k [] → R (some (.int (nI (b.2 + l.length)))) sh m') : wX8_tear [.ref 0] sh m R := by
  obtain ⟨x0, x1, x3, x4, x6, x7, x9, x12, x15, x18, hr, hb, y2, y5, y8, y10, y11, y13, y14, y16, y17, y19, hrb⟩ := id hs
  refine eX8_tear ?_
  simp only [o_no, o_cut, o_ic, o_lc, o_str, o_il, o_ll, o_al, o_is, o_as, o_inc, o_iadd, o_isub, o_imul, o_iand, o_ior, o_ishl, o_ishr, o_iushr, o_idiv, o_irem, o_ladd, o_lmul, o_land, o_lor, o_lrem, o_lshl, o_lshr, o_lcmp, o_i2l, o_l2i, o_dup, o_dup2, o_ifeq, o_ifne, o_iflt, o_ifge, o_ifgt, o_ifle, o_iceq, o_icne, o_iclt, o_icge, o_icgt, o_icle, o_sw, o_iret, o_zret, o_vret, o_getf, o_putf, o_putz, o_putr, o_iald, o_zald, o_iast, o_zast, o_alen, o_aald, o_aast, o_obj_e, o_mmax_e, o_mmin_e, o_gsc, o_gsf, o_sval, o_scod, o_salen, o_sbald, o_i2c, o_pop, o_nret, o_call_0, o_call_1, o_call_2, o_call_3, o_call_4, o_call_5, o_call_6, o_call_7, o_callV_0, o_callV_1, o_callV_2, o_callV_3, o_callV_4, o_callV_5, o_callV_6, o_callT_0, o_callT_1, q_cn_0, q_cn_i, q_cn_r, q_cn_a, q_cn_l, q_cat_eq, q_nl_none, q_nl_sn, q_nl_i, q_nl_r, q_nl_a, q_vp_0, q_vp_1, q_vp_2, q_vp_3, q_vp_4, q_vp_5, q_vp_6, q_vp_7, q_vp_8, List.getElem?_cons_zero, List.getElem?_cons_succ, List.getElem?_nil, List.set_cons_zero, List.set_cons_succ, List.set_nil, Option.toList_some, Option.toList_none, List.cons_append, List.nil_append, Nat.reduceAdd, Nat.reduceSub, Nat.reduceLeDiff, Nat.add_zero, Nat.zero_add, Nat.reduceLT, Nat.zero_le, true_and, and_true, Value.category, true_or, or_true, q_z10, q_z01, Int32.reduceLT, Int32.reduceLE, Int32.reduceToNatClampNeg, not_true_eq_false, not_false_eq_true, false_implies, true_implies, implies_true, BX8_tear_0, rmX8_tear, x0, x1, x3, x4, x6, x7, x9, x12, x15, x18, q_cls_of x0, q_cls_of x1, q_cls_of x3, q_cls_of x4, q_cls_of x6, q_cls_of x7, q_cls_of x9, q_cls_of x12, q_cls_of x15, q_cls_of x18, q_cls_of hr.1, hr.1, q_R0_same]
  rw [hbk.1, hl.1, nI_add]
  have hx1 : x_rock (q_up m 18 1 0) rb k := x_rock_but hx q_but.up (by omega)
  refine p6_forget x9 y10 hr hk hx1.2.2.1 (by omega) (fun m' hb' e0 e5 hf' => ?_)
  simp only [o_no, o_cut, o_ic, o_lc, o_str, o_il, o_ll, o_al, o_is, o_as, o_inc, o_iadd, o_isub, o_imul, o_iand, o_ior, o_ishl, o_ishr, o_iushr, o_idiv, o_irem, o_ladd, o_lmul, o_land, o_lor, o_lrem, o_lshl, o_lshr, o_lcmp, o_i2l, o_l2i, o_dup, o_dup2, o_ifeq, o_ifne, o_iflt, o_ifge, o_ifgt, o_ifle, o_iceq, o_icne, o_iclt, o_icge, o_icgt, o_icle, o_sw, o_iret, o_zret, o_vret, o_getf, o_putf, o_putz, o_putr, o_iald, o_zald, o_iast, o_zast, o_alen, o_aald, o_aast, o_obj_e, o_mmax_e, o_mmin_e, o_gsc, o_gsf, o_sval, o_scod, o_salen, o_sbald, o_i2c, o_pop, o_nret, o_call_0, o_call_1, o_call_2, o_call_3, o_call_4, o_call_5, o_call_6, o_call_7, o_callV_0, o_callV_1, o_callV_2, o_callV_3, o_callV_4, o_callV_5, o_callV_6, o_callT_0, o_callT_1, q_cn_0, q_cn_i, q_cn_r, q_cn_a, q_cn_l, q_cat_eq, q_nl_none, q_nl_sn, q_nl_i, q_nl_r, q_nl_a, q_vp_0, q_vp_1, q_vp_2, q_vp_3, q_vp_4, q_vp_5, q_vp_6, q_vp_7, q_vp_8, List.getElem?_cons_zero, List.getElem?_cons_succ, List.getElem?_nil, List.set_cons_zero, List.set_cons_succ, List.set_nil, Option.toList_some, Option.toList_none, List.cons_append, List.nil_append, Nat.reduceAdd, Nat.reduceSub, Nat.reduceLeDiff, Nat.add_zero, Nat.zero_add, Nat.reduceLT, Nat.zero_le, true_and, and_true, Value.category, true_or, or_true, q_z10, q_z01, Int32.reduceLT, Int32.reduceLE, Int32.reduceToNatClampNeg, not_true_eq_false, not_false_eq_true, false_implies, true_implies, implies_true, BX8_tear_0, rmX8_tear, x0, x1, x3, x4, x6, x7, x9, x12, x15, x18, q_cls_of x0, q_cls_of x1, q_cls_of x3, q_cls_of x4, q_cls_of x6, q_cls_of x7, q_cls_of x9, q_cls_of x12, q_cls_of x15, q_cls_of x18, q_cls_of hr.1, hr.1, q_R0_same]
  refine hR m' (fun a h1 h2 h3 => by rw [hb' a h1 h2, q_up_o h3]) ⟨?_, fun j hj => absurd hj (Nat.not_lt_zero _)⟩ ⟨e0, hf', fun q => absurd e5 q⟩
  rw [hb' 18 (by decide) (by decide), q_up_app, if_pos ⟨rfl, rfl⟩]; rfl
theorem p9_tear {b : BK} (hs : q_md sh c) (hb : m_book m c b) (hl : m_seen m c l) (hR : ∀ m', (∀ a, a ≠ c → m' a = m a) → (∀ e, e ≠ 28 → e ≠ 32 → m' c e = m c e) → m_book m' c (b.1, 0) → m_seen m' c [] → R (some (.int (nI (b.2 + l.length)))) sh m') : wX9_tear [.ref c] sh m R := by
  obtain ⟨z0, z1, z2, z3, z4, z5, z6, z7, z8, z9, z10, z11, z12, z13, z14, z15, z16⟩ := id hs
  refine eX9_tear ?_
  simp only [o_no, o_cut, o_ic, o_lc, o_str, o_il, o_ll, o_al, o_is, o_as, o_inc, o_iadd, o_isub, o_imul, o_iand, o_ior, o_ishl, o_ishr, o_iushr, o_idiv, o_irem, o_ladd, o_lmul, o_land, o_lor, o_lrem, o_lshl, o_lshr, o_lcmp, o_i2l, o_l2i, o_dup, o_dup2, o_ifeq, o_ifne, o_iflt, o_ifge, o_ifgt, o_ifle, o_iceq, o_icne, o_iclt, o_icge, o_icgt, o_icle, o_sw, o_iret, o_zret, o_vret, o_getf, o_putf, o_putz, o_putr, o_iald, o_zald, o_iast, o_zast, o_alen, o_aald, o_aast, o_obj_e, o_mmax_e, o_mmin_e, o_gsc, o_gsf, o_sval, o_scod, o_salen, o_sbald, o_i2c, o_pop, o_nret, o_call_0, o_call_1, o_call_2, o_call_3, o_call_4, o_call_5, o_call_6, o_call_7, o_callV_0, o_callV_1, o_callV_2, o_callV_3, o_callV_4, o_callV_5, o_callV_6, o_callT_0, o_callT_1, q_cn_0, q_cn_i, q_cn_r, q_cn_a, q_cn_l, q_cat_eq, q_nl_none, q_nl_sn, q_nl_i, q_nl_r, q_nl_a, q_vp_0, q_vp_1, q_vp_2, q_vp_3, q_vp_4, q_vp_5, q_vp_6, q_vp_7, q_vp_8, List.getElem?_cons_zero, List.getElem?_cons_succ, List.getElem?_nil, List.set_cons_zero, List.set_cons_succ, List.set_nil, Option.toList_some, Option.toList_none, List.cons_append, List.nil_append, Nat.reduceAdd, Nat.reduceSub, Nat.reduceLeDiff, Nat.add_zero, Nat.zero_add, Nat.reduceLT, Nat.zero_le, true_and, and_true, Value.category, true_or, or_true, q_z10, q_z01, Int32.reduceLT, Int32.reduceLE, Int32.reduceToNatClampNeg, not_true_eq_false, not_false_eq_true, false_implies, true_implies, implies_true, BX9_tear_0, rmX9_tear, z0, z1, z2, z3, z4, z5, z6, z7, z8, z9, z10, z11, z12, z13, z14, z15, z16, q_cls_of z0, q_R0_same]
  rw [hb.1, hl.1, nI_add]
  refine hR _ (fun a h1 => by rw [q_up_o h1, q_up_o h1]) (fun e h1 h2 => by rw [q_up_app, if_neg (by omega), q_up_app, if_neg (by omega)]) ⟨?_, fun j hj => absurd hj (Nat.not_lt_zero _)⟩ ⟨?_, fun i o h => by simp at h⟩
  · rw [q_up_app, if_neg (by omega), q_up_app, if_pos ⟨rfl, rfl⟩]; rfl
  · rw [q_up_app, if_pos ⟨rfl, rfl⟩]; rfl
end SI
