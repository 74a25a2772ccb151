/-! Rock's loops, once it is settled. -/
/-- the first from j on, of d, for which F says yes; j + d where none -/
def f_ff (F : Nat → Bool) : Nat → Nat → Nat
  | 0, j => j
  | d + 1, j => if F j then j else f_ff F d (j + 1)
theorem f_ff_le (F : Nat → Bool) : ∀ d j, j ≤ f_ff F d j ∧ f_ff F d j ≤ j + d
  | 0, j => ⟨Nat.le_refl _, Nat.le_refl _⟩
  | d + 1, j => by
    have := f_ff_le F d (j + 1)
    rw [f_ff]
    split <;> omega
theorem f_ff_congr {F G : Nat → Bool} : ∀ d j, (∀ i, j ≤ i → i < j + d → F i = G i) → f_ff F d j = f_ff G d j
  | 0, _, _ => rfl
  | d + 1, j, h => by
    rw [f_ff, f_ff, h j (Nat.le_refl _) (by omega), f_ff_congr d (j + 1) (fun i h1 h2 => h i (by omega) (by omega))]
theorem f_ff_yes {F : Nat → Bool} : ∀ d j, f_ff F d j < j + d → F (f_ff F d j) = true
  | 0, j, h => by simp [f_ff] at h
  | d + 1, j, h => by
    rw [f_ff] at h ⊢
    by_cases c : F j = true
    · rw [if_pos c]; exact c
    · rw [if_neg c] at h ⊢
      exact f_ff_yes d (j + 1) (by omega)
theorem f_ff_no {F : Nat → Bool} : ∀ d j i, j ≤ i → i < f_ff F d j → F i = false
  | 0, j, i, h1, h2 => by simp [f_ff] at h2; omega
  | d + 1, j, i, h1, h2 => by
    rw [f_ff] at h2
    by_cases c : F j = true
    · rw [if_pos c] at h2; omega
    · rw [if_neg c] at h2
      rcases Nat.lt_or_ge j i with q | q
      · exact f_ff_no d (j + 1) i q h2
      · rw [show i = j by omega]; simpa using c
def f_ne (n per : Nat) : Int32 := if n = per then -1 else nI n
def f_cnt (F : Nat → Bool) : Nat → Nat
  | 0 => 0
  | n + 1 => f_cnt F n + (if F n then 1 else 0)
theorem f_cnt_le (F : Nat → Bool) : ∀ n, f_cnt F n ≤ n
  | 0 => Nat.le_refl _
  | n + 1 => by
    have := f_cnt_le F n
    rw [f_cnt]; split <;> omega
def f_dk (F : Nat → Bool) : Nat → Nat × Nat
  | 0 => (0, 0)
  | n + 1 => (max (f_dk F n).1 (if F n then 0 else (f_dk F n).2 + 1), if F n then 0 else (f_dk F n).2 + 1)
theorem f_dk_le (F : Nat → Bool) : ∀ n, (f_dk F n).1 ≤ n ∧ (f_dk F n).2 ≤ n
  | 0 => ⟨Nat.le_refl _, Nat.le_refl _⟩
  | n + 1 => by
    have := f_dk_le F n
    rw [f_dk]
    dsimp only
    split <;> omega
def f_dark (F : Nat → Bool) (per : Nat) : Nat := min (f_dk F (2 * per)).1 per
theorem nI_max {a b : Nat} (ha : a < 2 ^ 31) (hb : b < 2 ^ 31) : (if nI a < nI b then nI b else nI a) = nI (max a b) := by
  by_cases h : a < b
  · rw [if_pos ((nI_ltI ha hb).mpr h), Nat.max_eq_right (by omega)]
  · rw [if_neg (fun z => h ((nI_ltI ha hb).mp z)), Nat.max_eq_left (by omega)]
theorem nI_min {a b : Nat} (ha : a < 2 ^ 31) (hb : b < 2 ^ 31) : (if nI b < nI a then nI b else nI a) = nI (min a b) := by
  by_cases h : b < a
  · rw [if_pos ((nI_ltI hb ha).mpr h), Nat.min_eq_right (by omega)]
  · rw [if_neg (fun z => h ((nI_ltI hb ha).mp z)), Nat.min_eq_left (by omega)]
theorem nI_if (c : Bool) (n : Nat) : nI n + (if c then 1 else 0) = nI (n + if c then 1 else 0) := by
  cases c
  · simp
  · simp [nI_1]
theorem one_if {c : Bool} : ((if c = true then 1 else 0 : Int32) = 1) ↔ c = true := by cases c <;> simp
theorem one_if0 {c : Bool} : ((if c = true then 1 else 0 : Int32) = 0) ↔ ¬ c = true := by cases c <;> simp
/-- lit p from the standing s, step by step -/
def r_F (k : RK) (p s : Nat) : Nat → Bool := fun t => r_lt k p (r_ad k s t)
section XL
variable {m : q_Mm} {b : Nat} {k : RK} {sh : q_Sh} {R : q_KR}
theorem p4_stepsTillLit (h : r_ok k) (hs : q_rk sh b) (hx : x_rock m b k) {p s : Nat} (hp : p < r_pl k) (hS : s < r_S k) (hR : R (some (.int (f_ne (f_ff (r_F k p s) (r_per k) 0) (r_per k)))) sh m) : wX4_stepsTillLit [.ref b, .int (nI p), .int (nI s)] sh m R := by
  have hper := r_perle h
  refine eX4_stepsTillLit ?_
  simp only [o_no, o_cut, o_ic, o_lc, o_str, o_il, o_ll, o_al, o_is, o_as, o_inc, o_iadd, o_isub, o_imul, o_iand, o_ior, o_ishl, o_ishr, o_iushr, o_idiv, o_irem, o_ladd, o_lmul, o_land, o_lor, o_lrem, o_lshl, o_lshr, o_lcmp, o_i2l, o_l2i, o_dup, o_dup2, o_ifeq, o_ifne, o_iflt, o_ifge, o_ifgt, o_ifle, o_iceq, o_icne, o_iclt, o_icge, o_icgt, o_icle, o_sw, o_iret, o_zret, o_vret, o_getf, o_putf, o_putz, o_putr, o_iald, o_zald, o_iast, o_zast, o_alen, o_aald, o_aast, o_obj_e, o_mmax_e, o_mmin_e, o_slen, o_schar, o_call_0, o_call_1, o_call_2, o_call_3, o_call_4, o_call_5, o_call_6, o_call_7, o_callV_0, o_callV_1, o_callV_2, o_callV_3, o_callV_4, o_callV_5, o_callV_6, q_cn_0, q_cn_i, q_cn_r, q_cn_a, q_cn_l, q_cat_eq, q_nl_none, q_nl_sn, q_nl_i, q_nl_r, q_nl_a, List.getElem?_cons_zero, List.getElem?_cons_succ, List.getElem?_nil, List.set_cons_zero, List.set_cons_succ, List.set_nil, Option.toList_some, Option.toList_none, List.cons_append, List.nil_append, Nat.reduceAdd, Nat.reduceSub, Nat.reduceLeDiff, Nat.add_zero, Nat.zero_add, Nat.reduceLT, Nat.zero_le, true_and, and_true, Value.category, true_or, or_true, q_z10, q_z01, Int32.reduceLT, Int32.reduceLE, not_true_eq_false, not_false_eq_true, false_implies, true_implies, implies_true, BX4_stepsTillLit_0, BX4_stepsTillLit_39, BX4_stepsTillLit_27, BX4_stepsTillLit_24, BX4_stepsTillLit_14, BX4_stepsTillLit_5, rmX4_stepsTillLit, q_cls_of hs.1, hs.1, q_R0_same]
  have loop : ∀ d n, n + d = r_per k → R (some (.int (f_ne (f_ff (r_F k p s) d n) (r_per k)))) sh m → q_WP TX4_stepsTillLit 5 [some (.ref b), some (.int (nI p)), some (.int (nI s)), some (.int (nI (r_ad k s n))), some (.int (nI n))] [] sh m (q_R0 sh rmX4_stepsTillLit R) := by
    intro d
    induction d with
    | zero =>
      intro n hn hr
      refine uX4_stepsTillLit_5 ?_
      simp only [o_no, o_cut, o_ic, o_lc, o_str, o_il, o_ll, o_al, o_is, o_as, o_inc, o_iadd, o_isub, o_imul, o_iand, o_ior, o_ishl, o_ishr, o_iushr, o_idiv, o_irem, o_ladd, o_lmul, o_land, o_lor, o_lrem, o_lshl, o_lshr, o_lcmp, o_i2l, o_l2i, o_dup, o_dup2, o_ifeq, o_ifne, o_iflt, o_ifge, o_ifgt, o_ifle, o_iceq, o_icne, o_iclt, o_icge, o_icgt, o_icle, o_sw, o_iret, o_zret, o_vret, o_getf, o_putf, o_putz, o_putr, o_iald, o_zald, o_iast, o_zast, o_alen, o_aald, o_aast, o_obj_e, o_mmax_e, o_mmin_e, o_slen, o_schar, o_call_0, o_call_1, o_call_2, o_call_3, o_call_4, o_call_5, o_call_6, o_call_7, o_callV_0, o_callV_1, o_callV_2, o_callV_3, o_callV_4, o_callV_5, o_callV_6, q_cn_0, q_cn_i, q_cn_r, q_cn_a, q_cn_l, q_cat_eq, q_nl_none, q_nl_sn, q_nl_i, q_nl_r, q_nl_a, List.getElem?_cons_zero, List.getElem?_cons_succ, List.getElem?_nil, List.set_cons_zero, List.set_cons_succ, List.set_nil, Option.toList_some, Option.toList_none, List.cons_append, List.nil_append, Nat.reduceAdd, Nat.reduceSub, Nat.reduceLeDiff, Nat.add_zero, Nat.zero_add, Nat.reduceLT, Nat.zero_le, true_and, and_true, Value.category, true_or, or_true, q_z10, q_z01, Int32.reduceLT, Int32.reduceLE, not_true_eq_false, not_false_eq_true, false_implies, true_implies, implies_true, BX4_stepsTillLit_0, BX4_stepsTillLit_39, BX4_stepsTillLit_27, BX4_stepsTillLit_24, BX4_stepsTillLit_14, BX4_stepsTillLit_5, rmX4_stepsTillLit, q_cls_of hs.1, hs.1, q_R0_same]
      refine ⟨fun _ => ?_, fun c => ?_⟩
      · rw [f_ff, f_ne, if_pos (by omega)] at hr; exact hr
      · exact absurd (by rw [hx.2.2.2.1]; exact nI_le (by omega) (by omega)) c
    | succ d ih =>
      intro n hn hr
      refine uX4_stepsTillLit_5 ?_
      simp only [o_no, o_cut, o_ic, o_lc, o_str, o_il, o_ll, o_al, o_is, o_as, o_inc, o_iadd, o_isub, o_imul, o_iand, o_ior, o_ishl, o_ishr, o_iushr, o_idiv, o_irem, o_ladd, o_lmul, o_land, o_lor, o_lrem, o_lshl, o_lshr, o_lcmp, o_i2l, o_l2i, o_dup, o_dup2, o_ifeq, o_ifne, o_iflt, o_ifge, o_ifgt, o_ifle, o_iceq, o_icne, o_iclt, o_icge, o_icgt, o_icle, o_sw, o_iret, o_zret, o_vret, o_getf, o_putf, o_putz, o_putr, o_iald, o_zald, o_iast, o_zast, o_alen, o_aald, o_aast, o_obj_e, o_mmax_e, o_mmin_e, o_slen, o_schar, o_call_0, o_call_1, o_call_2, o_call_3, o_call_4, o_call_5, o_call_6, o_call_7, o_callV_0, o_callV_1, o_callV_2, o_callV_3, o_callV_4, o_callV_5, o_callV_6, q_cn_0, q_cn_i, q_cn_r, q_cn_a, q_cn_l, q_cat_eq, q_nl_none, q_nl_sn, q_nl_i, q_nl_r, q_nl_a, List.getElem?_cons_zero, List.getElem?_cons_succ, List.getElem?_nil, List.set_cons_zero, List.set_cons_succ, List.set_nil, Option.toList_some, Option.toList_none, List.cons_append, List.nil_append, Nat.reduceAdd, Nat.reduceSub, Nat.reduceLeDiff, Nat.add_zero, Nat.zero_add, Nat.reduceLT, Nat.zero_le, true_and, and_true, Value.category, true_or, or_true, q_z10, q_z01, Int32.reduceLT, Int32.reduceLE, not_true_eq_false, not_false_eq_true, false_implies, true_implies, implies_true, BX4_stepsTillLit_0, BX4_stepsTillLit_39, BX4_stepsTillLit_27, BX4_stepsTillLit_24, BX4_stepsTillLit_14, BX4_stepsTillLit_5, rmX4_stepsTillLit, q_cls_of hs.1, hs.1, q_R0_same]
      refine ⟨fun c => ?_, fun _ => ?_⟩
      · rw [hx.2.2.2.1] at c; exact absurd c (nI_ge (by omega) (by omega))
      · refine p4_litBit hs ?_
        simp only [o_no, o_cut, o_ic, o_lc, o_str, o_il, o_ll, o_al, o_is, o_as, o_inc, o_iadd, o_isub, o_imul, o_iand, o_ior, o_ishl, o_ishr, o_iushr, o_idiv, o_irem, o_ladd, o_lmul, o_land, o_lor, o_lrem, o_lshl, o_lshr, o_lcmp, o_i2l, o_l2i, o_dup, o_dup2, o_ifeq, o_ifne, o_iflt, o_ifge, o_ifgt, o_ifle, o_iceq, o_icne, o_iclt, o_icge, o_icgt, o_icle, o_sw, o_iret, o_zret, o_vret, o_getf, o_putf, o_putz, o_putr, o_iald, o_zald, o_iast, o_zast, o_alen, o_aald, o_aast, o_obj_e, o_mmax_e, o_mmin_e, o_slen, o_schar, o_call_0, o_call_1, o_call_2, o_call_3, o_call_4, o_call_5, o_call_6, o_call_7, o_callV_0, o_callV_1, o_callV_2, o_callV_3, o_callV_4, o_callV_5, o_callV_6, q_cn_0, q_cn_i, q_cn_r, q_cn_a, q_cn_l, q_cat_eq, q_nl_none, q_nl_sn, q_nl_i, q_nl_r, q_nl_a, List.getElem?_cons_zero, List.getElem?_cons_succ, List.getElem?_nil, List.set_cons_zero, List.set_cons_succ, List.set_nil, Option.toList_some, Option.toList_none, List.cons_append, List.nil_append, Nat.reduceAdd, Nat.reduceSub, Nat.reduceLeDiff, Nat.add_zero, Nat.zero_add, Nat.reduceLT, Nat.zero_le, true_and, and_true, Value.category, true_or, or_true, q_z10, q_z01, Int32.reduceLT, Int32.reduceLE, not_true_eq_false, not_false_eq_true, false_implies, true_implies, implies_true, BX4_stepsTillLit_0, BX4_stepsTillLit_39, BX4_stepsTillLit_27, BX4_stepsTillLit_24, BX4_stepsTillLit_14, BX4_stepsTillLit_5, rmX4_stepsTillLit, q_cls_of hs.1, hs.1, q_R0_same]
        rw [xs_litBit h hx hp (r_adlt h _ _)]
        refine ⟨fun c => ?_, fun c => ?_⟩
        · refine p4_stepLater hs ?_
          simp only [o_no, o_cut, o_ic, o_lc, o_str, o_il, o_ll, o_al, o_is, o_as, o_inc, o_iadd, o_isub, o_imul, o_iand, o_ior, o_ishl, o_ishr, o_iushr, o_idiv, o_irem, o_ladd, o_lmul, o_land, o_lor, o_lrem, o_lshl, o_lshr, o_lcmp, o_i2l, o_l2i, o_dup, o_dup2, o_ifeq, o_ifne, o_iflt, o_ifge, o_ifgt, o_ifle, o_iceq, o_icne, o_iclt, o_icge, o_icgt, o_icle, o_sw, o_iret, o_zret, o_vret, o_getf, o_putf, o_putz, o_putr, o_iald, o_zald, o_iast, o_zast, o_alen, o_aald, o_aast, o_obj_e, o_mmax_e, o_mmin_e, o_slen, o_schar, o_call_0, o_call_1, o_call_2, o_call_3, o_call_4, o_call_5, o_call_6, o_call_7, o_callV_0, o_callV_1, o_callV_2, o_callV_3, o_callV_4, o_callV_5, o_callV_6, q_cn_0, q_cn_i, q_cn_r, q_cn_a, q_cn_l, q_cat_eq, q_nl_none, q_nl_sn, q_nl_i, q_nl_r, q_nl_a, List.getElem?_cons_zero, List.getElem?_cons_succ, List.getElem?_nil, List.set_cons_zero, List.set_cons_succ, List.set_nil, Option.toList_some, Option.toList_none, List.cons_append, List.nil_append, Nat.reduceAdd, Nat.reduceSub, Nat.reduceLeDiff, Nat.add_zero, Nat.zero_add, Nat.reduceLT, Nat.zero_le, true_and, and_true, Value.category, true_or, or_true, q_z10, q_z01, Int32.reduceLT, Int32.reduceLE, not_true_eq_false, not_false_eq_true, false_implies, true_implies, implies_true, BX4_stepsTillLit_0, BX4_stepsTillLit_39, BX4_stepsTillLit_27, BX4_stepsTillLit_24, BX4_stepsTillLit_14, BX4_stepsTillLit_5, rmX4_stepsTillLit, q_cls_of hs.1, hs.1, q_R0_same]
          rw [xs_later h hx (r_adlt h _ _), r_adad h, nI_1]
          refine ih (n + 1) (by omega) ?_
          have c : ¬ r_F k p s n = true := fun z => c (one_if.mpr z)
          rw [f_ff, if_neg c] at hr
          exact hr
        · have c := one_if.mp c
          rw [f_ff, if_pos (show r_F k p s n = true from c), f_ne, if_neg (by omega)] at hr
          exact hr
  have := loop (r_per k) 0 (by omega) hR
  rw [r_ad0 h hS] at this
  exact this
theorem p4_stepsOfLight (h : r_ok k) (hs : q_rk sh b) (hx : x_rock m b k) {p s : Nat} (hp : p < r_pl k) (hS : s < r_S k) (hR : R (some (.int (if f_ff (r_F k p s) (r_per k) 0 = r_per k then -1 else nI (f_ff (fun j => !r_F k p s (f_ff (r_F k p s) (r_per k) 0 + j)) (r_per k) 0)))) sh m) : wX4_stepsOfLight [.ref b, .int (nI p), .int (nI s)] sh m R := by
  have hper := r_perle h
  have hSl := (r_Sle h).2
  have hle := f_ff_le (r_F k p s) (r_per k) 0
  refine eX4_stepsOfLight ?_
  simp only [o_no, o_cut, o_ic, o_lc, o_str, o_il, o_ll, o_al, o_is, o_as, o_inc, o_iadd, o_isub, o_imul, o_iand, o_ior, o_ishl, o_ishr, o_iushr, o_idiv, o_irem, o_ladd, o_lmul, o_land, o_lor, o_lrem, o_lshl, o_lshr, o_lcmp, o_i2l, o_l2i, o_dup, o_dup2, o_ifeq, o_ifne, o_iflt, o_ifge, o_ifgt, o_ifle, o_iceq, o_icne, o_iclt, o_icge, o_icgt, o_icle, o_sw, o_iret, o_zret, o_vret, o_getf, o_putf, o_putz, o_putr, o_iald, o_zald, o_iast, o_zast, o_alen, o_aald, o_aast, o_obj_e, o_mmax_e, o_mmin_e, o_slen, o_schar, o_call_0, o_call_1, o_call_2, o_call_3, o_call_4, o_call_5, o_call_6, o_call_7, o_callV_0, o_callV_1, o_callV_2, o_callV_3, o_callV_4, o_callV_5, o_callV_6, q_cn_0, q_cn_i, q_cn_r, q_cn_a, q_cn_l, q_cat_eq, q_nl_none, q_nl_sn, q_nl_i, q_nl_r, q_nl_a, List.getElem?_cons_zero, List.getElem?_cons_succ, List.getElem?_nil, List.set_cons_zero, List.set_cons_succ, List.set_nil, Option.toList_some, Option.toList_none, List.cons_append, List.nil_append, Nat.reduceAdd, Nat.reduceSub, Nat.reduceLeDiff, Nat.add_zero, Nat.zero_add, Nat.reduceLT, Nat.zero_le, true_and, and_true, Value.category, true_or, or_true, q_z10, q_z01, Int32.reduceLT, Int32.reduceLE, not_true_eq_false, not_false_eq_true, false_implies, true_implies, implies_true, BX4_stepsOfLight_14, BX4_stepsOfLight_12, BX4_stepsOfLight_0, BX4_stepsOfLight_63, BX4_stepsOfLight_49, BX4_stepsOfLight_46, BX4_stepsOfLight_36, BX4_stepsOfLight_27, rmX4_stepsOfLight, q_cls_of hs.1, hs.1, q_R0_same]
  refine p4_stepsTillLit h hs hx hp hS ?_
  simp only [o_no, o_cut, o_ic, o_lc, o_str, o_il, o_ll, o_al, o_is, o_as, o_inc, o_iadd, o_isub, o_imul, o_iand, o_ior, o_ishl, o_ishr, o_iushr, o_idiv, o_irem, o_ladd, o_lmul, o_land, o_lor, o_lrem, o_lshl, o_lshr, o_lcmp, o_i2l, o_l2i, o_dup, o_dup2, o_ifeq, o_ifne, o_iflt, o_ifge, o_ifgt, o_ifle, o_iceq, o_icne, o_iclt, o_icge, o_icgt, o_icle, o_sw, o_iret, o_zret, o_vret, o_getf, o_putf, o_putz, o_putr, o_iald, o_zald, o_iast, o_zast, o_alen, o_aald, o_aast, o_obj_e, o_mmax_e, o_mmin_e, o_slen, o_schar, o_call_0, o_call_1, o_call_2, o_call_3, o_call_4, o_call_5, o_call_6, o_call_7, o_callV_0, o_callV_1, o_callV_2, o_callV_3, o_callV_4, o_callV_5, o_callV_6, q_cn_0, q_cn_i, q_cn_r, q_cn_a, q_cn_l, q_cat_eq, q_nl_none, q_nl_sn, q_nl_i, q_nl_r, q_nl_a, List.getElem?_cons_zero, List.getElem?_cons_succ, List.getElem?_nil, List.set_cons_zero, List.set_cons_succ, List.set_nil, Option.toList_some, Option.toList_none, List.cons_append, List.nil_append, Nat.reduceAdd, Nat.reduceSub, Nat.reduceLeDiff, Nat.add_zero, Nat.zero_add, Nat.reduceLT, Nat.zero_le, true_and, and_true, Value.category, true_or, or_true, q_z10, q_z01, Int32.reduceLT, Int32.reduceLE, not_true_eq_false, not_false_eq_true, false_implies, true_implies, implies_true, BX4_stepsOfLight_14, BX4_stepsOfLight_12, BX4_stepsOfLight_0, BX4_stepsOfLight_63, BX4_stepsOfLight_49, BX4_stepsOfLight_46, BX4_stepsOfLight_36, BX4_stepsOfLight_27, rmX4_stepsOfLight, q_cls_of hs.1, hs.1, q_R0_same]
  generalize f_ff (r_F k p s) (r_per k) 0 = n0 at hR hle ⊢
  have loop : ∀ d n, n + d = r_per k → R (some (.int (nI (f_ff (fun j => !r_F k p s (n0 + j)) d n)))) sh m → q_WP TX4_stepsOfLight 27 [some (.ref b), some (.int (nI p)), some (.int (nI s)), some (.int (nI n0)), some (.int (nI (r_ad k s (n0 + n)))), some (.int (nI n))] [] sh m (q_R0 sh rmX4_stepsOfLight R) := by
    intro d
    induction d with
    | zero =>
      intro n hn hr
      refine uX4_stepsOfLight_27 ?_
      simp only [o_no, o_cut, o_ic, o_lc, o_str, o_il, o_ll, o_al, o_is, o_as, o_inc, o_iadd, o_isub, o_imul, o_iand, o_ior, o_ishl, o_ishr, o_iushr, o_idiv, o_irem, o_ladd, o_lmul, o_land, o_lor, o_lrem, o_lshl, o_lshr, o_lcmp, o_i2l, o_l2i, o_dup, o_dup2, o_ifeq, o_ifne, o_iflt, o_ifge, o_ifgt, o_ifle, o_iceq, o_icne, o_iclt, o_icge, o_icgt, o_icle, o_sw, o_iret, o_zret, o_vret, o_getf, o_putf, o_putz, o_putr, o_iald, o_zald, o_iast, o_zast, o_alen, o_aald, o_aast, o_obj_e, o_mmax_e, o_mmin_e, o_slen, o_schar, o_call_0, o_call_1, o_call_2, o_call_3, o_call_4, o_call_5, o_call_6, o_call_7, o_callV_0, o_callV_1, o_callV_2, o_callV_3, o_callV_4, o_callV_5, o_callV_6, q_cn_0, q_cn_i, q_cn_r, q_cn_a, q_cn_l, q_cat_eq, q_nl_none, q_nl_sn, q_nl_i, q_nl_r, q_nl_a, List.getElem?_cons_zero, List.getElem?_cons_succ, List.getElem?_nil, List.set_cons_zero, List.set_cons_succ, List.set_nil, Option.toList_some, Option.toList_none, List.cons_append, List.nil_append, Nat.reduceAdd, Nat.reduceSub, Nat.reduceLeDiff, Nat.add_zero, Nat.zero_add, Nat.reduceLT, Nat.zero_le, true_and, and_true, Value.category, true_or, or_true, q_z10, q_z01, Int32.reduceLT, Int32.reduceLE, not_true_eq_false, not_false_eq_true, false_implies, true_implies, implies_true, BX4_stepsOfLight_14, BX4_stepsOfLight_12, BX4_stepsOfLight_0, BX4_stepsOfLight_63, BX4_stepsOfLight_49, BX4_stepsOfLight_46, BX4_stepsOfLight_36, BX4_stepsOfLight_27, rmX4_stepsOfLight, q_cls_of hs.1, hs.1, q_R0_same]
      refine ⟨fun _ => ?_, fun c => ?_⟩
      · rw [f_ff, show n = r_per k by omega, ← hx.2.2.2.1] at hr; exact hr
      · exact absurd (by rw [hx.2.2.2.1]; exact nI_le (by omega) (by omega)) c
    | succ d ih =>
      intro n hn hr
      refine uX4_stepsOfLight_27 ?_
      simp only [o_no, o_cut, o_ic, o_lc, o_str, o_il, o_ll, o_al, o_is, o_as, o_inc, o_iadd, o_isub, o_imul, o_iand, o_ior, o_ishl, o_ishr, o_iushr, o_idiv, o_irem, o_ladd, o_lmul, o_land, o_lor, o_lrem, o_lshl, o_lshr, o_lcmp, o_i2l, o_l2i, o_dup, o_dup2, o_ifeq, o_ifne, o_iflt, o_ifge, o_ifgt, o_ifle, o_iceq, o_icne, o_iclt, o_icge, o_icgt, o_icle, o_sw, o_iret, o_zret, o_vret, o_getf, o_putf, o_putz, o_putr, o_iald, o_zald, o_iast, o_zast, o_alen, o_aald, o_aast, o_obj_e, o_mmax_e, o_mmin_e, o_slen, o_schar, o_call_0, o_call_1, o_call_2, o_call_3, o_call_4, o_call_5, o_call_6, o_call_7, o_callV_0, o_callV_1, o_callV_2, o_callV_3, o_callV_4, o_callV_5, o_callV_6, q_cn_0, q_cn_i, q_cn_r, q_cn_a, q_cn_l, q_cat_eq, q_nl_none, q_nl_sn, q_nl_i, q_nl_r, q_nl_a, List.getElem?_cons_zero, List.getElem?_cons_succ, List.getElem?_nil, List.set_cons_zero, List.set_cons_succ, List.set_nil, Option.toList_some, Option.toList_none, List.cons_append, List.nil_append, Nat.reduceAdd, Nat.reduceSub, Nat.reduceLeDiff, Nat.add_zero, Nat.zero_add, Nat.reduceLT, Nat.zero_le, true_and, and_true, Value.category, true_or, or_true, q_z10, q_z01, Int32.reduceLT, Int32.reduceLE, not_true_eq_false, not_false_eq_true, false_implies, true_implies, implies_true, BX4_stepsOfLight_14, BX4_stepsOfLight_12, BX4_stepsOfLight_0, BX4_stepsOfLight_63, BX4_stepsOfLight_49, BX4_stepsOfLight_46, BX4_stepsOfLight_36, BX4_stepsOfLight_27, rmX4_stepsOfLight, q_cls_of hs.1, hs.1, q_R0_same]
      refine ⟨fun c => ?_, fun _ => ?_⟩
      · rw [hx.2.2.2.1] at c; exact absurd c (nI_ge (by omega) (by omega))
      · refine p4_litBit hs ?_
        simp only [o_no, o_cut, o_ic, o_lc, o_str, o_il, o_ll, o_al, o_is, o_as, o_inc, o_iadd, o_isub, o_imul, o_iand, o_ior, o_ishl, o_ishr, o_iushr, o_idiv, o_irem, o_ladd, o_lmul, o_land, o_lor, o_lrem, o_lshl, o_lshr, o_lcmp, o_i2l, o_l2i, o_dup, o_dup2, o_ifeq, o_ifne, o_iflt, o_ifge, o_ifgt, o_ifle, o_iceq, o_icne, o_iclt, o_icge, o_icgt, o_icle, o_sw, o_iret, o_zret, o_vret, o_getf, o_putf, o_putz, o_putr, o_iald, o_zald, o_iast, o_zast, o_alen, o_aald, o_aast, o_obj_e, o_mmax_e, o_mmin_e, o_slen, o_schar, o_call_0, o_call_1, o_call_2, o_call_3, o_call_4, o_call_5, o_call_6, o_call_7, o_callV_0, o_callV_1, o_callV_2, o_callV_3, o_callV_4, o_callV_5, o_callV_6, q_cn_0, q_cn_i, q_cn_r, q_cn_a, q_cn_l, q_cat_eq, q_nl_none, q_nl_sn, q_nl_i, q_nl_r, q_nl_a, List.getElem?_cons_zero, List.getElem?_cons_succ, List.getElem?_nil, List.set_cons_zero, List.set_cons_succ, List.set_nil, Option.toList_some, Option.toList_none, List.cons_append, List.nil_append, Nat.reduceAdd, Nat.reduceSub, Nat.reduceLeDiff, Nat.add_zero, Nat.zero_add, Nat.reduceLT, Nat.zero_le, true_and, and_true, Value.category, true_or, or_true, q_z10, q_z01, Int32.reduceLT, Int32.reduceLE, not_true_eq_false, not_false_eq_true, false_implies, true_implies, implies_true, BX4_stepsOfLight_14, BX4_stepsOfLight_12, BX4_stepsOfLight_0, BX4_stepsOfLight_63, BX4_stepsOfLight_49, BX4_stepsOfLight_46, BX4_stepsOfLight_36, BX4_stepsOfLight_27, rmX4_stepsOfLight, q_cls_of hs.1, hs.1, q_R0_same]
        rw [xs_litBit h hx hp (r_adlt h _ _)]
        refine ⟨fun c => ?_, fun c => ?_⟩
        · refine p4_stepLater hs ?_
          simp only [o_no, o_cut, o_ic, o_lc, o_str, o_il, o_ll, o_al, o_is, o_as, o_inc, o_iadd, o_isub, o_imul, o_iand, o_ior, o_ishl, o_ishr, o_iushr, o_idiv, o_irem, o_ladd, o_lmul, o_land, o_lor, o_lrem, o_lshl, o_lshr, o_lcmp, o_i2l, o_l2i, o_dup, o_dup2, o_ifeq, o_ifne, o_iflt, o_ifge, o_ifgt, o_ifle, o_iceq, o_icne, o_iclt, o_icge, o_icgt, o_icle, o_sw, o_iret, o_zret, o_vret, o_getf, o_putf, o_putz, o_putr, o_iald, o_zald, o_iast, o_zast, o_alen, o_aald, o_aast, o_obj_e, o_mmax_e, o_mmin_e, o_slen, o_schar, o_call_0, o_call_1, o_call_2, o_call_3, o_call_4, o_call_5, o_call_6, o_call_7, o_callV_0, o_callV_1, o_callV_2, o_callV_3, o_callV_4, o_callV_5, o_callV_6, q_cn_0, q_cn_i, q_cn_r, q_cn_a, q_cn_l, q_cat_eq, q_nl_none, q_nl_sn, q_nl_i, q_nl_r, q_nl_a, List.getElem?_cons_zero, List.getElem?_cons_succ, List.getElem?_nil, List.set_cons_zero, List.set_cons_succ, List.set_nil, Option.toList_some, Option.toList_none, List.cons_append, List.nil_append, Nat.reduceAdd, Nat.reduceSub, Nat.reduceLeDiff, Nat.add_zero, Nat.zero_add, Nat.reduceLT, Nat.zero_le, true_and, and_true, Value.category, true_or, or_true, q_z10, q_z01, Int32.reduceLT, Int32.reduceLE, not_true_eq_false, not_false_eq_true, false_implies, true_implies, implies_true, BX4_stepsOfLight_14, BX4_stepsOfLight_12, BX4_stepsOfLight_0, BX4_stepsOfLight_63, BX4_stepsOfLight_49, BX4_stepsOfLight_46, BX4_stepsOfLight_36, BX4_stepsOfLight_27, rmX4_stepsOfLight, q_cls_of hs.1, hs.1, q_R0_same]
          rw [xs_later h hx (r_adlt h _ _), r_adad h, nI_1]
          refine ih (n + 1) (by omega) ?_
          have c : r_F k p s (n0 + n) = true := by
            by_cases z : r_lt k p (r_ad k s (n0 + n)) = true
            · exact z
            · exact absurd (one_if0.mpr z) c
          rw [f_ff, c, if_neg (by decide)] at hr
          exact hr
        · have c : r_F k p s (n0 + n) = false := Bool.eq_false_iff.mpr (one_if0.mp c)
          rw [f_ff, c, if_pos (by decide)] at hr
          exact hr
  refine ⟨fun c => ?_, fun c => ?_⟩
  · have hne : ¬ n0 = r_per k := fun z => c (by rw [f_ne, if_pos z])
    rw [if_neg hne] at hR
    rw [f_ne, if_neg hne]
    refine p4_moved hs ?_
    simp only [o_no, o_cut, o_ic, o_lc, o_str, o_il, o_ll, o_al, o_is, o_as, o_inc, o_iadd, o_isub, o_imul, o_iand, o_ior, o_ishl, o_ishr, o_iushr, o_idiv, o_irem, o_ladd, o_lmul, o_land, o_lor, o_lrem, o_lshl, o_lshr, o_lcmp, o_i2l, o_l2i, o_dup, o_dup2, o_ifeq, o_ifne, o_iflt, o_ifge, o_ifgt, o_ifle, o_iceq, o_icne, o_iclt, o_icge, o_icgt, o_icle, o_sw, o_iret, o_zret, o_vret, o_getf, o_putf, o_putz, o_putr, o_iald, o_zald, o_iast, o_zast, o_alen, o_aald, o_aast, o_obj_e, o_mmax_e, o_mmin_e, o_slen, o_schar, o_call_0, o_call_1, o_call_2, o_call_3, o_call_4, o_call_5, o_call_6, o_call_7, o_callV_0, o_callV_1, o_callV_2, o_callV_3, o_callV_4, o_callV_5, o_callV_6, q_cn_0, q_cn_i, q_cn_r, q_cn_a, q_cn_l, q_cat_eq, q_nl_none, q_nl_sn, q_nl_i, q_nl_r, q_nl_a, List.getElem?_cons_zero, List.getElem?_cons_succ, List.getElem?_nil, List.set_cons_zero, List.set_cons_succ, List.set_nil, Option.toList_some, Option.toList_none, List.cons_append, List.nil_append, Nat.reduceAdd, Nat.reduceSub, Nat.reduceLeDiff, Nat.add_zero, Nat.zero_add, Nat.reduceLT, Nat.zero_le, true_and, and_true, Value.category, true_or, or_true, q_z10, q_z01, Int32.reduceLT, Int32.reduceLE, not_true_eq_false, not_false_eq_true, false_implies, true_implies, implies_true, BX4_stepsOfLight_14, BX4_stepsOfLight_12, BX4_stepsOfLight_0, BX4_stepsOfLight_63, BX4_stepsOfLight_49, BX4_stepsOfLight_46, BX4_stepsOfLight_36, BX4_stepsOfLight_27, rmX4_stepsOfLight, q_cls_of hs.1, hs.1, q_R0_same]
    rw [xs_ad h hx (by omega) (by omega)]
    exact loop (r_per k) 0 (by omega) hR
  · have hne : n0 = r_per k := by
      by_cases z : n0 = r_per k
      · exact z
      · rw [f_ne, if_neg z] at c
        exact absurd (c ▸ nI_pos' (n := n0) (by omega)) (by decide)
    rw [if_pos hne] at hR
    exact hR
theorem p4_litSteps (h : r_ok k) (hs : q_rk sh b) (hx : x_rock m b k) {p s : Nat} (hp : p < r_pl k) (hS : s < r_S k) (hR : R (some (.int (nI (f_cnt (r_F k p s) (r_per k))))) sh m) : wX4_litSteps [.ref b, .int (nI p), .int (nI s)] sh m R := by
  have hper := r_perle h
  refine eX4_litSteps ?_
  simp only [o_no, o_cut, o_ic, o_lc, o_str, o_il, o_ll, o_al, o_is, o_as, o_inc, o_iadd, o_isub, o_imul, o_iand, o_ior, o_ishl, o_ishr, o_iushr, o_idiv, o_irem, o_ladd, o_lmul, o_land, o_lor, o_lrem, o_lshl, o_lshr, o_lcmp, o_i2l, o_l2i, o_dup, o_dup2, o_ifeq, o_ifne, o_iflt, o_ifge, o_ifgt, o_ifle, o_iceq, o_icne, o_iclt, o_icge, o_icgt, o_icle, o_sw, o_iret, o_zret, o_vret, o_getf, o_putf, o_putz, o_putr, o_iald, o_zald, o_iast, o_zast, o_alen, o_aald, o_aast, o_obj_e, o_mmax_e, o_mmin_e, o_slen, o_schar, o_call_0, o_call_1, o_call_2, o_call_3, o_call_4, o_call_5, o_call_6, o_call_7, o_callV_0, o_callV_1, o_callV_2, o_callV_3, o_callV_4, o_callV_5, o_callV_6, q_cn_0, q_cn_i, q_cn_r, q_cn_a, q_cn_l, q_cat_eq, q_nl_none, q_nl_sn, q_nl_i, q_nl_r, q_nl_a, List.getElem?_cons_zero, List.getElem?_cons_succ, List.getElem?_nil, List.set_cons_zero, List.set_cons_succ, List.set_nil, Option.toList_some, Option.toList_none, List.cons_append, List.nil_append, Nat.reduceAdd, Nat.reduceSub, Nat.reduceLeDiff, Nat.add_zero, Nat.zero_add, Nat.reduceLT, Nat.zero_le, true_and, and_true, Value.category, true_or, or_true, q_z10, q_z01, Int32.reduceLT, Int32.reduceLE, not_true_eq_false, not_false_eq_true, false_implies, true_implies, implies_true, BX4_litSteps_0, BX4_litSteps_41, BX4_litSteps_17, BX4_litSteps_8, rmX4_litSteps, q_cls_of hs.1, hs.1, q_R0_same]
  have loop : ∀ d n, n + d = r_per k → q_WP TX4_litSteps 8 [some (.ref b), some (.int (nI p)), some (.int (nI s)), some (.int (nI (f_cnt (r_F k p s) n))), some (.int (nI (r_ad k s n))), some (.int (nI n))] [] sh m (q_R0 sh rmX4_litSteps R) := by
    intro d
    induction d with
    | zero =>
      intro n hn
      refine uX4_litSteps_8 ?_
      simp only [o_no, o_cut, o_ic, o_lc, o_str, o_il, o_ll, o_al, o_is, o_as, o_inc, o_iadd, o_isub, o_imul, o_iand, o_ior, o_ishl, o_ishr, o_iushr, o_idiv, o_irem, o_ladd, o_lmul, o_land, o_lor, o_lrem, o_lshl, o_lshr, o_lcmp, o_i2l, o_l2i, o_dup, o_dup2, o_ifeq, o_ifne, o_iflt, o_ifge, o_ifgt, o_ifle, o_iceq, o_icne, o_iclt, o_icge, o_icgt, o_icle, o_sw, o_iret, o_zret, o_vret, o_getf, o_putf, o_putz, o_putr, o_iald, o_zald, o_iast, o_zast, o_alen, o_aald, o_aast, o_obj_e, o_mmax_e, o_mmin_e, o_slen, o_schar, o_call_0, o_call_1, o_call_2, o_call_3, o_call_4, o_call_5, o_call_6, o_call_7, o_callV_0, o_callV_1, o_callV_2, o_callV_3, o_callV_4, o_callV_5, o_callV_6, q_cn_0, q_cn_i, q_cn_r, q_cn_a, q_cn_l, q_cat_eq, q_nl_none, q_nl_sn, q_nl_i, q_nl_r, q_nl_a, List.getElem?_cons_zero, List.getElem?_cons_succ, List.getElem?_nil, List.set_cons_zero, List.set_cons_succ, List.set_nil, Option.toList_some, Option.toList_none, List.cons_append, List.nil_append, Nat.reduceAdd, Nat.reduceSub, Nat.reduceLeDiff, Nat.add_zero, Nat.zero_add, Nat.reduceLT, Nat.zero_le, true_and, and_true, Value.category, true_or, or_true, q_z10, q_z01, Int32.reduceLT, Int32.reduceLE, not_true_eq_false, not_false_eq_true, false_implies, true_implies, implies_true, BX4_litSteps_0, BX4_litSteps_41, BX4_litSteps_17, BX4_litSteps_8, rmX4_litSteps, q_cls_of hs.1, hs.1, q_R0_same]
      refine ⟨fun _ => ?_, fun c => ?_⟩
      · rw [show n = r_per k by omega]; exact hR
      · exact absurd (by rw [hx.2.2.2.1]; exact nI_le (by omega) (by omega)) c
    | succ d ih =>
      intro n hn
      refine uX4_litSteps_8 ?_
      simp only [o_no, o_cut, o_ic, o_lc, o_str, o_il, o_ll, o_al, o_is, o_as, o_inc, o_iadd, o_isub, o_imul, o_iand, o_ior, o_ishl, o_ishr, o_iushr, o_idiv, o_irem, o_ladd, o_lmul, o_land, o_lor, o_lrem, o_lshl, o_lshr, o_lcmp, o_i2l, o_l2i, o_dup, o_dup2, o_ifeq, o_ifne, o_iflt, o_ifge, o_ifgt, o_ifle, o_iceq, o_icne, o_iclt, o_icge, o_icgt, o_icle, o_sw, o_iret, o_zret, o_vret, o_getf, o_putf, o_putz, o_putr, o_iald, o_zald, o_iast, o_zast, o_alen, o_aald, o_aast, o_obj_e, o_mmax_e, o_mmin_e, o_slen, o_schar, o_call_0, o_call_1, o_call_2, o_call_3, o_call_4, o_call_5, o_call_6, o_call_7, o_callV_0, o_callV_1, o_callV_2, o_callV_3, o_callV_4, o_callV_5, o_callV_6, q_cn_0, q_cn_i, q_cn_r, q_cn_a, q_cn_l, q_cat_eq, q_nl_none, q_nl_sn, q_nl_i, q_nl_r, q_nl_a, List.getElem?_cons_zero, List.getElem?_cons_succ, List.getElem?_nil, List.set_cons_zero, List.set_cons_succ, List.set_nil, Option.toList_some, Option.toList_none, List.cons_append, List.nil_append, Nat.reduceAdd, Nat.reduceSub, Nat.reduceLeDiff, Nat.add_zero, Nat.zero_add, Nat.reduceLT, Nat.zero_le, true_and, and_true, Value.category, true_or, or_true, q_z10, q_z01, Int32.reduceLT, Int32.reduceLE, not_true_eq_false, not_false_eq_true, false_implies, true_implies, implies_true, BX4_litSteps_0, BX4_litSteps_41, BX4_litSteps_17, BX4_litSteps_8, rmX4_litSteps, q_cls_of hs.1, hs.1, q_R0_same]
      refine ⟨fun c => ?_, fun _ => ?_⟩
      · rw [hx.2.2.2.1] at c; exact absurd c (nI_ge (by omega) (by omega))
      · refine p4_litBit hs ?_
        simp only [o_no, o_cut, o_ic, o_lc, o_str, o_il, o_ll, o_al, o_is, o_as, o_inc, o_iadd, o_isub, o_imul, o_iand, o_ior, o_ishl, o_ishr, o_iushr, o_idiv, o_irem, o_ladd, o_lmul, o_land, o_lor, o_lrem, o_lshl, o_lshr, o_lcmp, o_i2l, o_l2i, o_dup, o_dup2, o_ifeq, o_ifne, o_iflt, o_ifge, o_ifgt, o_ifle, o_iceq, o_icne, o_iclt, o_icge, o_icgt, o_icle, o_sw, o_iret, o_zret, o_vret, o_getf, o_putf, o_putz, o_putr, o_iald, o_zald, o_iast, o_zast, o_alen, o_aald, o_aast, o_obj_e, o_mmax_e, o_mmin_e, o_slen, o_schar, o_call_0, o_call_1, o_call_2, o_call_3, o_call_4, o_call_5, o_call_6, o_call_7, o_callV_0, o_callV_1, o_callV_2, o_callV_3, o_callV_4, o_callV_5, o_callV_6, q_cn_0, q_cn_i, q_cn_r, q_cn_a, q_cn_l, q_cat_eq, q_nl_none, q_nl_sn, q_nl_i, q_nl_r, q_nl_a, List.getElem?_cons_zero, List.getElem?_cons_succ, List.getElem?_nil, List.set_cons_zero, List.set_cons_succ, List.set_nil, Option.toList_some, Option.toList_none, List.cons_append, List.nil_append, Nat.reduceAdd, Nat.reduceSub, Nat.reduceLeDiff, Nat.add_zero, Nat.zero_add, Nat.reduceLT, Nat.zero_le, true_and, and_true, Value.category, true_or, or_true, q_z10, q_z01, Int32.reduceLT, Int32.reduceLE, not_true_eq_false, not_false_eq_true, false_implies, true_implies, implies_true, BX4_litSteps_0, BX4_litSteps_41, BX4_litSteps_17, BX4_litSteps_8, rmX4_litSteps, q_cls_of hs.1, hs.1, q_R0_same]
        rw [xs_litBit h hx hp (r_adlt h _ _)]
        refine p4_stepLater hs ?_
        simp only [o_no, o_cut, o_ic, o_lc, o_str, o_il, o_ll, o_al, o_is, o_as, o_inc, o_iadd, o_isub, o_imul, o_iand, o_ior, o_ishl, o_ishr, o_iushr, o_idiv, o_irem, o_ladd, o_lmul, o_land, o_lor, o_lrem, o_lshl, o_lshr, o_lcmp, o_i2l, o_l2i, o_dup, o_dup2, o_ifeq, o_ifne, o_iflt, o_ifge, o_ifgt, o_ifle, o_iceq, o_icne, o_iclt, o_icge, o_icgt, o_icle, o_sw, o_iret, o_zret, o_vret, o_getf, o_putf, o_putz, o_putr, o_iald, o_zald, o_iast, o_zast, o_alen, o_aald, o_aast, o_obj_e, o_mmax_e, o_mmin_e, o_slen, o_schar, o_call_0, o_call_1, o_call_2, o_call_3, o_call_4, o_call_5, o_call_6, o_call_7, o_callV_0, o_callV_1, o_callV_2, o_callV_3, o_callV_4, o_callV_5, o_callV_6, q_cn_0, q_cn_i, q_cn_r, q_cn_a, q_cn_l, q_cat_eq, q_nl_none, q_nl_sn, q_nl_i, q_nl_r, q_nl_a, List.getElem?_cons_zero, List.getElem?_cons_succ, List.getElem?_nil, List.set_cons_zero, List.set_cons_succ, List.set_nil, Option.toList_some, Option.toList_none, List.cons_append, List.nil_append, Nat.reduceAdd, Nat.reduceSub, Nat.reduceLeDiff, Nat.add_zero, Nat.zero_add, Nat.reduceLT, Nat.zero_le, true_and, and_true, Value.category, true_or, or_true, q_z10, q_z01, Int32.reduceLT, Int32.reduceLE, not_true_eq_false, not_false_eq_true, false_implies, true_implies, implies_true, BX4_litSteps_0, BX4_litSteps_41, BX4_litSteps_17, BX4_litSteps_8, rmX4_litSteps, q_cls_of hs.1, hs.1, q_R0_same]
        rw [xs_later h hx (r_adlt h _ _), r_adad h, nI_1, nI_if]
        exact ih (n + 1) (by omega)
  have := loop (r_per k) 0 (by omega)
  rw [r_ad0 h hS] at this
  exact this
theorem p4_longestDark (h : r_ok k) (hs : q_rk sh b) (hx : x_rock m b k) {p s : Nat} (hp : p < r_pl k) (hS : s < r_S k) (hR : R (some (.int (nI (f_dark (r_F k p s) (r_per k))))) sh m) : wX4_longestDark [.ref b, .int (nI p), .int (nI s)] sh m R := by
  have hper := r_perle h
  refine eX4_longestDark ?_
  simp only [o_no, o_cut, o_ic, o_lc, o_str, o_il, o_ll, o_al, o_is, o_as, o_inc, o_iadd, o_isub, o_imul, o_iand, o_ior, o_ishl, o_ishr, o_iushr, o_idiv, o_irem, o_ladd, o_lmul, o_land, o_lor, o_lrem, o_lshl, o_lshr, o_lcmp, o_i2l, o_l2i, o_dup, o_dup2, o_ifeq, o_ifne, o_iflt, o_ifge, o_ifgt, o_ifle, o_iceq, o_icne, o_iclt, o_icge, o_icgt, o_icle, o_sw, o_iret, o_zret, o_vret, o_getf, o_putf, o_putz, o_putr, o_iald, o_zald, o_iast, o_zast, o_alen, o_aald, o_aast, o_obj_e, o_mmax_e, o_mmin_e, o_slen, o_schar, o_call_0, o_call_1, o_call_2, o_call_3, o_call_4, o_call_5, o_call_6, o_call_7, o_callV_0, o_callV_1, o_callV_2, o_callV_3, o_callV_4, o_callV_5, o_callV_6, q_cn_0, q_cn_i, q_cn_r, q_cn_a, q_cn_l, q_cat_eq, q_nl_none, q_nl_sn, q_nl_i, q_nl_r, q_nl_a, List.getElem?_cons_zero, List.getElem?_cons_succ, List.getElem?_nil, List.set_cons_zero, List.set_cons_succ, List.set_nil, Option.toList_some, Option.toList_none, List.cons_append, List.nil_append, Nat.reduceAdd, Nat.reduceSub, Nat.reduceLeDiff, Nat.add_zero, Nat.zero_add, Nat.reduceLT, Nat.zero_le, true_and, and_true, Value.category, true_or, or_true, q_z10, q_z01, Int32.reduceLT, Int32.reduceLE, not_true_eq_false, not_false_eq_true, false_implies, true_implies, implies_true, BX4_longestDark_0, BX4_longestDark_64, BX4_longestDark_41, BX4_longestDark_37, BX4_longestDark_33, BX4_longestDark_22, BX4_longestDark_11, rmX4_longestDark, q_cls_of hs.1, hs.1, q_R0_same]
  have loop : ∀ d n, n + d = 2 * r_per k → q_WP TX4_longestDark 11 [some (.ref b), some (.int (nI p)), some (.int (nI s)), some (.int (nI (f_dk (r_F k p s) n).1)), some (.int (nI (f_dk (r_F k p s) n).2)), some (.int (nI (r_ad k s n))), some (.int (nI n))] [] sh m (q_R0 sh rmX4_longestDark R) := by
    intro d
    induction d with
    | zero =>
      intro n hn
      have hl := f_dk_le (r_F k p s) n
      refine uX4_longestDark_11 ?_
      simp only [o_no, o_cut, o_ic, o_lc, o_str, o_il, o_ll, o_al, o_is, o_as, o_inc, o_iadd, o_isub, o_imul, o_iand, o_ior, o_ishl, o_ishr, o_iushr, o_idiv, o_irem, o_ladd, o_lmul, o_land, o_lor, o_lrem, o_lshl, o_lshr, o_lcmp, o_i2l, o_l2i, o_dup, o_dup2, o_ifeq, o_ifne, o_iflt, o_ifge, o_ifgt, o_ifle, o_iceq, o_icne, o_iclt, o_icge, o_icgt, o_icle, o_sw, o_iret, o_zret, o_vret, o_getf, o_putf, o_putz, o_putr, o_iald, o_zald, o_iast, o_zast, o_alen, o_aald, o_aast, o_obj_e, o_mmax_e, o_mmin_e, o_slen, o_schar, o_call_0, o_call_1, o_call_2, o_call_3, o_call_4, o_call_5, o_call_6, o_call_7, o_callV_0, o_callV_1, o_callV_2, o_callV_3, o_callV_4, o_callV_5, o_callV_6, q_cn_0, q_cn_i, q_cn_r, q_cn_a, q_cn_l, q_cat_eq, q_nl_none, q_nl_sn, q_nl_i, q_nl_r, q_nl_a, List.getElem?_cons_zero, List.getElem?_cons_succ, List.getElem?_nil, List.set_cons_zero, List.set_cons_succ, List.set_nil, Option.toList_some, Option.toList_none, List.cons_append, List.nil_append, Nat.reduceAdd, Nat.reduceSub, Nat.reduceLeDiff, Nat.add_zero, Nat.zero_add, Nat.reduceLT, Nat.zero_le, true_and, and_true, Value.category, true_or, or_true, q_z10, q_z01, Int32.reduceLT, Int32.reduceLE, not_true_eq_false, not_false_eq_true, false_implies, true_implies, implies_true, BX4_longestDark_0, BX4_longestDark_64, BX4_longestDark_41, BX4_longestDark_37, BX4_longestDark_33, BX4_longestDark_22, BX4_longestDark_11, rmX4_longestDark, q_cls_of hs.1, hs.1, q_R0_same]
      rw [hx.2.2.2.1, q_n2, pk_mul]
      refine ⟨fun _ => ?_, fun c => ?_⟩
      · rw [nI_min (by omega) (by omega), show n = 2 * r_per k by omega]; exact hR
      · exact absurd (nI_le (by omega) (by omega)) c
    | succ d ih =>
      intro n hn
      have hl := f_dk_le (r_F k p s) n
      have hl2 := f_dk_le (r_F k p s) (n + 1)
      refine uX4_longestDark_11 ?_
      simp only [o_no, o_cut, o_ic, o_lc, o_str, o_il, o_ll, o_al, o_is, o_as, o_inc, o_iadd, o_isub, o_imul, o_iand, o_ior, o_ishl, o_ishr, o_iushr, o_idiv, o_irem, o_ladd, o_lmul, o_land, o_lor, o_lrem, o_lshl, o_lshr, o_lcmp, o_i2l, o_l2i, o_dup, o_dup2, o_ifeq, o_ifne, o_iflt, o_ifge, o_ifgt, o_ifle, o_iceq, o_icne, o_iclt, o_icge, o_icgt, o_icle, o_sw, o_iret, o_zret, o_vret, o_getf, o_putf, o_putz, o_putr, o_iald, o_zald, o_iast, o_zast, o_alen, o_aald, o_aast, o_obj_e, o_mmax_e, o_mmin_e, o_slen, o_schar, o_call_0, o_call_1, o_call_2, o_call_3, o_call_4, o_call_5, o_call_6, o_call_7, o_callV_0, o_callV_1, o_callV_2, o_callV_3, o_callV_4, o_callV_5, o_callV_6, q_cn_0, q_cn_i, q_cn_r, q_cn_a, q_cn_l, q_cat_eq, q_nl_none, q_nl_sn, q_nl_i, q_nl_r, q_nl_a, List.getElem?_cons_zero, List.getElem?_cons_succ, List.getElem?_nil, List.set_cons_zero, List.set_cons_succ, List.set_nil, Option.toList_some, Option.toList_none, List.cons_append, List.nil_append, Nat.reduceAdd, Nat.reduceSub, Nat.reduceLeDiff, Nat.add_zero, Nat.zero_add, Nat.reduceLT, Nat.zero_le, true_and, and_true, Value.category, true_or, or_true, q_z10, q_z01, Int32.reduceLT, Int32.reduceLE, not_true_eq_false, not_false_eq_true, false_implies, true_implies, implies_true, BX4_longestDark_0, BX4_longestDark_64, BX4_longestDark_41, BX4_longestDark_37, BX4_longestDark_33, BX4_longestDark_22, BX4_longestDark_11, rmX4_longestDark, q_cls_of hs.1, hs.1, q_R0_same]
      rw [hx.2.2.2.1, q_n2, pk_mul]
      refine ⟨fun c => ?_, fun _ => ?_⟩
      · exact absurd c (nI_ge (by omega) (by omega))
      · refine p4_litBit hs ?_
        simp only [o_no, o_cut, o_ic, o_lc, o_str, o_il, o_ll, o_al, o_is, o_as, o_inc, o_iadd, o_isub, o_imul, o_iand, o_ior, o_ishl, o_ishr, o_iushr, o_idiv, o_irem, o_ladd, o_lmul, o_land, o_lor, o_lrem, o_lshl, o_lshr, o_lcmp, o_i2l, o_l2i, o_dup, o_dup2, o_ifeq, o_ifne, o_iflt, o_ifge, o_ifgt, o_ifle, o_iceq, o_icne, o_iclt, o_icge, o_icgt, o_icle, o_sw, o_iret, o_zret, o_vret, o_getf, o_putf, o_putz, o_putr, o_iald, o_zald, o_iast, o_zast, o_alen, o_aald, o_aast, o_obj_e, o_mmax_e, o_mmin_e, o_slen, o_schar, o_call_0, o_call_1, o_call_2, o_call_3, o_call_4, o_call_5, o_call_6, o_call_7, o_callV_0, o_callV_1, o_callV_2, o_callV_3, o_callV_4, o_callV_5, o_callV_6, q_cn_0, q_cn_i, q_cn_r, q_cn_a, q_cn_l, q_cat_eq, q_nl_none, q_nl_sn, q_nl_i, q_nl_r, q_nl_a, List.getElem?_cons_zero, List.getElem?_cons_succ, List.getElem?_nil, List.set_cons_zero, List.set_cons_succ, List.set_nil, Option.toList_some, Option.toList_none, List.cons_append, List.nil_append, Nat.reduceAdd, Nat.reduceSub, Nat.reduceLeDiff, Nat.add_zero, Nat.zero_add, Nat.reduceLT, Nat.zero_le, true_and, and_true, Value.category, true_or, or_true, q_z10, q_z01, Int32.reduceLT, Int32.reduceLE, not_true_eq_false, not_false_eq_true, false_implies, true_implies, implies_true, BX4_longestDark_0, BX4_longestDark_64, BX4_longestDark_41, BX4_longestDark_37, BX4_longestDark_33, BX4_longestDark_22, BX4_longestDark_11, rmX4_longestDark, q_cls_of hs.1, hs.1, q_R0_same]
        rw [xs_litBit h hx hp (r_adlt h _ _)]
        refine ⟨fun c => ?_, fun c => ?_⟩
        · have c : ¬ r_F k p s n = true := fun z => c (one_if.mpr z)
          refine p4_stepLater hs ?_
          simp only [o_no, o_cut, o_ic, o_lc, o_str, o_il, o_ll, o_al, o_is, o_as, o_inc, o_iadd, o_isub, o_imul, o_iand, o_ior, o_ishl, o_ishr, o_iushr, o_idiv, o_irem, o_ladd, o_lmul, o_land, o_lor, o_lrem, o_lshl, o_lshr, o_lcmp, o_i2l, o_l2i, o_dup, o_dup2, o_ifeq, o_ifne, o_iflt, o_ifge, o_ifgt, o_ifle, o_iceq, o_icne, o_iclt, o_icge, o_icgt, o_icle, o_sw, o_iret, o_zret, o_vret, o_getf, o_putf, o_putz, o_putr, o_iald, o_zald, o_iast, o_zast, o_alen, o_aald, o_aast, o_obj_e, o_mmax_e, o_mmin_e, o_slen, o_schar, o_call_0, o_call_1, o_call_2, o_call_3, o_call_4, o_call_5, o_call_6, o_call_7, o_callV_0, o_callV_1, o_callV_2, o_callV_3, o_callV_4, o_callV_5, o_callV_6, q_cn_0, q_cn_i, q_cn_r, q_cn_a, q_cn_l, q_cat_eq, q_nl_none, q_nl_sn, q_nl_i, q_nl_r, q_nl_a, List.getElem?_cons_zero, List.getElem?_cons_succ, List.getElem?_nil, List.set_cons_zero, List.set_cons_succ, List.set_nil, Option.toList_some, Option.toList_none, List.cons_append, List.nil_append, Nat.reduceAdd, Nat.reduceSub, Nat.reduceLeDiff, Nat.add_zero, Nat.zero_add, Nat.reduceLT, Nat.zero_le, true_and, and_true, Value.category, true_or, or_true, q_z10, q_z01, Int32.reduceLT, Int32.reduceLE, not_true_eq_false, not_false_eq_true, false_implies, true_implies, implies_true, BX4_longestDark_0, BX4_longestDark_64, BX4_longestDark_41, BX4_longestDark_37, BX4_longestDark_33, BX4_longestDark_22, BX4_longestDark_11, rmX4_longestDark, q_cls_of hs.1, hs.1, q_R0_same]
          rw [xs_later h hx (r_adlt h _ _), r_adad h, nI_1, nI_1, nI_max (by omega) (by omega)]
          have := ih (n + 1) (by omega)
          rw [f_dk] at this
          simp only [if_neg c] at this
          exact this
        · have c : r_F k p s n = true := one_if.mp c
          refine p4_stepLater hs ?_
          simp only [o_no, o_cut, o_ic, o_lc, o_str, o_il, o_ll, o_al, o_is, o_as, o_inc, o_iadd, o_isub, o_imul, o_iand, o_ior, o_ishl, o_ishr, o_iushr, o_idiv, o_irem, o_ladd, o_lmul, o_land, o_lor, o_lrem, o_lshl, o_lshr, o_lcmp, o_i2l, o_l2i, o_dup, o_dup2, o_ifeq, o_ifne, o_iflt, o_ifge, o_ifgt, o_ifle, o_iceq, o_icne, o_iclt, o_icge, o_icgt, o_icle, o_sw, o_iret, o_zret, o_vret, o_getf, o_putf, o_putz, o_putr, o_iald, o_zald, o_iast, o_zast, o_alen, o_aald, o_aast, o_obj_e, o_mmax_e, o_mmin_e, o_slen, o_schar, o_call_0, o_call_1, o_call_2, o_call_3, o_call_4, o_call_5, o_call_6, o_call_7, o_callV_0, o_callV_1, o_callV_2, o_callV_3, o_callV_4, o_callV_5, o_callV_6, q_cn_0, q_cn_i, q_cn_r, q_cn_a, q_cn_l, q_cat_eq, q_nl_none, q_nl_sn, q_nl_i, q_nl_r, q_nl_a, List.getElem?_cons_zero, List.getElem?_cons_succ, List.getElem?_nil, List.set_cons_zero, List.set_cons_succ, List.set_nil, Option.toList_some, Option.toList_none, List.cons_append, List.nil_append, Nat.reduceAdd, Nat.reduceSub, Nat.reduceLeDiff, Nat.add_zero, Nat.zero_add, Nat.reduceLT, Nat.zero_le, true_and, and_true, Value.category, true_or, or_true, q_z10, q_z01, Int32.reduceLT, Int32.reduceLE, not_true_eq_false, not_false_eq_true, false_implies, true_implies, implies_true, BX4_longestDark_0, BX4_longestDark_64, BX4_longestDark_41, BX4_longestDark_37, BX4_longestDark_33, BX4_longestDark_22, BX4_longestDark_11, rmX4_longestDark, q_cls_of hs.1, hs.1, q_R0_same]
          rw [xs_later h hx (r_adlt h _ _), r_adad h, nI_1, show (0 : Int32) = nI 0 from rfl, nI_max (by omega) (by omega)]
          have := ih (n + 1) (by omega)
          rw [f_dk] at this
          simp only [if_pos c] at this
          exact this
  have := loop (2 * r_per k) 0 (by omega)
  rw [r_ad0 h hS] at this
  exact this
theorem p4_stepsTillStanding (h : r_ok k) (hs : q_rk sh b) (hx : x_rock m b k) {s : Nat} {w : Int32} (hS : s < r_S k) (hR : R (some (.int (f_ne (f_ff (fun t => decide (nI (r_ad k s t) = w)) (r_per k) 0) (r_per k)))) sh m) : wX4_stepsTillStanding [.ref b, .int (nI s), .int w] sh m R := by
  have hper := r_perle h
  refine eX4_stepsTillStanding ?_
  simp only [o_no, o_cut, o_ic, o_lc, o_str, o_il, o_ll, o_al, o_is, o_as, o_inc, o_iadd, o_isub, o_imul, o_iand, o_ior, o_ishl, o_ishr, o_iushr, o_idiv, o_irem, o_ladd, o_lmul, o_land, o_lor, o_lrem, o_lshl, o_lshr, o_lcmp, o_i2l, o_l2i, o_dup, o_dup2, o_ifeq, o_ifne, o_iflt, o_ifge, o_ifgt, o_ifle, o_iceq, o_icne, o_iclt, o_icge, o_icgt, o_icle, o_sw, o_iret, o_zret, o_vret, o_getf, o_putf, o_putz, o_putr, o_iald, o_zald, o_iast, o_zast, o_alen, o_aald, o_aast, o_obj_e, o_mmax_e, o_mmin_e, o_slen, o_schar, o_call_0, o_call_1, o_call_2, o_call_3, o_call_4, o_call_5, o_call_6, o_call_7, o_callV_0, o_callV_1, o_callV_2, o_callV_3, o_callV_4, o_callV_5, o_callV_6, q_cn_0, q_cn_i, q_cn_r, q_cn_a, q_cn_l, q_cat_eq, q_nl_none, q_nl_sn, q_nl_i, q_nl_r, q_nl_a, List.getElem?_cons_zero, List.getElem?_cons_succ, List.getElem?_nil, List.set_cons_zero, List.set_cons_succ, List.set_nil, Option.toList_some, Option.toList_none, List.cons_append, List.nil_append, Nat.reduceAdd, Nat.reduceSub, Nat.reduceLeDiff, Nat.add_zero, Nat.zero_add, Nat.reduceLT, Nat.zero_le, true_and, and_true, Value.category, true_or, or_true, q_z10, q_z01, Int32.reduceLT, Int32.reduceLE, not_true_eq_false, not_false_eq_true, false_implies, true_implies, implies_true, BX4_stepsTillStanding_0, BX4_stepsTillStanding_34, BX4_stepsTillStanding_22, BX4_stepsTillStanding_19, BX4_stepsTillStanding_14, BX4_stepsTillStanding_5, rmX4_stepsTillStanding, q_cls_of hs.1, hs.1, q_R0_same]
  have loop : ∀ d n, n + d = r_per k → R (some (.int (f_ne (f_ff (fun t => decide (nI (r_ad k s t) = w)) d n) (r_per k)))) sh m → q_WP TX4_stepsTillStanding 5 [some (.ref b), some (.int (nI s)), some (.int w), some (.int (nI (r_ad k s n))), some (.int (nI n))] [] sh m (q_R0 sh rmX4_stepsTillStanding R) := by
    intro d
    induction d with
    | zero =>
      intro n hn hr
      refine uX4_stepsTillStanding_5 ?_
      simp only [o_no, o_cut, o_ic, o_lc, o_str, o_il, o_ll, o_al, o_is, o_as, o_inc, o_iadd, o_isub, o_imul, o_iand, o_ior, o_ishl, o_ishr, o_iushr, o_idiv, o_irem, o_ladd, o_lmul, o_land, o_lor, o_lrem, o_lshl, o_lshr, o_lcmp, o_i2l, o_l2i, o_dup, o_dup2, o_ifeq, o_ifne, o_iflt, o_ifge, o_ifgt, o_ifle, o_iceq, o_icne, o_iclt, o_icge, o_icgt, o_icle, o_sw, o_iret, o_zret, o_vret, o_getf, o_putf, o_putz, o_putr, o_iald, o_zald, o_iast, o_zast, o_alen, o_aald, o_aast, o_obj_e, o_mmax_e, o_mmin_e, o_slen, o_schar, o_call_0, o_call_1, o_call_2, o_call_3, o_call_4, o_call_5, o_call_6, o_call_7, o_callV_0, o_callV_1, o_callV_2, o_callV_3, o_callV_4, o_callV_5, o_callV_6, q_cn_0, q_cn_i, q_cn_r, q_cn_a, q_cn_l, q_cat_eq, q_nl_none, q_nl_sn, q_nl_i, q_nl_r, q_nl_a, List.getElem?_cons_zero, List.getElem?_cons_succ, List.getElem?_nil, List.set_cons_zero, List.set_cons_succ, List.set_nil, Option.toList_some, Option.toList_none, List.cons_append, List.nil_append, Nat.reduceAdd, Nat.reduceSub, Nat.reduceLeDiff, Nat.add_zero, Nat.zero_add, Nat.reduceLT, Nat.zero_le, true_and, and_true, Value.category, true_or, or_true, q_z10, q_z01, Int32.reduceLT, Int32.reduceLE, not_true_eq_false, not_false_eq_true, false_implies, true_implies, implies_true, BX4_stepsTillStanding_0, BX4_stepsTillStanding_34, BX4_stepsTillStanding_22, BX4_stepsTillStanding_19, BX4_stepsTillStanding_14, BX4_stepsTillStanding_5, rmX4_stepsTillStanding, q_cls_of hs.1, hs.1, q_R0_same]
      refine ⟨fun _ => ?_, fun c => ?_⟩
      · rw [f_ff, f_ne, if_pos (by omega)] at hr; exact hr
      · exact absurd (by rw [hx.2.2.2.1]; exact nI_le (by omega) (by omega)) c
    | succ d ih =>
      intro n hn hr
      refine uX4_stepsTillStanding_5 ?_
      simp only [o_no, o_cut, o_ic, o_lc, o_str, o_il, o_ll, o_al, o_is, o_as, o_inc, o_iadd, o_isub, o_imul, o_iand, o_ior, o_ishl, o_ishr, o_iushr, o_idiv, o_irem, o_ladd, o_lmul, o_land, o_lor, o_lrem, o_lshl, o_lshr, o_lcmp, o_i2l, o_l2i, o_dup, o_dup2, o_ifeq, o_ifne, o_iflt, o_ifge, o_ifgt, o_ifle, o_iceq, o_icne, o_iclt, o_icge, o_icgt, o_icle, o_sw, o_iret, o_zret, o_vret, o_getf, o_putf, o_putz, o_putr, o_iald, o_zald, o_iast, o_zast, o_alen, o_aald, o_aast, o_obj_e, o_mmax_e, o_mmin_e, o_slen, o_schar, o_call_0, o_call_1, o_call_2, o_call_3, o_call_4, o_call_5, o_call_6, o_call_7, o_callV_0, o_callV_1, o_callV_2, o_callV_3, o_callV_4, o_callV_5, o_callV_6, q_cn_0, q_cn_i, q_cn_r, q_cn_a, q_cn_l, q_cat_eq, q_nl_none, q_nl_sn, q_nl_i, q_nl_r, q_nl_a, List.getElem?_cons_zero, List.getElem?_cons_succ, List.getElem?_nil, List.set_cons_zero, List.set_cons_succ, List.set_nil, Option.toList_some, Option.toList_none, List.cons_append, List.nil_append, Nat.reduceAdd, Nat.reduceSub, Nat.reduceLeDiff, Nat.add_zero, Nat.zero_add, Nat.reduceLT, Nat.zero_le, true_and, and_true, Value.category, true_or, or_true, q_z10, q_z01, Int32.reduceLT, Int32.reduceLE, not_true_eq_false, not_false_eq_true, false_implies, true_implies, implies_true, BX4_stepsTillStanding_0, BX4_stepsTillStanding_34, BX4_stepsTillStanding_22, BX4_stepsTillStanding_19, BX4_stepsTillStanding_14, BX4_stepsTillStanding_5, rmX4_stepsTillStanding, q_cls_of hs.1, hs.1, q_R0_same]
      refine ⟨fun c => ?_, fun _ => ⟨fun c => ?_, fun c => ?_⟩⟩
      · rw [hx.2.2.2.1] at c; exact absurd c (nI_ge (by omega) (by omega))
      · refine p4_stepLater hs ?_
        simp only [o_no, o_cut, o_ic, o_lc, o_str, o_il, o_ll, o_al, o_is, o_as, o_inc, o_iadd, o_isub, o_imul, o_iand, o_ior, o_ishl, o_ishr, o_iushr, o_idiv, o_irem, o_ladd, o_lmul, o_land, o_lor, o_lrem, o_lshl, o_lshr, o_lcmp, o_i2l, o_l2i, o_dup, o_dup2, o_ifeq, o_ifne, o_iflt, o_ifge, o_ifgt, o_ifle, o_iceq, o_icne, o_iclt, o_icge, o_icgt, o_icle, o_sw, o_iret, o_zret, o_vret, o_getf, o_putf, o_putz, o_putr, o_iald, o_zald, o_iast, o_zast, o_alen, o_aald, o_aast, o_obj_e, o_mmax_e, o_mmin_e, o_slen, o_schar, o_call_0, o_call_1, o_call_2, o_call_3, o_call_4, o_call_5, o_call_6, o_call_7, o_callV_0, o_callV_1, o_callV_2, o_callV_3, o_callV_4, o_callV_5, o_callV_6, q_cn_0, q_cn_i, q_cn_r, q_cn_a, q_cn_l, q_cat_eq, q_nl_none, q_nl_sn, q_nl_i, q_nl_r, q_nl_a, List.getElem?_cons_zero, List.getElem?_cons_succ, List.getElem?_nil, List.set_cons_zero, List.set_cons_succ, List.set_nil, Option.toList_some, Option.toList_none, List.cons_append, List.nil_append, Nat.reduceAdd, Nat.reduceSub, Nat.reduceLeDiff, Nat.add_zero, Nat.zero_add, Nat.reduceLT, Nat.zero_le, true_and, and_true, Value.category, true_or, or_true, q_z10, q_z01, Int32.reduceLT, Int32.reduceLE, not_true_eq_false, not_false_eq_true, false_implies, true_implies, implies_true, BX4_stepsTillStanding_0, BX4_stepsTillStanding_34, BX4_stepsTillStanding_22, BX4_stepsTillStanding_19, BX4_stepsTillStanding_14, BX4_stepsTillStanding_5, rmX4_stepsTillStanding, q_cls_of hs.1, hs.1, q_R0_same]
        rw [xs_later h hx (r_adlt h _ _), r_adad h, nI_1]
        refine ih (n + 1) (by omega) ?_
        rw [f_ff, if_neg (by simpa using c)] at hr
        exact hr
      · rw [f_ff, if_pos (by simpa using c), f_ne, if_neg (by omega)] at hr
        exact hr
  have := loop (r_per k) 0 (by omega) hR
  rw [r_ad0 h hS] at this
  exact this
def r_X (k : RK) (p q s : Nat) : Nat → Bool := fun t => r_lt k p (r_ad k s t) && (r_lt k q (r_ad k s t) && decide (r_ht k p (r_ad k s t) = r_ht k q (r_ad k s t)))
theorem p4_stepsTillCross (h : r_ok k) (hs : q_rk sh b) (hx : x_rock m b k) {p q s : Nat} (hp : p < r_pl k) (hq : q < r_pl k) (hS : s < r_S k) (hR : R (some (.int (f_ne (f_ff (r_X k p q s) (r_per k) 0) (r_per k)))) sh m) : wX4_stepsTillCross [.ref b, .int (nI p), .int (nI q), .int (nI s)] sh m R := by
  have hper := r_perle h
  have hSl := (r_Sle h).2
  refine eX4_stepsTillCross ?_
  simp only [o_no, o_cut, o_ic, o_lc, o_str, o_il, o_ll, o_al, o_is, o_as, o_inc, o_iadd, o_isub, o_imul, o_iand, o_ior, o_ishl, o_ishr, o_iushr, o_idiv, o_irem, o_ladd, o_lmul, o_land, o_lor, o_lrem, o_lshl, o_lshr, o_lcmp, o_i2l, o_l2i, o_dup, o_dup2, o_ifeq, o_ifne, o_iflt, o_ifge, o_ifgt, o_ifle, o_iceq, o_icne, o_iclt, o_icge, o_icgt, o_icle, o_sw, o_iret, o_zret, o_vret, o_getf, o_putf, o_putz, o_putr, o_iald, o_zald, o_iast, o_zast, o_alen, o_aald, o_aast, o_obj_e, o_mmax_e, o_mmin_e, o_slen, o_schar, o_call_0, o_call_1, o_call_2, o_call_3, o_call_4, o_call_5, o_call_6, o_call_7, o_callV_0, o_callV_1, o_callV_2, o_callV_3, o_callV_4, o_callV_5, o_callV_6, q_cn_0, q_cn_i, q_cn_r, q_cn_a, q_cn_l, q_cat_eq, q_nl_none, q_nl_sn, q_nl_i, q_nl_r, q_nl_a, List.getElem?_cons_zero, List.getElem?_cons_succ, List.getElem?_nil, List.set_cons_zero, List.set_cons_succ, List.set_nil, Option.toList_some, Option.toList_none, List.cons_append, List.nil_append, Nat.reduceAdd, Nat.reduceSub, Nat.reduceLeDiff, Nat.add_zero, Nat.zero_add, Nat.reduceLT, Nat.zero_le, true_and, and_true, Value.category, true_or, or_true, q_z10, q_z01, Int32.reduceLT, Int32.reduceLE, not_true_eq_false, not_false_eq_true, false_implies, true_implies, implies_true, BX4_stepsTillCross_0, BX4_stepsTillCross_83, BX4_stepsTillCross_41, BX4_stepsTillCross_37, BX4_stepsTillCross_26, BX4_stepsTillCross_15, BX4_stepsTillCross_6, BX4_stepsTillCross_69, BX4_stepsTillCross_66, BX4_stepsTillCross_49, BX4_stepsTillCross_42, rmX4_stepsTillCross, q_cls_of hs.1, hs.1, q_R0_same]
  have loop : ∀ d n (g : Option Value), n + d = r_per k → R (some (.int (f_ne (f_ff (r_X k p q s) d n) (r_per k)))) sh m → q_nl (some g) → q_WP TX4_stepsTillCross 6 [some (.ref b), some (.int (nI p)), some (.int (nI q)), some (.int (nI s)), some (.int (nI (r_ad k s n))), some (.int (nI n)), g] [] sh m (q_R0 sh rmX4_stepsTillCross R) := by
    intro d
    induction d with
    | zero =>
      intro n g hn hr hg
      refine uX4_stepsTillCross_6 ?_
      simp only [o_no, o_cut, o_ic, o_lc, o_str, o_il, o_ll, o_al, o_is, o_as, o_inc, o_iadd, o_isub, o_imul, o_iand, o_ior, o_ishl, o_ishr, o_iushr, o_idiv, o_irem, o_ladd, o_lmul, o_land, o_lor, o_lrem, o_lshl, o_lshr, o_lcmp, o_i2l, o_l2i, o_dup, o_dup2, o_ifeq, o_ifne, o_iflt, o_ifge, o_ifgt, o_ifle, o_iceq, o_icne, o_iclt, o_icge, o_icgt, o_icle, o_sw, o_iret, o_zret, o_vret, o_getf, o_putf, o_putz, o_putr, o_iald, o_zald, o_iast, o_zast, o_alen, o_aald, o_aast, o_obj_e, o_mmax_e, o_mmin_e, o_slen, o_schar, o_call_0, o_call_1, o_call_2, o_call_3, o_call_4, o_call_5, o_call_6, o_call_7, o_callV_0, o_callV_1, o_callV_2, o_callV_3, o_callV_4, o_callV_5, o_callV_6, q_cn_0, q_cn_i, q_cn_r, q_cn_a, q_cn_l, q_cat_eq, q_nl_none, q_nl_sn, q_nl_i, q_nl_r, q_nl_a, List.getElem?_cons_zero, List.getElem?_cons_succ, List.getElem?_nil, List.set_cons_zero, List.set_cons_succ, List.set_nil, Option.toList_some, Option.toList_none, List.cons_append, List.nil_append, Nat.reduceAdd, Nat.reduceSub, Nat.reduceLeDiff, Nat.add_zero, Nat.zero_add, Nat.reduceLT, Nat.zero_le, true_and, and_true, Value.category, true_or, or_true, q_z10, q_z01, Int32.reduceLT, Int32.reduceLE, not_true_eq_false, not_false_eq_true, false_implies, true_implies, implies_true, BX4_stepsTillCross_0, BX4_stepsTillCross_83, BX4_stepsTillCross_41, BX4_stepsTillCross_37, BX4_stepsTillCross_26, BX4_stepsTillCross_15, BX4_stepsTillCross_6, BX4_stepsTillCross_69, BX4_stepsTillCross_66, BX4_stepsTillCross_49, BX4_stepsTillCross_42, rmX4_stepsTillCross, q_cls_of hs.1, hs.1, q_R0_same]
      refine ⟨fun _ => ?_, fun c => ?_⟩
      · rw [f_ff, f_ne, if_pos (by omega)] at hr; exact hr
      · exact absurd (by rw [hx.2.2.2.1]; exact nI_le (by omega) (by omega)) c
    | succ d ih =>
      intro n g hn hr hg
      have hlt := r_adlt h s n
      have next : ∀ v : Int32, R (some (.int (f_ne (f_ff (r_X k p q s) d (n + 1)) (r_per k)))) sh m → BX4_stepsTillCross_69 [some (.ref b), some (.int (nI p)), some (.int (nI q)), some (.int (nI s)), some (.int (nI (r_ad k s n))), some (.int (nI n)), some (.int v)] [] sh m (fun pc L st sh2 m => q_WP TX4_stepsTillCross pc L st sh2 m (q_R0 sh rmX4_stepsTillCross R)) (q_R0 sh rmX4_stepsTillCross R) := by
        intro v hr
        simp only [o_no, o_cut, o_ic, o_lc, o_str, o_il, o_ll, o_al, o_is, o_as, o_inc, o_iadd, o_isub, o_imul, o_iand, o_ior, o_ishl, o_ishr, o_iushr, o_idiv, o_irem, o_ladd, o_lmul, o_land, o_lor, o_lrem, o_lshl, o_lshr, o_lcmp, o_i2l, o_l2i, o_dup, o_dup2, o_ifeq, o_ifne, o_iflt, o_ifge, o_ifgt, o_ifle, o_iceq, o_icne, o_iclt, o_icge, o_icgt, o_icle, o_sw, o_iret, o_zret, o_vret, o_getf, o_putf, o_putz, o_putr, o_iald, o_zald, o_iast, o_zast, o_alen, o_aald, o_aast, o_obj_e, o_mmax_e, o_mmin_e, o_slen, o_schar, o_call_0, o_call_1, o_call_2, o_call_3, o_call_4, o_call_5, o_call_6, o_call_7, o_callV_0, o_callV_1, o_callV_2, o_callV_3, o_callV_4, o_callV_5, o_callV_6, q_cn_0, q_cn_i, q_cn_r, q_cn_a, q_cn_l, q_cat_eq, q_nl_none, q_nl_sn, q_nl_i, q_nl_r, q_nl_a, List.getElem?_cons_zero, List.getElem?_cons_succ, List.getElem?_nil, List.set_cons_zero, List.set_cons_succ, List.set_nil, Option.toList_some, Option.toList_none, List.cons_append, List.nil_append, Nat.reduceAdd, Nat.reduceSub, Nat.reduceLeDiff, Nat.add_zero, Nat.zero_add, Nat.reduceLT, Nat.zero_le, true_and, and_true, Value.category, true_or, or_true, q_z10, q_z01, Int32.reduceLT, Int32.reduceLE, not_true_eq_false, not_false_eq_true, false_implies, true_implies, implies_true, BX4_stepsTillCross_0, BX4_stepsTillCross_83, BX4_stepsTillCross_41, BX4_stepsTillCross_37, BX4_stepsTillCross_26, BX4_stepsTillCross_15, BX4_stepsTillCross_6, BX4_stepsTillCross_69, BX4_stepsTillCross_66, BX4_stepsTillCross_49, BX4_stepsTillCross_42, rmX4_stepsTillCross, q_cls_of hs.1, hs.1, q_R0_same]
        refine p4_stepLater hs ?_
        simp only [o_no, o_cut, o_ic, o_lc, o_str, o_il, o_ll, o_al, o_is, o_as, o_inc, o_iadd, o_isub, o_imul, o_iand, o_ior, o_ishl, o_ishr, o_iushr, o_idiv, o_irem, o_ladd, o_lmul, o_land, o_lor, o_lrem, o_lshl, o_lshr, o_lcmp, o_i2l, o_l2i, o_dup, o_dup2, o_ifeq, o_ifne, o_iflt, o_ifge, o_ifgt, o_ifle, o_iceq, o_icne, o_iclt, o_icge, o_icgt, o_icle, o_sw, o_iret, o_zret, o_vret, o_getf, o_putf, o_putz, o_putr, o_iald, o_zald, o_iast, o_zast, o_alen, o_aald, o_aast, o_obj_e, o_mmax_e, o_mmin_e, o_slen, o_schar, o_call_0, o_call_1, o_call_2, o_call_3, o_call_4, o_call_5, o_call_6, o_call_7, o_callV_0, o_callV_1, o_callV_2, o_callV_3, o_callV_4, o_callV_5, o_callV_6, q_cn_0, q_cn_i, q_cn_r, q_cn_a, q_cn_l, q_cat_eq, q_nl_none, q_nl_sn, q_nl_i, q_nl_r, q_nl_a, List.getElem?_cons_zero, List.getElem?_cons_succ, List.getElem?_nil, List.set_cons_zero, List.set_cons_succ, List.set_nil, Option.toList_some, Option.toList_none, List.cons_append, List.nil_append, Nat.reduceAdd, Nat.reduceSub, Nat.reduceLeDiff, Nat.add_zero, Nat.zero_add, Nat.reduceLT, Nat.zero_le, true_and, and_true, Value.category, true_or, or_true, q_z10, q_z01, Int32.reduceLT, Int32.reduceLE, not_true_eq_false, not_false_eq_true, false_implies, true_implies, implies_true, BX4_stepsTillCross_0, BX4_stepsTillCross_83, BX4_stepsTillCross_41, BX4_stepsTillCross_37, BX4_stepsTillCross_26, BX4_stepsTillCross_15, BX4_stepsTillCross_6, BX4_stepsTillCross_69, BX4_stepsTillCross_66, BX4_stepsTillCross_49, BX4_stepsTillCross_42, rmX4_stepsTillCross, q_cls_of hs.1, hs.1, q_R0_same]
        rw [xs_later h hx (r_adlt h _ _), r_adad h, nI_1]
        exact ih (n + 1) _ (by omega) hr trivial
      have no : ¬ (r_lt k p (r_ad k s n) = true ∧ r_lt k q (r_ad k s n) = true) → q_WP TX4_stepsTillCross 42 [some (.ref b), some (.int (nI p)), some (.int (nI q)), some (.int (nI s)), some (.int (nI (r_ad k s n))), some (.int (nI n)), g] [.int 0] sh m (q_R0 sh rmX4_stepsTillCross R) := by
        intro c
        refine uX4_stepsTillCross_42 ?_
        simp only [BX4_stepsTillCross_42, o_is, o_il, o_ifeq, List.set_cons_zero, List.set_cons_succ, List.getElem?_cons_zero, List.getElem?_cons_succ, Nat.reduceSub, q_nl_i, true_and, not_true_eq_false, false_implies, and_true, true_implies]
        refine next 0 ?_
        rw [f_ff, if_neg] at hr
        · exact hr
        · intro z
          simp only [r_X, Bool.and_eq_true] at z
          exact c ⟨z.1, z.2.1⟩
      refine uX4_stepsTillCross_6 ?_
      simp only [o_no, o_cut, o_ic, o_lc, o_str, o_il, o_ll, o_al, o_is, o_as, o_inc, o_iadd, o_isub, o_imul, o_iand, o_ior, o_ishl, o_ishr, o_iushr, o_idiv, o_irem, o_ladd, o_lmul, o_land, o_lor, o_lrem, o_lshl, o_lshr, o_lcmp, o_i2l, o_l2i, o_dup, o_dup2, o_ifeq, o_ifne, o_iflt, o_ifge, o_ifgt, o_ifle, o_iceq, o_icne, o_iclt, o_icge, o_icgt, o_icle, o_sw, o_iret, o_zret, o_vret, o_getf, o_putf, o_putz, o_putr, o_iald, o_zald, o_iast, o_zast, o_alen, o_aald, o_aast, o_obj_e, o_mmax_e, o_mmin_e, o_slen, o_schar, o_call_0, o_call_1, o_call_2, o_call_3, o_call_4, o_call_5, o_call_6, o_call_7, o_callV_0, o_callV_1, o_callV_2, o_callV_3, o_callV_4, o_callV_5, o_callV_6, q_cn_0, q_cn_i, q_cn_r, q_cn_a, q_cn_l, q_cat_eq, q_nl_none, q_nl_sn, q_nl_i, q_nl_r, q_nl_a, List.getElem?_cons_zero, List.getElem?_cons_succ, List.getElem?_nil, List.set_cons_zero, List.set_cons_succ, List.set_nil, Option.toList_some, Option.toList_none, List.cons_append, List.nil_append, Nat.reduceAdd, Nat.reduceSub, Nat.reduceLeDiff, Nat.add_zero, Nat.zero_add, Nat.reduceLT, Nat.zero_le, true_and, and_true, Value.category, true_or, or_true, q_z10, q_z01, Int32.reduceLT, Int32.reduceLE, not_true_eq_false, not_false_eq_true, false_implies, true_implies, implies_true, BX4_stepsTillCross_0, BX4_stepsTillCross_83, BX4_stepsTillCross_41, BX4_stepsTillCross_37, BX4_stepsTillCross_26, BX4_stepsTillCross_15, BX4_stepsTillCross_6, BX4_stepsTillCross_69, BX4_stepsTillCross_66, BX4_stepsTillCross_49, BX4_stepsTillCross_42, rmX4_stepsTillCross, q_cls_of hs.1, hs.1, q_R0_same]
      refine ⟨fun c => ?_, fun _ => ?_⟩
      · rw [hx.2.2.2.1] at c; exact absurd c (nI_ge (by omega) (by omega))
      · refine p4_litBit hs ?_
        simp only [o_no, o_cut, o_ic, o_lc, o_str, o_il, o_ll, o_al, o_is, o_as, o_inc, o_iadd, o_isub, o_imul, o_iand, o_ior, o_ishl, o_ishr, o_iushr, o_idiv, o_irem, o_ladd, o_lmul, o_land, o_lor, o_lrem, o_lshl, o_lshr, o_lcmp, o_i2l, o_l2i, o_dup, o_dup2, o_ifeq, o_ifne, o_iflt, o_ifge, o_ifgt, o_ifle, o_iceq, o_icne, o_iclt, o_icge, o_icgt, o_icle, o_sw, o_iret, o_zret, o_vret, o_getf, o_putf, o_putz, o_putr, o_iald, o_zald, o_iast, o_zast, o_alen, o_aald, o_aast, o_obj_e, o_mmax_e, o_mmin_e, o_slen, o_schar, o_call_0, o_call_1, o_call_2, o_call_3, o_call_4, o_call_5, o_call_6, o_call_7, o_callV_0, o_callV_1, o_callV_2, o_callV_3, o_callV_4, o_callV_5, o_callV_6, q_cn_0, q_cn_i, q_cn_r, q_cn_a, q_cn_l, q_cat_eq, q_nl_none, q_nl_sn, q_nl_i, q_nl_r, q_nl_a, List.getElem?_cons_zero, List.getElem?_cons_succ, List.getElem?_nil, List.set_cons_zero, List.set_cons_succ, List.set_nil, Option.toList_some, Option.toList_none, List.cons_append, List.nil_append, Nat.reduceAdd, Nat.reduceSub, Nat.reduceLeDiff, Nat.add_zero, Nat.zero_add, Nat.reduceLT, Nat.zero_le, true_and, and_true, Value.category, true_or, or_true, q_z10, q_z01, Int32.reduceLT, Int32.reduceLE, not_true_eq_false, not_false_eq_true, false_implies, true_implies, implies_true, BX4_stepsTillCross_0, BX4_stepsTillCross_83, BX4_stepsTillCross_41, BX4_stepsTillCross_37, BX4_stepsTillCross_26, BX4_stepsTillCross_15, BX4_stepsTillCross_6, BX4_stepsTillCross_69, BX4_stepsTillCross_66, BX4_stepsTillCross_49, BX4_stepsTillCross_42, rmX4_stepsTillCross, q_cls_of hs.1, hs.1, q_R0_same]
        rw [xs_litBit h hx hp (r_adlt h _ _)]
        refine ⟨fun c1 => no (fun z => c1 (one_if.mpr z.1)), fun c1 => ?_⟩
        refine p4_litBit hs ?_
        simp only [o_no, o_cut, o_ic, o_lc, o_str, o_il, o_ll, o_al, o_is, o_as, o_inc, o_iadd, o_isub, o_imul, o_iand, o_ior, o_ishl, o_ishr, o_iushr, o_idiv, o_irem, o_ladd, o_lmul, o_land, o_lor, o_lrem, o_lshl, o_lshr, o_lcmp, o_i2l, o_l2i, o_dup, o_dup2, o_ifeq, o_ifne, o_iflt, o_ifge, o_ifgt, o_ifle, o_iceq, o_icne, o_iclt, o_icge, o_icgt, o_icle, o_sw, o_iret, o_zret, o_vret, o_getf, o_putf, o_putz, o_putr, o_iald, o_zald, o_iast, o_zast, o_alen, o_aald, o_aast, o_obj_e, o_mmax_e, o_mmin_e, o_slen, o_schar, o_call_0, o_call_1, o_call_2, o_call_3, o_call_4, o_call_5, o_call_6, o_call_7, o_callV_0, o_callV_1, o_callV_2, o_callV_3, o_callV_4, o_callV_5, o_callV_6, q_cn_0, q_cn_i, q_cn_r, q_cn_a, q_cn_l, q_cat_eq, q_nl_none, q_nl_sn, q_nl_i, q_nl_r, q_nl_a, List.getElem?_cons_zero, List.getElem?_cons_succ, List.getElem?_nil, List.set_cons_zero, List.set_cons_succ, List.set_nil, Option.toList_some, Option.toList_none, List.cons_append, List.nil_append, Nat.reduceAdd, Nat.reduceSub, Nat.reduceLeDiff, Nat.add_zero, Nat.zero_add, Nat.reduceLT, Nat.zero_le, true_and, and_true, Value.category, true_or, or_true, q_z10, q_z01, Int32.reduceLT, Int32.reduceLE, not_true_eq_false, not_false_eq_true, false_implies, true_implies, implies_true, BX4_stepsTillCross_0, BX4_stepsTillCross_83, BX4_stepsTillCross_41, BX4_stepsTillCross_37, BX4_stepsTillCross_26, BX4_stepsTillCross_15, BX4_stepsTillCross_6, BX4_stepsTillCross_69, BX4_stepsTillCross_66, BX4_stepsTillCross_49, BX4_stepsTillCross_42, rmX4_stepsTillCross, q_cls_of hs.1, hs.1, q_R0_same]
        rw [xs_litBit h hx hq (r_adlt h _ _)]
        refine ⟨fun c2 => no (fun z => c2 (one_if.mpr z.2)), fun c2 => ?_⟩
        refine uX4_stepsTillCross_42 ?_
        simp only [BX4_stepsTillCross_42, BX4_stepsTillCross_49, BX4_stepsTillCross_66, o_callV_2, o_icne, o_iret, o_al, q_cls_of hs.1, q_cn_0, q_cn_i, Nat.reduceAdd, Nat.reduceLeDiff, Nat.zero_le, o_is, o_il, o_ifeq, List.set_cons_zero, List.set_cons_succ, List.getElem?_cons_zero, List.getElem?_cons_succ, Nat.reduceSub, q_nl_i, true_and, not_false_eq_true, false_implies, and_true, true_implies, q_z10]
        refine p4_heightOf h hs hx.1 hx.2.1 hp (by omega) ?_
        simp only [Option.toList_some, List.cons_append, List.nil_append, o_al, o_il, o_callV_2, List.getElem?_cons_zero, List.getElem?_cons_succ, q_cls_of hs.1, q_cn_0, q_cn_i, Nat.reduceAdd, Nat.reduceLeDiff, true_and]
        refine p4_heightOf h hs hx.1 hx.2.1 hq (by omega) ?_
        simp only [Option.toList_some, List.cons_append, List.nil_append, o_icne]
        refine ⟨fun c3 => next 1 ?_, fun c3 => ?_⟩
        · rw [f_ff, if_neg] at hr
          · exact hr
          · intro z
            simp only [r_X, Bool.and_eq_true, decide_eq_true_eq] at z
            exact c3 z.2.2
        · rw [f_ff, if_pos (by simp only [r_X, Bool.and_eq_true, decide_eq_true_eq]; exact ⟨one_if.mp c1, one_if.mp c2, c3⟩), f_ne, if_neg (by omega)] at hr
          simp only [o_no, o_cut, o_ic, o_lc, o_str, o_il, o_ll, o_al, o_is, o_as, o_inc, o_iadd, o_isub, o_imul, o_iand, o_ior, o_ishl, o_ishr, o_iushr, o_idiv, o_irem, o_ladd, o_lmul, o_land, o_lor, o_lrem, o_lshl, o_lshr, o_lcmp, o_i2l, o_l2i, o_dup, o_dup2, o_ifeq, o_ifne, o_iflt, o_ifge, o_ifgt, o_ifle, o_iceq, o_icne, o_iclt, o_icge, o_icgt, o_icle, o_sw, o_iret, o_zret, o_vret, o_getf, o_putf, o_putz, o_putr, o_iald, o_zald, o_iast, o_zast, o_alen, o_aald, o_aast, o_obj_e, o_mmax_e, o_mmin_e, o_slen, o_schar, o_call_0, o_call_1, o_call_2, o_call_3, o_call_4, o_call_5, o_call_6, o_call_7, o_callV_0, o_callV_1, o_callV_2, o_callV_3, o_callV_4, o_callV_5, o_callV_6, q_cn_0, q_cn_i, q_cn_r, q_cn_a, q_cn_l, q_cat_eq, q_nl_none, q_nl_sn, q_nl_i, q_nl_r, q_nl_a, List.getElem?_cons_zero, List.getElem?_cons_succ, List.getElem?_nil, List.set_cons_zero, List.set_cons_succ, List.set_nil, Option.toList_some, Option.toList_none, List.cons_append, List.nil_append, Nat.reduceAdd, Nat.reduceSub, Nat.reduceLeDiff, Nat.add_zero, Nat.zero_add, Nat.reduceLT, Nat.zero_le, true_and, and_true, Value.category, true_or, or_true, q_z10, q_z01, Int32.reduceLT, Int32.reduceLE, not_true_eq_false, not_false_eq_true, false_implies, true_implies, implies_true, BX4_stepsTillCross_0, BX4_stepsTillCross_83, BX4_stepsTillCross_41, BX4_stepsTillCross_37, BX4_stepsTillCross_26, BX4_stepsTillCross_15, BX4_stepsTillCross_6, BX4_stepsTillCross_69, BX4_stepsTillCross_66, BX4_stepsTillCross_49, BX4_stepsTillCross_42, rmX4_stepsTillCross, q_cls_of hs.1, hs.1, q_R0_same]
          exact hr
  have := loop (r_per k) 0 none (by omega) hR trivial
  rw [r_ad0 h hS] at this
  exact this
end XL
