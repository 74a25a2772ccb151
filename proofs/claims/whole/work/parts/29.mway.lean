/-! The best way: the reference. -/
def b_st (P : Nat → Bool) (F : Nat → Nat) : Nat → Nat × Nat
  | 0 => (0, 0)
  | n + 1 => if P n = true ∧ (b_st P F n).1 < F n + 1 then (F n + 1, n + 1) else b_st P F n
theorem b_st_no {P : Nat → Bool} {F : Nat → Nat} : ∀ n, (∀ q, q < n → ¬ P q = true) → b_st P F n = (0, 0) ∧ w_mx P F n = 0
  | 0, _ => ⟨rfl, rfl⟩
  | n + 1, h => by
    have ih := b_st_no (F := F) n (fun q hq => h q (by omega))
    rw [b_st, w_mx, if_neg (fun z => h n (by omega) z.1), if_neg (h n (by omega))]
    exact ih
theorem b_st_is {P : Nat → Bool} {F : Nat → Nat} : ∀ n, (∃ q, q < n ∧ P q = true) → (b_st P F n).1 = w_mx P F n + 1 ∧ ∃ a, (b_st P F n).2 = a + 1 ∧ a < n ∧ P a = true ∧ F a = w_mx P F n ∧ ∀ r, r < a → P r = true → F r < w_mx P F n
  | 0, h => by obtain ⟨q, hq, _⟩ := h; omega
  | n + 1, h => by
    rw [b_st, w_mx]
    by_cases e : ∃ q, q < n ∧ P q = true
    · obtain ⟨i1, a, i2, i3, i4, i5, i6⟩ := b_st_is (F := F) n e
      by_cases c : P n = true
      · rw [if_pos c]
        by_cases g : w_mx P F n < F n
        · rw [if_pos ⟨c, by omega⟩]
          refine ⟨by show F n + 1 = _; omega, n, rfl, by omega, c, by omega, fun r hr hP => ?_⟩
          have := w_mx_ge (F := F) n r hr hP
          omega
        · rw [if_neg (fun z => by have := z.2; omega), show max (w_mx P F n) (F n) = w_mx P F n by omega]
          exact ⟨i1, a, i2, by omega, i4, i5, i6⟩
      · rw [if_neg (fun z => c z.1), if_neg c]
        exact ⟨i1, a, i2, by omega, i4, i5, i6⟩
    · obtain ⟨q, hq, hP⟩ := h
      have c : P n = true := by
        rcases Nat.lt_or_ge q n with z | z
        · exact absurd ⟨q, z, hP⟩ e
        · rw [show n = q by omega]; exact hP
      obtain ⟨j1, j2⟩ := b_st_no (F := F) n (fun q hq z => e ⟨q, hq, z⟩)
      rw [if_pos c, j1, j2, if_pos ⟨c, by show 0 < F n + 1; omega⟩]
      exact ⟨by show F n + 1 = _; omega, n, rfl, by omega, c, by omega, fun r hr hP => absurd ⟨r, hr, hP⟩ e⟩
theorem f_ff_is {G : Nat → Bool} {n a : Nat} (ha : a < n) (h1 : G a = true) (h2 : ∀ r, r < a → ¬ G r = true) : f_ff G n 0 = a := by
  have hle := f_ff_le G n 0
  rcases Nat.lt_or_ge (f_ff G n 0) a with z | z
  · exact absurd (f_ff_yes n 0 (by omega)) (h2 _ z)
  · rcases Nat.eq_or_lt_of_le z with y | y
    · exact y.symm
    · have := f_ff_no n 0 a (Nat.zero_le _) y
      rw [h1] at this
      exact absurd this (by decide)
theorem w_nx_st {k : RK} {p : Nat} (hp : p < r_pl k) (s n e : Nat) : (b_st (fun q => f_bit (r_rc k p) q) (fun q => w_F k s n e q) (r_pl k)).2 = w_nx k s n e p + 1 := by
  obtain ⟨i1, a, i2, i3, i4, i5, i6⟩ := b_st_is (P := fun q => f_bit (r_rc k p) q) (F := fun q => w_F k s n e q) (r_pl k) ⟨p, hp, by show f_bit (r_rc k p) p = true; rw [r_rc_bit, decide_eq_true rfl, Bool.or_true]⟩
  rw [i2]
  congr 1
  refine (f_ff_is i3 ?_ (fun r hr => ?_)).symm
  · rw [Bool.and_eq_true, decide_eq_true_iff]; exact ⟨i4, i5⟩
  · rw [Bool.and_eq_true, decide_eq_true_iff]
    intro z
    have h1 := i6 r hr z.1
    have h2 : w_F k s n e r = w_mx (fun q => f_bit (r_rc k p) q) (fun q => w_F k s n e q) (r_pl k) := z.2
    omega
def v_m1 (a : Nat) : Int32 := if a = 0 then -1 else nI (a - 1)
theorem b_st_le {P : Nat → Bool} {F : Nat → Nat} {M : Nat} : ∀ n, (∀ q, q < n → F q ≤ M) → (b_st P F n).1 ≤ M + 1 ∧ (b_st P F n).2 ≤ n
  | 0, _ => ⟨Nat.zero_le _, Nat.le_refl _⟩
  | n + 1, h => by
    have ih := b_st_le (P := P) n (fun q hq => h q (by omega))
    have := h n (by omega)
    rw [b_st]
    split
    · exact ⟨by show F n + 1 ≤ _; omega, Nat.le_refl _⟩
    · exact ⟨ih.1, by omega⟩
section MW
variable {m : q_Mm} {c s n : Nat} {k : RK} {sh : q_Sh} {R : q_KR}
theorem p9_bestNext {p t e : Nat} (hs : q_md sh c) (hk : r_ok k) (hm : m_rock m c k) (hf : m_shf m c 0 k s) (hp : p < r_pl k) {st : Nat} (hst : st ≤ 999999) (hn : n ≤ 40) (he : e < n) (ht : t + 1 = st + (n - e)) (hmo : ∀ q, q < r_pl k → m (c + 10) (8 * e + q) = nI (w_u k (r_ad k s st) n e q)) (hR : ∀ m', q_but (c + 9) m m' → R (some (.int (nI (w_nx k (r_ad k s st) n e p)))) sh m') : wX9_bestNext [.ref c, .int (nI p), .int (nI t), .int (nI (e + 1))] sh m R := by
  obtain ⟨z0, z1, z2, z3, z4, z5, z6, z7, z8, z9, z10, z11, z12, z13, z14, z15, z16⟩ := id hs
  have h8 : r_pl k ≤ 8 := hk.2.1
  refine eX9_bestNext ?_
  simp only [o_no, o_cut, o_ic, o_lc, o_str, o_il, o_ll, o_al, o_is, o_as, o_inc, o_iadd, o_isub, o_imul, o_iand, o_ior, o_ishl, o_ishr, o_iushr, o_idiv, o_irem, o_ladd, o_lmul, o_land, o_lor, o_lrem, o_lshl, o_lshr, o_lcmp, o_i2l, o_l2i, o_dup, o_dup2, o_ifeq, o_ifne, o_iflt, o_ifge, o_ifgt, o_ifle, o_iceq, o_icne, o_iclt, o_icge, o_icgt, o_icle, o_sw, o_iret, o_zret, o_vret, o_getf, o_putf, o_putz, o_putr, o_iald, o_zald, o_iast, o_zast, o_alen, o_aald, o_aast, o_obj_e, o_mmax_e, o_mmin_e, o_slen, o_schar, o_call_0, o_call_1, o_call_2, o_call_3, o_call_4, o_call_5, o_call_6, o_call_7, o_callV_0, o_callV_1, o_callV_2, o_callV_3, o_callV_4, o_callV_5, o_callV_6, q_cn_0, q_cn_i, q_cn_r, q_cn_a, q_cn_l, q_cat_eq, q_nl_none, q_nl_sn, q_nl_i, q_nl_r, q_nl_a, q_vp_0, q_vp_1, q_vp_2, q_vp_3, q_vp_4, q_vp_5, q_vp_6, q_vp_7, q_vp_8, List.getElem?_cons_zero, List.getElem?_cons_succ, List.getElem?_nil, List.set_cons_zero, List.set_cons_succ, List.set_nil, Option.toList_some, Option.toList_none, List.cons_append, List.nil_append, Nat.reduceAdd, Nat.reduceSub, Nat.reduceLeDiff, Nat.add_zero, Nat.zero_add, Nat.reduceLT, Nat.zero_le, true_and, and_true, Value.category, true_or, or_true, q_z10, q_z01, Int32.reduceLT, Int32.reduceLE, Int32.reduceToNatClampNeg, not_true_eq_false, not_false_eq_true, false_implies, true_implies, implies_true, BX9_bestNext_0, BX9_bestNext_82, BX9_bestNext_76, BX9_bestNext_68, BX9_bestNext_59, BX9_bestNext_58, BX9_bestNext_28, BX9_bestNext_18, BX9_bestNext_9, rmX9_bestNext, z0, z1, z2, z3, z4, z5, z6, z7, z8, z9, z10, z11, z12, z13, z14, z15, z16, q_cls_of z0, q_R0_same]
  have hw := w_nx_st hp (r_ad k s st) n e
  have loop : ∀ d j (m1 : q_Mm) (v7 : Option Value), j + d = r_pl k → q_but (c + 9) m m1 → q_WP TX9_bestNext 9 [some (.ref c), some (.int (nI p)), some (.int (nI t)), some (.int (nI (e + 1))), some (.int (v_m1 (b_st (fun q => f_bit (r_rc k p) q) (fun q => w_F k (r_ad k s st) n e q) j).2)), some (.int (v_m1 (b_st (fun q => f_bit (r_rc k p) q) (fun q => w_F k (r_ad k s st) n e q) j).1)), some (.int (nI j)), v7] [] sh m1 (q_R0 sh rmX9_bestNext R) := by
    intro d
    induction d with
    | zero =>
      intro j m1 v7 hj hb
      obtain rfl : j = r_pl k := by omega
      refine uX9_bestNext_9 ?_
      simp only [o_no, o_cut, o_ic, o_lc, o_str, o_il, o_ll, o_al, o_is, o_as, o_inc, o_iadd, o_isub, o_imul, o_iand, o_ior, o_ishl, o_ishr, o_iushr, o_idiv, o_irem, o_ladd, o_lmul, o_land, o_lor, o_lrem, o_lshl, o_lshr, o_lcmp, o_i2l, o_l2i, o_dup, o_dup2, o_ifeq, o_ifne, o_iflt, o_ifge, o_ifgt, o_ifle, o_iceq, o_icne, o_iclt, o_icge, o_icgt, o_icle, o_sw, o_iret, o_zret, o_vret, o_getf, o_putf, o_putz, o_putr, o_iald, o_zald, o_iast, o_zast, o_alen, o_aald, o_aast, o_obj_e, o_mmax_e, o_mmin_e, o_slen, o_schar, o_call_0, o_call_1, o_call_2, o_call_3, o_call_4, o_call_5, o_call_6, o_call_7, o_callV_0, o_callV_1, o_callV_2, o_callV_3, o_callV_4, o_callV_5, o_callV_6, q_cn_0, q_cn_i, q_cn_r, q_cn_a, q_cn_l, q_cat_eq, q_nl_none, q_nl_sn, q_nl_i, q_nl_r, q_nl_a, q_vp_0, q_vp_1, q_vp_2, q_vp_3, q_vp_4, q_vp_5, q_vp_6, q_vp_7, q_vp_8, List.getElem?_cons_zero, List.getElem?_cons_succ, List.getElem?_nil, List.set_cons_zero, List.set_cons_succ, List.set_nil, Option.toList_some, Option.toList_none, List.cons_append, List.nil_append, Nat.reduceAdd, Nat.reduceSub, Nat.reduceLeDiff, Nat.add_zero, Nat.zero_add, Nat.reduceLT, Nat.zero_le, true_and, and_true, Value.category, true_or, or_true, q_z10, q_z01, Int32.reduceLT, Int32.reduceLE, Int32.reduceToNatClampNeg, not_true_eq_false, not_false_eq_true, false_implies, true_implies, implies_true, BX9_bestNext_0, BX9_bestNext_82, BX9_bestNext_76, BX9_bestNext_68, BX9_bestNext_59, BX9_bestNext_58, BX9_bestNext_28, BX9_bestNext_18, BX9_bestNext_9, rmX9_bestNext, z0, z1, z2, z3, z4, z5, z6, z7, z8, z9, z10, z11, z12, z13, z14, z15, z16, q_cls_of z0, q_R0_same]
      rw [(m_rock_but hm (by decide) hb).2.1]
      refine ⟨fun _ => ?_, fun q => absurd (nI_le (by omega) (by omega)) q⟩
      rw [hw, v_m1, if_neg (by omega), Nat.add_sub_cancel]
      exact hR m1 hb
    | succ d ih =>
      intro j m1 v7 hj hb
      have hm1 := m_rock_but hm (i := 9) (by decide) hb
      have ih := fun m1 v7 => ih (j + 1) m1 v7 (by omega)
      rw [b_st] at ih
      have hle := b_st_le (P := fun q => f_bit (r_rc k p) q) (F := fun q => w_F k (r_ad k s st) n e q) (M := e + 1) j (fun q _ => w_F_le _ _ _ _ _)
      have hFj := w_F_le k (r_ad k s st) n e j
      generalize b_st (fun q => f_bit (r_rc k p) q) (fun q => w_F k (r_ad k s st) n e q) j = w at *
      refine uX9_bestNext_9 ?_
      simp only [o_no, o_cut, o_ic, o_lc, o_str, o_il, o_ll, o_al, o_is, o_as, o_inc, o_iadd, o_isub, o_imul, o_iand, o_ior, o_ishl, o_ishr, o_iushr, o_idiv, o_irem, o_ladd, o_lmul, o_land, o_lor, o_lrem, o_lshl, o_lshr, o_lcmp, o_i2l, o_l2i, o_dup, o_dup2, o_ifeq, o_ifne, o_iflt, o_ifge, o_ifgt, o_ifle, o_iceq, o_icne, o_iclt, o_icge, o_icgt, o_icle, o_sw, o_iret, o_zret, o_vret, o_getf, o_putf, o_putz, o_putr, o_iald, o_zald, o_iast, o_zast, o_alen, o_aald, o_aast, o_obj_e, o_mmax_e, o_mmin_e, o_slen, o_schar, o_call_0, o_call_1, o_call_2, o_call_3, o_call_4, o_call_5, o_call_6, o_call_7, o_callV_0, o_callV_1, o_callV_2, o_callV_3, o_callV_4, o_callV_5, o_callV_6, q_cn_0, q_cn_i, q_cn_r, q_cn_a, q_cn_l, q_cat_eq, q_nl_none, q_nl_sn, q_nl_i, q_nl_r, q_nl_a, q_vp_0, q_vp_1, q_vp_2, q_vp_3, q_vp_4, q_vp_5, q_vp_6, q_vp_7, q_vp_8, List.getElem?_cons_zero, List.getElem?_cons_succ, List.getElem?_nil, List.set_cons_zero, List.set_cons_succ, List.set_nil, Option.toList_some, Option.toList_none, List.cons_append, List.nil_append, Nat.reduceAdd, Nat.reduceSub, Nat.reduceLeDiff, Nat.add_zero, Nat.zero_add, Nat.reduceLT, Nat.zero_le, true_and, and_true, Value.category, true_or, or_true, q_z10, q_z01, Int32.reduceLT, Int32.reduceLE, Int32.reduceToNatClampNeg, not_true_eq_false, not_false_eq_true, false_implies, true_implies, implies_true, BX9_bestNext_0, BX9_bestNext_82, BX9_bestNext_76, BX9_bestNext_68, BX9_bestNext_59, BX9_bestNext_58, BX9_bestNext_28, BX9_bestNext_18, BX9_bestNext_9, rmX9_bestNext, z0, z1, z2, z3, z4, z5, z6, z7, z8, z9, z10, z11, z12, z13, z14, z15, z16, q_cls_of z0, q_R0_same]
      rw [hm1.2.1]
      refine ⟨fun q => absurd q (nI_ge (by omega) (by omega)), fun _ => ?_⟩
      refine p9_mayGo hs hk hm1 hp (by omega) (fun y => ?_) (fun y => ?_)
      · have y := (r_may_bit hk).mpr y
        simp only [o_no, o_cut, o_ic, o_lc, o_str, o_il, o_ll, o_al, o_is, o_as, o_inc, o_iadd, o_isub, o_imul, o_iand, o_ior, o_ishl, o_ishr, o_iushr, o_idiv, o_irem, o_ladd, o_lmul, o_land, o_lor, o_lrem, o_lshl, o_lshr, o_lcmp, o_i2l, o_l2i, o_dup, o_dup2, o_ifeq, o_ifne, o_iflt, o_ifge, o_ifgt, o_ifle, o_iceq, o_icne, o_iclt, o_icge, o_icgt, o_icle, o_sw, o_iret, o_zret, o_vret, o_getf, o_putf, o_putz, o_putr, o_iald, o_zald, o_iast, o_zast, o_alen, o_aald, o_aast, o_obj_e, o_mmax_e, o_mmin_e, o_slen, o_schar, o_call_0, o_call_1, o_call_2, o_call_3, o_call_4, o_call_5, o_call_6, o_call_7, o_callV_0, o_callV_1, o_callV_2, o_callV_3, o_callV_4, o_callV_5, o_callV_6, q_cn_0, q_cn_i, q_cn_r, q_cn_a, q_cn_l, q_cat_eq, q_nl_none, q_nl_sn, q_nl_i, q_nl_r, q_nl_a, q_vp_0, q_vp_1, q_vp_2, q_vp_3, q_vp_4, q_vp_5, q_vp_6, q_vp_7, q_vp_8, List.getElem?_cons_zero, List.getElem?_cons_succ, List.getElem?_nil, List.set_cons_zero, List.set_cons_succ, List.set_nil, Option.toList_some, Option.toList_none, List.cons_append, List.nil_append, Nat.reduceAdd, Nat.reduceSub, Nat.reduceLeDiff, Nat.add_zero, Nat.zero_add, Nat.reduceLT, Nat.zero_le, true_and, and_true, Value.category, true_or, or_true, q_z10, q_z01, Int32.reduceLT, Int32.reduceLE, Int32.reduceToNatClampNeg, not_true_eq_false, not_false_eq_true, false_implies, true_implies, implies_true, BX9_bestNext_0, BX9_bestNext_82, BX9_bestNext_76, BX9_bestNext_68, BX9_bestNext_59, BX9_bestNext_58, BX9_bestNext_28, BX9_bestNext_18, BX9_bestNext_9, rmX9_bestNext, z0, z1, z2, z3, z4, z5, z6, z7, z8, z9, z10, z11, z12, z13, z14, z15, z16, q_cls_of z0, q_R0_same]
        rw [nI_1]
        refine p9_isLit hs hm1 hk (m_shf_but hf (i := 9) (by decide) hb) (show j < r_pl k by omega) (by omega) (fun m2 hb2 => ?_)
        simp only [o_no, o_cut, o_ic, o_lc, o_str, o_il, o_ll, o_al, o_is, o_as, o_inc, o_iadd, o_isub, o_imul, o_iand, o_ior, o_ishl, o_ishr, o_iushr, o_idiv, o_irem, o_ladd, o_lmul, o_land, o_lor, o_lrem, o_lshl, o_lshr, o_lcmp, o_i2l, o_l2i, o_dup, o_dup2, o_ifeq, o_ifne, o_iflt, o_ifge, o_ifgt, o_ifle, o_iceq, o_icne, o_iclt, o_icge, o_icgt, o_icle, o_sw, o_iret, o_zret, o_vret, o_getf, o_putf, o_putz, o_putr, o_iald, o_zald, o_iast, o_zast, o_alen, o_aald, o_aast, o_obj_e, o_mmax_e, o_mmin_e, o_slen, o_schar, o_call_0, o_call_1, o_call_2, o_call_3, o_call_4, o_call_5, o_call_6, o_call_7, o_callV_0, o_callV_1, o_callV_2, o_callV_3, o_callV_4, o_callV_5, o_callV_6, q_cn_0, q_cn_i, q_cn_r, q_cn_a, q_cn_l, q_cat_eq, q_nl_none, q_nl_sn, q_nl_i, q_nl_r, q_nl_a, q_vp_0, q_vp_1, q_vp_2, q_vp_3, q_vp_4, q_vp_5, q_vp_6, q_vp_7, q_vp_8, List.getElem?_cons_zero, List.getElem?_cons_succ, List.getElem?_nil, List.set_cons_zero, List.set_cons_succ, List.set_nil, Option.toList_some, Option.toList_none, List.cons_append, List.nil_append, Nat.reduceAdd, Nat.reduceSub, Nat.reduceLeDiff, Nat.add_zero, Nat.zero_add, Nat.reduceLT, Nat.zero_le, true_and, and_true, Value.category, true_or, or_true, q_z10, q_z01, Int32.reduceLT, Int32.reduceLE, Int32.reduceToNatClampNeg, not_true_eq_false, not_false_eq_true, false_implies, true_implies, implies_true, BX9_bestNext_0, BX9_bestNext_82, BX9_bestNext_76, BX9_bestNext_68, BX9_bestNext_59, BX9_bestNext_58, BX9_bestNext_28, BX9_bestNext_18, BX9_bestNext_9, rmX9_bestNext, z0, z1, z2, z3, z4, z5, z6, z7, z8, z9, z10, z11, z12, z13, z14, z15, z16, q_cls_of z0, q_R0_same]
        refine p9_one ?_
        simp only [o_no, o_cut, o_ic, o_lc, o_str, o_il, o_ll, o_al, o_is, o_as, o_inc, o_iadd, o_isub, o_imul, o_iand, o_ior, o_ishl, o_ishr, o_iushr, o_idiv, o_irem, o_ladd, o_lmul, o_land, o_lor, o_lrem, o_lshl, o_lshr, o_lcmp, o_i2l, o_l2i, o_dup, o_dup2, o_ifeq, o_ifne, o_iflt, o_ifge, o_ifgt, o_ifle, o_iceq, o_icne, o_iclt, o_icge, o_icgt, o_icle, o_sw, o_iret, o_zret, o_vret, o_getf, o_putf, o_putz, o_putr, o_iald, o_zald, o_iast, o_zast, o_alen, o_aald, o_aast, o_obj_e, o_mmax_e, o_mmin_e, o_slen, o_schar, o_call_0, o_call_1, o_call_2, o_call_3, o_call_4, o_call_5, o_call_6, o_call_7, o_callV_0, o_callV_1, o_callV_2, o_callV_3, o_callV_4, o_callV_5, o_callV_6, q_cn_0, q_cn_i, q_cn_r, q_cn_a, q_cn_l, q_cat_eq, q_nl_none, q_nl_sn, q_nl_i, q_nl_r, q_nl_a, q_vp_0, q_vp_1, q_vp_2, q_vp_3, q_vp_4, q_vp_5, q_vp_6, q_vp_7, q_vp_8, List.getElem?_cons_zero, List.getElem?_cons_succ, List.getElem?_nil, List.set_cons_zero, List.set_cons_succ, List.set_nil, Option.toList_some, Option.toList_none, List.cons_append, List.nil_append, Nat.reduceAdd, Nat.reduceSub, Nat.reduceLeDiff, Nat.add_zero, Nat.zero_add, Nat.reduceLT, Nat.zero_le, true_and, and_true, Value.category, true_or, or_true, q_z10, q_z01, Int32.reduceLT, Int32.reduceLE, Int32.reduceToNatClampNeg, not_true_eq_false, not_false_eq_true, false_implies, true_implies, implies_true, BX9_bestNext_0, BX9_bestNext_82, BX9_bestNext_76, BX9_bestNext_68, BX9_bestNext_59, BX9_bestNext_58, BX9_bestNext_28, BX9_bestNext_18, BX9_bestNext_9, rmX9_bestNext, z0, z1, z2, z3, z4, z5, z6, z7, z8, z9, z10, z11, z12, z13, z14, z15, z16, q_cls_of z0, q_R0_same]
        rw [one_one, nI_pred, show (8 : Int32) = nI 8 from rfl, pk_mul, nI_add, nI_clamp (n := 8 * e + j) (by omega), hb2 _ (by omega), hb _ (by omega), hmo j (by omega), nI_1]
        have e2 : (if r_lt k j (r_ad k s (t + 1)) = true then 1 else 0) + nI (w_u k (r_ad k s st) n e j) = nI (w_F k (r_ad k s st) n e j) := by
          rw [w_F, w_l, r_adad hk, ← ht, ← nI_add]
          split <;> rfl
        rw [e2]
        refine ⟨vp_in_nI (by omega) (by decide), fun y2 => ?_, fun y2 => ?_⟩
        · have : ¬ (f_bit (r_rc k p) j = true ∧ w.1 < w_F k (r_ad k s st) n e j + 1) := by
            rintro ⟨-, q⟩
            unfold v_m1 at y2
            by_cases w0 : w.1 = 0
            · rw [if_pos w0] at y2
              have := Int32.le_iff_toInt_le.mp y2
              rw [nI_toInt (by omega), show (-1 : Int32).toInt = -1 from by decide] at this
              omega
            · rw [if_neg w0] at y2
              have := (nI_leI (by omega) (by omega)).mp y2
              omega
          rw [if_neg this] at ih
          exact ih m2 _ (hb.tr hb2)
        · have : f_bit (r_rc k p) j = true ∧ w.1 < w_F k (r_ad k s st) n e j + 1 := by
            refine ⟨y, ?_⟩
            rcases Nat.lt_or_ge w.1 (w_F k (r_ad k s st) n e j + 1) with q | q
            · exact q
            · refine absurd ?_ y2
              rw [v_m1, if_neg (by omega)]
              exact nI_le (by omega) (by omega)
          rw [if_pos this] at ih
          have := ih m2 (some (.int (nI (w_F k (r_ad k s st) n e j)))) (hb.tr hb2)
          dsimp only at this
          rw [v_m1, if_neg (by omega), v_m1, if_neg (by omega), Nat.add_sub_cancel, Nat.add_sub_cancel] at this
          exact this
      · have y : ¬ f_bit (r_rc k p) j = true := fun q => y ((r_may_bit hk).mp q)
        simp only [o_no, o_cut, o_ic, o_lc, o_str, o_il, o_ll, o_al, o_is, o_as, o_inc, o_iadd, o_isub, o_imul, o_iand, o_ior, o_ishl, o_ishr, o_iushr, o_idiv, o_irem, o_ladd, o_lmul, o_land, o_lor, o_lrem, o_lshl, o_lshr, o_lcmp, o_i2l, o_l2i, o_dup, o_dup2, o_ifeq, o_ifne, o_iflt, o_ifge, o_ifgt, o_ifle, o_iceq, o_icne, o_iclt, o_icge, o_icgt, o_icle, o_sw, o_iret, o_zret, o_vret, o_getf, o_putf, o_putz, o_putr, o_iald, o_zald, o_iast, o_zast, o_alen, o_aald, o_aast, o_obj_e, o_mmax_e, o_mmin_e, o_slen, o_schar, o_call_0, o_call_1, o_call_2, o_call_3, o_call_4, o_call_5, o_call_6, o_call_7, o_callV_0, o_callV_1, o_callV_2, o_callV_3, o_callV_4, o_callV_5, o_callV_6, q_cn_0, q_cn_i, q_cn_r, q_cn_a, q_cn_l, q_cat_eq, q_nl_none, q_nl_sn, q_nl_i, q_nl_r, q_nl_a, q_vp_0, q_vp_1, q_vp_2, q_vp_3, q_vp_4, q_vp_5, q_vp_6, q_vp_7, q_vp_8, List.getElem?_cons_zero, List.getElem?_cons_succ, List.getElem?_nil, List.set_cons_zero, List.set_cons_succ, List.set_nil, Option.toList_some, Option.toList_none, List.cons_append, List.nil_append, Nat.reduceAdd, Nat.reduceSub, Nat.reduceLeDiff, Nat.add_zero, Nat.zero_add, Nat.reduceLT, Nat.zero_le, true_and, and_true, Value.category, true_or, or_true, q_z10, q_z01, Int32.reduceLT, Int32.reduceLE, Int32.reduceToNatClampNeg, not_true_eq_false, not_false_eq_true, false_implies, true_implies, implies_true, BX9_bestNext_0, BX9_bestNext_82, BX9_bestNext_76, BX9_bestNext_68, BX9_bestNext_59, BX9_bestNext_58, BX9_bestNext_28, BX9_bestNext_18, BX9_bestNext_9, rmX9_bestNext, z0, z1, z2, z3, z4, z5, z6, z7, z8, z9, z10, z11, z12, z13, z14, z15, z16, q_cls_of z0, q_R0_same]
        rw [if_neg (fun q => y q.1)] at ih
        rw [nI_1]
        refine ⟨fun _ => ih m1 _ hb, fun q => absurd ?_ q⟩
        unfold v_m1
        split
        · decide
        · rw [Int32.le_iff_toInt_le, nI_toInt (by omega), show (-1 : Int32).toInt = -1 from by decide]
          omega
  exact loop (r_pl k) 0 m none (by omega) q_but.rf
end MW
