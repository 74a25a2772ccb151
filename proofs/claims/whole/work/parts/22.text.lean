/-! The text: bytes come in. -/
abbrev TX : Type := (Nat → Int32) × Nat
def v_byte (w : Int64) (k : Nat) : Int32 := (w >>> ((nI (8 * k)).toInt64 &&& 63) &&& 255).toInt32
theorem v_byte_in (w : Int64) (k : Nat) : ∃ b, b < 256 ∧ v_byte w k = nI b := by
  unfold v_byte
  generalize w >>> ((nI (8 * k)).toInt64 &&& 63) = x
  have h : x.toBitVec.toNat &&& 255 < 256 := by
    have := Nat.and_two_pow_sub_one_eq_mod x.toBitVec.toNat 8
    rw [show (2 : Nat) ^ 8 - 1 = 255 by decide, show (2 : Nat) ^ 8 = 256 by decide] at this
    rw [this]; exact Nat.mod_lt _ (by decide)
  have e : x &&& 255 = lN (x.toBitVec.toNat &&& 255) := by
    apply Int64.toBitVec_inj.mp
    show x.toBitVec &&& BitVec.ofNat 64 255 = BitVec.ofNat 64 (x.toBitVec.toNat &&& 255)
    rw [BitVec.ofNat_and, BitVec.ofNat_toNat, BitVec.setWidth_eq]
  exact ⟨_, h, by rw [e, lN_i]⟩
def t_ok (x : TX) : Prop := x.2 ≤ 400 ∧ ∀ j, j < x.2 → ∃ b, b < 256 ∧ x.1 j = nI b
def t_add (x : TX) (n : Nat) (w : Int64) : TX := (fun j => if j < x.2 then x.1 j else v_byte w (x.2 + n - 1 - j), x.2 + n)
theorem t_add_ok {x : TX} {n : Nat} {w : Int64} (h : t_ok x) (hn : x.2 + n ≤ 400) : t_ok (t_add x n w) := by
  refine ⟨hn, fun j hj => ?_⟩
  show ∃ b, b < 256 ∧ (if j < x.2 then x.1 j else v_byte w (x.2 + n - 1 - j)) = nI b
  by_cases c : j < x.2
  · rw [if_pos c]; exact h.2 j c
  · rw [if_neg c]; exact v_byte_in _ _
noncomputable def a_feed (x : TX) (n : Int32) : Int32 := q_if (q_ins n 1 8) (q_if (x.2 + q_ix n ≤ 400) (nI (x.2 + q_ix n)) (-1000000004)) (-1000000002)
noncomputable def n_feed (x : TX) (n : Int32) (w : Int64) : TX := @ite _ (q_ins n 1 8 ∧ x.2 + q_ix n ≤ 400) (Classical.propDecidable _) (t_add x (q_ix n) w) x
theorem n_feed_ok {x : TX} {n : Int32} {w : Int64} (h : t_ok x) : t_ok (n_feed x n w) := by
  unfold n_feed
  split
  · rename_i c; exact t_add_ok h c.2
  · exact h
def x_text (m : q_Mm) (x : TX) : Prop := m 1 1 = nI x.2 ∧ ∀ j, j < x.2 → m 2 j = x.1 j
def m_text (m : q_Mm) (c : Nat) (x : TX) : Prop := m c 16 = nI x.2 ∧ ∀ j, j < x.2 → m (c + 8) j = x.1 j
/-- all but two rows stay -/
def q_bt2 (a0 a1 : Nat) (m m' : q_Mm) : Prop := ∀ a, a ≠ a0 → a ≠ a1 → m' a = m a
theorem q_bt2.rf {a0 a1 : Nat} {m : q_Mm} : q_bt2 a0 a1 m m := fun _ _ _ => rfl
theorem q_bt2.tr {a0 a1 : Nat} {m m' m'' : q_Mm} (h : q_bt2 a0 a1 m m') (h' : q_bt2 a0 a1 m' m'') : q_bt2 a0 a1 m m'' := fun a h1 h2 => (h' a h1 h2).trans (h a h1 h2)
theorem q_bt2.u0 {a0 a1 j : Nat} {m : q_Mm} {x : Int32} : q_bt2 a0 a1 m (q_up m a0 j x) := fun _ h1 _ => q_up_o h1
theorem q_bt2.u1 {a0 a1 j : Nat} {m : q_Mm} {x : Int32} : q_bt2 a0 a1 m (q_up m a1 j x) := fun _ _ h1 => q_up_o h1
/-- all but the row i and one number of the object stay -/
def m_fo (c i j : Nat) (m m' : q_Mm) : Prop := (∀ a, a ≠ c → a ≠ c + i → m' a = m a) ∧ ∀ e, e ≠ j → m' c e = m c e
theorem m_fo.rf {c i j : Nat} {m : q_Mm} : m_fo c i j m m := ⟨fun _ _ _ => rfl, fun _ _ => rfl⟩
theorem m_fo.tr {c i j : Nat} {m m' m'' : q_Mm} (h : m_fo c i j m m') (h' : m_fo c i j m' m'') : m_fo c i j m m'' := ⟨fun a h1 h2 => (h'.1 a h1 h2).trans (h.1 a h1 h2), fun e he => (h'.2 e he).trans (h.2 e he)⟩
theorem m_fo.u0 {c i j : Nat} {m : q_Mm} {x : Int32} : m_fo c i j m (q_up m c j x) := ⟨fun _ h1 _ => q_up_o h1, fun e he => by rw [q_up_app, if_neg (fun z => he z.2)]⟩
theorem m_fo.u1 {c i j e : Nat} {m : q_Mm} {x : Int32} (hi : 0 < i) : m_fo c i j m (q_up m (c + i) e x) := ⟨fun _ _ h2 => q_up_o h2, fun e he => by rw [q_up_o (by omega)]⟩
theorem q_pt_n {m : q_Mm} {a n i : Nat} {v : Int32} (hi : i < n) (hn : n < 2 ^ 31) : q_pt m a n (nI i) v = q_up m a i v := by
  unfold q_pt
  rw [if_neg (nI_pos (by omega)), if_neg (nI_ge hi hn), nI_clamp (by omega)]
section TX
variable {m : q_Mm} {rb sb c : Nat} {sh : q_Sh} {R : q_KR} {x : TX}
theorem p7_take {n : Nat} {w : Int64} (x1 : sh[1]? = some (.inl (7, [some (.ref 2), none]))) (y2 : sh[2]? = some (.inr (.inl (0, 400)))) (hx : x_text m x) (ho : t_ok x) (hn : n ≤ 8) (h1 : x.2 + n ≤ 400 → ∀ m', q_bt2 1 2 m m' → x_text m' (t_add x n w) → R (some (.int 1)) sh m') (h2 : ¬ x.2 + n ≤ 400 → R (some (.int 0)) sh m) : wX7_take [.ref 1, .int (nI n), .long w] sh m R := by
  have h4 := ho.1
  refine eX7_take ?_
  simp only [o_no, o_cut, o_ic, o_lc, o_str, o_il, o_ll, o_al, o_is, o_as, o_inc, o_iadd, o_isub, o_imul, o_iand, o_ior, o_ishl, o_ishr, o_iushr, o_idiv, o_irem, o_ladd, o_lmul, o_land, o_lor, o_lrem, o_lshl, o_lshr, o_lcmp, o_i2l, o_l2i, o_dup, o_dup2, o_ifeq, o_ifne, o_iflt, o_ifge, o_ifgt, o_ifle, o_iceq, o_icne, o_iclt, o_icge, o_icgt, o_icle, o_sw, o_iret, o_zret, o_vret, o_getf, o_putf, o_putz, o_putr, o_iald, o_zald, o_iast, o_zast, o_alen, o_aald, o_aast, o_obj_e, o_mmax_e, o_mmin_e, o_slen, o_schar, o_call_0, o_call_1, o_call_2, o_call_3, o_call_4, o_call_5, o_call_6, o_call_7, o_callV_0, o_callV_1, o_callV_2, o_callV_3, o_callV_4, o_callV_5, o_callV_6, q_cn_0, q_cn_i, q_cn_r, q_cn_a, q_cn_l, q_cat_eq, q_nl_none, q_nl_sn, q_nl_i, q_nl_r, q_nl_a, q_vp_0, q_vp_1, q_vp_2, q_vp_3, q_vp_4, q_vp_5, q_vp_6, q_vp_7, q_vp_8, List.getElem?_cons_zero, List.getElem?_cons_succ, List.getElem?_nil, List.set_cons_zero, List.set_cons_succ, List.set_nil, Option.toList_some, Option.toList_none, List.cons_append, List.nil_append, Nat.reduceAdd, Nat.reduceSub, Nat.reduceLeDiff, Nat.add_zero, Nat.zero_add, Nat.reduceLT, Nat.zero_le, true_and, and_true, Value.category, true_or, or_true, q_z10, q_z01, Int32.reduceLT, Int32.reduceLE, Int32.reduceToNatClampNeg, not_true_eq_false, not_false_eq_true, false_implies, true_implies, implies_true, BX7_take_14, BX7_take_12, BX7_take_0, BX7_take_63, BX7_take_24, BX7_take_19, rmX7_take, x1, q_cls_of x1, q_R0_same]
  rw [hx.1, nI_add, show (400 : Int32) = nI 400 from rfl]
  refine ⟨fun z => ?_, fun z => ?_⟩
  · have z := (nI_leI (by omega) (by decide)).mp z
    have loop : ∀ d i (m1 : q_Mm), i + d = n → q_bt2 1 2 m m1 → m1 1 1 = nI (x.2 + i) → (∀ j, j < x.2 + i → m1 2 j = (t_add x n w).1 j) → q_WP TX7_take 19 [some (.ref 1), some (.int (nI n)), some (.long w), none, some (.int (nI d - 1))] [] sh m1 (q_R0 sh rmX7_take R) := by
      intro d
      induction d with
      | zero =>
        intro i m1 hi hb e1 e2
        refine uX7_take_19 ?_
        simp only [o_no, o_cut, o_ic, o_lc, o_str, o_il, o_ll, o_al, o_is, o_as, o_inc, o_iadd, o_isub, o_imul, o_iand, o_ior, o_ishl, o_ishr, o_iushr, o_idiv, o_irem, o_ladd, o_lmul, o_land, o_lor, o_lrem, o_lshl, o_lshr, o_lcmp, o_i2l, o_l2i, o_dup, o_dup2, o_ifeq, o_ifne, o_iflt, o_ifge, o_ifgt, o_ifle, o_iceq, o_icne, o_iclt, o_icge, o_icgt, o_icle, o_sw, o_iret, o_zret, o_vret, o_getf, o_putf, o_putz, o_putr, o_iald, o_zald, o_iast, o_zast, o_alen, o_aald, o_aast, o_obj_e, o_mmax_e, o_mmin_e, o_slen, o_schar, o_call_0, o_call_1, o_call_2, o_call_3, o_call_4, o_call_5, o_call_6, o_call_7, o_callV_0, o_callV_1, o_callV_2, o_callV_3, o_callV_4, o_callV_5, o_callV_6, q_cn_0, q_cn_i, q_cn_r, q_cn_a, q_cn_l, q_cat_eq, q_nl_none, q_nl_sn, q_nl_i, q_nl_r, q_nl_a, q_vp_0, q_vp_1, q_vp_2, q_vp_3, q_vp_4, q_vp_5, q_vp_6, q_vp_7, q_vp_8, List.getElem?_cons_zero, List.getElem?_cons_succ, List.getElem?_nil, List.set_cons_zero, List.set_cons_succ, List.set_nil, Option.toList_some, Option.toList_none, List.cons_append, List.nil_append, Nat.reduceAdd, Nat.reduceSub, Nat.reduceLeDiff, Nat.add_zero, Nat.zero_add, Nat.reduceLT, Nat.zero_le, true_and, and_true, Value.category, true_or, or_true, q_z10, q_z01, Int32.reduceLT, Int32.reduceLE, Int32.reduceToNatClampNeg, not_true_eq_false, not_false_eq_true, false_implies, true_implies, implies_true, BX7_take_14, BX7_take_12, BX7_take_0, BX7_take_63, BX7_take_24, BX7_take_19, rmX7_take, x1, q_cls_of x1, q_R0_same]
        refine ⟨fun _ => ?_, fun q => absurd q (by decide)⟩
        refine h1 z m1 hb ⟨?_, ?_⟩
        · show m1 1 1 = nI (x.2 + n); rw [e1, show i = n by omega]
        · intro j hj; exact e2 j (by have : j < x.2 + n := hj; omega)
      | succ d ih =>
        intro i m1 hi hb e1 e2
        refine uX7_take_19 ?_
        rw [nI_pred]
        simp only [o_no, o_cut, o_ic, o_lc, o_str, o_il, o_ll, o_al, o_is, o_as, o_inc, o_iadd, o_isub, o_imul, o_iand, o_ior, o_ishl, o_ishr, o_iushr, o_idiv, o_irem, o_ladd, o_lmul, o_land, o_lor, o_lrem, o_lshl, o_lshr, o_lcmp, o_i2l, o_l2i, o_dup, o_dup2, o_ifeq, o_ifne, o_iflt, o_ifge, o_ifgt, o_ifle, o_iceq, o_icne, o_iclt, o_icge, o_icgt, o_icle, o_sw, o_iret, o_zret, o_vret, o_getf, o_putf, o_putz, o_putr, o_iald, o_zald, o_iast, o_zast, o_alen, o_aald, o_aast, o_obj_e, o_mmax_e, o_mmin_e, o_slen, o_schar, o_call_0, o_call_1, o_call_2, o_call_3, o_call_4, o_call_5, o_call_6, o_call_7, o_callV_0, o_callV_1, o_callV_2, o_callV_3, o_callV_4, o_callV_5, o_callV_6, q_cn_0, q_cn_i, q_cn_r, q_cn_a, q_cn_l, q_cat_eq, q_nl_none, q_nl_sn, q_nl_i, q_nl_r, q_nl_a, q_vp_0, q_vp_1, q_vp_2, q_vp_3, q_vp_4, q_vp_5, q_vp_6, q_vp_7, q_vp_8, List.getElem?_cons_zero, List.getElem?_cons_succ, List.getElem?_nil, List.set_cons_zero, List.set_cons_succ, List.set_nil, Option.toList_some, Option.toList_none, List.cons_append, List.nil_append, Nat.reduceAdd, Nat.reduceSub, Nat.reduceLeDiff, Nat.add_zero, Nat.zero_add, Nat.reduceLT, Nat.zero_le, true_and, and_true, Value.category, true_or, or_true, q_z10, q_z01, Int32.reduceLT, Int32.reduceLE, Int32.reduceToNatClampNeg, not_true_eq_false, not_false_eq_true, false_implies, true_implies, implies_true, BX7_take_14, BX7_take_12, BX7_take_0, BX7_take_63, BX7_take_24, BX7_take_19, rmX7_take, x1, q_cls_of x1, q_R0_same]
        refine ⟨fun q => absurd q (nI_pos (by omega)), fun _ => ?_⟩
        refine p8_put y2 (by decide) ?_
        rw [e1, q_pt_n (by omega) (by decide)]
        simp only [o_no, o_cut, o_ic, o_lc, o_str, o_il, o_ll, o_al, o_is, o_as, o_inc, o_iadd, o_isub, o_imul, o_iand, o_ior, o_ishl, o_ishr, o_iushr, o_idiv, o_irem, o_ladd, o_lmul, o_land, o_lor, o_lrem, o_lshl, o_lshr, o_lcmp, o_i2l, o_l2i, o_dup, o_dup2, o_ifeq, o_ifne, o_iflt, o_ifge, o_ifgt, o_ifle, o_iceq, o_icne, o_iclt, o_icge, o_icgt, o_icle, o_sw, o_iret, o_zret, o_vret, o_getf, o_putf, o_putz, o_putr, o_iald, o_zald, o_iast, o_zast, o_alen, o_aald, o_aast, o_obj_e, o_mmax_e, o_mmin_e, o_slen, o_schar, o_call_0, o_call_1, o_call_2, o_call_3, o_call_4, o_call_5, o_call_6, o_call_7, o_callV_0, o_callV_1, o_callV_2, o_callV_3, o_callV_4, o_callV_5, o_callV_6, q_cn_0, q_cn_i, q_cn_r, q_cn_a, q_cn_l, q_cat_eq, q_nl_none, q_nl_sn, q_nl_i, q_nl_r, q_nl_a, q_vp_0, q_vp_1, q_vp_2, q_vp_3, q_vp_4, q_vp_5, q_vp_6, q_vp_7, q_vp_8, List.getElem?_cons_zero, List.getElem?_cons_succ, List.getElem?_nil, List.set_cons_zero, List.set_cons_succ, List.set_nil, Option.toList_some, Option.toList_none, List.cons_append, List.nil_append, Nat.reduceAdd, Nat.reduceSub, Nat.reduceLeDiff, Nat.add_zero, Nat.zero_add, Nat.reduceLT, Nat.zero_le, true_and, and_true, Value.category, true_or, or_true, q_z10, q_z01, Int32.reduceLT, Int32.reduceLE, Int32.reduceToNatClampNeg, not_true_eq_false, not_false_eq_true, false_implies, true_implies, implies_true, BX7_take_14, BX7_take_12, BX7_take_0, BX7_take_63, BX7_take_24, BX7_take_19, rmX7_take, x1, q_cls_of x1, q_R0_same, q_up_app, Nat.reduceEqDiff, false_and, if_false]
        rw [e1, nI_1, show nI d + (-1) = nI d - 1 from (Int32.sub_eq_add_neg _ _).symm]
        refine ih (i + 1) _ (by omega) ((hb.tr q_bt2.u1).tr q_bt2.u0) (by rw [q_up_app, if_pos ⟨rfl, rfl⟩]; rfl) (fun j hj => ?_)
        rw [q_up_o (by decide), q_up_app]
        by_cases y : j = x.2 + i
        · rw [if_pos ⟨rfl, y⟩]
          show _ = if j < x.2 then x.1 j else v_byte w (x.2 + n - 1 - j)
          rw [if_neg (by omega), show x.2 + n - 1 - j = d by omega, v_byte, show (8 : Int32) = nI 8 from rfl, pk_mul]
        · rw [if_neg (fun q => y q.2)]
          exact e2 j (by omega)
    have := loop n 0 m (by omega) q_bt2.rf hx.1 (fun j hj => by show m 2 j = if j < x.2 then _ else _; rw [if_pos (show j < x.2 from hj)]; exact hx.2 j hj)
    exact this
  · exact h2 (fun q => z (nI_le q (by decide)))
theorem p8_feed {n : Int32} {w : Int64} (hs : q_xs sh rb sb) (hx : x_text m x) (ho : t_ok x) (hR : ∀ m', q_bt2 1 2 m m' → x_text m' (n_feed x n w) → R (some (.int (a_feed x n))) sh m') : wX8_feed [.ref 0, .int n, .long w] sh m R := by
  obtain ⟨x0, x1, x3, x4, x6, x7, x9, x12, x15, x18, hr, hb, y2, y5, y8, y10, y11, y13, y14, y16, y17, y19, hrb⟩ := id hs
  refine eX8_feed ?_
  simp only [o_no, o_cut, o_ic, o_lc, o_str, o_il, o_ll, o_al, o_is, o_as, o_inc, o_iadd, o_isub, o_imul, o_iand, o_ior, o_ishl, o_ishr, o_iushr, o_idiv, o_irem, o_ladd, o_lmul, o_land, o_lor, o_lrem, o_lshl, o_lshr, o_lcmp, o_i2l, o_l2i, o_dup, o_dup2, o_ifeq, o_ifne, o_iflt, o_ifge, o_ifgt, o_ifle, o_iceq, o_icne, o_iclt, o_icge, o_icgt, o_icle, o_sw, o_iret, o_zret, o_vret, o_getf, o_putf, o_putz, o_putr, o_iald, o_zald, o_iast, o_zast, o_alen, o_aald, o_aast, o_obj_e, o_mmax_e, o_mmin_e, o_slen, o_schar, o_call_0, o_call_1, o_call_2, o_call_3, o_call_4, o_call_5, o_call_6, o_call_7, o_callV_0, o_callV_1, o_callV_2, o_callV_3, o_callV_4, o_callV_5, o_callV_6, q_cn_0, q_cn_i, q_cn_r, q_cn_a, q_cn_l, q_cat_eq, q_nl_none, q_nl_sn, q_nl_i, q_nl_r, q_nl_a, q_vp_0, q_vp_1, q_vp_2, q_vp_3, q_vp_4, q_vp_5, q_vp_6, q_vp_7, q_vp_8, List.getElem?_cons_zero, List.getElem?_cons_succ, List.getElem?_nil, List.set_cons_zero, List.set_cons_succ, List.set_nil, Option.toList_some, Option.toList_none, List.cons_append, List.nil_append, Nat.reduceAdd, Nat.reduceSub, Nat.reduceLeDiff, Nat.add_zero, Nat.zero_add, Nat.reduceLT, Nat.zero_le, true_and, and_true, Value.category, true_or, or_true, q_z10, q_z01, Int32.reduceLT, Int32.reduceLE, Int32.reduceToNatClampNeg, not_true_eq_false, not_false_eq_true, false_implies, true_implies, implies_true, BX8_feed_37, BX8_feed_35, BX8_feed_25, BX8_feed_13, BX8_feed_10, BX8_feed_0, rmX8_feed, x0, x1, x3, x4, x6, x7, x9, x12, x15, x18, q_cls_of x0, q_cls_of x1, q_cls_of x3, q_cls_of x4, q_cls_of x6, q_cls_of x7, q_cls_of x9, q_cls_of x12, q_cls_of x15, q_cls_of x18, q_cls_of hr.1, hr.1, q_R0_same]
  unfold a_feed n_feed at hR
  refine p8_inside (fun z => ?_) (fun z => ?_)
  · rw [q_if_t z] at hR
    obtain ⟨j, hj1, hj2, rfl⟩ := q_ins1 (M := 8) (by decide) z
    rw [q_ix_n (by omega)] at hR
    simp only [o_no, o_cut, o_ic, o_lc, o_str, o_il, o_ll, o_al, o_is, o_as, o_inc, o_iadd, o_isub, o_imul, o_iand, o_ior, o_ishl, o_ishr, o_iushr, o_idiv, o_irem, o_ladd, o_lmul, o_land, o_lor, o_lrem, o_lshl, o_lshr, o_lcmp, o_i2l, o_l2i, o_dup, o_dup2, o_ifeq, o_ifne, o_iflt, o_ifge, o_ifgt, o_ifle, o_iceq, o_icne, o_iclt, o_icge, o_icgt, o_icle, o_sw, o_iret, o_zret, o_vret, o_getf, o_putf, o_putz, o_putr, o_iald, o_zald, o_iast, o_zast, o_alen, o_aald, o_aast, o_obj_e, o_mmax_e, o_mmin_e, o_slen, o_schar, o_call_0, o_call_1, o_call_2, o_call_3, o_call_4, o_call_5, o_call_6, o_call_7, o_callV_0, o_callV_1, o_callV_2, o_callV_3, o_callV_4, o_callV_5, o_callV_6, q_cn_0, q_cn_i, q_cn_r, q_cn_a, q_cn_l, q_cat_eq, q_nl_none, q_nl_sn, q_nl_i, q_nl_r, q_nl_a, q_vp_0, q_vp_1, q_vp_2, q_vp_3, q_vp_4, q_vp_5, q_vp_6, q_vp_7, q_vp_8, List.getElem?_cons_zero, List.getElem?_cons_succ, List.getElem?_nil, List.set_cons_zero, List.set_cons_succ, List.set_nil, Option.toList_some, Option.toList_none, List.cons_append, List.nil_append, Nat.reduceAdd, Nat.reduceSub, Nat.reduceLeDiff, Nat.add_zero, Nat.zero_add, Nat.reduceLT, Nat.zero_le, true_and, and_true, Value.category, true_or, or_true, q_z10, q_z01, Int32.reduceLT, Int32.reduceLE, Int32.reduceToNatClampNeg, not_true_eq_false, not_false_eq_true, false_implies, true_implies, implies_true, BX8_feed_37, BX8_feed_35, BX8_feed_25, BX8_feed_13, BX8_feed_10, BX8_feed_0, rmX8_feed, x0, x1, x3, x4, x6, x7, x9, x12, x15, x18, q_cls_of x0, q_cls_of x1, q_cls_of x3, q_cls_of x4, q_cls_of x6, q_cls_of x7, q_cls_of x9, q_cls_of x12, q_cls_of x15, q_cls_of x18, q_cls_of hr.1, hr.1, q_R0_same]
    refine p7_take x1 y2 hx ho hj2 (fun y m' hb hx' => ?_) (fun y => ?_)
    · rw [q_if_t y, if_pos ⟨z, y⟩] at hR
      simp only [o_no, o_cut, o_ic, o_lc, o_str, o_il, o_ll, o_al, o_is, o_as, o_inc, o_iadd, o_isub, o_imul, o_iand, o_ior, o_ishl, o_ishr, o_iushr, o_idiv, o_irem, o_ladd, o_lmul, o_land, o_lor, o_lrem, o_lshl, o_lshr, o_lcmp, o_i2l, o_l2i, o_dup, o_dup2, o_ifeq, o_ifne, o_iflt, o_ifge, o_ifgt, o_ifle, o_iceq, o_icne, o_iclt, o_icge, o_icgt, o_icle, o_sw, o_iret, o_zret, o_vret, o_getf, o_putf, o_putz, o_putr, o_iald, o_zald, o_iast, o_zast, o_alen, o_aald, o_aast, o_obj_e, o_mmax_e, o_mmin_e, o_slen, o_schar, o_call_0, o_call_1, o_call_2, o_call_3, o_call_4, o_call_5, o_call_6, o_call_7, o_callV_0, o_callV_1, o_callV_2, o_callV_3, o_callV_4, o_callV_5, o_callV_6, q_cn_0, q_cn_i, q_cn_r, q_cn_a, q_cn_l, q_cat_eq, q_nl_none, q_nl_sn, q_nl_i, q_nl_r, q_nl_a, q_vp_0, q_vp_1, q_vp_2, q_vp_3, q_vp_4, q_vp_5, q_vp_6, q_vp_7, q_vp_8, List.getElem?_cons_zero, List.getElem?_cons_succ, List.getElem?_nil, List.set_cons_zero, List.set_cons_succ, List.set_nil, Option.toList_some, Option.toList_none, List.cons_append, List.nil_append, Nat.reduceAdd, Nat.reduceSub, Nat.reduceLeDiff, Nat.add_zero, Nat.zero_add, Nat.reduceLT, Nat.zero_le, true_and, and_true, Value.category, true_or, or_true, q_z10, q_z01, Int32.reduceLT, Int32.reduceLE, Int32.reduceToNatClampNeg, not_true_eq_false, not_false_eq_true, false_implies, true_implies, implies_true, BX8_feed_37, BX8_feed_35, BX8_feed_25, BX8_feed_13, BX8_feed_10, BX8_feed_0, rmX8_feed, x0, x1, x3, x4, x6, x7, x9, x12, x15, x18, q_cls_of x0, q_cls_of x1, q_cls_of x3, q_cls_of x4, q_cls_of x6, q_cls_of x7, q_cls_of x9, q_cls_of x12, q_cls_of x15, q_cls_of x18, q_cls_of hr.1, hr.1, q_R0_same]
      rw [hx'.1]
      exact hR m' hb hx'
    · rw [q_if_f y, if_neg (fun q => y q.2)] at hR
      simp only [o_no, o_cut, o_ic, o_lc, o_str, o_il, o_ll, o_al, o_is, o_as, o_inc, o_iadd, o_isub, o_imul, o_iand, o_ior, o_ishl, o_ishr, o_iushr, o_idiv, o_irem, o_ladd, o_lmul, o_land, o_lor, o_lrem, o_lshl, o_lshr, o_lcmp, o_i2l, o_l2i, o_dup, o_dup2, o_ifeq, o_ifne, o_iflt, o_ifge, o_ifgt, o_ifle, o_iceq, o_icne, o_iclt, o_icge, o_icgt, o_icle, o_sw, o_iret, o_zret, o_vret, o_getf, o_putf, o_putz, o_putr, o_iald, o_zald, o_iast, o_zast, o_alen, o_aald, o_aast, o_obj_e, o_mmax_e, o_mmin_e, o_slen, o_schar, o_call_0, o_call_1, o_call_2, o_call_3, o_call_4, o_call_5, o_call_6, o_call_7, o_callV_0, o_callV_1, o_callV_2, o_callV_3, o_callV_4, o_callV_5, o_callV_6, q_cn_0, q_cn_i, q_cn_r, q_cn_a, q_cn_l, q_cat_eq, q_nl_none, q_nl_sn, q_nl_i, q_nl_r, q_nl_a, q_vp_0, q_vp_1, q_vp_2, q_vp_3, q_vp_4, q_vp_5, q_vp_6, q_vp_7, q_vp_8, List.getElem?_cons_zero, List.getElem?_cons_succ, List.getElem?_nil, List.set_cons_zero, List.set_cons_succ, List.set_nil, Option.toList_some, Option.toList_none, List.cons_append, List.nil_append, Nat.reduceAdd, Nat.reduceSub, Nat.reduceLeDiff, Nat.add_zero, Nat.zero_add, Nat.reduceLT, Nat.zero_le, true_and, and_true, Value.category, true_or, or_true, q_z10, q_z01, Int32.reduceLT, Int32.reduceLE, Int32.reduceToNatClampNeg, not_true_eq_false, not_false_eq_true, false_implies, true_implies, implies_true, BX8_feed_37, BX8_feed_35, BX8_feed_25, BX8_feed_13, BX8_feed_10, BX8_feed_0, rmX8_feed, x0, x1, x3, x4, x6, x7, x9, x12, x15, x18, q_cls_of x0, q_cls_of x1, q_cls_of x3, q_cls_of x4, q_cls_of x6, q_cls_of x7, q_cls_of x9, q_cls_of x12, q_cls_of x15, q_cls_of x18, q_cls_of hr.1, hr.1, q_R0_same]
      exact hR m q_bt2.rf hx
  · rw [q_if_f z, if_neg (fun q => z q.1)] at hR
    simp only [o_no, o_cut, o_ic, o_lc, o_str, o_il, o_ll, o_al, o_is, o_as, o_inc, o_iadd, o_isub, o_imul, o_iand, o_ior, o_ishl, o_ishr, o_iushr, o_idiv, o_irem, o_ladd, o_lmul, o_land, o_lor, o_lrem, o_lshl, o_lshr, o_lcmp, o_i2l, o_l2i, o_dup, o_dup2, o_ifeq, o_ifne, o_iflt, o_ifge, o_ifgt, o_ifle, o_iceq, o_icne, o_iclt, o_icge, o_icgt, o_icle, o_sw, o_iret, o_zret, o_vret, o_getf, o_putf, o_putz, o_putr, o_iald, o_zald, o_iast, o_zast, o_alen, o_aald, o_aast, o_obj_e, o_mmax_e, o_mmin_e, o_slen, o_schar, o_call_0, o_call_1, o_call_2, o_call_3, o_call_4, o_call_5, o_call_6, o_call_7, o_callV_0, o_callV_1, o_callV_2, o_callV_3, o_callV_4, o_callV_5, o_callV_6, q_cn_0, q_cn_i, q_cn_r, q_cn_a, q_cn_l, q_cat_eq, q_nl_none, q_nl_sn, q_nl_i, q_nl_r, q_nl_a, q_vp_0, q_vp_1, q_vp_2, q_vp_3, q_vp_4, q_vp_5, q_vp_6, q_vp_7, q_vp_8, List.getElem?_cons_zero, List.getElem?_cons_succ, List.getElem?_nil, List.set_cons_zero, List.set_cons_succ, List.set_nil, Option.toList_some, Option.toList_none, List.cons_append, List.nil_append, Nat.reduceAdd, Nat.reduceSub, Nat.reduceLeDiff, Nat.add_zero, Nat.zero_add, Nat.reduceLT, Nat.zero_le, true_and, and_true, Value.category, true_or, or_true, q_z10, q_z01, Int32.reduceLT, Int32.reduceLE, Int32.reduceToNatClampNeg, not_true_eq_false, not_false_eq_true, false_implies, true_implies, implies_true, BX8_feed_37, BX8_feed_35, BX8_feed_25, BX8_feed_13, BX8_feed_10, BX8_feed_0, rmX8_feed, x0, x1, x3, x4, x6, x7, x9, x12, x15, x18, q_cls_of x0, q_cls_of x1, q_cls_of x3, q_cls_of x4, q_cls_of x6, q_cls_of x7, q_cls_of x9, q_cls_of x12, q_cls_of x15, q_cls_of x18, q_cls_of hr.1, hr.1, q_R0_same]
    exact hR m q_bt2.rf hx
theorem p9_feed {n : Int32} {w : Int64} (hs : q_md sh c) (hx : m_text m c x) (ho : t_ok x) (hR : ∀ m', m_fo c 8 16 m m' → m_text m' c (n_feed x n w) → R (some (.int (a_feed x n))) sh m') : wX9_feed [.ref c, .int n, .long w] sh m R := by
  obtain ⟨z0, z1, z2, z3, z4, z5, z6, z7, z8, z9, z10, z11, z12, z13, z14, z15, z16⟩ := id hs
  have h4 := ho.1
  refine eX9_feed ?_
  simp only [o_no, o_cut, o_ic, o_lc, o_str, o_il, o_ll, o_al, o_is, o_as, o_inc, o_iadd, o_isub, o_imul, o_iand, o_ior, o_ishl, o_ishr, o_iushr, o_idiv, o_irem, o_ladd, o_lmul, o_land, o_lor, o_lrem, o_lshl, o_lshr, o_lcmp, o_i2l, o_l2i, o_dup, o_dup2, o_ifeq, o_ifne, o_iflt, o_ifge, o_ifgt, o_ifle, o_iceq, o_icne, o_iclt, o_icge, o_icgt, o_icle, o_sw, o_iret, o_zret, o_vret, o_getf, o_putf, o_putz, o_putr, o_iald, o_zald, o_iast, o_zast, o_alen, o_aald, o_aast, o_obj_e, o_mmax_e, o_mmin_e, o_slen, o_schar, o_call_0, o_call_1, o_call_2, o_call_3, o_call_4, o_call_5, o_call_6, o_call_7, o_callV_0, o_callV_1, o_callV_2, o_callV_3, o_callV_4, o_callV_5, o_callV_6, q_cn_0, q_cn_i, q_cn_r, q_cn_a, q_cn_l, q_cat_eq, q_nl_none, q_nl_sn, q_nl_i, q_nl_r, q_nl_a, q_vp_0, q_vp_1, q_vp_2, q_vp_3, q_vp_4, q_vp_5, q_vp_6, q_vp_7, q_vp_8, List.getElem?_cons_zero, List.getElem?_cons_succ, List.getElem?_nil, List.set_cons_zero, List.set_cons_succ, List.set_nil, Option.toList_some, Option.toList_none, List.cons_append, List.nil_append, Nat.reduceAdd, Nat.reduceSub, Nat.reduceLeDiff, Nat.add_zero, Nat.zero_add, Nat.reduceLT, Nat.zero_le, true_and, and_true, Value.category, true_or, or_true, q_z10, q_z01, Int32.reduceLT, Int32.reduceLE, Int32.reduceToNatClampNeg, not_true_eq_false, not_false_eq_true, false_implies, true_implies, implies_true, BX9_feed_30, BX9_feed_27, BX9_feed_15, BX9_feed_12, BX9_feed_0, BX9_feed_77, BX9_feed_40, BX9_feed_35, rmX9_feed, z0, z1, z2, z3, z4, z5, z6, z7, z8, z9, z10, z11, z12, z13, z14, z15, z16, q_cls_of z0, q_R0_same]
  unfold a_feed n_feed at hR
  rw [show (1 : Int64) = (1 : Int32).toInt64 from rfl, show (8 : Int64) = (8 : Int32).toInt64 from rfl]
  refine p9_inI (fun z => ?_) (fun z => ?_)
  · rw [q_if_t z] at hR
    obtain ⟨n, hn1, hn, rfl⟩ := q_ins1 (M := 8) (by decide) z
    rw [q_ix_n (by omega)] at hR
    simp only [o_no, o_cut, o_ic, o_lc, o_str, o_il, o_ll, o_al, o_is, o_as, o_inc, o_iadd, o_isub, o_imul, o_iand, o_ior, o_ishl, o_ishr, o_iushr, o_idiv, o_irem, o_ladd, o_lmul, o_land, o_lor, o_lrem, o_lshl, o_lshr, o_lcmp, o_i2l, o_l2i, o_dup, o_dup2, o_ifeq, o_ifne, o_iflt, o_ifge, o_ifgt, o_ifle, o_iceq, o_icne, o_iclt, o_icge, o_icgt, o_icle, o_sw, o_iret, o_zret, o_vret, o_getf, o_putf, o_putz, o_putr, o_iald, o_zald, o_iast, o_zast, o_alen, o_aald, o_aast, o_obj_e, o_mmax_e, o_mmin_e, o_slen, o_schar, o_call_0, o_call_1, o_call_2, o_call_3, o_call_4, o_call_5, o_call_6, o_call_7, o_callV_0, o_callV_1, o_callV_2, o_callV_3, o_callV_4, o_callV_5, o_callV_6, q_cn_0, q_cn_i, q_cn_r, q_cn_a, q_cn_l, q_cat_eq, q_nl_none, q_nl_sn, q_nl_i, q_nl_r, q_nl_a, q_vp_0, q_vp_1, q_vp_2, q_vp_3, q_vp_4, q_vp_5, q_vp_6, q_vp_7, q_vp_8, List.getElem?_cons_zero, List.getElem?_cons_succ, List.getElem?_nil, List.set_cons_zero, List.set_cons_succ, List.set_nil, Option.toList_some, Option.toList_none, List.cons_append, List.nil_append, Nat.reduceAdd, Nat.reduceSub, Nat.reduceLeDiff, Nat.add_zero, Nat.zero_add, Nat.reduceLT, Nat.zero_le, true_and, and_true, Value.category, true_or, or_true, q_z10, q_z01, Int32.reduceLT, Int32.reduceLE, Int32.reduceToNatClampNeg, not_true_eq_false, not_false_eq_true, false_implies, true_implies, implies_true, BX9_feed_30, BX9_feed_27, BX9_feed_15, BX9_feed_12, BX9_feed_0, BX9_feed_77, BX9_feed_40, BX9_feed_35, rmX9_feed, z0, z1, z2, z3, z4, z5, z6, z7, z8, z9, z10, z11, z12, z13, z14, z15, z16, q_cls_of z0, q_R0_same]
    rw [hx.1, nI_add, show (400 : Int32) = nI 400 from rfl]
    refine ⟨fun y => ?_, fun y => ?_⟩
    · have y := (nI_leI (by omega) (by decide)).mp y
      rw [q_if_t y, if_pos ⟨z, y⟩] at hR
      have loop : ∀ d i (m1 : q_Mm), i + d = n → m_fo c 8 16 m m1 → m1 c 16 = nI (x.2 + i) → (∀ j, j < x.2 + i → m1 (c + 8) j = (t_add x n w).1 j) → q_WP TX9_feed 35 [some (.ref c), some (.int (nI n)), some (.long w), none, some (.int (nI d - 1))] [] sh m1 (q_R0 sh rmX9_feed R) := by
        intro d
        induction d with
        | zero =>
          intro i m1 hi hb e1 e2
          refine uX9_feed_35 ?_
          simp only [o_no, o_cut, o_ic, o_lc, o_str, o_il, o_ll, o_al, o_is, o_as, o_inc, o_iadd, o_isub, o_imul, o_iand, o_ior, o_ishl, o_ishr, o_iushr, o_idiv, o_irem, o_ladd, o_lmul, o_land, o_lor, o_lrem, o_lshl, o_lshr, o_lcmp, o_i2l, o_l2i, o_dup, o_dup2, o_ifeq, o_ifne, o_iflt, o_ifge, o_ifgt, o_ifle, o_iceq, o_icne, o_iclt, o_icge, o_icgt, o_icle, o_sw, o_iret, o_zret, o_vret, o_getf, o_putf, o_putz, o_putr, o_iald, o_zald, o_iast, o_zast, o_alen, o_aald, o_aast, o_obj_e, o_mmax_e, o_mmin_e, o_slen, o_schar, o_call_0, o_call_1, o_call_2, o_call_3, o_call_4, o_call_5, o_call_6, o_call_7, o_callV_0, o_callV_1, o_callV_2, o_callV_3, o_callV_4, o_callV_5, o_callV_6, q_cn_0, q_cn_i, q_cn_r, q_cn_a, q_cn_l, q_cat_eq, q_nl_none, q_nl_sn, q_nl_i, q_nl_r, q_nl_a, q_vp_0, q_vp_1, q_vp_2, q_vp_3, q_vp_4, q_vp_5, q_vp_6, q_vp_7, q_vp_8, List.getElem?_cons_zero, List.getElem?_cons_succ, List.getElem?_nil, List.set_cons_zero, List.set_cons_succ, List.set_nil, Option.toList_some, Option.toList_none, List.cons_append, List.nil_append, Nat.reduceAdd, Nat.reduceSub, Nat.reduceLeDiff, Nat.add_zero, Nat.zero_add, Nat.reduceLT, Nat.zero_le, true_and, and_true, Value.category, true_or, or_true, q_z10, q_z01, Int32.reduceLT, Int32.reduceLE, Int32.reduceToNatClampNeg, not_true_eq_false, not_false_eq_true, false_implies, true_implies, implies_true, BX9_feed_30, BX9_feed_27, BX9_feed_15, BX9_feed_12, BX9_feed_0, BX9_feed_77, BX9_feed_40, BX9_feed_35, rmX9_feed, z0, z1, z2, z3, z4, z5, z6, z7, z8, z9, z10, z11, z12, z13, z14, z15, z16, q_cls_of z0, q_R0_same]
          refine ⟨fun _ => ?_, fun q => absurd q (by decide)⟩
          rw [e1, show i = n by omega]
          rw [show i = n by omega] at e1 e2
          exact hR m1 hb ⟨e1, e2⟩
        | succ d ih =>
          intro i m1 hi hb e1 e2
          refine uX9_feed_35 ?_
          rw [nI_pred]
          have nc : c ≠ c + 8 := by omega
          simp only [o_no, o_cut, o_ic, o_lc, o_str, o_il, o_ll, o_al, o_is, o_as, o_inc, o_iadd, o_isub, o_imul, o_iand, o_ior, o_ishl, o_ishr, o_iushr, o_idiv, o_irem, o_ladd, o_lmul, o_land, o_lor, o_lrem, o_lshl, o_lshr, o_lcmp, o_i2l, o_l2i, o_dup, o_dup2, o_ifeq, o_ifne, o_iflt, o_ifge, o_ifgt, o_ifle, o_iceq, o_icne, o_iclt, o_icge, o_icgt, o_icle, o_sw, o_iret, o_zret, o_vret, o_getf, o_putf, o_putz, o_putr, o_iald, o_zald, o_iast, o_zast, o_alen, o_aald, o_aast, o_obj_e, o_mmax_e, o_mmin_e, o_slen, o_schar, o_call_0, o_call_1, o_call_2, o_call_3, o_call_4, o_call_5, o_call_6, o_call_7, o_callV_0, o_callV_1, o_callV_2, o_callV_3, o_callV_4, o_callV_5, o_callV_6, q_cn_0, q_cn_i, q_cn_r, q_cn_a, q_cn_l, q_cat_eq, q_nl_none, q_nl_sn, q_nl_i, q_nl_r, q_nl_a, q_vp_0, q_vp_1, q_vp_2, q_vp_3, q_vp_4, q_vp_5, q_vp_6, q_vp_7, q_vp_8, List.getElem?_cons_zero, List.getElem?_cons_succ, List.getElem?_nil, List.set_cons_zero, List.set_cons_succ, List.set_nil, Option.toList_some, Option.toList_none, List.cons_append, List.nil_append, Nat.reduceAdd, Nat.reduceSub, Nat.reduceLeDiff, Nat.add_zero, Nat.zero_add, Nat.reduceLT, Nat.zero_le, true_and, and_true, Value.category, true_or, or_true, q_z10, q_z01, Int32.reduceLT, Int32.reduceLE, Int32.reduceToNatClampNeg, not_true_eq_false, not_false_eq_true, false_implies, true_implies, implies_true, BX9_feed_30, BX9_feed_27, BX9_feed_15, BX9_feed_12, BX9_feed_0, BX9_feed_77, BX9_feed_40, BX9_feed_35, rmX9_feed, z0, z1, z2, z3, z4, z5, z6, z7, z8, z9, z10, z11, z12, z13, z14, z15, z16, q_cls_of z0, q_R0_same, q_up_app, nc, false_and, if_false]
          refine ⟨fun q => absurd q (nI_pos (by omega)), fun _ => ?_⟩
          rw [e1, nI_clamp (n := x.2 + i) (by omega), nI_1, show nI d + (-1) = nI d - 1 from (Int32.sub_eq_add_neg _ _).symm]
          refine ⟨vp_in_nI (by omega) (by decide), ih (i + 1) _ (by omega) ((hb.tr (m_fo.u1 (by decide))).tr m_fo.u0) (by rw [q_up_app, if_pos ⟨rfl, rfl⟩]; rfl) (fun j hj => ?_)⟩
          rw [q_up_o (by omega), q_up_app]
          by_cases y : j = x.2 + i
          · rw [if_pos ⟨rfl, y⟩]
            show _ = if j < x.2 then x.1 j else v_byte w (x.2 + n - 1 - j)
            rw [if_neg (by omega), show x.2 + n - 1 - j = d by omega, v_byte, show (8 : Int32) = nI 8 from rfl, pk_mul]
          · rw [if_neg (fun q => y q.2)]
            exact e2 j (by omega)
      have := loop n 0 m (by omega) m_fo.rf hx.1 (fun j hj => by show m (c + 8) j = if j < x.2 then _ else _; rw [if_pos (show j < x.2 from hj)]; exact hx.2 j hj)
      exact this
    · have y : ¬ x.2 + n ≤ 400 := fun q => y (nI_le q (by decide))
      rw [q_if_f y, if_neg (fun q => y q.2)] at hR
      exact hR m m_fo.rf hx
  · rw [q_if_f z, if_neg (fun q => z q.1)] at hR
    simp only [o_no, o_cut, o_ic, o_lc, o_str, o_il, o_ll, o_al, o_is, o_as, o_inc, o_iadd, o_isub, o_imul, o_iand, o_ior, o_ishl, o_ishr, o_iushr, o_idiv, o_irem, o_ladd, o_lmul, o_land, o_lor, o_lrem, o_lshl, o_lshr, o_lcmp, o_i2l, o_l2i, o_dup, o_dup2, o_ifeq, o_ifne, o_iflt, o_ifge, o_ifgt, o_ifle, o_iceq, o_icne, o_iclt, o_icge, o_icgt, o_icle, o_sw, o_iret, o_zret, o_vret, o_getf, o_putf, o_putz, o_putr, o_iald, o_zald, o_iast, o_zast, o_alen, o_aald, o_aast, o_obj_e, o_mmax_e, o_mmin_e, o_slen, o_schar, o_call_0, o_call_1, o_call_2, o_call_3, o_call_4, o_call_5, o_call_6, o_call_7, o_callV_0, o_callV_1, o_callV_2, o_callV_3, o_callV_4, o_callV_5, o_callV_6, q_cn_0, q_cn_i, q_cn_r, q_cn_a, q_cn_l, q_cat_eq, q_nl_none, q_nl_sn, q_nl_i, q_nl_r, q_nl_a, q_vp_0, q_vp_1, q_vp_2, q_vp_3, q_vp_4, q_vp_5, q_vp_6, q_vp_7, q_vp_8, List.getElem?_cons_zero, List.getElem?_cons_succ, List.getElem?_nil, List.set_cons_zero, List.set_cons_succ, List.set_nil, Option.toList_some, Option.toList_none, List.cons_append, List.nil_append, Nat.reduceAdd, Nat.reduceSub, Nat.reduceLeDiff, Nat.add_zero, Nat.zero_add, Nat.reduceLT, Nat.zero_le, true_and, and_true, Value.category, true_or, or_true, q_z10, q_z01, Int32.reduceLT, Int32.reduceLE, Int32.reduceToNatClampNeg, not_true_eq_false, not_false_eq_true, false_implies, true_implies, implies_true, BX9_feed_30, BX9_feed_27, BX9_feed_15, BX9_feed_12, BX9_feed_0, BX9_feed_77, BX9_feed_40, BX9_feed_35, rmX9_feed, z0, z1, z2, z3, z4, z5, z6, z7, z8, z9, z10, z11, z12, z13, z14, z15, z16, q_cls_of z0, q_R0_same]
    exact hR m m_fo.rf hx
end TX
