/-! The best way: the class. -/
theorem f_bit_tb (s p : Nat) : f_bit s p = s.testBit p := by rw [Nat.testBit_eq_decide_div_mod_eq]; rfl
def r_rc (k : RK) (p : Nat) : Nat := r_rd k p ||| 2 ^ p
theorem r_rc_bit (k : RK) (p q : Nat) : f_bit (r_rc k p) q = (f_bit (r_rd k p) q || decide (p = q)) := by
  rw [f_bit_tb, f_bit_tb, r_rc, Nat.testBit_or, Nat.testBit_two_pow]
theorem r_rc_lt {k : RK} (hk : r_ok k) {p : Nat} (hp : p < 8) : r_rc k p < 256 := by
  have h2 : 2 ^ p < 2 ^ 8 := Nat.pow_lt_pow_right (by decide) hp
  exact Nat.or_lt_two_pow (n := 8) (r_rd_lt hk p) h2
theorem r_may_bit {k : RK} (hk : r_ok k) {p q : Nat} : f_bit (r_rc k p) q = true ↔ r_may k p q := by
  rw [r_rc_bit, Bool.or_eq_true, decide_eq_true_iff, r_may, r_way, f_bit, decide_eq_true_iff]
  exact Or.comm
/-- the greatest of those that may be -/
def w_mx (P : Nat → Bool) (F : Nat → Nat) : Nat → Nat
  | 0 => 0
  | n + 1 => if P n then max (w_mx P F n) (F n) else w_mx P F n
theorem w_mx_le {P : Nat → Bool} {F : Nat → Nat} {M : Nat} : ∀ n, (∀ q, q < n → F q ≤ M) → w_mx P F n ≤ M
  | 0, _ => Nat.zero_le _
  | n + 1, h => by
    have ih := w_mx_le (P := P) n (fun q hq => h q (by omega))
    have := h n (by omega)
    rw [w_mx]; split <;> omega
theorem w_mx_ge {P : Nat → Bool} {F : Nat → Nat} : ∀ n q, q < n → P q = true → F q ≤ w_mx P F n
  | n + 1, q, hq, hP => by
    rw [w_mx]
    rcases Nat.lt_or_ge q n with z | z
    · have ih := w_mx_ge (F := F) n q z hP
      split <;> omega
    · obtain rfl : q = n := by omega
      rw [if_pos hP]; omega
theorem w_mx_at {P : Nat → Bool} {F : Nat → Nat} : ∀ n, (∃ q, q < n ∧ P q = true) → ∃ q, q < n ∧ P q = true ∧ F q = w_mx P F n
  | 0, h => by obtain ⟨q, hq, _⟩ := h; omega
  | n + 1, h => by
    obtain ⟨q, hq, hP⟩ := h
    rw [w_mx]
    by_cases c : P n = true
    · rw [if_pos c]
      by_cases e : ∃ q, q < n ∧ P q = true
      · obtain ⟨r, hr, hPr, hFr⟩ := w_mx_at (F := F) n e
        rcases Nat.lt_or_ge (w_mx P F n) (F n) with z | z
        · exact ⟨n, by omega, c, by omega⟩
        · exact ⟨r, by omega, hPr, by omega⟩
      · refine ⟨n, by omega, c, ?_⟩
        have : w_mx P F n = 0 := by
          have : ∀ j, j ≤ n → w_mx P F j = 0 := by
            intro j
            induction j with
            | zero => intro _; rfl
            | succ j ih =>
              intro hj
              rw [w_mx, if_neg (fun z => e ⟨j, by omega, z⟩)]
              exact ih (by omega)
          exact this n (Nat.le_refl _)
        omega
    · rw [if_neg c]
      have : q < n := by
        rcases Nat.lt_or_ge q n with z | z
        · exact z
        · exact absurd (by rw [show n = q by omega]; exact hP) c
      obtain ⟨r, hr, hPr, hFr⟩ := w_mx_at (F := F) n ⟨q, this, hP⟩
      exact ⟨r, by omega, hPr, hFr⟩
def w_l (k : RK) (s t q : Nat) : Nat := if r_lt k q (r_ad k s t) = true then 1 else 0
/-- the most light behind it, with so many steps left of n -/
def w_u (k : RK) (s n : Nat) : Nat → Nat → Nat
  | 0, _ => 0
  | e + 1, p => w_mx (fun q => f_bit (r_rc k p) q) (fun q => w_l k s (n - e) q + w_u k s n e q) (r_pl k)
def w_F (k : RK) (s n e q : Nat) : Nat := w_l k s (n - e) q + w_u k s n e q
def w_nx (k : RK) (s n e p : Nat) : Nat := f_ff (fun q => f_bit (r_rc k p) q && decide (w_F k s n e q = w_u k s n (e + 1) p)) (r_pl k) 0
def w_go (k : RK) (s n p : Nat) : Nat → Nat
  | 0 => p
  | j + 1 => w_nx k s n (n - j - 1) (w_go k s n p j)
theorem w_l_le (k : RK) (s t q : Nat) : w_l k s t q ≤ 1 := by unfold w_l; split <;> omega
theorem w_u_le (k : RK) (s n : Nat) : ∀ e p, w_u k s n e p ≤ e
  | 0, _ => Nat.le_refl _
  | e + 1, p => w_mx_le _ (fun q _ => by have := w_l_le k s (n - e) q; have := w_u_le k s n e q; omega)
theorem w_F_le (k : RK) (s n e q : Nat) : w_F k s n e q ≤ e + 1 := by
  have := w_l_le k s (n - e) q; have := w_u_le k s n e q; unfold w_F; omega
theorem w_nx_lt {k : RK} {p : Nat} (hp : p < r_pl k) (s n e : Nat) : w_nx k s n e p < r_pl k ∧ f_bit (r_rc k p) (w_nx k s n e p) = true ∧ w_F k s n e (w_nx k s n e p) = w_u k s n (e + 1) p := by
  obtain ⟨q, hq, hP, hF⟩ := w_mx_at (F := fun q => w_l k s (n - e) q + w_u k s n e q) (r_pl k) ⟨p, hp, by show f_bit (r_rc k p) p = true; rw [r_rc_bit, decide_eq_true rfl, Bool.or_true]⟩
  have hle := f_ff_le (fun q => f_bit (r_rc k p) q && decide (w_F k s n e q = w_u k s n (e + 1) p)) (r_pl k) 0
  have hlt : w_nx k s n e p < r_pl k := by
    rcases Nat.lt_or_ge (w_nx k s n e p) (r_pl k) with z | z
    · exact z
    · have := f_ff_no (F := fun q => f_bit (r_rc k p) q && decide (w_F k s n e q = w_u k s n (e + 1) p)) (r_pl k) 0 q (Nat.zero_le _) (by show q < w_nx k s n e p; omega)
      rw [hP, Bool.true_and, decide_eq_false_iff_not] at this
      exact absurd hF this
  refine ⟨hlt, ?_⟩
  have := f_ff_yes (F := fun q => f_bit (r_rc k p) q && decide (w_F k s n e q = w_u k s n (e + 1) p)) (r_pl k) 0 (by rw [Nat.zero_add]; exact hlt)
  rw [Bool.and_eq_true, decide_eq_true_iff] at this
  exact this
theorem w_go_lt {k : RK} {p : Nat} (hp : p < r_pl k) (s n : Nat) : ∀ j, w_go k s n p j < r_pl k
  | 0 => hp
  | j + 1 => (w_nx_lt (w_go_lt hp s n j) s n (n - j - 1)).1
theorem q_ins_m1 {i : Int32} {n : Nat} (hn : n < 2 ^ 31) : q_ins i (-1) (nI n) ↔ i = -1 ∨ q_rg i n := by
  constructor
  · rintro ⟨h1, h2⟩
    by_cases z : i < 0
    · refine Or.inl (Int32.toInt_inj.mp ?_)
      rw [Int32.lt_iff_toInt_lt] at h1 z
      rw [show (-1 : Int32).toInt = -1 from by decide] at h1 ⊢
      rw [show (0 : Int32).toInt = 0 from by decide] at z
      omega
    · exact Or.inr ((q_ins_rg hn).mp ⟨z, h2⟩)
  · rintro (rfl | h)
    · refine ⟨by decide, ?_⟩
      rw [Int32.lt_iff_toInt_lt, nI_toInt hn, show (-1 : Int32).toInt = -1 from by decide]
      omega
    · obtain ⟨a, b⟩ := (q_ins_rg hn).mpr h
      refine ⟨fun z => a (Int32.lt_trans z (by decide)), b⟩
noncomputable def a_way (k : RK) (sh : Nat) (p st n i : Int32) : Int32 := a_plc k p (q_if (q_rg st 999999 ∧ q_ins n 1 40 ∧ q_ins i (-1) n) (if i = -1 then nI (w_u k (r_ad k sh (q_ix st)) (q_ix n) (q_ix n) (q_ix p)) else nI (w_go k (r_ad k sh (q_ix st)) (q_ix n) (q_ix p) (q_ix i))) (-1000000002))
def x_lits (m : q_Mm) (k : RK) (s n : Nat) : Prop := ∀ t, t ≤ n → m 14 t = nI (r_ls k (r_ad k s t))
def x_best (m : q_Mm) (k : RK) (s n lo : Nat) : Prop := ∀ t q, lo ≤ t → t ≤ n → q < r_pl k → m 13 (t * 8 + q) = nI (w_u k s n (n - t) q)
section WY
variable {m : q_Mm} {rb sb c s n : Nat} {k : RK} {sh : q_Sh} {R : q_KR}
theorem p5_mostLight {t q : Nat} (x12 : sh[12]? = some (.inl (5, [some (.ref 13), some (.ref 14)]))) (y13 : sh[13]? = some (.inr (.inl (0, 328)))) (ht : t ≤ 40) (hq : q < 8) (hR : R (some (.int (m 13 (t * 8 + q)))) sh m) : wX5_mostLight [.ref 12, .int (nI t), .int (nI q)] sh m R := by
  refine eX5_mostLight ?_
  simp only [o_no, o_cut, o_ic, o_lc, o_str, o_il, o_ll, o_al, o_is, o_as, o_inc, o_iadd, o_isub, o_imul, o_iand, o_ior, o_ishl, o_ishr, o_iushr, o_idiv, o_irem, o_ladd, o_lmul, o_land, o_lor, o_lrem, o_lshl, o_lshr, o_lcmp, o_i2l, o_l2i, o_dup, o_dup2, o_ifeq, o_ifne, o_iflt, o_ifge, o_ifgt, o_ifle, o_iceq, o_icne, o_iclt, o_icge, o_icgt, o_icle, o_sw, o_iret, o_zret, o_vret, o_getf, o_putf, o_putz, o_putr, o_iald, o_zald, o_iast, o_zast, o_alen, o_aald, o_aast, o_obj_e, o_mmax_e, o_mmin_e, o_slen, o_schar, o_call_0, o_call_1, o_call_2, o_call_3, o_call_4, o_call_5, o_call_6, o_call_7, o_callV_0, o_callV_1, o_callV_2, o_callV_3, o_callV_4, o_callV_5, o_callV_6, q_cn_0, q_cn_i, q_cn_r, q_cn_a, q_cn_l, q_cat_eq, q_nl_none, q_nl_sn, q_nl_i, q_nl_r, q_nl_a, q_vp_0, q_vp_1, q_vp_2, q_vp_3, q_vp_4, q_vp_5, q_vp_6, q_vp_7, q_vp_8, List.getElem?_cons_zero, List.getElem?_cons_succ, List.getElem?_nil, List.set_cons_zero, List.set_cons_succ, List.set_nil, Option.toList_some, Option.toList_none, List.cons_append, List.nil_append, Nat.reduceAdd, Nat.reduceSub, Nat.reduceLeDiff, Nat.add_zero, Nat.zero_add, Nat.reduceLT, Nat.zero_le, true_and, and_true, Value.category, true_or, or_true, q_z10, q_z01, Int32.reduceLT, Int32.reduceLE, Int32.reduceToNatClampNeg, not_true_eq_false, not_false_eq_true, false_implies, true_implies, implies_true, BX5_mostLight_0, rmX5_mostLight, x12, q_cls_of x12, q_R0_same]
  rw [show (8 : Int32) = nI 8 from rfl, pk_mul, nI_add]
  refine p8_at y13 (by decide) ?_
  simp only [o_no, o_cut, o_ic, o_lc, o_str, o_il, o_ll, o_al, o_is, o_as, o_inc, o_iadd, o_isub, o_imul, o_iand, o_ior, o_ishl, o_ishr, o_iushr, o_idiv, o_irem, o_ladd, o_lmul, o_land, o_lor, o_lrem, o_lshl, o_lshr, o_lcmp, o_i2l, o_l2i, o_dup, o_dup2, o_ifeq, o_ifne, o_iflt, o_ifge, o_ifgt, o_ifle, o_iceq, o_icne, o_iclt, o_icge, o_icgt, o_icle, o_sw, o_iret, o_zret, o_vret, o_getf, o_putf, o_putz, o_putr, o_iald, o_zald, o_iast, o_zast, o_alen, o_aald, o_aast, o_obj_e, o_mmax_e, o_mmin_e, o_slen, o_schar, o_call_0, o_call_1, o_call_2, o_call_3, o_call_4, o_call_5, o_call_6, o_call_7, o_callV_0, o_callV_1, o_callV_2, o_callV_3, o_callV_4, o_callV_5, o_callV_6, q_cn_0, q_cn_i, q_cn_r, q_cn_a, q_cn_l, q_cat_eq, q_nl_none, q_nl_sn, q_nl_i, q_nl_r, q_nl_a, q_vp_0, q_vp_1, q_vp_2, q_vp_3, q_vp_4, q_vp_5, q_vp_6, q_vp_7, q_vp_8, List.getElem?_cons_zero, List.getElem?_cons_succ, List.getElem?_nil, List.set_cons_zero, List.set_cons_succ, List.set_nil, Option.toList_some, Option.toList_none, List.cons_append, List.nil_append, Nat.reduceAdd, Nat.reduceSub, Nat.reduceLeDiff, Nat.add_zero, Nat.zero_add, Nat.reduceLT, Nat.zero_le, true_and, and_true, Value.category, true_or, or_true, q_z10, q_z01, Int32.reduceLT, Int32.reduceLE, Int32.reduceToNatClampNeg, not_true_eq_false, not_false_eq_true, false_implies, true_implies, implies_true, BX5_mostLight_0, rmX5_mostLight, x12, q_cls_of x12, q_R0_same]
  rw [q_at_n (by omega) (by decide)]
  exact hR
theorem p5_lightBy {t q : Nat} (x12 : sh[12]? = some (.inl (5, [some (.ref 13), some (.ref 14)]))) (y13 : sh[13]? = some (.inr (.inl (0, 328)))) (y14 : sh[14]? = some (.inr (.inl (0, 41)))) (hk : r_ok k) (hn : n ≤ 40) (ht : t < n) (hq : q < r_pl k) (hl : x_lits m k s n) (hb : x_best m k s n (t + 1)) (hR : R (some (.int (nI (w_F k s n (n - t - 1) q)))) sh m) : wX5_lightBy [.ref 12, .int (nI t), .int (nI q)] sh m R := by
  have h8 : r_pl k ≤ 8 := hk.2.1
  refine eX5_lightBy ?_
  simp only [o_no, o_cut, o_ic, o_lc, o_str, o_il, o_ll, o_al, o_is, o_as, o_inc, o_iadd, o_isub, o_imul, o_iand, o_ior, o_ishl, o_ishr, o_iushr, o_idiv, o_irem, o_ladd, o_lmul, o_land, o_lor, o_lrem, o_lshl, o_lshr, o_lcmp, o_i2l, o_l2i, o_dup, o_dup2, o_ifeq, o_ifne, o_iflt, o_ifge, o_ifgt, o_ifle, o_iceq, o_icne, o_iclt, o_icge, o_icgt, o_icle, o_sw, o_iret, o_zret, o_vret, o_getf, o_putf, o_putz, o_putr, o_iald, o_zald, o_iast, o_zast, o_alen, o_aald, o_aast, o_obj_e, o_mmax_e, o_mmin_e, o_slen, o_schar, o_call_0, o_call_1, o_call_2, o_call_3, o_call_4, o_call_5, o_call_6, o_call_7, o_callV_0, o_callV_1, o_callV_2, o_callV_3, o_callV_4, o_callV_5, o_callV_6, q_cn_0, q_cn_i, q_cn_r, q_cn_a, q_cn_l, q_cat_eq, q_nl_none, q_nl_sn, q_nl_i, q_nl_r, q_nl_a, q_vp_0, q_vp_1, q_vp_2, q_vp_3, q_vp_4, q_vp_5, q_vp_6, q_vp_7, q_vp_8, List.getElem?_cons_zero, List.getElem?_cons_succ, List.getElem?_nil, List.set_cons_zero, List.set_cons_succ, List.set_nil, Option.toList_some, Option.toList_none, List.cons_append, List.nil_append, Nat.reduceAdd, Nat.reduceSub, Nat.reduceLeDiff, Nat.add_zero, Nat.zero_add, Nat.reduceLT, Nat.zero_le, true_and, and_true, Value.category, true_or, or_true, q_z10, q_z01, Int32.reduceLT, Int32.reduceLE, Int32.reduceToNatClampNeg, not_true_eq_false, not_false_eq_true, false_implies, true_implies, implies_true, BX5_lightBy_0, rmX5_lightBy, x12, q_cls_of x12, q_R0_same]
  rw [nI_1]
  refine p8_at y14 (by decide) ?_
  simp only [o_no, o_cut, o_ic, o_lc, o_str, o_il, o_ll, o_al, o_is, o_as, o_inc, o_iadd, o_isub, o_imul, o_iand, o_ior, o_ishl, o_ishr, o_iushr, o_idiv, o_irem, o_ladd, o_lmul, o_land, o_lor, o_lrem, o_lshl, o_lshr, o_lcmp, o_i2l, o_l2i, o_dup, o_dup2, o_ifeq, o_ifne, o_iflt, o_ifge, o_ifgt, o_ifle, o_iceq, o_icne, o_iclt, o_icge, o_icgt, o_icle, o_sw, o_iret, o_zret, o_vret, o_getf, o_putf, o_putz, o_putr, o_iald, o_zald, o_iast, o_zast, o_alen, o_aald, o_aast, o_obj_e, o_mmax_e, o_mmin_e, o_slen, o_schar, o_call_0, o_call_1, o_call_2, o_call_3, o_call_4, o_call_5, o_call_6, o_call_7, o_callV_0, o_callV_1, o_callV_2, o_callV_3, o_callV_4, o_callV_5, o_callV_6, q_cn_0, q_cn_i, q_cn_r, q_cn_a, q_cn_l, q_cat_eq, q_nl_none, q_nl_sn, q_nl_i, q_nl_r, q_nl_a, q_vp_0, q_vp_1, q_vp_2, q_vp_3, q_vp_4, q_vp_5, q_vp_6, q_vp_7, q_vp_8, List.getElem?_cons_zero, List.getElem?_cons_succ, List.getElem?_nil, List.set_cons_zero, List.set_cons_succ, List.set_nil, Option.toList_some, Option.toList_none, List.cons_append, List.nil_append, Nat.reduceAdd, Nat.reduceSub, Nat.reduceLeDiff, Nat.add_zero, Nat.zero_add, Nat.reduceLT, Nat.zero_le, true_and, and_true, Value.category, true_or, or_true, q_z10, q_z01, Int32.reduceLT, Int32.reduceLE, Int32.reduceToNatClampNeg, not_true_eq_false, not_false_eq_true, false_implies, true_implies, implies_true, BX5_lightBy_0, rmX5_lightBy, x12, q_cls_of x12, q_R0_same]
  rw [q_at_n (by omega) (by decide), hl _ (by omega)]
  refine p8_bit ?_
  simp only [o_no, o_cut, o_ic, o_lc, o_str, o_il, o_ll, o_al, o_is, o_as, o_inc, o_iadd, o_isub, o_imul, o_iand, o_ior, o_ishl, o_ishr, o_iushr, o_idiv, o_irem, o_ladd, o_lmul, o_land, o_lor, o_lrem, o_lshl, o_lshr, o_lcmp, o_i2l, o_l2i, o_dup, o_dup2, o_ifeq, o_ifne, o_iflt, o_ifge, o_ifgt, o_ifle, o_iceq, o_icne, o_iclt, o_icge, o_icgt, o_icle, o_sw, o_iret, o_zret, o_vret, o_getf, o_putf, o_putz, o_putr, o_iald, o_zald, o_iast, o_zast, o_alen, o_aald, o_aast, o_obj_e, o_mmax_e, o_mmin_e, o_slen, o_schar, o_call_0, o_call_1, o_call_2, o_call_3, o_call_4, o_call_5, o_call_6, o_call_7, o_callV_0, o_callV_1, o_callV_2, o_callV_3, o_callV_4, o_callV_5, o_callV_6, q_cn_0, q_cn_i, q_cn_r, q_cn_a, q_cn_l, q_cat_eq, q_nl_none, q_nl_sn, q_nl_i, q_nl_r, q_nl_a, q_vp_0, q_vp_1, q_vp_2, q_vp_3, q_vp_4, q_vp_5, q_vp_6, q_vp_7, q_vp_8, List.getElem?_cons_zero, List.getElem?_cons_succ, List.getElem?_nil, List.set_cons_zero, List.set_cons_succ, List.set_nil, Option.toList_some, Option.toList_none, List.cons_append, List.nil_append, Nat.reduceAdd, Nat.reduceSub, Nat.reduceLeDiff, Nat.add_zero, Nat.zero_add, Nat.reduceLT, Nat.zero_le, true_and, and_true, Value.category, true_or, or_true, q_z10, q_z01, Int32.reduceLT, Int32.reduceLE, Int32.reduceToNatClampNeg, not_true_eq_false, not_false_eq_true, false_implies, true_implies, implies_true, BX5_lightBy_0, rmX5_lightBy, x12, q_cls_of x12, q_R0_same]
  rw [nI_1]
  refine p5_mostLight x12 y13 (by omega) (by omega) ?_
  simp only [o_no, o_cut, o_ic, o_lc, o_str, o_il, o_ll, o_al, o_is, o_as, o_inc, o_iadd, o_isub, o_imul, o_iand, o_ior, o_ishl, o_ishr, o_iushr, o_idiv, o_irem, o_ladd, o_lmul, o_land, o_lor, o_lrem, o_lshl, o_lshr, o_lcmp, o_i2l, o_l2i, o_dup, o_dup2, o_ifeq, o_ifne, o_iflt, o_ifge, o_ifgt, o_ifle, o_iceq, o_icne, o_iclt, o_icge, o_icgt, o_icle, o_sw, o_iret, o_zret, o_vret, o_getf, o_putf, o_putz, o_putr, o_iald, o_zald, o_iast, o_zast, o_alen, o_aald, o_aast, o_obj_e, o_mmax_e, o_mmin_e, o_slen, o_schar, o_call_0, o_call_1, o_call_2, o_call_3, o_call_4, o_call_5, o_call_6, o_call_7, o_callV_0, o_callV_1, o_callV_2, o_callV_3, o_callV_4, o_callV_5, o_callV_6, q_cn_0, q_cn_i, q_cn_r, q_cn_a, q_cn_l, q_cat_eq, q_nl_none, q_nl_sn, q_nl_i, q_nl_r, q_nl_a, q_vp_0, q_vp_1, q_vp_2, q_vp_3, q_vp_4, q_vp_5, q_vp_6, q_vp_7, q_vp_8, List.getElem?_cons_zero, List.getElem?_cons_succ, List.getElem?_nil, List.set_cons_zero, List.set_cons_succ, List.set_nil, Option.toList_some, Option.toList_none, List.cons_append, List.nil_append, Nat.reduceAdd, Nat.reduceSub, Nat.reduceLeDiff, Nat.add_zero, Nat.zero_add, Nat.reduceLT, Nat.zero_le, true_and, and_true, Value.category, true_or, or_true, q_z10, q_z01, Int32.reduceLT, Int32.reduceLE, Int32.reduceToNatClampNeg, not_true_eq_false, not_false_eq_true, false_implies, true_implies, implies_true, BX5_lightBy_0, rmX5_lightBy, x12, q_cls_of x12, q_R0_same]
  rw [hb (t + 1) q (Nat.le_refl _) (by omega) hq, f_bit_n (r_ls_lt hk _) (by omega)]
  have e : f_bit (r_ls k (r_ad k s (t + 1))) q = r_lt k q (r_ad k s (t + 1)) := by
    have := r_set_bit (fun p => r_lt k p (r_ad k s (t + 1))) (r_pl k) q
    rw [f_bit, r_ls, this]
    cases r_lt k q (r_ad k s (t + 1)) <;> simp [hq]
  rw [e]
  have e2 : nI (w_F k s n (n - t - 1) q) = (if r_lt k q (r_ad k s (t + 1)) = true then 1 else 0) + nI (w_u k s n (n - (t + 1)) q) := by
    rw [w_F, w_l, show n - (n - t - 1) = t + 1 by omega, show n - t - 1 = n - (t + 1) by omega, ← nI_add]
    split <;> rfl
  rw [← e2]
  exact hR
theorem nI_reach (hk : r_ok k) (hx : x_rock m rb k) {p : Nat} (hp : p < 8) : x_road m rb (nI p) ||| 1 <<< (nI p &&& 31) = nI (r_rc k p) := by
  rw [xs_road hx.1 hp, nI_shl (by omega), nI_or]; rfl
theorem p5_bestFrom {t p : Nat} (x12 : sh[12]? = some (.inl (5, [some (.ref 13), some (.ref 14)]))) (y13 : sh[13]? = some (.inr (.inl (0, 328)))) (y14 : sh[14]? = some (.inr (.inl (0, 41)))) (hr : q_rk sh rb) (hk : r_ok k) (hx : x_rock m rb k) (hn : n ≤ 40) (ht : t < n) (hp : p < r_pl k) (hl : x_lits m k s n) (hb : x_best m k s n (t + 1)) (hR : R (some (.int (nI (w_u k s n (n - t) p)))) sh m) : wX5_bestFrom [.ref 12, .ref rb, .int (nI t), .int (nI p)] sh m R := by
  have h8 : r_pl k ≤ 8 := hk.2.1
  have hrc := r_rc_lt hk (show p < 8 by omega)
  refine eX5_bestFrom ?_
  simp only [o_no, o_cut, o_ic, o_lc, o_str, o_il, o_ll, o_al, o_is, o_as, o_inc, o_iadd, o_isub, o_imul, o_iand, o_ior, o_ishl, o_ishr, o_iushr, o_idiv, o_irem, o_ladd, o_lmul, o_land, o_lor, o_lrem, o_lshl, o_lshr, o_lcmp, o_i2l, o_l2i, o_dup, o_dup2, o_ifeq, o_ifne, o_iflt, o_ifge, o_ifgt, o_ifle, o_iceq, o_icne, o_iclt, o_icge, o_icgt, o_icle, o_sw, o_iret, o_zret, o_vret, o_getf, o_putf, o_putz, o_putr, o_iald, o_zald, o_iast, o_zast, o_alen, o_aald, o_aast, o_obj_e, o_mmax_e, o_mmin_e, o_slen, o_schar, o_call_0, o_call_1, o_call_2, o_call_3, o_call_4, o_call_5, o_call_6, o_call_7, o_callV_0, o_callV_1, o_callV_2, o_callV_3, o_callV_4, o_callV_5, o_callV_6, q_cn_0, q_cn_i, q_cn_r, q_cn_a, q_cn_l, q_cat_eq, q_nl_none, q_nl_sn, q_nl_i, q_nl_r, q_nl_a, q_vp_0, q_vp_1, q_vp_2, q_vp_3, q_vp_4, q_vp_5, q_vp_6, q_vp_7, q_vp_8, List.getElem?_cons_zero, List.getElem?_cons_succ, List.getElem?_nil, List.set_cons_zero, List.set_cons_succ, List.set_nil, Option.toList_some, Option.toList_none, List.cons_append, List.nil_append, Nat.reduceAdd, Nat.reduceSub, Nat.reduceLeDiff, Nat.add_zero, Nat.zero_add, Nat.reduceLT, Nat.zero_le, true_and, and_true, Value.category, true_or, or_true, q_z10, q_z01, Int32.reduceLT, Int32.reduceLE, Int32.reduceToNatClampNeg, not_true_eq_false, not_false_eq_true, false_implies, true_implies, implies_true, BX5_bestFrom_0, BX5_bestFrom_57, BX5_bestFrom_51, BX5_bestFrom_37, BX5_bestFrom_26, BX5_bestFrom_17, rmX5_bestFrom, x12, q_cls_of x12, q_cls_of hr.1, hr.1, q_R0_same]
  refine p4_road hr ?_
  simp only [o_no, o_cut, o_ic, o_lc, o_str, o_il, o_ll, o_al, o_is, o_as, o_inc, o_iadd, o_isub, o_imul, o_iand, o_ior, o_ishl, o_ishr, o_iushr, o_idiv, o_irem, o_ladd, o_lmul, o_land, o_lor, o_lrem, o_lshl, o_lshr, o_lcmp, o_i2l, o_l2i, o_dup, o_dup2, o_ifeq, o_ifne, o_iflt, o_ifge, o_ifgt, o_ifle, o_iceq, o_icne, o_iclt, o_icge, o_icgt, o_icle, o_sw, o_iret, o_zret, o_vret, o_getf, o_putf, o_putz, o_putr, o_iald, o_zald, o_iast, o_zast, o_alen, o_aald, o_aast, o_obj_e, o_mmax_e, o_mmin_e, o_slen, o_schar, o_call_0, o_call_1, o_call_2, o_call_3, o_call_4, o_call_5, o_call_6, o_call_7, o_callV_0, o_callV_1, o_callV_2, o_callV_3, o_callV_4, o_callV_5, o_callV_6, q_cn_0, q_cn_i, q_cn_r, q_cn_a, q_cn_l, q_cat_eq, q_nl_none, q_nl_sn, q_nl_i, q_nl_r, q_nl_a, q_vp_0, q_vp_1, q_vp_2, q_vp_3, q_vp_4, q_vp_5, q_vp_6, q_vp_7, q_vp_8, List.getElem?_cons_zero, List.getElem?_cons_succ, List.getElem?_nil, List.set_cons_zero, List.set_cons_succ, List.set_nil, Option.toList_some, Option.toList_none, List.cons_append, List.nil_append, Nat.reduceAdd, Nat.reduceSub, Nat.reduceLeDiff, Nat.add_zero, Nat.zero_add, Nat.reduceLT, Nat.zero_le, true_and, and_true, Value.category, true_or, or_true, q_z10, q_z01, Int32.reduceLT, Int32.reduceLE, Int32.reduceToNatClampNeg, not_true_eq_false, not_false_eq_true, false_implies, true_implies, implies_true, BX5_bestFrom_0, BX5_bestFrom_57, BX5_bestFrom_51, BX5_bestFrom_37, BX5_bestFrom_26, BX5_bestFrom_17, rmX5_bestFrom, x12, q_cls_of x12, q_cls_of hr.1, hr.1, q_R0_same]
  rw [nI_reach hk hx (by omega)]
  have hu : ∀ j, w_mx (fun q => f_bit (r_rc k p) q) (fun q => w_l k s (n - (n - t - 1)) q + w_u k s n (n - t - 1) q) j ≤ 40 := fun j => w_mx_le _ (fun q _ => by have := w_F_le k s n (n - t - 1) q; unfold w_F at this; omega)
  have loop : ∀ d j, j + d = r_pl k → q_WP TX5_bestFrom 17 [some (.ref 12), some (.ref rb), some (.int (nI t)), some (.int (nI p)), some (.int (nI (w_mx (fun q => f_bit (r_rc k p) q) (fun q => w_l k s (n - (n - t - 1)) q + w_u k s n (n - t - 1) q) j))), some (.int (nI (r_rc k p))), some (.int (nI j))] [] sh m (q_R0 sh rmX5_bestFrom R) := by
    intro d
    induction d with
    | zero =>
      intro j hj
      obtain rfl : j = r_pl k := by omega
      refine uX5_bestFrom_17 ?_
      simp only [o_no, o_cut, o_ic, o_lc, o_str, o_il, o_ll, o_al, o_is, o_as, o_inc, o_iadd, o_isub, o_imul, o_iand, o_ior, o_ishl, o_ishr, o_iushr, o_idiv, o_irem, o_ladd, o_lmul, o_land, o_lor, o_lrem, o_lshl, o_lshr, o_lcmp, o_i2l, o_l2i, o_dup, o_dup2, o_ifeq, o_ifne, o_iflt, o_ifge, o_ifgt, o_ifle, o_iceq, o_icne, o_iclt, o_icge, o_icgt, o_icle, o_sw, o_iret, o_zret, o_vret, o_getf, o_putf, o_putz, o_putr, o_iald, o_zald, o_iast, o_zast, o_alen, o_aald, o_aast, o_obj_e, o_mmax_e, o_mmin_e, o_slen, o_schar, o_call_0, o_call_1, o_call_2, o_call_3, o_call_4, o_call_5, o_call_6, o_call_7, o_callV_0, o_callV_1, o_callV_2, o_callV_3, o_callV_4, o_callV_5, o_callV_6, q_cn_0, q_cn_i, q_cn_r, q_cn_a, q_cn_l, q_cat_eq, q_nl_none, q_nl_sn, q_nl_i, q_nl_r, q_nl_a, q_vp_0, q_vp_1, q_vp_2, q_vp_3, q_vp_4, q_vp_5, q_vp_6, q_vp_7, q_vp_8, List.getElem?_cons_zero, List.getElem?_cons_succ, List.getElem?_nil, List.set_cons_zero, List.set_cons_succ, List.set_nil, Option.toList_some, Option.toList_none, List.cons_append, List.nil_append, Nat.reduceAdd, Nat.reduceSub, Nat.reduceLeDiff, Nat.add_zero, Nat.zero_add, Nat.reduceLT, Nat.zero_le, true_and, and_true, Value.category, true_or, or_true, q_z10, q_z01, Int32.reduceLT, Int32.reduceLE, Int32.reduceToNatClampNeg, not_true_eq_false, not_false_eq_true, false_implies, true_implies, implies_true, BX5_bestFrom_0, BX5_bestFrom_57, BX5_bestFrom_51, BX5_bestFrom_37, BX5_bestFrom_26, BX5_bestFrom_17, rmX5_bestFrom, x12, q_cls_of x12, q_cls_of hr.1, hr.1, q_R0_same]
      rw [hx.1.2.1]
      refine ⟨fun _ => ?_, fun q => absurd (nI_le (by omega) (by omega)) q⟩
      rw [show n - t = (n - t - 1) + 1 by omega, w_u] at hR
      exact hR
    | succ d ih =>
      intro j hj
      have nx := ih (j + 1) (by omega)
      rw [w_mx] at nx
      have huj := hu j
      have hFj := w_F_le k s n (n - t - 1) j
      refine uX5_bestFrom_17 ?_
      simp only [o_no, o_cut, o_ic, o_lc, o_str, o_il, o_ll, o_al, o_is, o_as, o_inc, o_iadd, o_isub, o_imul, o_iand, o_ior, o_ishl, o_ishr, o_iushr, o_idiv, o_irem, o_ladd, o_lmul, o_land, o_lor, o_lrem, o_lshl, o_lshr, o_lcmp, o_i2l, o_l2i, o_dup, o_dup2, o_ifeq, o_ifne, o_iflt, o_ifge, o_ifgt, o_ifle, o_iceq, o_icne, o_iclt, o_icge, o_icgt, o_icle, o_sw, o_iret, o_zret, o_vret, o_getf, o_putf, o_putz, o_putr, o_iald, o_zald, o_iast, o_zast, o_alen, o_aald, o_aast, o_obj_e, o_mmax_e, o_mmin_e, o_slen, o_schar, o_call_0, o_call_1, o_call_2, o_call_3, o_call_4, o_call_5, o_call_6, o_call_7, o_callV_0, o_callV_1, o_callV_2, o_callV_3, o_callV_4, o_callV_5, o_callV_6, q_cn_0, q_cn_i, q_cn_r, q_cn_a, q_cn_l, q_cat_eq, q_nl_none, q_nl_sn, q_nl_i, q_nl_r, q_nl_a, q_vp_0, q_vp_1, q_vp_2, q_vp_3, q_vp_4, q_vp_5, q_vp_6, q_vp_7, q_vp_8, List.getElem?_cons_zero, List.getElem?_cons_succ, List.getElem?_nil, List.set_cons_zero, List.set_cons_succ, List.set_nil, Option.toList_some, Option.toList_none, List.cons_append, List.nil_append, Nat.reduceAdd, Nat.reduceSub, Nat.reduceLeDiff, Nat.add_zero, Nat.zero_add, Nat.reduceLT, Nat.zero_le, true_and, and_true, Value.category, true_or, or_true, q_z10, q_z01, Int32.reduceLT, Int32.reduceLE, Int32.reduceToNatClampNeg, not_true_eq_false, not_false_eq_true, false_implies, true_implies, implies_true, BX5_bestFrom_0, BX5_bestFrom_57, BX5_bestFrom_51, BX5_bestFrom_37, BX5_bestFrom_26, BX5_bestFrom_17, rmX5_bestFrom, x12, q_cls_of x12, q_cls_of hr.1, hr.1, q_R0_same]
      rw [hx.1.2.1]
      refine ⟨fun q => absurd q (nI_ge (by omega) (by omega)), fun _ => ?_⟩
      refine p8_bit ?_
      simp only [o_no, o_cut, o_ic, o_lc, o_str, o_il, o_ll, o_al, o_is, o_as, o_inc, o_iadd, o_isub, o_imul, o_iand, o_ior, o_ishl, o_ishr, o_iushr, o_idiv, o_irem, o_ladd, o_lmul, o_land, o_lor, o_lrem, o_lshl, o_lshr, o_lcmp, o_i2l, o_l2i, o_dup, o_dup2, o_ifeq, o_ifne, o_iflt, o_ifge, o_ifgt, o_ifle, o_iceq, o_icne, o_iclt, o_icge, o_icgt, o_icle, o_sw, o_iret, o_zret, o_vret, o_getf, o_putf, o_putz, o_putr, o_iald, o_zald, o_iast, o_zast, o_alen, o_aald, o_aast, o_obj_e, o_mmax_e, o_mmin_e, o_slen, o_schar, o_call_0, o_call_1, o_call_2, o_call_3, o_call_4, o_call_5, o_call_6, o_call_7, o_callV_0, o_callV_1, o_callV_2, o_callV_3, o_callV_4, o_callV_5, o_callV_6, q_cn_0, q_cn_i, q_cn_r, q_cn_a, q_cn_l, q_cat_eq, q_nl_none, q_nl_sn, q_nl_i, q_nl_r, q_nl_a, q_vp_0, q_vp_1, q_vp_2, q_vp_3, q_vp_4, q_vp_5, q_vp_6, q_vp_7, q_vp_8, List.getElem?_cons_zero, List.getElem?_cons_succ, List.getElem?_nil, List.set_cons_zero, List.set_cons_succ, List.set_nil, Option.toList_some, Option.toList_none, List.cons_append, List.nil_append, Nat.reduceAdd, Nat.reduceSub, Nat.reduceLeDiff, Nat.add_zero, Nat.zero_add, Nat.reduceLT, Nat.zero_le, true_and, and_true, Value.category, true_or, or_true, q_z10, q_z01, Int32.reduceLT, Int32.reduceLE, Int32.reduceToNatClampNeg, not_true_eq_false, not_false_eq_true, false_implies, true_implies, implies_true, BX5_bestFrom_0, BX5_bestFrom_57, BX5_bestFrom_51, BX5_bestFrom_37, BX5_bestFrom_26, BX5_bestFrom_17, rmX5_bestFrom, x12, q_cls_of x12, q_cls_of hr.1, hr.1, q_R0_same]
      rw [f_bit_n hrc (by omega), nI_1]
      refine ⟨fun y => ?_, fun y => ?_⟩
      · rw [if_neg (fun q => y (one_if.mpr q))] at nx
        exact nx
      · rw [if_pos (one_if.mp y)] at nx
        refine p5_lightBy x12 y13 y14 hk hn ht (by omega) hl hb ?_
        simp only [o_no, o_cut, o_ic, o_lc, o_str, o_il, o_ll, o_al, o_is, o_as, o_inc, o_iadd, o_isub, o_imul, o_iand, o_ior, o_ishl, o_ishr, o_iushr, o_idiv, o_irem, o_ladd, o_lmul, o_land, o_lor, o_lrem, o_lshl, o_lshr, o_lcmp, o_i2l, o_l2i, o_dup, o_dup2, o_ifeq, o_ifne, o_iflt, o_ifge, o_ifgt, o_ifle, o_iceq, o_icne, o_iclt, o_icge, o_icgt, o_icle, o_sw, o_iret, o_zret, o_vret, o_getf, o_putf, o_putz, o_putr, o_iald, o_zald, o_iast, o_zast, o_alen, o_aald, o_aast, o_obj_e, o_mmax_e, o_mmin_e, o_slen, o_schar, o_call_0, o_call_1, o_call_2, o_call_3, o_call_4, o_call_5, o_call_6, o_call_7, o_callV_0, o_callV_1, o_callV_2, o_callV_3, o_callV_4, o_callV_5, o_callV_6, q_cn_0, q_cn_i, q_cn_r, q_cn_a, q_cn_l, q_cat_eq, q_nl_none, q_nl_sn, q_nl_i, q_nl_r, q_nl_a, q_vp_0, q_vp_1, q_vp_2, q_vp_3, q_vp_4, q_vp_5, q_vp_6, q_vp_7, q_vp_8, List.getElem?_cons_zero, List.getElem?_cons_succ, List.getElem?_nil, List.set_cons_zero, List.set_cons_succ, List.set_nil, Option.toList_some, Option.toList_none, List.cons_append, List.nil_append, Nat.reduceAdd, Nat.reduceSub, Nat.reduceLeDiff, Nat.add_zero, Nat.zero_add, Nat.reduceLT, Nat.zero_le, true_and, and_true, Value.category, true_or, or_true, q_z10, q_z01, Int32.reduceLT, Int32.reduceLE, Int32.reduceToNatClampNeg, not_true_eq_false, not_false_eq_true, false_implies, true_implies, implies_true, BX5_bestFrom_0, BX5_bestFrom_57, BX5_bestFrom_51, BX5_bestFrom_37, BX5_bestFrom_26, BX5_bestFrom_17, rmX5_bestFrom, x12, q_cls_of x12, q_cls_of hr.1, hr.1, q_R0_same]
        rw [nI_1, nI_max (by omega) (by omega)]
        exact nx
  exact loop (r_pl k) 0 (by omega)
end WY
