/-! What the constructors make. -/
theorem q_vv_mono {n n' : Nat} (h : n ≤ n') {v : Value} (hv : q_vv n v = true) : q_vv n' v = true := by
  cases v <;> first | rfl | (simp only [q_vv, decide_eq_true_eq] at hv ⊢; exact Nat.lt_of_lt_of_le hv h)
theorem q_vo_mono {n n' : Nat} (h : n ≤ n') {v : Option Value} (hv : q_vo n v = true) : q_vo n' v = true := by
  cases v with
  | none => rfl
  | some v => exact q_vv_mono h hv
theorem q_vsc_mono {n n' : Nat} (h : n ≤ n') {c : q_SC} (hc : q_vsc n c = true) : q_vsc n' c = true := by
  match c, hc with
  | .inl (ci, fs), hc => exact List.all_eq_true.mpr (fun x hx => q_vo_mono h (List.all_eq_true.mp hc x hx))
  | .inr (.inl _), _ => rfl
  | .inr (.inr l), hc =>
    refine List.all_eq_true.mpr (fun x hx => ?_)
    have := List.all_eq_true.mp hc x hx
    cases x with
    | none => rfl
    | some y => simp only [q_vn, decide_eq_true_eq] at this ⊢; omega
theorem n_get {P l : q_Sh} {c : q_SC} : (P ++ c :: l)[P.length]? = some c := by simp
theorem n_set {P l : q_Sh} {c c' : q_SC} : (P ++ c :: l).set P.length c' = P ++ c' :: l := by simp
theorem n_app {P l : q_Sh} {c d : q_SC} : (P ++ c :: l) ++ [d] = P ++ c :: (l ++ [d]) := by simp
theorem n_len {P l : q_Sh} {c : q_SC} : (P ++ c :: l).length = P.length + 1 + l.length := by simp; omega
/-- an object with what hangs on it, behind P -/
def n_ok (P : q_Sh) (ci : Nat) (fs : List (Option Value)) (l : q_Sh) (s : Nat) : Prop := q_vsh (P ++ .inl (ci, fs) :: l) = true ∧ q_sl (P ++ .inl (ci, fs) :: l) = s
theorem n_ok_set {P l : q_Sh} {ci j a s : Nat} {fs : List (Option Value)} {v0 : Value} (h : n_ok P ci fs l s) (hj : fs[j]? = some (some v0)) (ha : a < P.length + 1 + l.length) : n_ok P ci (fs.set j (some (.ref a))) l s := by
  refine ⟨?_, ?_⟩
  · have h1 := h.1
    unfold q_vsh at h1 ⊢
    rw [n_len] at h1 ⊢
    rw [List.all_append, List.all_cons, Bool.and_eq_true, Bool.and_eq_true] at h1 ⊢
    refine ⟨h1.1, ?_, h1.2.2⟩
    refine List.all_eq_true.mpr (fun x hx => ?_)
    rcases List.mem_or_eq_of_mem_set hx with q | q
    · exact List.all_eq_true.mp h1.2.1 x q
    · subst q
      simp only [q_vo, q_vv, decide_eq_true_eq]
      exact ha
  · rw [← h.2, ← n_set (P := P) (l := l) (c := .inl (ci, fs))]
    exact q_sl_set n_get (by show (fs.set j _).length = fs.length; rw [List.length_set])
theorem n_ok_app {P l : q_Sh} {ci s kd n : Nat} {fs : List (Option Value)} (h : n_ok P ci fs l s) : n_ok P ci fs (l ++ [.inr (.inl (kd, n))]) (s + n) := by
  refine ⟨?_, ?_⟩
  · have h1 := h.1
    unfold q_vsh at h1 ⊢
    rw [← n_app, List.length_append, List.all_append, Bool.and_eq_true]
    exact ⟨List.all_eq_true.mpr (fun x hx => q_vsc_mono (Nat.le_add_right _ _) (List.all_eq_true.mp h1 x hx)), rfl⟩
  · rw [← n_app, q_sl_app, h.2]; rfl
section NI
variable {m : q_Mm} {sh : q_Sh} {K : q_KN} {R : q_KR} {t : q_TT} {P l : q_Sh} {ci j s : Nat} {fs : List (Option Value)}
theorem n_arr {kd n : Nat} {nn : Int32} {cap : Nat × Nat} {v0 : Value} (h : n_ok P ci fs l s) (hj : fs[j]? = some (some v0)) (hn : nn = nI n) (c1 : P.length + 1 + l.length + 1 ≤ cap.1) (c2 : s + n ≤ cap.2) (ht : n_ok P ci (fs.set j (some (.ref (P.length + 1 + l.length)))) (l ++ [.inr (.inl (kd, n))]) (s + n) → t [some (.ref P.length)] [] (P ++ .inl (ci, fs.set j (some (.ref (P.length + 1 + l.length)))) :: (l ++ [.inr (.inl (kd, n))])) (q_zr m (P.length + 1 + l.length)) K R) : o_al 0 (o_ic nn (o_newa kd n cap (o_putr ci j t))) [some (.ref P.length)] [] (P ++ .inl (ci, fs) :: l) m K R := by
  have h1 := n_ok_app (kd := kd) (n := n) h
  have h2 := n_ok_set (a := P.length + 1 + l.length) h1 hj (by rw [List.length_append]; show _ < P.length + 1 + (l.length + 1); omega)
  simp only [o_al, o_ic, o_newa, o_putr, List.getElem?_cons_zero, n_len, n_app, n_get, hj, n_set]
  refine ⟨hn, ⟨h.1, ?_, ?_⟩, c1, by rw [h.2]; exact c2, trivial, ht h2⟩
  · simp only [List.all_cons, List.all_nil, q_vv, n_len, Bool.and_true, decide_eq_true_eq]; exact Nat.lt_of_lt_of_le (Nat.lt_succ_self P.length) (Nat.le_add_right _ _)
  · simp only [List.all_cons, List.all_nil, q_vo, q_vv, n_len, Bool.and_true, decide_eq_true_eq]; exact Nat.lt_of_lt_of_le (Nat.lt_succ_self P.length) (Nat.le_add_right _ _)
theorem n_int {v : Int32} (hj : fs[j]? = some none) (ht : t [some (.ref P.length)] [] (P ++ .inl (ci, fs) :: l) (q_up m P.length j v) K R) : o_al 0 (o_ic v (o_putf ci j t)) [some (.ref P.length)] [] (P ++ .inl (ci, fs) :: l) m K R := by
  simp only [o_al, o_ic, o_putf, List.getElem?_cons_zero, n_get]
  exact ⟨trivial, hj, ht⟩
theorem n_start (ht : t [some (.ref P.length)] [] sh m K R) : o_al 0 (o_obj t) [some (.ref P.length)] [] sh m K R := by
  simp only [o_al, o_obj, List.getElem?_cons_zero]
  exact ⟨by decide, ht⟩
theorem n_end {rm : Room} {L : q_Lo} (h : n_ok P ci fs l s) (hl : P.length + 1 + l.length = sh.length + rm.cells) (hs : s = q_sl sh + rm.slots) (hR : R none (P ++ .inl (ci, fs) :: l) m) : o_vret L [] (P ++ .inl (ci, fs) :: l) m K (q_R0 sh rm R) :=
  ⟨by rw [n_len]; exact hl, by rw [h.2]; exact hs, hR⟩
end NI
section NC
variable {m : q_Mm} {R : q_KR} {P : q_Sh} {s : Nat}
theorem n_ok0 {ci : Nat} {fs : List (Option Value)} (hv : q_vsh P = true) (hf : fs.all (q_vo P.length) = true) : n_ok P ci fs [] (q_sl (P ++ [.inl (ci, fs)])) := by
  refine ⟨?_, rfl⟩
  unfold q_vsh at hv ⊢
  rw [List.length_append, List.all_append, Bool.and_eq_true]
  refine ⟨List.all_eq_true.mpr (fun x hx => q_vsc_mono (Nat.le_add_right _ _) (List.all_eq_true.mp hv x hx)), ?_⟩
  simp only [List.all_cons, List.all_nil, Bool.and_true]
  exact List.all_eq_true.mpr (fun x hx => q_vo_mono (Nat.le_add_right _ _) (List.all_eq_true.mp hf x hx))
def n_L4 (b : Nat) : q_Sh := [.inl (4, [none, none, none, none, none, none, some (.ref (b + 1)), some (.ref (b + 2)), some (.ref (b + 3)), some (.ref (b + 4)), some (.ref (b + 5)), some (.ref (b + 6)), some (.ref (b + 7)), some (.ref (b + 8))]), .inr (.inl (0, 3)), .inr (.inl (0, 3)), .inr (.inl (0, 36)), .inr (.inl (0, 24)), .inr (.inl (0, 8)), .inr (.inl (0, 12)), .inr (.inl (0, 1728)), .inr (.inl (0, 1728))]
theorem n_at (P l : q_Sh) (i : Nat) : (P ++ l)[P.length + i]? = l[i]? := by
  rw [List.getElem?_append_right (Nat.le_add_right _ _), Nat.add_sub_cancel_left]
theorem n_rk : q_rk (P ++ n_L4 P.length) P.length :=
  ⟨by have := n_at P (n_L4 P.length) 0; exact this, n_at P _ 1, n_at P _ 2, n_at P _ 3, n_at P _ 4, n_at P _ 5, n_at P _ 6, n_at P _ 7, n_at P _ 8⟩
theorem p4_init (hv : q_vsh P = true) (hR : ∀ m', x_rock m' P.length k_0 → (∀ a, a < P.length → m' a = m a) → q_vsh (P ++ n_L4 P.length) = true → R none (P ++ n_L4 P.length) m') : wX4_init [.ref P.length] (P ++ [.inl (4, [none, none, none, none, none, none, some .null, some .null, some .null, some .null, some .null, some .null, some .null, some .null])]) m R := by
  refine eX4_init ?_
  unfold BX4_init_0
  have hl : (P ++ [(.inl (4, [none, none, none, none, none, none, some .null, some .null, some .null, some .null, some .null, some .null, some .null, some .null]) : q_SC)]).length = P.length + 1 := by simp
  refine n_start (P := P) ?_
  have h0 := n_ok0 (P := P) (ci := 4) (fs := [none, none, none, none, none, none, some .null, some .null, some .null, some .null, some .null, some .null, some .null, some .null]) hv rfl
  generalize hs0 : q_sl (P ++ [(.inl (4, [none, none, none, none, none, none, some .null, some .null, some .null, some .null, some .null, some .null, some .null, some .null]) : q_SC)]) = s0 at h0
  have c1 : ∀ i : Nat, i ≤ 8 → P.length + 1 + i ≤ (P.length + 1 + rmX4_init.cells) := fun i hi => by show _ ≤ P.length + 1 + 8; omega
  have c2 : ∀ i : Nat, i ≤ 3542 → s0 + i ≤ s0 + rmX4_init.slots := fun i hi => by show _ ≤ s0 + 3542; omega
  rw [hl]
  refine n_arr (n := 3) h0 rfl rfl (c1 1 (by decide)) (c2 3 (by decide)) (fun h1 => ?_)
  refine n_arr (n := 3) h1 rfl rfl (c1 2 (by decide)) (c2 6 (by decide)) (fun h2 => ?_)
  refine n_arr (n := 36) h2 rfl rfl (c1 3 (by decide)) (c2 42 (by decide)) (fun h3 => ?_)
  refine n_arr (n := 24) h3 rfl rfl (c1 4 (by decide)) (c2 66 (by decide)) (fun h4 => ?_)
  refine n_arr (n := 8) h4 rfl rfl (c1 5 (by decide)) (c2 74 (by decide)) (fun h5 => ?_)
  refine n_arr (n := 12) h5 rfl rfl (c1 6 (by decide)) (c2 86 (by decide)) (fun h6 => ?_)
  refine n_arr (n := 1728) h6 rfl rfl (c1 7 (by decide)) (c2 1814 (by decide)) (fun h7 => ?_)
  refine n_arr (n := 1728) h7 rfl rfl (c1 8 (by decide)) (c2 3542 (by decide)) (fun h8 => ?_)
  have hrk := n_rk (P := P)
  have hm : ∀ a, a < P.length → q_zr (q_zr (q_zr (q_zr (q_zr (q_zr (q_zr (q_zr m (P.length + 1)) (P.length + 1 + 1)) (P.length + 1 + 2)) (P.length + 1 + 3)) (P.length + 1 + 4)) (P.length + 1 + 5)) (P.length + 1 + 6)) (P.length + 1 + 7) a = m a := fun a ha => by
    unfold q_zr
    rw [if_neg (by omega), if_neg (by omega), if_neg (by omega), if_neg (by omega), if_neg (by omega), if_neg (by omega), if_neg (by omega), if_neg (by omega)]
  show o_al 0 (o_callV 4 0 wX4_clear (o_al 0 (o_callV 4 0 wX4_settle o_vret))) [some (.ref P.length)] [] (P ++ n_L4 P.length) (q_zr (q_zr (q_zr (q_zr (q_zr (q_zr (q_zr (q_zr m (P.length + 1)) (P.length + 1 + 1)) (P.length + 1 + 2)) (P.length + 1 + 3)) (P.length + 1 + 4)) (P.length + 1 + 5)) (P.length + 1 + 6)) (P.length + 1 + 7)) _ _
  generalize q_zr (q_zr (q_zr (q_zr (q_zr (q_zr (q_zr (q_zr m (P.length + 1)) (P.length + 1 + 1)) (P.length + 1 + 2)) (P.length + 1 + 3)) (P.length + 1 + 4)) (P.length + 1 + 5)) (P.length + 1 + 6)) (P.length + 1 + 7) = m0 at hm
  simp only [o_no, o_cut, o_ic, o_lc, o_str, o_il, o_ll, o_al, o_is, o_as, o_inc, o_iadd, o_isub, o_imul, o_iand, o_ior, o_ishl, o_ishr, o_iushr, o_idiv, o_irem, o_ladd, o_lmul, o_land, o_lor, o_lrem, o_lshl, o_lshr, o_lcmp, o_i2l, o_l2i, o_dup, o_dup2, o_ifeq, o_ifne, o_iflt, o_ifge, o_ifgt, o_ifle, o_iceq, o_icne, o_iclt, o_icge, o_icgt, o_icle, o_sw, o_iret, o_zret, o_vret, o_getf, o_putf, o_putz, o_putr, o_iald, o_zald, o_iast, o_zast, o_alen, o_aald, o_aast, o_obj_e, o_mmax_e, o_mmin_e, o_gsc, o_gsf, o_sval, o_scod, o_salen, o_sbald, o_i2c, o_pop, o_nret, o_call_0, o_call_1, o_call_2, o_call_3, o_call_4, o_call_5, o_call_6, o_call_7, o_callV_0, o_callV_1, o_callV_2, o_callV_3, o_callV_4, o_callV_5, o_callV_6, o_callT_0, o_callT_1, q_cn_0, q_cn_i, q_cn_r, q_cn_a, q_cn_l, q_cat_eq, q_nl_none, q_nl_sn, q_nl_i, q_nl_r, q_nl_a, q_vp_0, q_vp_1, q_vp_2, q_vp_3, q_vp_4, q_vp_5, q_vp_6, q_vp_7, q_vp_8, List.getElem?_cons_zero, List.getElem?_cons_succ, List.getElem?_nil, List.set_cons_zero, List.set_cons_succ, List.set_nil, Option.toList_some, Option.toList_none, List.cons_append, List.nil_append, Nat.reduceAdd, Nat.reduceSub, Nat.reduceLeDiff, Nat.add_zero, Nat.zero_add, Nat.reduceLT, Nat.zero_le, true_and, and_true, Value.category, true_or, or_true, q_z10, q_z01, Int32.reduceLT, Int32.reduceLE, Int32.reduceToNatClampNeg, not_true_eq_false, not_false_eq_true, false_implies, true_implies, implies_true, q_cls_of hrk.1]
  refine p4_clear hrk (fun m1 c0 c1 c2 c3 c4 c5 c6 c7 => ?_)
  have ht1 : x_told m1 P.length k_0 := ⟨c0, c1, c2, c3, fun i hi => c4 i hi, fun i j hi => absurd hi (Nat.not_lt_zero _), fun p i hp => absurd hp (Nat.not_lt_zero _), fun p hp => c5 p hp, fun q i hq => absurd hq (Nat.not_lt_zero _)⟩
  simp only [o_no, o_cut, o_ic, o_lc, o_str, o_il, o_ll, o_al, o_is, o_as, o_inc, o_iadd, o_isub, o_imul, o_iand, o_ior, o_ishl, o_ishr, o_iushr, o_idiv, o_irem, o_ladd, o_lmul, o_land, o_lor, o_lrem, o_lshl, o_lshr, o_lcmp, o_i2l, o_l2i, o_dup, o_dup2, o_ifeq, o_ifne, o_iflt, o_ifge, o_ifgt, o_ifle, o_iceq, o_icne, o_iclt, o_icge, o_icgt, o_icle, o_sw, o_iret, o_zret, o_vret, o_getf, o_putf, o_putz, o_putr, o_iald, o_zald, o_iast, o_zast, o_alen, o_aald, o_aast, o_obj_e, o_mmax_e, o_mmin_e, o_gsc, o_gsf, o_sval, o_scod, o_salen, o_sbald, o_i2c, o_pop, o_nret, o_call_0, o_call_1, o_call_2, o_call_3, o_call_4, o_call_5, o_call_6, o_call_7, o_callV_0, o_callV_1, o_callV_2, o_callV_3, o_callV_4, o_callV_5, o_callV_6, o_callT_0, o_callT_1, q_cn_0, q_cn_i, q_cn_r, q_cn_a, q_cn_l, q_cat_eq, q_nl_none, q_nl_sn, q_nl_i, q_nl_r, q_nl_a, q_vp_0, q_vp_1, q_vp_2, q_vp_3, q_vp_4, q_vp_5, q_vp_6, q_vp_7, q_vp_8, List.getElem?_cons_zero, List.getElem?_cons_succ, List.getElem?_nil, List.set_cons_zero, List.set_cons_succ, List.set_nil, Option.toList_some, Option.toList_none, List.cons_append, List.nil_append, Nat.reduceAdd, Nat.reduceSub, Nat.reduceLeDiff, Nat.add_zero, Nat.zero_add, Nat.reduceLT, Nat.zero_le, true_and, and_true, Value.category, true_or, or_true, q_z10, q_z01, Int32.reduceLT, Int32.reduceLE, Int32.reduceToNatClampNeg, not_true_eq_false, not_false_eq_true, false_implies, true_implies, implies_true, q_cls_of hrk.1]
  refine p4_settle k_0_ok.1 hrk ht1 (fun m2 hx2 o2 => ?_)
  have fin : R none (P ++ n_L4 P.length) m2 := hR m2 hx2 (fun a ha => by rw [o2 a (by omega) (by omega) (by omega) (by omega), c6 a (by omega) (by omega) (by omega)]; exact hm a ha) h8.1
  exact ⟨by rw [hl, List.length_append]; rfl, by rw [hs0]; exact h8.2, fin⟩
end NC
