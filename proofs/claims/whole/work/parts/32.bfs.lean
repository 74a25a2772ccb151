/-! Mend: the class. -/
def q_uf (u : Nat → Nat) (Q s : Nat) : Nat → Nat := fun i => if i = Q then s else u i
theorem q_inj {u : Nat → Nat} {Q S : Nat} (h1 : ∀ i, i < Q → u i < S) (h2 : ∀ i j, i < j → j < Q → u i ≠ u j) : Q ≤ S := by
  rcases Nat.lt_or_ge S Q with q | q
  · obtain ⟨i, j, hij, hj, hf⟩ := q_php S u (fun i hi => h1 i (by omega))
    exact absurd hf (h2 i j hij (by omega))
  · exact q
/-- the queue, its first kk worked off -/
def b_inv (k : RK) (w : Nat) (u : Nat → Nat) (Q kk : Nat) : Prop :=
  (∀ i, i < Q → u i < r_S k) ∧ (∀ i j, i < j → j < Q → u i ≠ u j) ∧ (∀ i, i < Q → d_fin k w (u i)) ∧ (∀ i j, i ≤ j → j < Q → d_D k w (u i) ≤ d_D k w (u j)) ∧ (∀ i j, i < kk → j < r_pu k → ∃ i', i' < Q ∧ u i' = r_U k (u i) j) ∧ (∃ i, i < Q ∧ u i = w) ∧ (∀ i, i < Q → kk < Q → d_D k w (u i) ≤ d_D k w (u kk) + 1) ∧ kk ≤ Q
def x_far (m : q_Mm) (k : RK) (w : Nat) (u : Nat → Nat) (Q : Nat) : Prop := m 15 2 = nI Q ∧ (∀ i, i < Q → m 17 i = nI (u i)) ∧ (∀ i, i < Q → m 16 (u i) = nI (d_D k w (u i))) ∧ ∀ s, s < r_S k → (∀ i, i < Q → u i ≠ s) → m 16 s = -1
/-- all but three rows stay -/
def q_bt3 (a0 a1 a2 : Nat) (m m' : q_Mm) : Prop := ∀ a, a ≠ a0 → a ≠ a1 → a ≠ a2 → m' a = m a
theorem q_bt3.rf {a0 a1 a2 : Nat} {m : q_Mm} : q_bt3 a0 a1 a2 m m := fun _ _ _ _ => rfl
theorem q_bt3.tr {a0 a1 a2 : Nat} {m m' m'' : q_Mm} (h : q_bt3 a0 a1 a2 m m') (h' : q_bt3 a0 a1 a2 m' m'') : q_bt3 a0 a1 a2 m m'' := fun a h1 h2 h3 => (h' a h1 h2 h3).trans (h a h1 h2 h3)
section BF
variable {k : RK} {w : Nat}
theorem b_seen (hk : r_ok k) {u : Nat → Nat} {Q kk : Nat} (hi : b_inv k w u Q kk) {M : Nat} (hM : ∀ i, i < Q → d_D k w (u i) < M → i < kk) : ∀ n x, n ≤ M → x < r_S k → d_fin k w x → d_D k w x = n → ∃ i, i < Q ∧ u i = x := by
  obtain ⟨i1, i2, i3, i4, i5, i6, i7, i8⟩ := hi
  intro n
  induction n with
  | zero =>
    intro x hn hx hf hD
    have := d_D_fin hf
    rw [hD] at this
    rw [d_0 this]; exact i6
  | succ n ih =>
    intro x hn hx hf hD
    have hd := d_D_fin hf
    rw [hD] at hd
    obtain ⟨j, hj, h2⟩ := d_down hd
    obtain ⟨i, hi, he⟩ := ih (r_P k x j) (by omega) (r_Plt hk _ _) ⟨n, h2.1⟩ (d_D_is h2)
    have hik := hM i hi (by rw [he, d_D_is h2]; omega)
    obtain ⟨i', hi', he'⟩ := i5 i j hik hj
    rw [he, r_UP hk hx] at he'
    exact ⟨i', hi', he'⟩
theorem b_new (hk : r_ok k) {u : Nat → Nat} {Q kk j : Nat} (hi : b_inv k w u Q kk) (hkk : kk < Q) (hj : j < r_pu k) (hn : ∀ i, i < Q → u i ≠ r_U k (u kk) j) : d_D k w (r_U k (u kk) j) = d_D k w (u kk) + 1 ∧ Q < r_S k ∧ b_inv k w (q_uf u Q (r_U k (u kk) j)) (Q + 1) kk := by
  obtain ⟨i1, i2, i3, i4, i5, i6, i7, i8⟩ := id hi
  have hP := r_PU hk (i1 kk hkk) j
  have hfk := i3 kk hkk
  rw [← hP] at hfk
  obtain ⟨hf, hle⟩ := d_step hj hfk
  rw [hP] at hle
  have hD : d_D k w (r_U k (u kk) j) = d_D k w (u kk) + 1 := by
    rcases Nat.lt_or_ge (d_D k w (u kk)) (d_D k w (r_U k (u kk) j)) with q | q
    · omega
    · obtain ⟨i, hi2, he⟩ := b_seen hk hi (M := d_D k w (u kk)) (fun i hi2 hlt => by
        rcases Nat.lt_or_ge i kk with z | z
        · exact z
        · have := i4 kk i z hi2; omega) _ _ q (r_Ult hk _ _) hf rfl
      exact absurd he (hn i hi2)
  have en : q_uf u Q (r_U k (u kk) j) Q = r_U k (u kk) j := if_pos rfl
  have eo : ∀ i, i ≠ Q → q_uf u Q (r_U k (u kk) j) i = u i := fun i hi => if_neg hi
  have j1 : ∀ i, i < Q + 1 → q_uf u Q (r_U k (u kk) j) i < r_S k := fun i hi2 => by
    by_cases c : i = Q
    · rw [c, en]; exact r_Ult hk _ _
    · rw [eo i c]; exact i1 i (by omega)
  have j2 : ∀ a b, a < b → b < Q + 1 → q_uf u Q (r_U k (u kk) j) a ≠ q_uf u Q (r_U k (u kk) j) b := fun a b hab hb => by
    rw [eo a (by omega)]
    by_cases c : b = Q
    · rw [c, en]; exact hn a (by omega)
    · rw [eo b c]; exact i2 a b hab (by omega)
  refine ⟨hD, q_inj j1 j2, j1, j2, fun i hi2 => ?_, fun a b hab hb => ?_, fun a b ha hb => ?_, ?_, fun i hi2 _ => ?_, by omega⟩
  · by_cases c : i = Q
    · rw [c, en]; exact hf
    · rw [eo i c]; exact i3 i (by omega)
  · by_cases c : b = Q
    · rw [c, en, hD]
      by_cases c2 : a = Q
      · rw [c2, en, hD]; exact Nat.le_refl _
      · rw [eo a c2]; exact i7 a (by omega) hkk
    · rw [eo b c, eo a (by omega)]; exact i4 a b hab (by omega)
  · obtain ⟨i', hi', he⟩ := i5 a b ha hb
    exact ⟨i', by omega, by rw [eo i' (by omega), eo a (by omega)]; exact he⟩
  · obtain ⟨i, hi2, he⟩ := i6
    exact ⟨i, by omega, by rw [eo i (by omega)]; exact he⟩
  · rw [eo kk (by omega)]
    by_cases c : i = Q
    · rw [c, en, hD]; exact Nat.le_refl _
    · rw [eo i c]; exact i7 i (by omega) hkk
end BF
section BG
variable {m : q_Mm} {rb sb s w : Nat} {k : RK} {sh : q_Sh} {R : q_KR}
theorem p2_reach {u : Nat → Nat} {Q d : Nat} (x15 : sh[15]? = some (.inl (2, [some (.ref 16), some (.ref 17), none]))) (y16 : sh[16]? = some (.inr (.inl (0, 1728)))) (y17 : sh[17]? = some (.inr (.inl (0, 1728)))) (hk : r_ok k) (hm : x_far m k w u Q) (hQ : Q ≤ 1728) (hu : ∀ i, i < Q → u i < r_S k) (hf : ∀ i, i < Q → d_fin k w (u i)) (hs : s < r_S k) (hd : (∀ i, i < Q → u i ≠ s) → d = d_D k w s ∧ Q < 1728) (h1 : (∃ i, i < Q ∧ u i = s) → R none sh m) (h2 : (∀ i, i < Q → u i ≠ s) → ∀ m', q_bt3 15 16 17 m m' → x_far m' k w (q_uf u Q s) (Q + 1) → R none sh m') : wX2_reach [.ref 15, .int (nI s), .int (nI d)] sh m R := by
  have hSl := (r_Sle hk).2
  refine eX2_reach ?_
  simp only [o_no, o_cut, o_ic, o_lc, o_str, o_il, o_ll, o_al, o_is, o_as, o_inc, o_iadd, o_isub, o_imul, o_iand, o_ior, o_ishl, o_ishr, o_iushr, o_idiv, o_irem, o_ladd, o_lmul, o_land, o_lor, o_lrem, o_lshl, o_lshr, o_lcmp, o_i2l, o_l2i, o_dup, o_dup2, o_ifeq, o_ifne, o_iflt, o_ifge, o_ifgt, o_ifle, o_iceq, o_icne, o_iclt, o_icge, o_icgt, o_icle, o_sw, o_iret, o_zret, o_vret, o_getf, o_putf, o_putz, o_putr, o_iald, o_zald, o_iast, o_zast, o_alen, o_aald, o_aast, o_obj_e, o_mmax_e, o_mmin_e, o_slen, o_schar, o_call_0, o_call_1, o_call_2, o_call_3, o_call_4, o_call_5, o_call_6, o_call_7, o_callV_0, o_callV_1, o_callV_2, o_callV_3, o_callV_4, o_callV_5, o_callV_6, q_cn_0, q_cn_i, q_cn_r, q_cn_a, q_cn_l, q_cat_eq, q_nl_none, q_nl_sn, q_nl_i, q_nl_r, q_nl_a, q_vp_0, q_vp_1, q_vp_2, q_vp_3, q_vp_4, q_vp_5, q_vp_6, q_vp_7, q_vp_8, List.getElem?_cons_zero, List.getElem?_cons_succ, List.getElem?_nil, List.set_cons_zero, List.set_cons_succ, List.set_nil, Option.toList_some, Option.toList_none, List.cons_append, List.nil_append, Nat.reduceAdd, Nat.reduceSub, Nat.reduceLeDiff, Nat.add_zero, Nat.zero_add, Nat.reduceLT, Nat.zero_le, true_and, and_true, Value.category, true_or, or_true, q_z10, q_z01, Int32.reduceLT, Int32.reduceLE, Int32.reduceToNatClampNeg, not_true_eq_false, not_false_eq_true, false_implies, true_implies, implies_true, BX2_reach_13, BX2_reach_12, BX2_reach_0, rmX2_reach, x15, q_cls_of x15, q_R0_same]
  refine p8_at y16 (by decide) ?_
  simp only [o_no, o_cut, o_ic, o_lc, o_str, o_il, o_ll, o_al, o_is, o_as, o_inc, o_iadd, o_isub, o_imul, o_iand, o_ior, o_ishl, o_ishr, o_iushr, o_idiv, o_irem, o_ladd, o_lmul, o_land, o_lor, o_lrem, o_lshl, o_lshr, o_lcmp, o_i2l, o_l2i, o_dup, o_dup2, o_ifeq, o_ifne, o_iflt, o_ifge, o_ifgt, o_ifle, o_iceq, o_icne, o_iclt, o_icge, o_icgt, o_icle, o_sw, o_iret, o_zret, o_vret, o_getf, o_putf, o_putz, o_putr, o_iald, o_zald, o_iast, o_zast, o_alen, o_aald, o_aast, o_obj_e, o_mmax_e, o_mmin_e, o_slen, o_schar, o_call_0, o_call_1, o_call_2, o_call_3, o_call_4, o_call_5, o_call_6, o_call_7, o_callV_0, o_callV_1, o_callV_2, o_callV_3, o_callV_4, o_callV_5, o_callV_6, q_cn_0, q_cn_i, q_cn_r, q_cn_a, q_cn_l, q_cat_eq, q_nl_none, q_nl_sn, q_nl_i, q_nl_r, q_nl_a, q_vp_0, q_vp_1, q_vp_2, q_vp_3, q_vp_4, q_vp_5, q_vp_6, q_vp_7, q_vp_8, List.getElem?_cons_zero, List.getElem?_cons_succ, List.getElem?_nil, List.set_cons_zero, List.set_cons_succ, List.set_nil, Option.toList_some, Option.toList_none, List.cons_append, List.nil_append, Nat.reduceAdd, Nat.reduceSub, Nat.reduceLeDiff, Nat.add_zero, Nat.zero_add, Nat.reduceLT, Nat.zero_le, true_and, and_true, Value.category, true_or, or_true, q_z10, q_z01, Int32.reduceLT, Int32.reduceLE, Int32.reduceToNatClampNeg, not_true_eq_false, not_false_eq_true, false_implies, true_implies, implies_true, BX2_reach_13, BX2_reach_12, BX2_reach_0, rmX2_reach, x15, q_cls_of x15, q_R0_same]
  rw [q_at_n (by omega) (by decide)]
  refine ⟨fun y => ?_, fun y => ?_⟩
  · have hn : ∀ i, i < Q → u i ≠ s := fun i hi e => by
      rw [← e, hm.2.2.1 i hi] at y
      have := congrArg Int32.toInt y
      have := d_D_lt hk (hu i hi) (hf i hi)
      rw [nI_toInt (by omega), show (-1 : Int32).toInt = -1 from by decide] at *
      omega
    obtain ⟨rfl, hQ2⟩ := hd hn
    refine p8_put y16 (by decide) ?_
    rw [q_pt_n (by omega) (by decide)]
    simp only [o_no, o_cut, o_ic, o_lc, o_str, o_il, o_ll, o_al, o_is, o_as, o_inc, o_iadd, o_isub, o_imul, o_iand, o_ior, o_ishl, o_ishr, o_iushr, o_idiv, o_irem, o_ladd, o_lmul, o_land, o_lor, o_lrem, o_lshl, o_lshr, o_lcmp, o_i2l, o_l2i, o_dup, o_dup2, o_ifeq, o_ifne, o_iflt, o_ifge, o_ifgt, o_ifle, o_iceq, o_icne, o_iclt, o_icge, o_icgt, o_icle, o_sw, o_iret, o_zret, o_vret, o_getf, o_putf, o_putz, o_putr, o_iald, o_zald, o_iast, o_zast, o_alen, o_aald, o_aast, o_obj_e, o_mmax_e, o_mmin_e, o_slen, o_schar, o_call_0, o_call_1, o_call_2, o_call_3, o_call_4, o_call_5, o_call_6, o_call_7, o_callV_0, o_callV_1, o_callV_2, o_callV_3, o_callV_4, o_callV_5, o_callV_6, q_cn_0, q_cn_i, q_cn_r, q_cn_a, q_cn_l, q_cat_eq, q_nl_none, q_nl_sn, q_nl_i, q_nl_r, q_nl_a, q_vp_0, q_vp_1, q_vp_2, q_vp_3, q_vp_4, q_vp_5, q_vp_6, q_vp_7, q_vp_8, List.getElem?_cons_zero, List.getElem?_cons_succ, List.getElem?_nil, List.set_cons_zero, List.set_cons_succ, List.set_nil, Option.toList_some, Option.toList_none, List.cons_append, List.nil_append, Nat.reduceAdd, Nat.reduceSub, Nat.reduceLeDiff, Nat.add_zero, Nat.zero_add, Nat.reduceLT, Nat.zero_le, true_and, and_true, Value.category, true_or, or_true, q_z10, q_z01, Int32.reduceLT, Int32.reduceLE, Int32.reduceToNatClampNeg, not_true_eq_false, not_false_eq_true, false_implies, true_implies, implies_true, BX2_reach_13, BX2_reach_12, BX2_reach_0, rmX2_reach, x15, q_cls_of x15, q_R0_same, q_up_app, Nat.reduceEqDiff, false_and, if_false]
    rw [hm.1]
    refine p8_put y17 (by decide) ?_
    rw [q_pt_n (by omega) (by decide)]
    simp only [o_no, o_cut, o_ic, o_lc, o_str, o_il, o_ll, o_al, o_is, o_as, o_inc, o_iadd, o_isub, o_imul, o_iand, o_ior, o_ishl, o_ishr, o_iushr, o_idiv, o_irem, o_ladd, o_lmul, o_land, o_lor, o_lrem, o_lshl, o_lshr, o_lcmp, o_i2l, o_l2i, o_dup, o_dup2, o_ifeq, o_ifne, o_iflt, o_ifge, o_ifgt, o_ifle, o_iceq, o_icne, o_iclt, o_icge, o_icgt, o_icle, o_sw, o_iret, o_zret, o_vret, o_getf, o_putf, o_putz, o_putr, o_iald, o_zald, o_iast, o_zast, o_alen, o_aald, o_aast, o_obj_e, o_mmax_e, o_mmin_e, o_slen, o_schar, o_call_0, o_call_1, o_call_2, o_call_3, o_call_4, o_call_5, o_call_6, o_call_7, o_callV_0, o_callV_1, o_callV_2, o_callV_3, o_callV_4, o_callV_5, o_callV_6, q_cn_0, q_cn_i, q_cn_r, q_cn_a, q_cn_l, q_cat_eq, q_nl_none, q_nl_sn, q_nl_i, q_nl_r, q_nl_a, q_vp_0, q_vp_1, q_vp_2, q_vp_3, q_vp_4, q_vp_5, q_vp_6, q_vp_7, q_vp_8, List.getElem?_cons_zero, List.getElem?_cons_succ, List.getElem?_nil, List.set_cons_zero, List.set_cons_succ, List.set_nil, Option.toList_some, Option.toList_none, List.cons_append, List.nil_append, Nat.reduceAdd, Nat.reduceSub, Nat.reduceLeDiff, Nat.add_zero, Nat.zero_add, Nat.reduceLT, Nat.zero_le, true_and, and_true, Value.category, true_or, or_true, q_z10, q_z01, Int32.reduceLT, Int32.reduceLE, Int32.reduceToNatClampNeg, not_true_eq_false, not_false_eq_true, false_implies, true_implies, implies_true, BX2_reach_13, BX2_reach_12, BX2_reach_0, rmX2_reach, x15, q_cls_of x15, q_R0_same, q_up_app, Nat.reduceEqDiff, false_and, if_false]
    rw [hm.1, nI_1]
    refine h2 hn _ (fun a g1 g2 g3 => by rw [q_up_o g1, q_up_o g3, q_up_o g2]) ⟨?_, fun i hi => ?_, fun i hi => ?_, fun s' hs' hn' => ?_⟩
    · rw [q_up_app, if_pos ⟨rfl, rfl⟩]
    · rw [q_up_o (by decide), q_up_app]
      by_cases c : i = Q
      · rw [if_pos ⟨rfl, c⟩, q_uf, if_pos c]
      · rw [if_neg (fun q => c q.2), q_up_o (by decide), q_uf, if_neg c]; exact hm.2.1 i (by omega)
    · rw [q_up_o (by decide), q_up_o (by decide), q_up_app]
      by_cases c : i = Q
      · rw [q_uf, if_pos c, if_pos ⟨rfl, rfl⟩]
      · rw [q_uf, if_neg c, if_neg (fun q => hn i (by omega) q.2)]; exact hm.2.2.1 i (by omega)
    · have h3 := hn' Q (by omega)
      rw [q_uf, if_pos rfl] at h3
      rw [q_up_o (by decide), q_up_o (by decide), q_up_app, if_neg (fun q => h3 q.2.symm)]
      refine hm.2.2.2 s' hs' (fun i hi => ?_)
      have := hn' i (by omega)
      rw [q_uf, if_neg (by omega)] at this
      exact this
  · refine h1 ?_
    by_cases c : ∃ i, i < Q ∧ u i = s
    · exact c
    · exact absurd (hm.2.2.2 s hs (fun i hi e => c ⟨i, hi, e⟩)) y
theorem x_unp (hk : r_ok k) (hx : x_rock m rb k) {j : Nat} (hs : s < r_S k) (hj : j < r_pu k) : x_moved m rb (nI s) (x_backBy m rb (nI j) 0) (x_backBy m rb (nI j) 1) (x_backBy m rb (nI j) 2) = nI (r_U k s j) := by
  have h4 : r_pu k ≤ 4 := hk.2.2.2.1
  have hSl := (r_Sle hk).2
  have hb : ∀ i, i < 3 → x_backBy m rb (nI j) (nI i) = nI (12 * r_N k i - r_sv k j i) := fun i hi => by
    have hN := r_Npos hk i
    have hv := hk.2.2.2.2.2.2.2.2 j i
    rw [x_backBy, xs_size hx.1 hi, xs_shove hx.1 hj h4 hi, show (12 : Int32) = nI 12 from rfl, pk_mul, pk_sub (by omega)]
  have N0 := r_Npos hk 0
  have N1 := r_Npos hk 1
  have N2 := r_Npos hk 2
  have b0 : x_backBy m rb (nI j) 0 = nI (12 * r_N k 0 - r_sv k j 0) := hb 0 (by decide)
  have b1 : x_backBy m rb (nI j) 1 = nI (12 * r_N k 1 - r_sv k j 1) := hb 1 (by decide)
  have b2 : x_backBy m rb (nI j) 2 = nI (12 * r_N k 2 - r_sv k j 2) := hb 2 (by decide)
  rw [b0, b1, b2, xs_moved hk hx.1 hx.2.1 (by omega) (by omega) (by omega) (by omega)]
  rfl
theorem x_psh (hk : r_ok k) (hx : x_rock m rb k) {j : Nat} (hs : s < r_S k) (hj : j < r_pu k) : x_moved m rb (nI s) (x_shove m rb (nI j) 0) (x_shove m rb (nI j) 1) (x_shove m rb (nI j) 2) = nI (r_P k s j) := by
  have h4 : r_pu k ≤ 4 := hk.2.2.2.1
  have hSl := (r_Sle hk).2
  have hsv := hk.2.2.2.2.2.2.2.2 j
  have s0 := hsv 0
  have s1 := hsv 1
  have s2 := hsv 2
  rw [show (0 : Int32) = nI 0 from rfl, q_n1, q_n2, xs_shove hx.1 hj h4 (by decide), xs_shove hx.1 hj h4 (by decide), xs_shove hx.1 hj h4 (by decide), xs_moved hk hx.1 hx.2.1 (by omega) (by omega) (by omega) (by omega)]
  rfl
def x_dist (m : q_Mm) (k : RK) (w : Nat) : Prop := ∀ s, s < r_S k → (d_fin k w s → m 16 s = nI (d_D k w s)) ∧ (¬ d_fin k w s → m 16 s = -1)
theorem x_rock_b3 {m m' : q_Mm} {b : Nat} (h : x_rock m b k) (hb : q_bt3 15 16 17 m m') (hr : 17 < b) : x_rock m' b k := by
  obtain ⟨g1, g2, g3, g4, g5, g6⟩ := h
  have e : ∀ i, m' (b + i) = m (b + i) := fun i => hb _ (by omega) (by omega) (by omega)
  have e0 : m' b = m b := e 0
  exact ⟨x_told_fr g1 (fun j _ => by rw [e0]) (fun i _ _ _ => e i), fun i hi => by rw [e 2]; exact g2 i hi, by rw [e0]; exact g3, by rw [e0]; exact g4, fun s hs => by rw [e 7]; exact g5 s hs, fun s hs => by rw [e 8]; exact g6 s hs⟩
theorem b_done (hk : r_ok k) {u : Nat → Nat} {Q : Nat} (hi : b_inv k w u Q Q) (hm : x_far m k w u Q) : x_dist m k w := by
  intro s hs
  have key : d_fin k w s → ∃ i, i < Q ∧ u i = s := fun h => b_seen hk hi (M := d_D k w s) (fun i hi _ => hi) _ s (Nat.le_refl _) hs h rfl
  refine ⟨fun h => ?_, fun h => hm.2.2.2 s hs (fun i hi2 e => h (by rw [← e]; exact hi.2.2.1 i hi2))⟩
  obtain ⟨i, hi2, he⟩ := key h
  rw [← he]; exact hm.2.2.1 i hi2
theorem p2_fewest (x15 : sh[15]? = some (.inl (2, [some (.ref 16), some (.ref 17), none]))) (y16 : sh[16]? = some (.inr (.inl (0, 1728)))) (y17 : sh[17]? = some (.inr (.inl (0, 1728)))) (hr : q_rk sh rb) (hk : r_ok k) (hrb : 17 < rb) (hx : x_rock m rb k) (hw : w < r_S k) (hs : s < r_S k) (hR : ∀ m', q_bt3 15 16 17 m m' → x_dist m' k w → R (some (.int (m' 16 s))) sh m') : wX2_fewest [.ref 15, .ref rb, .int (nI s), .int (nI w)] sh m R := by
  have hSl := (r_Sle hk).2
  have h4 : r_pu k ≤ 4 := hk.2.2.2.1
  refine eX2_fewest ?_
  simp only [o_no, o_cut, o_ic, o_lc, o_str, o_il, o_ll, o_al, o_is, o_as, o_inc, o_iadd, o_isub, o_imul, o_iand, o_ior, o_ishl, o_ishr, o_iushr, o_idiv, o_irem, o_ladd, o_lmul, o_land, o_lor, o_lrem, o_lshl, o_lshr, o_lcmp, o_i2l, o_l2i, o_dup, o_dup2, o_ifeq, o_ifne, o_iflt, o_ifge, o_ifgt, o_ifle, o_iceq, o_icne, o_iclt, o_icge, o_icgt, o_icle, o_sw, o_iret, o_zret, o_vret, o_getf, o_putf, o_putz, o_putr, o_iald, o_zald, o_iast, o_zast, o_alen, o_aald, o_aast, o_obj_e, o_mmax_e, o_mmin_e, o_slen, o_schar, o_call_0, o_call_1, o_call_2, o_call_3, o_call_4, o_call_5, o_call_6, o_call_7, o_callV_0, o_callV_1, o_callV_2, o_callV_3, o_callV_4, o_callV_5, o_callV_6, q_cn_0, q_cn_i, q_cn_r, q_cn_a, q_cn_l, q_cat_eq, q_nl_none, q_nl_sn, q_nl_i, q_nl_r, q_nl_a, q_vp_0, q_vp_1, q_vp_2, q_vp_3, q_vp_4, q_vp_5, q_vp_6, q_vp_7, q_vp_8, List.getElem?_cons_zero, List.getElem?_cons_succ, List.getElem?_nil, List.set_cons_zero, List.set_cons_succ, List.set_nil, Option.toList_some, Option.toList_none, List.cons_append, List.nil_append, Nat.reduceAdd, Nat.reduceSub, Nat.reduceLeDiff, Nat.add_zero, Nat.zero_add, Nat.reduceLT, Nat.zero_le, true_and, and_true, Value.category, true_or, or_true, q_z10, q_z01, Int32.reduceLT, Int32.reduceLE, Int32.reduceToNatClampNeg, not_true_eq_false, not_false_eq_true, false_implies, true_implies, implies_true, BX2_fewest_7, BX2_fewest_5, BX2_fewest_0, BX2_fewest_32, BX2_fewest_18, BX2_fewest_10, BX2_fewest_119, BX2_fewest_63, BX2_fewest_55, BX2_fewest_46, BX2_fewest_113, BX2_fewest_84, BX2_fewest_75, rmX2_fewest, x15, q_cls_of x15, q_cls_of hr.1, hr.1, q_R0_same]
  have fin : ∀ (u : Nat → Nat) (Q : Nat) (m1 : q_Mm) (v4 v5 v6 : Option Value), q_bt3 15 16 17 m m1 → x_far m1 k w u Q → b_inv k w u Q Q → BX2_fewest_119 [some (.ref 15), some (.ref rb), some (.int (nI s)), some (.int (nI w)), v4, v5, v6] [] sh m1 (fun pc L st sh2 m => q_WP TX2_fewest pc L st sh2 m (q_R0 sh rmX2_fewest R)) (q_R0 sh rmX2_fewest R) := by
    intro u Q m1 v4 v5 v6 hb hf hi
    simp only [o_no, o_cut, o_ic, o_lc, o_str, o_il, o_ll, o_al, o_is, o_as, o_inc, o_iadd, o_isub, o_imul, o_iand, o_ior, o_ishl, o_ishr, o_iushr, o_idiv, o_irem, o_ladd, o_lmul, o_land, o_lor, o_lrem, o_lshl, o_lshr, o_lcmp, o_i2l, o_l2i, o_dup, o_dup2, o_ifeq, o_ifne, o_iflt, o_ifge, o_ifgt, o_ifle, o_iceq, o_icne, o_iclt, o_icge, o_icgt, o_icle, o_sw, o_iret, o_zret, o_vret, o_getf, o_putf, o_putz, o_putr, o_iald, o_zald, o_iast, o_zast, o_alen, o_aald, o_aast, o_obj_e, o_mmax_e, o_mmin_e, o_slen, o_schar, o_call_0, o_call_1, o_call_2, o_call_3, o_call_4, o_call_5, o_call_6, o_call_7, o_callV_0, o_callV_1, o_callV_2, o_callV_3, o_callV_4, o_callV_5, o_callV_6, q_cn_0, q_cn_i, q_cn_r, q_cn_a, q_cn_l, q_cat_eq, q_nl_none, q_nl_sn, q_nl_i, q_nl_r, q_nl_a, q_vp_0, q_vp_1, q_vp_2, q_vp_3, q_vp_4, q_vp_5, q_vp_6, q_vp_7, q_vp_8, List.getElem?_cons_zero, List.getElem?_cons_succ, List.getElem?_nil, List.set_cons_zero, List.set_cons_succ, List.set_nil, Option.toList_some, Option.toList_none, List.cons_append, List.nil_append, Nat.reduceAdd, Nat.reduceSub, Nat.reduceLeDiff, Nat.add_zero, Nat.zero_add, Nat.reduceLT, Nat.zero_le, true_and, and_true, Value.category, true_or, or_true, q_z10, q_z01, Int32.reduceLT, Int32.reduceLE, Int32.reduceToNatClampNeg, not_true_eq_false, not_false_eq_true, false_implies, true_implies, implies_true, BX2_fewest_7, BX2_fewest_5, BX2_fewest_0, BX2_fewest_32, BX2_fewest_18, BX2_fewest_10, BX2_fewest_119, BX2_fewest_63, BX2_fewest_55, BX2_fewest_46, BX2_fewest_113, BX2_fewest_84, BX2_fewest_75, rmX2_fewest, x15, q_cls_of x15, q_cls_of hr.1, hr.1, q_R0_same]
    refine p8_at y16 (by decide) ?_
    simp only [o_no, o_cut, o_ic, o_lc, o_str, o_il, o_ll, o_al, o_is, o_as, o_inc, o_iadd, o_isub, o_imul, o_iand, o_ior, o_ishl, o_ishr, o_iushr, o_idiv, o_irem, o_ladd, o_lmul, o_land, o_lor, o_lrem, o_lshl, o_lshr, o_lcmp, o_i2l, o_l2i, o_dup, o_dup2, o_ifeq, o_ifne, o_iflt, o_ifge, o_ifgt, o_ifle, o_iceq, o_icne, o_iclt, o_icge, o_icgt, o_icle, o_sw, o_iret, o_zret, o_vret, o_getf, o_putf, o_putz, o_putr, o_iald, o_zald, o_iast, o_zast, o_alen, o_aald, o_aast, o_obj_e, o_mmax_e, o_mmin_e, o_slen, o_schar, o_call_0, o_call_1, o_call_2, o_call_3, o_call_4, o_call_5, o_call_6, o_call_7, o_callV_0, o_callV_1, o_callV_2, o_callV_3, o_callV_4, o_callV_5, o_callV_6, q_cn_0, q_cn_i, q_cn_r, q_cn_a, q_cn_l, q_cat_eq, q_nl_none, q_nl_sn, q_nl_i, q_nl_r, q_nl_a, q_vp_0, q_vp_1, q_vp_2, q_vp_3, q_vp_4, q_vp_5, q_vp_6, q_vp_7, q_vp_8, List.getElem?_cons_zero, List.getElem?_cons_succ, List.getElem?_nil, List.set_cons_zero, List.set_cons_succ, List.set_nil, Option.toList_some, Option.toList_none, List.cons_append, List.nil_append, Nat.reduceAdd, Nat.reduceSub, Nat.reduceLeDiff, Nat.add_zero, Nat.zero_add, Nat.reduceLT, Nat.zero_le, true_and, and_true, Value.category, true_or, or_true, q_z10, q_z01, Int32.reduceLT, Int32.reduceLE, Int32.reduceToNatClampNeg, not_true_eq_false, not_false_eq_true, false_implies, true_implies, implies_true, BX2_fewest_7, BX2_fewest_5, BX2_fewest_0, BX2_fewest_32, BX2_fewest_18, BX2_fewest_10, BX2_fewest_119, BX2_fewest_63, BX2_fewest_55, BX2_fewest_46, BX2_fewest_113, BX2_fewest_84, BX2_fewest_75, rmX2_fewest, x15, q_cls_of x15, q_cls_of hr.1, hr.1, q_R0_same]
    rw [q_at_n (by omega) (by decide)]
    exact hR m1 hb (b_done hk hi hf)
  have outer : ∀ d kk (u : Nat → Nat) (Q : Nat) (m1 : q_Mm) (v5 v6 : Option Value), kk + d = r_S k → q_bt3 15 16 17 m m1 → x_far m1 k w u Q → b_inv k w u Q kk → q_WP TX2_fewest 46 [some (.ref 15), some (.ref rb), some (.int (nI s)), some (.int (nI w)), some (.int (nI kk)), v5, v6] [] sh m1 (q_R0 sh rmX2_fewest R) := by
    intro d
    induction d with
    | zero =>
      intro kk u Q m1 v5 v6 hd hb hf hi
      have hQ := q_inj hi.1 hi.2.1
      have hkQ := hi.2.2.2.2.2.2.2
      obtain rfl : kk = Q := by omega
      refine uX2_fewest_46 ?_
      have := fin u kk m1 (some (.int (nI kk))) v5 v6 hb hf hi
      simp only [o_no, o_cut, o_ic, o_lc, o_str, o_il, o_ll, o_al, o_is, o_as, o_inc, o_iadd, o_isub, o_imul, o_iand, o_ior, o_ishl, o_ishr, o_iushr, o_idiv, o_irem, o_ladd, o_lmul, o_land, o_lor, o_lrem, o_lshl, o_lshr, o_lcmp, o_i2l, o_l2i, o_dup, o_dup2, o_ifeq, o_ifne, o_iflt, o_ifge, o_ifgt, o_ifle, o_iceq, o_icne, o_iclt, o_icge, o_icgt, o_icle, o_sw, o_iret, o_zret, o_vret, o_getf, o_putf, o_putz, o_putr, o_iald, o_zald, o_iast, o_zast, o_alen, o_aald, o_aast, o_obj_e, o_mmax_e, o_mmin_e, o_slen, o_schar, o_call_0, o_call_1, o_call_2, o_call_3, o_call_4, o_call_5, o_call_6, o_call_7, o_callV_0, o_callV_1, o_callV_2, o_callV_3, o_callV_4, o_callV_5, o_callV_6, q_cn_0, q_cn_i, q_cn_r, q_cn_a, q_cn_l, q_cat_eq, q_nl_none, q_nl_sn, q_nl_i, q_nl_r, q_nl_a, q_vp_0, q_vp_1, q_vp_2, q_vp_3, q_vp_4, q_vp_5, q_vp_6, q_vp_7, q_vp_8, List.getElem?_cons_zero, List.getElem?_cons_succ, List.getElem?_nil, List.set_cons_zero, List.set_cons_succ, List.set_nil, Option.toList_some, Option.toList_none, List.cons_append, List.nil_append, Nat.reduceAdd, Nat.reduceSub, Nat.reduceLeDiff, Nat.add_zero, Nat.zero_add, Nat.reduceLT, Nat.zero_le, true_and, and_true, Value.category, true_or, or_true, q_z10, q_z01, Int32.reduceLT, Int32.reduceLE, Int32.reduceToNatClampNeg, not_true_eq_false, not_false_eq_true, false_implies, true_implies, implies_true, BX2_fewest_7, BX2_fewest_5, BX2_fewest_0, BX2_fewest_32, BX2_fewest_18, BX2_fewest_10, BX2_fewest_119, BX2_fewest_63, BX2_fewest_55, BX2_fewest_46, BX2_fewest_113, BX2_fewest_84, BX2_fewest_75, rmX2_fewest, x15, q_cls_of x15, q_cls_of hr.1, hr.1, q_R0_same]
      rw [hf.1]
      refine ⟨fun _ => ?_, fun q => absurd (nI_le (by omega) (by omega)) q⟩
      simp only [o_no, o_cut, o_ic, o_lc, o_str, o_il, o_ll, o_al, o_is, o_as, o_inc, o_iadd, o_isub, o_imul, o_iand, o_ior, o_ishl, o_ishr, o_iushr, o_idiv, o_irem, o_ladd, o_lmul, o_land, o_lor, o_lrem, o_lshl, o_lshr, o_lcmp, o_i2l, o_l2i, o_dup, o_dup2, o_ifeq, o_ifne, o_iflt, o_ifge, o_ifgt, o_ifle, o_iceq, o_icne, o_iclt, o_icge, o_icgt, o_icle, o_sw, o_iret, o_zret, o_vret, o_getf, o_putf, o_putz, o_putr, o_iald, o_zald, o_iast, o_zast, o_alen, o_aald, o_aast, o_obj_e, o_mmax_e, o_mmin_e, o_slen, o_schar, o_call_0, o_call_1, o_call_2, o_call_3, o_call_4, o_call_5, o_call_6, o_call_7, o_callV_0, o_callV_1, o_callV_2, o_callV_3, o_callV_4, o_callV_5, o_callV_6, q_cn_0, q_cn_i, q_cn_r, q_cn_a, q_cn_l, q_cat_eq, q_nl_none, q_nl_sn, q_nl_i, q_nl_r, q_nl_a, q_vp_0, q_vp_1, q_vp_2, q_vp_3, q_vp_4, q_vp_5, q_vp_6, q_vp_7, q_vp_8, List.getElem?_cons_zero, List.getElem?_cons_succ, List.getElem?_nil, List.set_cons_zero, List.set_cons_succ, List.set_nil, Option.toList_some, Option.toList_none, List.cons_append, List.nil_append, Nat.reduceAdd, Nat.reduceSub, Nat.reduceLeDiff, Nat.add_zero, Nat.zero_add, Nat.reduceLT, Nat.zero_le, true_and, and_true, Value.category, true_or, or_true, q_z10, q_z01, Int32.reduceLT, Int32.reduceLE, Int32.reduceToNatClampNeg, not_true_eq_false, not_false_eq_true, false_implies, true_implies, implies_true, BX2_fewest_7, BX2_fewest_5, BX2_fewest_0, BX2_fewest_32, BX2_fewest_18, BX2_fewest_10, BX2_fewest_119, BX2_fewest_63, BX2_fewest_55, BX2_fewest_46, BX2_fewest_113, BX2_fewest_84, BX2_fewest_75, rmX2_fewest, x15, q_cls_of x15, q_cls_of hr.1, hr.1, q_R0_same] at this
      exact this
    | succ d ih =>
      intro kk u Q m1 v5 v6 hd hb hf hi
      have hQ := q_inj hi.1 hi.2.1
      have hkQ := hi.2.2.2.2.2.2.2
      rcases Nat.eq_or_lt_of_le hkQ with q | q
      · subst q
        refine uX2_fewest_46 ?_
        have := fin u kk m1 (some (.int (nI kk))) v5 v6 hb hf hi
        simp only [o_no, o_cut, o_ic, o_lc, o_str, o_il, o_ll, o_al, o_is, o_as, o_inc, o_iadd, o_isub, o_imul, o_iand, o_ior, o_ishl, o_ishr, o_iushr, o_idiv, o_irem, o_ladd, o_lmul, o_land, o_lor, o_lrem, o_lshl, o_lshr, o_lcmp, o_i2l, o_l2i, o_dup, o_dup2, o_ifeq, o_ifne, o_iflt, o_ifge, o_ifgt, o_ifle, o_iceq, o_icne, o_iclt, o_icge, o_icgt, o_icle, o_sw, o_iret, o_zret, o_vret, o_getf, o_putf, o_putz, o_putr, o_iald, o_zald, o_iast, o_zast, o_alen, o_aald, o_aast, o_obj_e, o_mmax_e, o_mmin_e, o_slen, o_schar, o_call_0, o_call_1, o_call_2, o_call_3, o_call_4, o_call_5, o_call_6, o_call_7, o_callV_0, o_callV_1, o_callV_2, o_callV_3, o_callV_4, o_callV_5, o_callV_6, q_cn_0, q_cn_i, q_cn_r, q_cn_a, q_cn_l, q_cat_eq, q_nl_none, q_nl_sn, q_nl_i, q_nl_r, q_nl_a, q_vp_0, q_vp_1, q_vp_2, q_vp_3, q_vp_4, q_vp_5, q_vp_6, q_vp_7, q_vp_8, List.getElem?_cons_zero, List.getElem?_cons_succ, List.getElem?_nil, List.set_cons_zero, List.set_cons_succ, List.set_nil, Option.toList_some, Option.toList_none, List.cons_append, List.nil_append, Nat.reduceAdd, Nat.reduceSub, Nat.reduceLeDiff, Nat.add_zero, Nat.zero_add, Nat.reduceLT, Nat.zero_le, true_and, and_true, Value.category, true_or, or_true, q_z10, q_z01, Int32.reduceLT, Int32.reduceLE, Int32.reduceToNatClampNeg, not_true_eq_false, not_false_eq_true, false_implies, true_implies, implies_true, BX2_fewest_7, BX2_fewest_5, BX2_fewest_0, BX2_fewest_32, BX2_fewest_18, BX2_fewest_10, BX2_fewest_119, BX2_fewest_63, BX2_fewest_55, BX2_fewest_46, BX2_fewest_113, BX2_fewest_84, BX2_fewest_75, rmX2_fewest, x15, q_cls_of x15, q_cls_of hr.1, hr.1, q_R0_same]
        rw [hf.1]
        refine ⟨fun _ => ?_, fun q => absurd (nI_le (by omega) (by omega)) q⟩
        simp only [o_no, o_cut, o_ic, o_lc, o_str, o_il, o_ll, o_al, o_is, o_as, o_inc, o_iadd, o_isub, o_imul, o_iand, o_ior, o_ishl, o_ishr, o_iushr, o_idiv, o_irem, o_ladd, o_lmul, o_land, o_lor, o_lrem, o_lshl, o_lshr, o_lcmp, o_i2l, o_l2i, o_dup, o_dup2, o_ifeq, o_ifne, o_iflt, o_ifge, o_ifgt, o_ifle, o_iceq, o_icne, o_iclt, o_icge, o_icgt, o_icle, o_sw, o_iret, o_zret, o_vret, o_getf, o_putf, o_putz, o_putr, o_iald, o_zald, o_iast, o_zast, o_alen, o_aald, o_aast, o_obj_e, o_mmax_e, o_mmin_e, o_slen, o_schar, o_call_0, o_call_1, o_call_2, o_call_3, o_call_4, o_call_5, o_call_6, o_call_7, o_callV_0, o_callV_1, o_callV_2, o_callV_3, o_callV_4, o_callV_5, o_callV_6, q_cn_0, q_cn_i, q_cn_r, q_cn_a, q_cn_l, q_cat_eq, q_nl_none, q_nl_sn, q_nl_i, q_nl_r, q_nl_a, q_vp_0, q_vp_1, q_vp_2, q_vp_3, q_vp_4, q_vp_5, q_vp_6, q_vp_7, q_vp_8, List.getElem?_cons_zero, List.getElem?_cons_succ, List.getElem?_nil, List.set_cons_zero, List.set_cons_succ, List.set_nil, Option.toList_some, Option.toList_none, List.cons_append, List.nil_append, Nat.reduceAdd, Nat.reduceSub, Nat.reduceLeDiff, Nat.add_zero, Nat.zero_add, Nat.reduceLT, Nat.zero_le, true_and, and_true, Value.category, true_or, or_true, q_z10, q_z01, Int32.reduceLT, Int32.reduceLE, Int32.reduceToNatClampNeg, not_true_eq_false, not_false_eq_true, false_implies, true_implies, implies_true, BX2_fewest_7, BX2_fewest_5, BX2_fewest_0, BX2_fewest_32, BX2_fewest_18, BX2_fewest_10, BX2_fewest_119, BX2_fewest_63, BX2_fewest_55, BX2_fewest_46, BX2_fewest_113, BX2_fewest_84, BX2_fewest_75, rmX2_fewest, x15, q_cls_of x15, q_cls_of hr.1, hr.1, q_R0_same] at this
        exact this
      · have inner : ∀ e j (u : Nat → Nat) (Q : Nat) (m2 : q_Mm), j + e = r_pu k → q_bt3 15 16 17 m m2 → x_far m2 k w u Q → b_inv k w u Q kk → kk < Q → (∀ j', j' < j → ∃ i', i' < Q ∧ u i' = r_U k (u kk) j') → q_WP TX2_fewest 75 [some (.ref 15), some (.ref rb), some (.int (nI s)), some (.int (nI w)), some (.int (nI kk)), some (.int (nI (u kk))), some (.int (nI j))] [] sh m2 (q_R0 sh rmX2_fewest R) := by
          intro e
          induction e with
          | zero =>
            intro j u Q m2 hj hb2 hf2 hi2 hkQ2 hd2
            obtain rfl : j = r_pu k := by omega
            refine uX2_fewest_75 ?_
            simp only [o_no, o_cut, o_ic, o_lc, o_str, o_il, o_ll, o_al, o_is, o_as, o_inc, o_iadd, o_isub, o_imul, o_iand, o_ior, o_ishl, o_ishr, o_iushr, o_idiv, o_irem, o_ladd, o_lmul, o_land, o_lor, o_lrem, o_lshl, o_lshr, o_lcmp, o_i2l, o_l2i, o_dup, o_dup2, o_ifeq, o_ifne, o_iflt, o_ifge, o_ifgt, o_ifle, o_iceq, o_icne, o_iclt, o_icge, o_icgt, o_icle, o_sw, o_iret, o_zret, o_vret, o_getf, o_putf, o_putz, o_putr, o_iald, o_zald, o_iast, o_zast, o_alen, o_aald, o_aast, o_obj_e, o_mmax_e, o_mmin_e, o_slen, o_schar, o_call_0, o_call_1, o_call_2, o_call_3, o_call_4, o_call_5, o_call_6, o_call_7, o_callV_0, o_callV_1, o_callV_2, o_callV_3, o_callV_4, o_callV_5, o_callV_6, q_cn_0, q_cn_i, q_cn_r, q_cn_a, q_cn_l, q_cat_eq, q_nl_none, q_nl_sn, q_nl_i, q_nl_r, q_nl_a, q_vp_0, q_vp_1, q_vp_2, q_vp_3, q_vp_4, q_vp_5, q_vp_6, q_vp_7, q_vp_8, List.getElem?_cons_zero, List.getElem?_cons_succ, List.getElem?_nil, List.set_cons_zero, List.set_cons_succ, List.set_nil, Option.toList_some, Option.toList_none, List.cons_append, List.nil_append, Nat.reduceAdd, Nat.reduceSub, Nat.reduceLeDiff, Nat.add_zero, Nat.zero_add, Nat.reduceLT, Nat.zero_le, true_and, and_true, Value.category, true_or, or_true, q_z10, q_z01, Int32.reduceLT, Int32.reduceLE, Int32.reduceToNatClampNeg, not_true_eq_false, not_false_eq_true, false_implies, true_implies, implies_true, BX2_fewest_7, BX2_fewest_5, BX2_fewest_0, BX2_fewest_32, BX2_fewest_18, BX2_fewest_10, BX2_fewest_119, BX2_fewest_63, BX2_fewest_55, BX2_fewest_46, BX2_fewest_113, BX2_fewest_84, BX2_fewest_75, rmX2_fewest, x15, q_cls_of x15, q_cls_of hr.1, hr.1, q_R0_same]
            rw [(x_rock_b3 hx hb2 hrb).1.2.2.2.1]
            refine ⟨fun _ => ?_, fun q => absurd (nI_le (by omega) (by omega)) q⟩
            rw [nI_1]
            refine ih (kk + 1) u Q m2 _ _ (by omega) hb2 hf2 ?_
            obtain ⟨i1, i2, i3, i4, i5, i6, i7, i8⟩ := hi2
            refine ⟨i1, i2, i3, i4, fun i j hik hj => ?_, i6, fun i hi3 hk3 => ?_, hkQ2⟩
            · rcases Nat.lt_or_ge i kk with z | z
              · exact i5 i j z hj
              · obtain rfl : i = kk := by omega
                exact hd2 j hj
            · have h1 := i7 i hi3 hkQ2
              have h2 := i4 kk (kk + 1) (by omega) hk3
              omega
          | succ e ihe =>
            intro j u Q m2 hj hb2 hf2 hi2 hkQ2 hd2
            have hx2 := x_rock_b3 hx hb2 hrb
            have hjp : j < r_pu k := by omega
            have hQ2 := q_inj hi2.1 hi2.2.1
            have huk := hi2.1 kk hkQ2
            have hDk := d_D_lt hk huk (hi2.2.2.1 kk hkQ2)
            refine uX2_fewest_75 ?_
            simp only [o_no, o_cut, o_ic, o_lc, o_str, o_il, o_ll, o_al, o_is, o_as, o_inc, o_iadd, o_isub, o_imul, o_iand, o_ior, o_ishl, o_ishr, o_iushr, o_idiv, o_irem, o_ladd, o_lmul, o_land, o_lor, o_lrem, o_lshl, o_lshr, o_lcmp, o_i2l, o_l2i, o_dup, o_dup2, o_ifeq, o_ifne, o_iflt, o_ifge, o_ifgt, o_ifle, o_iceq, o_icne, o_iclt, o_icge, o_icgt, o_icle, o_sw, o_iret, o_zret, o_vret, o_getf, o_putf, o_putz, o_putr, o_iald, o_zald, o_iast, o_zast, o_alen, o_aald, o_aast, o_obj_e, o_mmax_e, o_mmin_e, o_slen, o_schar, o_call_0, o_call_1, o_call_2, o_call_3, o_call_4, o_call_5, o_call_6, o_call_7, o_callV_0, o_callV_1, o_callV_2, o_callV_3, o_callV_4, o_callV_5, o_callV_6, q_cn_0, q_cn_i, q_cn_r, q_cn_a, q_cn_l, q_cat_eq, q_nl_none, q_nl_sn, q_nl_i, q_nl_r, q_nl_a, q_vp_0, q_vp_1, q_vp_2, q_vp_3, q_vp_4, q_vp_5, q_vp_6, q_vp_7, q_vp_8, List.getElem?_cons_zero, List.getElem?_cons_succ, List.getElem?_nil, List.set_cons_zero, List.set_cons_succ, List.set_nil, Option.toList_some, Option.toList_none, List.cons_append, List.nil_append, Nat.reduceAdd, Nat.reduceSub, Nat.reduceLeDiff, Nat.add_zero, Nat.zero_add, Nat.reduceLT, Nat.zero_le, true_and, and_true, Value.category, true_or, or_true, q_z10, q_z01, Int32.reduceLT, Int32.reduceLE, Int32.reduceToNatClampNeg, not_true_eq_false, not_false_eq_true, false_implies, true_implies, implies_true, BX2_fewest_7, BX2_fewest_5, BX2_fewest_0, BX2_fewest_32, BX2_fewest_18, BX2_fewest_10, BX2_fewest_119, BX2_fewest_63, BX2_fewest_55, BX2_fewest_46, BX2_fewest_113, BX2_fewest_84, BX2_fewest_75, rmX2_fewest, x15, q_cls_of x15, q_cls_of hr.1, hr.1, q_R0_same]
            rw [hx2.1.2.2.2.1]
            refine ⟨fun q => absurd q (nI_ge (by omega) (by omega)), fun _ => ?_⟩
            refine p4_unpushed hr ?_
            simp only [o_no, o_cut, o_ic, o_lc, o_str, o_il, o_ll, o_al, o_is, o_as, o_inc, o_iadd, o_isub, o_imul, o_iand, o_ior, o_ishl, o_ishr, o_iushr, o_idiv, o_irem, o_ladd, o_lmul, o_land, o_lor, o_lrem, o_lshl, o_lshr, o_lcmp, o_i2l, o_l2i, o_dup, o_dup2, o_ifeq, o_ifne, o_iflt, o_ifge, o_ifgt, o_ifle, o_iceq, o_icne, o_iclt, o_icge, o_icgt, o_icle, o_sw, o_iret, o_zret, o_vret, o_getf, o_putf, o_putz, o_putr, o_iald, o_zald, o_iast, o_zast, o_alen, o_aald, o_aast, o_obj_e, o_mmax_e, o_mmin_e, o_slen, o_schar, o_call_0, o_call_1, o_call_2, o_call_3, o_call_4, o_call_5, o_call_6, o_call_7, o_callV_0, o_callV_1, o_callV_2, o_callV_3, o_callV_4, o_callV_5, o_callV_6, q_cn_0, q_cn_i, q_cn_r, q_cn_a, q_cn_l, q_cat_eq, q_nl_none, q_nl_sn, q_nl_i, q_nl_r, q_nl_a, q_vp_0, q_vp_1, q_vp_2, q_vp_3, q_vp_4, q_vp_5, q_vp_6, q_vp_7, q_vp_8, List.getElem?_cons_zero, List.getElem?_cons_succ, List.getElem?_nil, List.set_cons_zero, List.set_cons_succ, List.set_nil, Option.toList_some, Option.toList_none, List.cons_append, List.nil_append, Nat.reduceAdd, Nat.reduceSub, Nat.reduceLeDiff, Nat.add_zero, Nat.zero_add, Nat.reduceLT, Nat.zero_le, true_and, and_true, Value.category, true_or, or_true, q_z10, q_z01, Int32.reduceLT, Int32.reduceLE, Int32.reduceToNatClampNeg, not_true_eq_false, not_false_eq_true, false_implies, true_implies, implies_true, BX2_fewest_7, BX2_fewest_5, BX2_fewest_0, BX2_fewest_32, BX2_fewest_18, BX2_fewest_10, BX2_fewest_119, BX2_fewest_63, BX2_fewest_55, BX2_fewest_46, BX2_fewest_113, BX2_fewest_84, BX2_fewest_75, rmX2_fewest, x15, q_cls_of x15, q_cls_of hr.1, hr.1, q_R0_same]
            rw [x_unp hk hx2 huk hjp]
            refine p8_at y16 (by decide) ?_
            simp only [o_no, o_cut, o_ic, o_lc, o_str, o_il, o_ll, o_al, o_is, o_as, o_inc, o_iadd, o_isub, o_imul, o_iand, o_ior, o_ishl, o_ishr, o_iushr, o_idiv, o_irem, o_ladd, o_lmul, o_land, o_lor, o_lrem, o_lshl, o_lshr, o_lcmp, o_i2l, o_l2i, o_dup, o_dup2, o_ifeq, o_ifne, o_iflt, o_ifge, o_ifgt, o_ifle, o_iceq, o_icne, o_iclt, o_icge, o_icgt, o_icle, o_sw, o_iret, o_zret, o_vret, o_getf, o_putf, o_putz, o_putr, o_iald, o_zald, o_iast, o_zast, o_alen, o_aald, o_aast, o_obj_e, o_mmax_e, o_mmin_e, o_slen, o_schar, o_call_0, o_call_1, o_call_2, o_call_3, o_call_4, o_call_5, o_call_6, o_call_7, o_callV_0, o_callV_1, o_callV_2, o_callV_3, o_callV_4, o_callV_5, o_callV_6, q_cn_0, q_cn_i, q_cn_r, q_cn_a, q_cn_l, q_cat_eq, q_nl_none, q_nl_sn, q_nl_i, q_nl_r, q_nl_a, q_vp_0, q_vp_1, q_vp_2, q_vp_3, q_vp_4, q_vp_5, q_vp_6, q_vp_7, q_vp_8, List.getElem?_cons_zero, List.getElem?_cons_succ, List.getElem?_nil, List.set_cons_zero, List.set_cons_succ, List.set_nil, Option.toList_some, Option.toList_none, List.cons_append, List.nil_append, Nat.reduceAdd, Nat.reduceSub, Nat.reduceLeDiff, Nat.add_zero, Nat.zero_add, Nat.reduceLT, Nat.zero_le, true_and, and_true, Value.category, true_or, or_true, q_z10, q_z01, Int32.reduceLT, Int32.reduceLE, Int32.reduceToNatClampNeg, not_true_eq_false, not_false_eq_true, false_implies, true_implies, implies_true, BX2_fewest_7, BX2_fewest_5, BX2_fewest_0, BX2_fewest_32, BX2_fewest_18, BX2_fewest_10, BX2_fewest_119, BX2_fewest_63, BX2_fewest_55, BX2_fewest_46, BX2_fewest_113, BX2_fewest_84, BX2_fewest_75, rmX2_fewest, x15, q_cls_of x15, q_cls_of hr.1, hr.1, q_R0_same]
            rw [q_at_n (by omega) (by decide), hf2.2.2.1 kk hkQ2, nI_1]
            refine p2_reach x15 y16 y17 hk hf2 (by omega) hi2.1 hi2.2.2.1 (r_Ult hk _ _) (fun hn => ?_) (fun hv => ?_) (fun hn m3 hb3 hf3 => ?_)
            · obtain ⟨n1, n2, n3⟩ := b_new hk hi2 hkQ2 hjp hn
              exact ⟨n1.symm, by omega⟩
            · simp only [o_no, o_cut, o_ic, o_lc, o_str, o_il, o_ll, o_al, o_is, o_as, o_inc, o_iadd, o_isub, o_imul, o_iand, o_ior, o_ishl, o_ishr, o_iushr, o_idiv, o_irem, o_ladd, o_lmul, o_land, o_lor, o_lrem, o_lshl, o_lshr, o_lcmp, o_i2l, o_l2i, o_dup, o_dup2, o_ifeq, o_ifne, o_iflt, o_ifge, o_ifgt, o_ifle, o_iceq, o_icne, o_iclt, o_icge, o_icgt, o_icle, o_sw, o_iret, o_zret, o_vret, o_getf, o_putf, o_putz, o_putr, o_iald, o_zald, o_iast, o_zast, o_alen, o_aald, o_aast, o_obj_e, o_mmax_e, o_mmin_e, o_slen, o_schar, o_call_0, o_call_1, o_call_2, o_call_3, o_call_4, o_call_5, o_call_6, o_call_7, o_callV_0, o_callV_1, o_callV_2, o_callV_3, o_callV_4, o_callV_5, o_callV_6, q_cn_0, q_cn_i, q_cn_r, q_cn_a, q_cn_l, q_cat_eq, q_nl_none, q_nl_sn, q_nl_i, q_nl_r, q_nl_a, q_vp_0, q_vp_1, q_vp_2, q_vp_3, q_vp_4, q_vp_5, q_vp_6, q_vp_7, q_vp_8, List.getElem?_cons_zero, List.getElem?_cons_succ, List.getElem?_nil, List.set_cons_zero, List.set_cons_succ, List.set_nil, Option.toList_some, Option.toList_none, List.cons_append, List.nil_append, Nat.reduceAdd, Nat.reduceSub, Nat.reduceLeDiff, Nat.add_zero, Nat.zero_add, Nat.reduceLT, Nat.zero_le, true_and, and_true, Value.category, true_or, or_true, q_z10, q_z01, Int32.reduceLT, Int32.reduceLE, Int32.reduceToNatClampNeg, not_true_eq_false, not_false_eq_true, false_implies, true_implies, implies_true, BX2_fewest_7, BX2_fewest_5, BX2_fewest_0, BX2_fewest_32, BX2_fewest_18, BX2_fewest_10, BX2_fewest_119, BX2_fewest_63, BX2_fewest_55, BX2_fewest_46, BX2_fewest_113, BX2_fewest_84, BX2_fewest_75, rmX2_fewest, x15, q_cls_of x15, q_cls_of hr.1, hr.1, q_R0_same]
              rw [nI_1]
              refine ihe (j + 1) u Q m2 (by omega) hb2 hf2 hi2 hkQ2 (fun j' hj' => ?_)
              rcases Nat.lt_or_ge j' j with z | z
              · exact hd2 j' z
              · obtain rfl : j' = j := by omega
                exact hv
            · obtain ⟨n1, n2, n3⟩ := b_new hk hi2 hkQ2 hjp hn
              have ek : q_uf u Q (r_U k (u kk) j) kk = u kk := if_neg (by omega)
              have := ihe (j + 1) _ (Q + 1) m3 (by omega) (hb2.tr hb3) hf3 n3 (by omega) (fun j' hj' => ?_)
              · rw [ek] at this
                simp only [o_no, o_cut, o_ic, o_lc, o_str, o_il, o_ll, o_al, o_is, o_as, o_inc, o_iadd, o_isub, o_imul, o_iand, o_ior, o_ishl, o_ishr, o_iushr, o_idiv, o_irem, o_ladd, o_lmul, o_land, o_lor, o_lrem, o_lshl, o_lshr, o_lcmp, o_i2l, o_l2i, o_dup, o_dup2, o_ifeq, o_ifne, o_iflt, o_ifge, o_ifgt, o_ifle, o_iceq, o_icne, o_iclt, o_icge, o_icgt, o_icle, o_sw, o_iret, o_zret, o_vret, o_getf, o_putf, o_putz, o_putr, o_iald, o_zald, o_iast, o_zast, o_alen, o_aald, o_aast, o_obj_e, o_mmax_e, o_mmin_e, o_slen, o_schar, o_call_0, o_call_1, o_call_2, o_call_3, o_call_4, o_call_5, o_call_6, o_call_7, o_callV_0, o_callV_1, o_callV_2, o_callV_3, o_callV_4, o_callV_5, o_callV_6, q_cn_0, q_cn_i, q_cn_r, q_cn_a, q_cn_l, q_cat_eq, q_nl_none, q_nl_sn, q_nl_i, q_nl_r, q_nl_a, q_vp_0, q_vp_1, q_vp_2, q_vp_3, q_vp_4, q_vp_5, q_vp_6, q_vp_7, q_vp_8, List.getElem?_cons_zero, List.getElem?_cons_succ, List.getElem?_nil, List.set_cons_zero, List.set_cons_succ, List.set_nil, Option.toList_some, Option.toList_none, List.cons_append, List.nil_append, Nat.reduceAdd, Nat.reduceSub, Nat.reduceLeDiff, Nat.add_zero, Nat.zero_add, Nat.reduceLT, Nat.zero_le, true_and, and_true, Value.category, true_or, or_true, q_z10, q_z01, Int32.reduceLT, Int32.reduceLE, Int32.reduceToNatClampNeg, not_true_eq_false, not_false_eq_true, false_implies, true_implies, implies_true, BX2_fewest_7, BX2_fewest_5, BX2_fewest_0, BX2_fewest_32, BX2_fewest_18, BX2_fewest_10, BX2_fewest_119, BX2_fewest_63, BX2_fewest_55, BX2_fewest_46, BX2_fewest_113, BX2_fewest_84, BX2_fewest_75, rmX2_fewest, x15, q_cls_of x15, q_cls_of hr.1, hr.1, q_R0_same]
                rw [nI_1]
                exact this
              · rw [ek]
                rcases Nat.lt_or_ge j' j with z | z
                · obtain ⟨i', hi', he'⟩ := hd2 j' z
                  exact ⟨i', by omega, by rw [show q_uf u Q (r_U k (u kk) j) i' = u i' from if_neg (by omega)]; exact he'⟩
                · obtain rfl : j' = j := by omega
                  exact ⟨Q, by omega, if_pos rfl⟩
        refine uX2_fewest_46 ?_
        simp only [o_no, o_cut, o_ic, o_lc, o_str, o_il, o_ll, o_al, o_is, o_as, o_inc, o_iadd, o_isub, o_imul, o_iand, o_ior, o_ishl, o_ishr, o_iushr, o_idiv, o_irem, o_ladd, o_lmul, o_land, o_lor, o_lrem, o_lshl, o_lshr, o_lcmp, o_i2l, o_l2i, o_dup, o_dup2, o_ifeq, o_ifne, o_iflt, o_ifge, o_ifgt, o_ifle, o_iceq, o_icne, o_iclt, o_icge, o_icgt, o_icle, o_sw, o_iret, o_zret, o_vret, o_getf, o_putf, o_putz, o_putr, o_iald, o_zald, o_iast, o_zast, o_alen, o_aald, o_aast, o_obj_e, o_mmax_e, o_mmin_e, o_slen, o_schar, o_call_0, o_call_1, o_call_2, o_call_3, o_call_4, o_call_5, o_call_6, o_call_7, o_callV_0, o_callV_1, o_callV_2, o_callV_3, o_callV_4, o_callV_5, o_callV_6, q_cn_0, q_cn_i, q_cn_r, q_cn_a, q_cn_l, q_cat_eq, q_nl_none, q_nl_sn, q_nl_i, q_nl_r, q_nl_a, q_vp_0, q_vp_1, q_vp_2, q_vp_3, q_vp_4, q_vp_5, q_vp_6, q_vp_7, q_vp_8, List.getElem?_cons_zero, List.getElem?_cons_succ, List.getElem?_nil, List.set_cons_zero, List.set_cons_succ, List.set_nil, Option.toList_some, Option.toList_none, List.cons_append, List.nil_append, Nat.reduceAdd, Nat.reduceSub, Nat.reduceLeDiff, Nat.add_zero, Nat.zero_add, Nat.reduceLT, Nat.zero_le, true_and, and_true, Value.category, true_or, or_true, q_z10, q_z01, Int32.reduceLT, Int32.reduceLE, Int32.reduceToNatClampNeg, not_true_eq_false, not_false_eq_true, false_implies, true_implies, implies_true, BX2_fewest_7, BX2_fewest_5, BX2_fewest_0, BX2_fewest_32, BX2_fewest_18, BX2_fewest_10, BX2_fewest_119, BX2_fewest_63, BX2_fewest_55, BX2_fewest_46, BX2_fewest_113, BX2_fewest_84, BX2_fewest_75, rmX2_fewest, x15, q_cls_of x15, q_cls_of hr.1, hr.1, q_R0_same, y17]
        rw [hf.1, show (1728 : Int32) = nI 1728 from rfl, nI_clamp (by omega), hf.2.1 kk q]
        refine ⟨fun z => absurd z (nI_ge q (by omega)), fun _ => ⟨fun z => absurd z (nI_ge (by omega) (by decide)), fun _ => ⟨vp_in_nI (by omega) (by decide), ?_⟩⟩⟩
        have := inner (r_pu k) 0 u Q m1 (by omega) hb hf hi q (fun j' hj' => absurd hj' (Nat.not_lt_zero _))
        exact this
  have clr : ∀ d n (m1 : q_Mm), n + d = 1728 → q_bt3 15 16 17 m m1 → (∀ j, j < n → m1 16 j = -1) → q_WP TX2_fewest 10 [some (.ref 15), some (.ref rb), some (.int (nI s)), some (.int (nI w)), some (.int (nI n)), none, none] [] sh m1 (q_R0 sh rmX2_fewest R) := by
    intro d
    induction d with
    | zero =>
      intro n m1 hn hb h1
      obtain rfl : n = 1728 := by omega
      refine uX2_fewest_10 ?_
      simp only [o_no, o_cut, o_ic, o_lc, o_str, o_il, o_ll, o_al, o_is, o_as, o_inc, o_iadd, o_isub, o_imul, o_iand, o_ior, o_ishl, o_ishr, o_iushr, o_idiv, o_irem, o_ladd, o_lmul, o_land, o_lor, o_lrem, o_lshl, o_lshr, o_lcmp, o_i2l, o_l2i, o_dup, o_dup2, o_ifeq, o_ifne, o_iflt, o_ifge, o_ifgt, o_ifle, o_iceq, o_icne, o_iclt, o_icge, o_icgt, o_icle, o_sw, o_iret, o_zret, o_vret, o_getf, o_putf, o_putz, o_putr, o_iald, o_zald, o_iast, o_zast, o_alen, o_aald, o_aast, o_obj_e, o_mmax_e, o_mmin_e, o_slen, o_schar, o_call_0, o_call_1, o_call_2, o_call_3, o_call_4, o_call_5, o_call_6, o_call_7, o_callV_0, o_callV_1, o_callV_2, o_callV_3, o_callV_4, o_callV_5, o_callV_6, q_cn_0, q_cn_i, q_cn_r, q_cn_a, q_cn_l, q_cat_eq, q_nl_none, q_nl_sn, q_nl_i, q_nl_r, q_nl_a, q_vp_0, q_vp_1, q_vp_2, q_vp_3, q_vp_4, q_vp_5, q_vp_6, q_vp_7, q_vp_8, List.getElem?_cons_zero, List.getElem?_cons_succ, List.getElem?_nil, List.set_cons_zero, List.set_cons_succ, List.set_nil, Option.toList_some, Option.toList_none, List.cons_append, List.nil_append, Nat.reduceAdd, Nat.reduceSub, Nat.reduceLeDiff, Nat.add_zero, Nat.zero_add, Nat.reduceLT, Nat.zero_le, true_and, and_true, Value.category, true_or, or_true, q_z10, q_z01, Int32.reduceLT, Int32.reduceLE, Int32.reduceToNatClampNeg, not_true_eq_false, not_false_eq_true, false_implies, true_implies, implies_true, BX2_fewest_7, BX2_fewest_5, BX2_fewest_0, BX2_fewest_32, BX2_fewest_18, BX2_fewest_10, BX2_fewest_119, BX2_fewest_63, BX2_fewest_55, BX2_fewest_46, BX2_fewest_113, BX2_fewest_84, BX2_fewest_75, rmX2_fewest, x15, q_cls_of x15, q_cls_of hr.1, hr.1, q_R0_same]
      refine ⟨fun _ => ?_, fun q => absurd (by decide) q⟩
      have f0 : x_far (q_up m1 15 2 0) k w (fun _ => w) 0 := ⟨by rw [q_up_app, if_pos ⟨rfl, rfl⟩]; rfl, fun i hi => absurd hi (Nat.not_lt_zero _), fun i hi => absurd hi (Nat.not_lt_zero _), fun s hs _ => by rw [q_up_o (by decide)]; exact h1 s (by omega)⟩
      have hw0 : d_fin k w w := ⟨0, rfl⟩
      refine p2_reach (u := fun _ => w) (Q := 0) (d := 0) x15 y16 y17 hk f0 (by decide) (fun i hi => absurd hi (Nat.not_lt_zero _)) (fun i hi => absurd hi (Nat.not_lt_zero _)) hw (fun _ => ⟨d_D_w.symm, by decide⟩) (fun ⟨i, hi, _⟩ => absurd hi (Nat.not_lt_zero _)) (fun _ m3 hb3 hf3 => ?_)
      simp only [o_no, o_cut, o_ic, o_lc, o_str, o_il, o_ll, o_al, o_is, o_as, o_inc, o_iadd, o_isub, o_imul, o_iand, o_ior, o_ishl, o_ishr, o_iushr, o_idiv, o_irem, o_ladd, o_lmul, o_land, o_lor, o_lrem, o_lshl, o_lshr, o_lcmp, o_i2l, o_l2i, o_dup, o_dup2, o_ifeq, o_ifne, o_iflt, o_ifge, o_ifgt, o_ifle, o_iceq, o_icne, o_iclt, o_icge, o_icgt, o_icle, o_sw, o_iret, o_zret, o_vret, o_getf, o_putf, o_putz, o_putr, o_iald, o_zald, o_iast, o_zast, o_alen, o_aald, o_aast, o_obj_e, o_mmax_e, o_mmin_e, o_slen, o_schar, o_call_0, o_call_1, o_call_2, o_call_3, o_call_4, o_call_5, o_call_6, o_call_7, o_callV_0, o_callV_1, o_callV_2, o_callV_3, o_callV_4, o_callV_5, o_callV_6, q_cn_0, q_cn_i, q_cn_r, q_cn_a, q_cn_l, q_cat_eq, q_nl_none, q_nl_sn, q_nl_i, q_nl_r, q_nl_a, q_vp_0, q_vp_1, q_vp_2, q_vp_3, q_vp_4, q_vp_5, q_vp_6, q_vp_7, q_vp_8, List.getElem?_cons_zero, List.getElem?_cons_succ, List.getElem?_nil, List.set_cons_zero, List.set_cons_succ, List.set_nil, Option.toList_some, Option.toList_none, List.cons_append, List.nil_append, Nat.reduceAdd, Nat.reduceSub, Nat.reduceLeDiff, Nat.add_zero, Nat.zero_add, Nat.reduceLT, Nat.zero_le, true_and, and_true, Value.category, true_or, or_true, q_z10, q_z01, Int32.reduceLT, Int32.reduceLE, Int32.reduceToNatClampNeg, not_true_eq_false, not_false_eq_true, false_implies, true_implies, implies_true, BX2_fewest_7, BX2_fewest_5, BX2_fewest_0, BX2_fewest_32, BX2_fewest_18, BX2_fewest_10, BX2_fewest_119, BX2_fewest_63, BX2_fewest_55, BX2_fewest_46, BX2_fewest_113, BX2_fewest_84, BX2_fewest_75, rmX2_fewest, x15, q_cls_of x15, q_cls_of hr.1, hr.1, q_R0_same]
      have hb4 : q_bt3 15 16 17 m m3 := hb.tr ((show q_bt3 15 16 17 m1 (q_up m1 15 2 0) from fun a g1 _ _ => q_up_o g1).tr hb3)
      have eu : ∀ i, q_uf (fun _ => w) 0 w i = w := fun i => by unfold q_uf; split <;> rfl
      have := outer (r_S k) 0 _ 1 m3 none none (by omega) hb4 hf3 ⟨fun i _ => by rw [eu]; exact hw, fun i j hij hj => by omega, fun i _ => by rw [eu]; exact hw0, fun i j _ _ => by rw [eu, eu]; exact Nat.le_refl _, fun i j hi => absurd hi (Nat.not_lt_zero _), ⟨0, by decide, eu 0⟩, fun i _ _ => by rw [eu, eu]; omega, by decide⟩
      exact this
    | succ d ih =>
      intro n m1 hn hb h1
      refine uX2_fewest_10 ?_
      simp only [o_no, o_cut, o_ic, o_lc, o_str, o_il, o_ll, o_al, o_is, o_as, o_inc, o_iadd, o_isub, o_imul, o_iand, o_ior, o_ishl, o_ishr, o_iushr, o_idiv, o_irem, o_ladd, o_lmul, o_land, o_lor, o_lrem, o_lshl, o_lshr, o_lcmp, o_i2l, o_l2i, o_dup, o_dup2, o_ifeq, o_ifne, o_iflt, o_ifge, o_ifgt, o_ifle, o_iceq, o_icne, o_iclt, o_icge, o_icgt, o_icle, o_sw, o_iret, o_zret, o_vret, o_getf, o_putf, o_putz, o_putr, o_iald, o_zald, o_iast, o_zast, o_alen, o_aald, o_aast, o_obj_e, o_mmax_e, o_mmin_e, o_slen, o_schar, o_call_0, o_call_1, o_call_2, o_call_3, o_call_4, o_call_5, o_call_6, o_call_7, o_callV_0, o_callV_1, o_callV_2, o_callV_3, o_callV_4, o_callV_5, o_callV_6, q_cn_0, q_cn_i, q_cn_r, q_cn_a, q_cn_l, q_cat_eq, q_nl_none, q_nl_sn, q_nl_i, q_nl_r, q_nl_a, q_vp_0, q_vp_1, q_vp_2, q_vp_3, q_vp_4, q_vp_5, q_vp_6, q_vp_7, q_vp_8, List.getElem?_cons_zero, List.getElem?_cons_succ, List.getElem?_nil, List.set_cons_zero, List.set_cons_succ, List.set_nil, Option.toList_some, Option.toList_none, List.cons_append, List.nil_append, Nat.reduceAdd, Nat.reduceSub, Nat.reduceLeDiff, Nat.add_zero, Nat.zero_add, Nat.reduceLT, Nat.zero_le, true_and, and_true, Value.category, true_or, or_true, q_z10, q_z01, Int32.reduceLT, Int32.reduceLE, Int32.reduceToNatClampNeg, not_true_eq_false, not_false_eq_true, false_implies, true_implies, implies_true, BX2_fewest_7, BX2_fewest_5, BX2_fewest_0, BX2_fewest_32, BX2_fewest_18, BX2_fewest_10, BX2_fewest_119, BX2_fewest_63, BX2_fewest_55, BX2_fewest_46, BX2_fewest_113, BX2_fewest_84, BX2_fewest_75, rmX2_fewest, x15, q_cls_of x15, q_cls_of hr.1, hr.1, q_R0_same, y16]
      refine ⟨fun y => ?_, fun _ => ?_⟩
      · rw [show (1728 : Int32) = nI 1728 from rfl] at y; exact absurd y (nI_ge (by omega) (by omega))
      · rw [nI_clamp (by omega), nI_1]
        refine ⟨vp_in_nI (by omega) (by decide), ih (n + 1) _ (by omega) (hb.tr (fun a _ g2 _ => q_up_o g2)) (fun j hj => ?_)⟩
        rw [q_up_app]
        by_cases y : j = n
        · rw [if_pos ⟨rfl, y⟩]
        · rw [if_neg (fun q => y q.2)]; exact h1 j (by omega)
  have hne : ¬ nI w = -1 := fun y => by
    have := congrArg Int32.toInt y
    rw [nI_toInt (by omega), show (-1 : Int32).toInt = -1 from by decide] at this
    omega
  exact ⟨fun _ => clr 1728 0 m (by decide) q_bt3.rf (fun j hj => absurd hj (Nat.not_lt_zero _)), fun y => absurd y hne⟩
end BG
