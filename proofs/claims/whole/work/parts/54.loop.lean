/-! The law, from its entry to its end. -/
theorem L_end {Ln i : Nat} (hL : Ln ≤ 320) (hi : i ≤ 2 ^ 20) : nI Ln - 5 < nI i ↔ ¬ i + 4 < Ln := by
  rw [show (5 : Int32) = nI 5 from rfl, Int32.lt_iff_toInt_lt, pk_sub_toInt (by omega) (by decide), nI_toInt (by omega)]
  omega
section LP
variable {Ln : Nat} {xs : Nat → Int32} {RR : q_KR}
theorem L_loop (hL : Ln ≤ 320) : ∀ (n i T : Nat) (sh : q_Sh) (m : q_Mm), Ln ≤ i + 5 * n → i ≤ 400 → T + 999 * n < 2 ^ 26 → IV sh m T → q_WP (TL_law Ln xs) 18 (LL1 i) [] sh m RR := by
  intro n
  induction n with
  | zero =>
    intro i T sh m h1 h2 h3 h
    refine uL_law_18 ?_
    unfold LL1
    simp only [o_no, o_cut, o_ic, o_lc, o_str, o_il, o_ll, o_al, o_is, o_as, o_inc, o_iadd, o_isub, o_imul, o_iand, o_ior, o_ishl, o_ishr, o_iushr, o_idiv, o_irem, o_ladd, o_lmul, o_land, o_lor, o_lrem, o_lshl, o_lshr, o_lcmp, o_i2l, o_l2i, o_dup, o_dup2, o_ifeq, o_ifne, o_iflt, o_ifge, o_ifgt, o_ifle, o_iceq, o_icne, o_iclt, o_icge, o_icgt, o_icle, o_sw, o_iret, o_zret, o_vret, o_getf, o_putf, o_putz, o_putr, o_iald, o_zald, o_iast, o_zast, o_alen, o_aald, o_aast, o_obj_e, o_mmax_e, o_mmin_e, o_gsc, o_gsf, o_sval, o_scod, o_salen, o_sbald, o_i2c, o_pop, o_nret, o_call_0, o_call_1, o_call_2, o_call_3, o_call_4, o_call_5, o_call_6, o_call_7, o_callV_0, o_callV_1, o_callV_2, o_callV_3, o_callV_4, o_callV_5, o_callV_6, o_callT_0, o_callT_1, q_cn_0, q_cn_i, q_cn_r, q_cn_a, q_cn_l, q_cat_eq, q_nl_none, q_nl_sn, q_nl_i, q_nl_r, q_nl_a, q_vp_0, q_vp_1, q_vp_2, q_vp_3, q_vp_4, q_vp_5, q_vp_6, q_vp_7, q_vp_8, List.getElem?_cons_zero, List.getElem?_cons_succ, List.getElem?_nil, List.set_cons_zero, List.set_cons_succ, List.set_nil, Option.toList_some, Option.toList_none, List.cons_append, List.nil_append, Nat.reduceAdd, Nat.reduceSub, Nat.reduceLeDiff, Nat.add_zero, Nat.zero_add, Nat.reduceLT, Nat.zero_le, true_and, and_true, Value.category, true_or, or_true, q_z10, q_z01, Int32.reduceLT, Int32.reduceLE, Int32.reduceToNatClampNeg, not_true_eq_false, not_false_eq_true, false_implies, true_implies, implies_true, BL_law_18, BL_law_1083, BL_law_26, o_sln, o_lret, o_sld, eq_self]
    exact fun q => absurd ((L_end hL (by omega)).mpr (by omega)) q
  | succ n ih =>
    intro i T sh m h1 h2 h3 h
    have hT : T < 2 ^ 26 := by omega
    refine uL_law_18 ?_
    have hN : i + 4 < Ln → ∀ sh2 m2, IV sh2 m2 (T + 999) → q_WP (TL_law Ln xs) 1077 (LL1 i) [] sh2 m2 RR := fun hi sh2 m2 h' => by
      have := ih (i + 5) (T + 999) sh2 m2 (by omega) (by omega) (by omega) h'
      refine uL_law_1077 ?_
      unfold LL1 at this ⊢
      simp only [o_no, o_cut, o_ic, o_lc, o_str, o_il, o_ll, o_al, o_is, o_as, o_inc, o_iadd, o_isub, o_imul, o_iand, o_ior, o_ishl, o_ishr, o_iushr, o_idiv, o_irem, o_ladd, o_lmul, o_land, o_lor, o_lrem, o_lshl, o_lshr, o_lcmp, o_i2l, o_l2i, o_dup, o_dup2, o_ifeq, o_ifne, o_iflt, o_ifge, o_ifgt, o_ifle, o_iceq, o_icne, o_iclt, o_icge, o_icgt, o_icle, o_sw, o_iret, o_zret, o_vret, o_getf, o_putf, o_putz, o_putr, o_iald, o_zald, o_iast, o_zast, o_alen, o_aald, o_aast, o_obj_e, o_mmax_e, o_mmin_e, o_gsc, o_gsf, o_sval, o_scod, o_salen, o_sbald, o_i2c, o_pop, o_nret, o_call_0, o_call_1, o_call_2, o_call_3, o_call_4, o_call_5, o_call_6, o_call_7, o_callV_0, o_callV_1, o_callV_2, o_callV_3, o_callV_4, o_callV_5, o_callV_6, o_callT_0, o_callT_1, q_cn_0, q_cn_i, q_cn_r, q_cn_a, q_cn_l, q_cat_eq, q_nl_none, q_nl_sn, q_nl_i, q_nl_r, q_nl_a, q_vp_0, q_vp_1, q_vp_2, q_vp_3, q_vp_4, q_vp_5, q_vp_6, q_vp_7, q_vp_8, List.getElem?_cons_zero, List.getElem?_cons_succ, List.getElem?_nil, List.set_cons_zero, List.set_cons_succ, List.set_nil, Option.toList_some, Option.toList_none, List.cons_append, List.nil_append, Nat.reduceAdd, Nat.reduceSub, Nat.reduceLeDiff, Nat.add_zero, Nat.zero_add, Nat.reduceLT, Nat.zero_le, true_and, and_true, Value.category, true_or, or_true, q_z10, q_z01, Int32.reduceLT, Int32.reduceLE, Int32.reduceToNatClampNeg, not_true_eq_false, not_false_eq_true, false_implies, true_implies, implies_true, BL_law_1077]
      rw [show nI i + 5 = nI (i + 5) from nI_add i 5]
      exact this
    have hv : i + 4 < Ln → vp_in (nI i) Ln = True := fun hi => eq_true (vp_in_nI (by omega) (by omega))
    have key : ∀ hi : i + 4 < Ln, o_sw 0 [(o_cut 164), (o_cut 227), (o_cut 240), (o_cut 253), (o_cut 276), (o_cut 309), (o_cut 342), (o_cut 375), (o_cut 398), (o_cut 421), (o_cut 454), (o_cut 477), (o_cut 500), (o_cut 543), (o_cut 576), (o_cut 629), (o_cut 682), (o_cut 725), (o_cut 768), (o_cut 781), (o_cut 840), (o_cut 873), (o_cut 896), (o_cut 949), (o_cut 972), (o_cut 985), (o_cut 1008), (o_cut 1031), (o_cut 1054)] (o_cut 1077) (LL1 i) [.int (xs (nI i).toNatClampNeg &&& 31)] sh m (fun pc L st sh m => q_WP (TL_law Ln xs) pc L st sh m RR) RR := fun hi => by
      have hN := hN hi
      generalize xs (nI i).toNatClampNeg &&& 31 = w
      exact ⟨fun _ => Lc_feed hi hL hT h hN, fun _ => ⟨fun _ => Lc_rock hi hL hT h hN, fun _ => ⟨fun _ => Lc_fault hi hL hT h hN, fun _ => ⟨fun _ => Lc_told hi hL hT h hN, fun _ => ⟨fun _ => Lc_turning hi hL hT h hN, fun _ => ⟨fun _ => Lc_place hi hL hT h hN, fun _ => ⟨fun _ => Lc_height hi hL hT h hN, fun _ => ⟨fun _ => Lc_stay hi hL hT h hN, fun _ => ⟨fun _ => Lc_go hi hL hT h hN, fun _ => ⟨fun _ => Lc_knock hi hL hT h hN, fun _ => ⟨fun _ => Lc_push hi hL hT h hN, fun _ => ⟨fun _ => Lc_drift hi hL hT h hN, fun _ => ⟨fun _ => Lc_next hi hL hT h hN, fun _ => ⟨fun _ => Lc_share hi hL hT h hN, fun _ => ⟨fun _ => Lc_stand hi hL hT h hN, fun _ => ⟨fun _ => Lc_way hi hL hT h hN, fun _ => ⟨fun _ => Lc_mail hi hL hT h hN, fun _ => ⟨fun _ => Lc_cross hi hL hT h hN, fun _ => ⟨fun _ => Lc_store hi hL hT h hN, fun _ => ⟨fun _ => Lc_see hi hL hT h hN, fun _ => ⟨fun _ => Lc_fits hi hL hT h hN, fun _ => ⟨fun _ => Lc_look hi hL hT h hN, fun _ => ⟨fun _ => Lc_mend hi hL hT h hN, fun _ => ⟨fun _ => Lc_write hi hL hT h hN, fun _ => ⟨fun _ => Lc_tear hi hL hT h hN, fun _ => ⟨fun _ => Lc_judge hi hL hT h hN, fun _ => ⟨fun _ => Lc_seed hi hL hT h hN, fun _ => ⟨fun _ => Lc_keep hi hL hT h hN, fun _ => ⟨fun _ => Lc_goBack hi hL hT h hN, fun _ => hN _ _ (h.mono (by omega))⟩⟩⟩⟩⟩⟩⟩⟩⟩⟩⟩⟩⟩⟩⟩⟩⟩⟩⟩⟩⟩⟩⟩⟩⟩⟩⟩⟩⟩
    unfold LL1 at key ⊢
    simp only [BL_law_18, BL_law_1083, BL_law_26, o_sln, o_lret, o_sld, o_il, o_al, o_ic, o_isub, o_icgt, o_iand, List.getElem?_cons_zero, List.getElem?_cons_succ, true_and, implies_true]
    intro q
    have hi : i + 4 < Ln := Classical.byContradiction (fun z => q ((L_end hL (by omega)).mpr z))
    rw [hv hi, true_and]
    exact key hi
/-- the first holding: nothing told, nothing read -/
theorem L_first {m : q_Mm} (hx : x_rock m 20 k_0) (h1 : m 1 1 = 0) (h3 : m 3 3 = -1) (h4 : ∀ e, m 4 e = 0) (h8 : ∀ e, m 8 e = 0) (h90 : m 9 0 = 0) (h95 : m 9 5 = 0) (h91 : m 9 1 = 1) (h10 : m 10 0 = 0) (h18 : m 18 1 = 0) (r0 : ∀ e, e ≠ 21 → e ≠ 22 → m 38 e = 0) (r1 : m 38 21 = -1) (r2 : m 38 22 = 1) (r3 : ∀ e, m 39 e = 0) (r4 : ∀ e, m 40 e = 0) : IV (n_L8 ++ n_L9 38) m 0 := by
  have e1 : s_L k_0 [] = [0] := rfl
  refine IV.mk (rb := 20) (sb := 29) (k := k_0) (f := (0, 0, 0, 0, 0)) (x := (fun _ => 0, 0)) (b := (fun _ => 0, 0)) (l := []) (z := -1) (g := fun _ => none) ⟨n_xs _, n_md (P := n_L8)⟩ ?_ ?_ ?_
  · refine ⟨hx, ⟨h4 0, h4 1, h4 2, h4 3, h4 4⟩, ⟨h1, fun j hj => absurd hj (Nat.not_lt_zero _)⟩, ⟨h18, fun j hj => absurd hj (Nat.not_lt_zero _)⟩, ⟨h90, ⟨by rw [e1]; exact h91, fun i v hv => ?_⟩, fun q => absurd h95 q⟩, h3, fun j hj => ⟨fun _ => h8 j, fun f' q => by cases q⟩⟩
    rw [e1] at hv
    match i, hv with
    | 0, hv => cases hv; exact h10
    | i + 1, hv => simp at hv
  · refine ⟨⟨r0 7 (by decide) (by decide), r0 8 (by decide) (by decide), r0 9 (by decide) (by decide), r0 10 (by decide) (by decide), ?_, fun z => absurd z (Nat.lt_irrefl 0), fun i j hi => absurd hi (Nat.not_lt_zero _), fun p i hp => absurd hp (Nat.not_lt_zero _), fun p hp => absurd hp (Nat.not_lt_zero _), fun q i hq => absurd hq (Nat.not_lt_zero _)⟩, ⟨fun i hi => ?_, r3 _, r3 _, r3 _, r3 _⟩, ⟨r0 16 (by decide) (by decide), fun j hj => absurd hj (Nat.not_lt_zero _)⟩, ⟨r0 32 (by decide) (by decide), fun j hj => absurd hj (Nat.not_lt_zero _)⟩, ⟨r0 28 (by decide) (by decide), fun i o h => by simp at h⟩, r1, fun j hj => ⟨fun _ => r4 j, fun f' q => by cases q⟩⟩
    · rw [show r_per k_0 = 1 by decide +kernel]; exact r2
    · show m 39 (0 + i) = nI (0 / r_wt k_0 i % r_N k_0 i)
      rw [Nat.zero_div, Nat.zero_mod]
      exact r3 _
  · exact ⟨k_0_ok.1, k_0_ok.2, ⟨(r_Sle k_0_ok.1).1, fun h => h, Nat.zero_lt_succ _, Nat.zero_le _, by decide⟩, ⟨Nat.zero_le _, fun j hj => absurd hj (Nat.not_lt_zero _)⟩, ⟨Nat.zero_le _, fun j hj => absurd hj (Nat.not_lt_zero _)⟩, ⟨Nat.zero_le _, fun o ho => absurd ho (by simp)⟩, fun j hj f' q => by cases q⟩
theorem L_start (hL : Ln ≤ 320) (m : q_Mm) : q_WP (TL_law Ln xs) 0 (q_lo 4 [.retAddr 4]) [] [] m RR := by
  refine uL_law_0 ?_
  unfold BL_law_0
  have al : ∀ n, 0 < n → ∀ y : Option Value, y = none ∨ y = some (.ref 0) → [some (.retAddr 4), y, none, none].all (q_vo n) = true := fun n hn y hy => by
    rcases hy with rfl | rfl
    · rfl
    · simp only [List.all_cons, List.all_nil, Bool.and_true, Bool.true_and, q_vo, q_vv, decide_eq_true_eq]; exact hn
  refine ⟨⟨rfl, rfl, rfl⟩, by decide, by decide, rfl, ?_⟩
  refine ⟨by decide, ⟨rfl, rfl, rfl⟩, rfl, by unfold q_cat; decide, by decide, by decide, ?_⟩
  refine p8_init (fun m1 hx h1 h3 h4 h8 h90 h95 h91 h10 h18 => ?_)
  refine ⟨True.intro, ?_⟩
  refine ⟨⟨rfl, rfl, al _ (by decide) _ (Or.inr rfl)⟩, Nat.le_of_ble_eq_true rfl, Nat.le_of_ble_eq_true rfl, rfl, ?_⟩
  refine ⟨by decide, ⟨rfl, rfl, al _ (by decide) _ (Or.inr rfl)⟩, rfl, by unfold q_cat; decide, Nat.le_of_ble_eq_true rfl, Nat.le_of_ble_eq_true rfl, ?_⟩
  refine p9_init (P := n_L8) rfl (fun e => ?_) (fun m2 o1 r0 r1 r2 r3 r4 _ => ?_)
  · show q_zr m1 n_L8.length n_L8.length e = 0
    rw [q_zr, if_pos rfl]
  refine ⟨True.intro, True.intro, ?_⟩
  have lo : ∀ a, a < 38 → m2 a = m1 a := fun a ha => (o1 a ha).trans (q_zr_o (Nat.ne_of_lt ha))
  refine L_loop hL 64 0 0 _ m2 (by omega) (by omega) (by decide) ?_
  refine L_first (x_rock_o hx (fun a q1 q2 => lo a (by omega))) ?_ ?_ (fun e => ?_) (fun e => ?_) ?_ ?_ ?_ ?_ ?_ r0 r1 r2 r3 r4 <;> (rw [lo _ (by decide)]; first | exact h1 | exact h3 | exact h4 e | exact h8 e | exact h90 | exact h95 | exact h91 | exact h10 | exact h18)
end LP
