/-! Mail. -/
theorem q_php : ∀ (n : Nat) (f : Nat → Nat), (∀ i, i ≤ n → f i < n) → ∃ i j, i < j ∧ j ≤ n ∧ f i = f j
  | 0, f, h => absurd (h 0 (Nat.le_refl _)) (Nat.not_lt_zero _)
  | n + 1, f, h => by
    by_cases e : ∃ i, i ≤ n ∧ f i = f (n + 1)
    · obtain ⟨i, hi, hf⟩ := e
      exact ⟨i, n + 1, by omega, Nat.le_refl _, hf⟩
    · have hv := h (n + 1) (Nat.le_refl _)
      obtain ⟨i, j, hij, hj, hf⟩ := q_php n (fun i => if f (n + 1) < f i then f i - 1 else f i) (fun i hi => by
        have h1 := h i (by omega)
        have h2 : f i ≠ f (n + 1) := fun z => e ⟨i, hi, z⟩
        show (if f (n + 1) < f i then f i - 1 else f i) < n
        split <;> omega)
      refine ⟨i, j, hij, by omega, ?_⟩
      have h2 : f i ≠ f (n + 1) := fun z => e ⟨i, by omega, z⟩
      have h3 : f j ≠ f (n + 1) := fun z => e ⟨j, by omega, z⟩
      have hf : (if f (n + 1) < f i then f i - 1 else f i) = (if f (n + 1) < f j then f j - 1 else f j) := hf
      split at hf <;> split at hf <;> omega
def r_sym (k : RK) : Prop := ∀ p q, f_bit (r_rd k p) q = f_bit (r_rd k q) p
def r_spr (k : RK) (A : Nat) : Nat → Nat
  | 0 => A
  | p + 1 => if f_bit A p = true then r_spr k A p ||| r_rd k p else r_spr k A p
def e_set (k : RK) (s p : Nat) : Nat → Nat
  | 0 => 2 ^ p &&& r_ls k s
  | n + 1 => r_spr k (e_set k s p n) (r_pl k) &&& r_ls k (r_ad k s (n + 1))
theorem f_bit_and (a b x : Nat) : f_bit (a &&& b) x = (f_bit a x && f_bit b x) := by rw [f_bit_tb, f_bit_tb, f_bit_tb, Nat.testBit_and]
theorem f_bit_or (a b x : Nat) : f_bit (a ||| b) x = (f_bit a x || f_bit b x) := by rw [f_bit_tb, f_bit_tb, f_bit_tb, Nat.testBit_or]
theorem f_bit_2p (p x : Nat) : f_bit (2 ^ p) x = decide (p = x) := by rw [f_bit_tb, Nat.testBit_two_pow]
theorem f_bit_0 (x : Nat) : f_bit 0 x = false := by rw [f_bit_tb, Nat.zero_testBit]
theorem f_bit_ext {a b : Nat} (h : ∀ x, f_bit a x = f_bit b x) : a = b := Nat.eq_of_testBit_eq (fun x => by rw [← f_bit_tb, ← f_bit_tb]; exact h x)
theorem f_bit_nz {a : Nat} : a ≠ 0 ↔ ∃ x, f_bit a x = true := by
  constructor
  · intro h
    by_cases e : ∃ x, f_bit a x = true
    · exact e
    · refine absurd (f_bit_ext (fun x => ?_)) h
      rw [f_bit_0]
      by_cases q : f_bit a x = true
      · exact absurd ⟨x, q⟩ e
      · exact Bool.not_eq_true _ ▸ q
  · rintro ⟨x, hx⟩ h
    rw [h, f_bit_0] at hx
    exact absurd hx (by decide)
theorem r_ls_bit (k : RK) (s x : Nat) : f_bit (r_ls k s) x = (decide (x < r_pl k) && r_lt k x s) := by
  rw [f_bit, r_ls, r_set_bit]
  by_cases h : x < r_pl k
  · cases r_lt k x s <;> simp [h]
  · simp [h]
theorem r_spr_bit (k : RK) (A x : Nat) : ∀ j, f_bit (r_spr k A j) x = true ↔ (f_bit A x = true ∨ ∃ p, p < j ∧ f_bit A p = true ∧ f_bit (r_rd k p) x = true)
  | 0 => ⟨Or.inl, fun h => h.elim id (fun ⟨p, hp, _⟩ => absurd hp (Nat.not_lt_zero _))⟩
  | j + 1 => by
    have ih := r_spr_bit k A x j
    rw [r_spr]
    by_cases c : f_bit A j = true
    · rw [if_pos c, f_bit_or, Bool.or_eq_true, ih]
      constructor
      · rintro ((h | ⟨p, h1, h2, h3⟩) | h)
        · exact Or.inl h
        · exact Or.inr ⟨p, by omega, h2, h3⟩
        · exact Or.inr ⟨j, by omega, c, h⟩
      · rintro (h | ⟨p, h1, h2, h3⟩)
        · exact Or.inl (Or.inl h)
        · rcases Nat.lt_or_ge p j with q | q
          · exact Or.inl (Or.inr ⟨p, q, h2, h3⟩)
          · rw [show p = j by omega] at h3; exact Or.inr h3
    · rw [if_neg c, ih]
      constructor
      · rintro (h | ⟨p, h1, h2, h3⟩)
        · exact Or.inl h
        · exact Or.inr ⟨p, by omega, h2, h3⟩
      · rintro (h | ⟨p, h1, h2, h3⟩)
        · exact Or.inl h
        · rcases Nat.lt_or_ge p j with q | q
          · exact Or.inr ⟨p, q, h2, h3⟩
          · rw [show p = j by omega] at h2; exact absurd h2 c
section ML
variable {k : RK} {s p : Nat}
theorem e_set_lt (hk : r_ok k) : ∀ n, e_set k s p n < 256
  | 0 => Nat.and_lt_two_pow (n := 8) _ (r_ls_lt hk _)
  | n + 1 => Nat.and_lt_two_pow (n := 8) _ (r_ls_lt hk _)
theorem e_set_in (hk : r_ok k) (hS : s < r_S k) {n x : Nat} (h : f_bit (e_set k s p n) x = true) : x < r_pl k ∧ r_lt k x (r_ad k s n) = true := by
  cases n with
  | zero =>
    rw [e_set, f_bit_and, r_ls_bit, Bool.and_eq_true, Bool.and_eq_true, decide_eq_true_iff] at h
    rw [r_ad0 hk hS]
    exact h.2
  | succ n =>
    rw [e_set, f_bit_and, r_ls_bit, Bool.and_eq_true, Bool.and_eq_true, decide_eq_true_iff] at h
    exact h.2
theorem e_set_up (hk : r_ok k) (hS : s < r_S k) {n x : Nat} : f_bit (e_set k s p (n + 1)) x = true ↔ (x < r_pl k ∧ r_lt k x (r_ad k s (n + 1)) = true) ∧ ∃ y, f_bit (e_set k s p n) y = true ∧ (x = y ∨ f_bit (r_rd k y) x = true) := by
  rw [e_set, f_bit_and, r_ls_bit, Bool.and_eq_true, Bool.and_eq_true, decide_eq_true_iff, r_spr_bit]
  constructor
  · rintro ⟨h | ⟨y, h1, h2, h3⟩, h4⟩
    · exact ⟨h4, x, h, Or.inl rfl⟩
    · exact ⟨h4, y, h2, Or.inr h3⟩
  · rintro ⟨h4, y, h2, h3⟩
    refine ⟨?_, h4⟩
    rcases h3 with h3 | h3
    · rw [h3]; exact Or.inl h2
    · exact Or.inr ⟨y, (e_set_in hk hS h2).1, h2, h3⟩
theorem e_path (hk : r_ok k) (hS : s < r_S k) : ∀ N x, f_bit (e_set k s p N) x = true → ∃ g : Nat → Nat, g N = x ∧ (∀ n, n ≤ N → f_bit (e_set k s p n) (g n) = true) ∧ ∀ n, n < N → (g (n + 1) = g n ∨ f_bit (r_rd k (g n)) (g (n + 1)) = true)
  | 0, x, h => ⟨fun _ => x, rfl, fun n hn => by rw [show n = 0 by omega]; exact h, fun n hn => absurd hn (Nat.not_lt_zero _)⟩
  | N + 1, x, h => by
    obtain ⟨-, y, hy, ha⟩ := (e_set_up hk hS).mp h
    obtain ⟨g, g1, g2, g3⟩ := e_path hk hS N y hy
    refine ⟨fun i => if i = N + 1 then x else g i, if_pos rfl, fun n hn => ?_, fun n hn => ?_⟩
    · by_cases c : n = N + 1
      · show f_bit _ (if n = N + 1 then x else g n) = true
        rw [if_pos c, c]; exact h
      · show f_bit _ (if n = N + 1 then x else g n) = true
        rw [if_neg c]; exact g2 n (by omega)
    · show (if n + 1 = N + 1 then x else g (n + 1)) = (if n = N + 1 then x else g n) ∨ f_bit (r_rd k (if n = N + 1 then x else g n)) (if n + 1 = N + 1 then x else g (n + 1)) = true
      rw [if_neg (show ¬ n = N + 1 by omega)]
      by_cases c : n = N
      · rw [if_pos (by omega), c, g1]; exact ha
      · rw [if_neg (by omega)]; exact g3 n (by omega)
theorem r_ad_mod (hk : r_ok k) (s n : Nat) : r_ad k s n = r_ad k s (n % r_per k) := by
  have : ∀ d r, r_ad k s (r + d * r_per k) = r_ad k s r := by
    intro d
    induction d with
    | zero => intro r; rw [Nat.zero_mul, Nat.add_zero]
    | succ d ih => intro r; rw [Nat.succ_mul, ← Nat.add_assoc, r_adper hk, ih]
  have h := this (n / r_per k) (n % r_per k)
  rw [Nat.mod_add_div' n (r_per k)] at h
  exact h
theorem e_short (hk : r_ok k) (hS : s < r_S k) {q : Nat} : ∀ N, f_bit (e_set k s p N) q = true → ∃ n, n < 8 * r_per k ∧ f_bit (e_set k s p n) q = true := by
  intro N
  induction N using Nat.strongRecOn with
  | _ N ih =>
    intro h
    rcases Nat.lt_or_ge N (8 * r_per k) with z | z
    · exact ⟨N, z, h⟩
    · obtain ⟨g, g1, g2, g3⟩ := e_path hk hS N q h
      have hper := r_perpos hk
      have h8 : r_pl k ≤ 8 := hk.2.1
      obtain ⟨i, j, hij, hj, hf⟩ := q_php (8 * r_per k) (fun n => g n * r_per k + n % r_per k) (fun n hn => by
        have h1 := (e_set_in hk hS (g2 n (by omega))).1
        have h2 := Nat.mod_lt n hper
        show g n * r_per k + n % r_per k < 8 * r_per k
        have h3 : (g n + 1) * r_per k ≤ 8 * r_per k := Nat.mul_le_mul_right _ (by omega)
        rw [Nat.add_mul, Nat.one_mul] at h3
        omega)
      have hm : i % r_per k = j % r_per k := by
        have e : ∀ n, (g n * r_per k + n % r_per k) % r_per k = n % r_per k := fun n => by rw [Nat.add_comm, Nat.add_mul_mod_self_right, Nat.mod_mod]
        rw [← e i, ← e j]
        exact congrArg (· % r_per k) hf
      have hg : g i = g j := by
        have hf : g i * r_per k + i % r_per k = g j * r_per k + j % r_per k := hf
        rw [hm] at hf
        exact Nat.eq_of_mul_eq_mul_right hper (Nat.add_right_cancel hf)
      have sh : ∀ d, j + d ≤ N → f_bit (e_set k s p (i + d)) (g (j + d)) = true := by
        intro d
        induction d with
        | zero =>
          intro _
          rw [Nat.add_zero, Nat.add_zero, ← hg]
          exact g2 i (by omega)
        | succ d ihd =>
          intro hd
          have h1 := ihd (by omega)
          have h2 := e_set_in hk hS (g2 (j + (d + 1)) hd)
          refine (e_set_up hk hS).mpr ⟨⟨h2.1, ?_⟩, g (j + d), h1, ?_⟩
          · show r_lt k (g (j + (d + 1))) (r_ad k s (i + d + 1)) = true
            rw [r_ad_mod hk s (i + d + 1), show (i + d + 1) % r_per k = (j + (d + 1)) % r_per k from by
              rw [Nat.add_assoc, Nat.add_mod, hm, ← Nat.add_mod], ← r_ad_mod hk]
            exact h2.2
          · have := g3 (j + d) (by omega)
            rw [Nat.add_assoc] at this
            exact this
      have := sh (N - j) (by omega)
      rw [show j + (N - j) = N by omega, g1] at this
      exact ih (i + (N - j)) (by omega) this
theorem e_zero {n : Nat} (h : e_set k s p n = 0) : ∀ d, e_set k s p (n + d) = 0
  | 0 => h
  | d + 1 => by
    have ih := e_zero h d
    rw [← Nat.add_assoc, e_set, ih]
    have : ∀ j, r_spr k 0 j = 0 := by
      intro j
      induction j with
      | zero => rfl
      | succ j ihj => rw [r_spr, f_bit_0, if_neg (by decide), ihj]
    rw [this, Nat.zero_and]
end ML
def v_mail (k : RK) (s p q : Nat) : Int32 := f_ne (f_ff (fun n => f_bit (e_set k s p n) q) (8 * r_per k) 0) (8 * r_per k)
noncomputable def a_mail (k : RK) (sh : Nat) (p q st : Int32) : Int32 := q_if (q_lt p (r_pl k) ∧ q_lt q (r_pl k)) (q_if (q_rg st 999999) (v_mail k (r_ad k sh (q_ix st)) (q_ix p) (q_ix q)) (-1000000002)) (-1000000001)
theorem nI_and (a b : Nat) (ha : a < 2 ^ 31) : nI a &&& nI b = nI (a &&& b) := by
  apply Int32.toBitVec_inj.mp
  show BitVec.ofNat 32 a &&& BitVec.ofNat 32 b = BitVec.ofNat 32 (a &&& b)
  rw [BitVec.ofNat_and]
section MAI
variable {m : q_Mm} {rb sb c s : Nat} {k : RK} {sh : q_Sh} {R : q_KR}
theorem f_bit1 (hs : s < 256) {p : Nat} (hp : p < 32) : q_bit (nI s) (nI p) = 1 ↔ f_bit s p = true := by
  rw [f_bit_n hs hp]; exact one_if
theorem r_spr_lt (hk : r_ok k) {A : Nat} (hA : A < 256) : ∀ j, r_spr k A j < 256
  | 0 => hA
  | j + 1 => by
    have ih := r_spr_lt hk hA j
    rw [r_spr]
    split
    · exact Nat.or_lt_two_pow (n := 8) ih (r_rd_lt hk j)
    · exact ih
theorem p5_spread {A : Nat} (x12 : sh[12]? = some (.inl (5, [some (.ref 13), some (.ref 14)]))) (hr : q_rk sh rb) (hk : r_ok k) (hx : x_rock m rb k) (hA : A < 256) (hR : R (some (.int (nI (r_spr k A (r_pl k))))) sh m) : wX5_spread [.ref 12, .ref rb, .int (nI A)] sh m R := by
  have h8 : r_pl k ≤ 8 := hk.2.1
  refine eX5_spread ?_
  simp only [o_no, o_cut, o_ic, o_lc, o_str, o_il, o_ll, o_al, o_is, o_as, o_inc, o_iadd, o_isub, o_imul, o_iand, o_ior, o_ishl, o_ishr, o_iushr, o_idiv, o_irem, o_ladd, o_lmul, o_land, o_lor, o_lrem, o_lshl, o_lshr, o_lcmp, o_i2l, o_l2i, o_dup, o_dup2, o_ifeq, o_ifne, o_iflt, o_ifge, o_ifgt, o_ifle, o_iceq, o_icne, o_iclt, o_icge, o_icgt, o_icle, o_sw, o_iret, o_zret, o_vret, o_getf, o_putf, o_putz, o_putr, o_iald, o_zald, o_iast, o_zast, o_alen, o_aald, o_aast, o_obj_e, o_mmax_e, o_mmin_e, o_gsc, o_gsf, o_sval, o_scod, o_salen, o_sbald, o_i2c, o_pop, o_nret, o_call_0, o_call_1, o_call_2, o_call_3, o_call_4, o_call_5, o_call_6, o_call_7, o_callV_0, o_callV_1, o_callV_2, o_callV_3, o_callV_4, o_callV_5, o_callV_6, o_callT_0, o_callT_1, q_cn_0, q_cn_i, q_cn_r, q_cn_a, q_cn_l, q_cat_eq, q_nl_none, q_nl_sn, q_nl_i, q_nl_r, q_nl_a, q_vp_0, q_vp_1, q_vp_2, q_vp_3, q_vp_4, q_vp_5, q_vp_6, q_vp_7, q_vp_8, List.getElem?_cons_zero, List.getElem?_cons_succ, List.getElem?_nil, List.set_cons_zero, List.set_cons_succ, List.set_nil, Option.toList_some, Option.toList_none, List.cons_append, List.nil_append, Nat.reduceAdd, Nat.reduceSub, Nat.reduceLeDiff, Nat.add_zero, Nat.zero_add, Nat.reduceLT, Nat.zero_le, true_and, and_true, Value.category, true_or, or_true, q_z10, q_z01, Int32.reduceLT, Int32.reduceLE, Int32.reduceToNatClampNeg, not_true_eq_false, not_false_eq_true, false_implies, true_implies, implies_true, BX5_spread_0, BX5_spread_39, BX5_spread_33, BX5_spread_24, BX5_spread_14, BX5_spread_5, rmX5_spread, x12, q_cls_of x12, q_cls_of hr.1, hr.1, q_R0_same]
  have loop : ∀ d j, j + d = r_pl k → q_WP TX5_spread 5 [some (.ref 12), some (.ref rb), some (.int (nI A)), some (.int (nI (r_spr k A j))), some (.int (nI j))] [] sh m (q_R0 sh rmX5_spread R) := by
    intro d
    induction d with
    | zero =>
      intro j hj
      obtain rfl : j = r_pl k := by omega
      refine uX5_spread_5 ?_
      simp only [o_no, o_cut, o_ic, o_lc, o_str, o_il, o_ll, o_al, o_is, o_as, o_inc, o_iadd, o_isub, o_imul, o_iand, o_ior, o_ishl, o_ishr, o_iushr, o_idiv, o_irem, o_ladd, o_lmul, o_land, o_lor, o_lrem, o_lshl, o_lshr, o_lcmp, o_i2l, o_l2i, o_dup, o_dup2, o_ifeq, o_ifne, o_iflt, o_ifge, o_ifgt, o_ifle, o_iceq, o_icne, o_iclt, o_icge, o_icgt, o_icle, o_sw, o_iret, o_zret, o_vret, o_getf, o_putf, o_putz, o_putr, o_iald, o_zald, o_iast, o_zast, o_alen, o_aald, o_aast, o_obj_e, o_mmax_e, o_mmin_e, o_gsc, o_gsf, o_sval, o_scod, o_salen, o_sbald, o_i2c, o_pop, o_nret, o_call_0, o_call_1, o_call_2, o_call_3, o_call_4, o_call_5, o_call_6, o_call_7, o_callV_0, o_callV_1, o_callV_2, o_callV_3, o_callV_4, o_callV_5, o_callV_6, o_callT_0, o_callT_1, q_cn_0, q_cn_i, q_cn_r, q_cn_a, q_cn_l, q_cat_eq, q_nl_none, q_nl_sn, q_nl_i, q_nl_r, q_nl_a, q_vp_0, q_vp_1, q_vp_2, q_vp_3, q_vp_4, q_vp_5, q_vp_6, q_vp_7, q_vp_8, List.getElem?_cons_zero, List.getElem?_cons_succ, List.getElem?_nil, List.set_cons_zero, List.set_cons_succ, List.set_nil, Option.toList_some, Option.toList_none, List.cons_append, List.nil_append, Nat.reduceAdd, Nat.reduceSub, Nat.reduceLeDiff, Nat.add_zero, Nat.zero_add, Nat.reduceLT, Nat.zero_le, true_and, and_true, Value.category, true_or, or_true, q_z10, q_z01, Int32.reduceLT, Int32.reduceLE, Int32.reduceToNatClampNeg, not_true_eq_false, not_false_eq_true, false_implies, true_implies, implies_true, BX5_spread_0, BX5_spread_39, BX5_spread_33, BX5_spread_24, BX5_spread_14, BX5_spread_5, rmX5_spread, x12, q_cls_of x12, q_cls_of hr.1, hr.1, q_R0_same]
      rw [hx.1.2.1]
      exact ⟨fun _ => hR, fun q => absurd (nI_le (by omega) (by omega)) q⟩
    | succ d ih =>
      intro j hj
      have nx := ih (j + 1) (by omega)
      rw [r_spr] at nx
      refine uX5_spread_5 ?_
      simp only [o_no, o_cut, o_ic, o_lc, o_str, o_il, o_ll, o_al, o_is, o_as, o_inc, o_iadd, o_isub, o_imul, o_iand, o_ior, o_ishl, o_ishr, o_iushr, o_idiv, o_irem, o_ladd, o_lmul, o_land, o_lor, o_lrem, o_lshl, o_lshr, o_lcmp, o_i2l, o_l2i, o_dup, o_dup2, o_ifeq, o_ifne, o_iflt, o_ifge, o_ifgt, o_ifle, o_iceq, o_icne, o_iclt, o_icge, o_icgt, o_icle, o_sw, o_iret, o_zret, o_vret, o_getf, o_putf, o_putz, o_putr, o_iald, o_zald, o_iast, o_zast, o_alen, o_aald, o_aast, o_obj_e, o_mmax_e, o_mmin_e, o_gsc, o_gsf, o_sval, o_scod, o_salen, o_sbald, o_i2c, o_pop, o_nret, o_call_0, o_call_1, o_call_2, o_call_3, o_call_4, o_call_5, o_call_6, o_call_7, o_callV_0, o_callV_1, o_callV_2, o_callV_3, o_callV_4, o_callV_5, o_callV_6, o_callT_0, o_callT_1, q_cn_0, q_cn_i, q_cn_r, q_cn_a, q_cn_l, q_cat_eq, q_nl_none, q_nl_sn, q_nl_i, q_nl_r, q_nl_a, q_vp_0, q_vp_1, q_vp_2, q_vp_3, q_vp_4, q_vp_5, q_vp_6, q_vp_7, q_vp_8, List.getElem?_cons_zero, List.getElem?_cons_succ, List.getElem?_nil, List.set_cons_zero, List.set_cons_succ, List.set_nil, Option.toList_some, Option.toList_none, List.cons_append, List.nil_append, Nat.reduceAdd, Nat.reduceSub, Nat.reduceLeDiff, Nat.add_zero, Nat.zero_add, Nat.reduceLT, Nat.zero_le, true_and, and_true, Value.category, true_or, or_true, q_z10, q_z01, Int32.reduceLT, Int32.reduceLE, Int32.reduceToNatClampNeg, not_true_eq_false, not_false_eq_true, false_implies, true_implies, implies_true, BX5_spread_0, BX5_spread_39, BX5_spread_33, BX5_spread_24, BX5_spread_14, BX5_spread_5, rmX5_spread, x12, q_cls_of x12, q_cls_of hr.1, hr.1, q_R0_same]
      rw [hx.1.2.1]
      refine ⟨fun q => absurd q (nI_ge (by omega) (by omega)), fun _ => ?_⟩
      refine p8_bit ?_
      simp only [o_no, o_cut, o_ic, o_lc, o_str, o_il, o_ll, o_al, o_is, o_as, o_inc, o_iadd, o_isub, o_imul, o_iand, o_ior, o_ishl, o_ishr, o_iushr, o_idiv, o_irem, o_ladd, o_lmul, o_land, o_lor, o_lrem, o_lshl, o_lshr, o_lcmp, o_i2l, o_l2i, o_dup, o_dup2, o_ifeq, o_ifne, o_iflt, o_ifge, o_ifgt, o_ifle, o_iceq, o_icne, o_iclt, o_icge, o_icgt, o_icle, o_sw, o_iret, o_zret, o_vret, o_getf, o_putf, o_putz, o_putr, o_iald, o_zald, o_iast, o_zast, o_alen, o_aald, o_aast, o_obj_e, o_mmax_e, o_mmin_e, o_gsc, o_gsf, o_sval, o_scod, o_salen, o_sbald, o_i2c, o_pop, o_nret, o_call_0, o_call_1, o_call_2, o_call_3, o_call_4, o_call_5, o_call_6, o_call_7, o_callV_0, o_callV_1, o_callV_2, o_callV_3, o_callV_4, o_callV_5, o_callV_6, o_callT_0, o_callT_1, q_cn_0, q_cn_i, q_cn_r, q_cn_a, q_cn_l, q_cat_eq, q_nl_none, q_nl_sn, q_nl_i, q_nl_r, q_nl_a, q_vp_0, q_vp_1, q_vp_2, q_vp_3, q_vp_4, q_vp_5, q_vp_6, q_vp_7, q_vp_8, List.getElem?_cons_zero, List.getElem?_cons_succ, List.getElem?_nil, List.set_cons_zero, List.set_cons_succ, List.set_nil, Option.toList_some, Option.toList_none, List.cons_append, List.nil_append, Nat.reduceAdd, Nat.reduceSub, Nat.reduceLeDiff, Nat.add_zero, Nat.zero_add, Nat.reduceLT, Nat.zero_le, true_and, and_true, Value.category, true_or, or_true, q_z10, q_z01, Int32.reduceLT, Int32.reduceLE, Int32.reduceToNatClampNeg, not_true_eq_false, not_false_eq_true, false_implies, true_implies, implies_true, BX5_spread_0, BX5_spread_39, BX5_spread_33, BX5_spread_24, BX5_spread_14, BX5_spread_5, rmX5_spread, x12, q_cls_of x12, q_cls_of hr.1, hr.1, q_R0_same]
      rw [nI_1, f_bit1 hA (by omega)]
      refine ⟨fun y => ?_, fun y => ?_⟩
      · rw [if_neg y] at nx; exact nx
      · rw [if_pos y, ← nI_or] at nx
        refine p4_road hr ?_
        simp only [o_no, o_cut, o_ic, o_lc, o_str, o_il, o_ll, o_al, o_is, o_as, o_inc, o_iadd, o_isub, o_imul, o_iand, o_ior, o_ishl, o_ishr, o_iushr, o_idiv, o_irem, o_ladd, o_lmul, o_land, o_lor, o_lrem, o_lshl, o_lshr, o_lcmp, o_i2l, o_l2i, o_dup, o_dup2, o_ifeq, o_ifne, o_iflt, o_ifge, o_ifgt, o_ifle, o_iceq, o_icne, o_iclt, o_icge, o_icgt, o_icle, o_sw, o_iret, o_zret, o_vret, o_getf, o_putf, o_putz, o_putr, o_iald, o_zald, o_iast, o_zast, o_alen, o_aald, o_aast, o_obj_e, o_mmax_e, o_mmin_e, o_gsc, o_gsf, o_sval, o_scod, o_salen, o_sbald, o_i2c, o_pop, o_nret, o_call_0, o_call_1, o_call_2, o_call_3, o_call_4, o_call_5, o_call_6, o_call_7, o_callV_0, o_callV_1, o_callV_2, o_callV_3, o_callV_4, o_callV_5, o_callV_6, o_callT_0, o_callT_1, q_cn_0, q_cn_i, q_cn_r, q_cn_a, q_cn_l, q_cat_eq, q_nl_none, q_nl_sn, q_nl_i, q_nl_r, q_nl_a, q_vp_0, q_vp_1, q_vp_2, q_vp_3, q_vp_4, q_vp_5, q_vp_6, q_vp_7, q_vp_8, List.getElem?_cons_zero, List.getElem?_cons_succ, List.getElem?_nil, List.set_cons_zero, List.set_cons_succ, List.set_nil, Option.toList_some, Option.toList_none, List.cons_append, List.nil_append, Nat.reduceAdd, Nat.reduceSub, Nat.reduceLeDiff, Nat.add_zero, Nat.zero_add, Nat.reduceLT, Nat.zero_le, true_and, and_true, Value.category, true_or, or_true, q_z10, q_z01, Int32.reduceLT, Int32.reduceLE, Int32.reduceToNatClampNeg, not_true_eq_false, not_false_eq_true, false_implies, true_implies, implies_true, BX5_spread_0, BX5_spread_39, BX5_spread_33, BX5_spread_24, BX5_spread_14, BX5_spread_5, rmX5_spread, x12, q_cls_of x12, q_cls_of hr.1, hr.1, q_R0_same]
        rw [xs_road hx.1 (by omega)]
        exact nx
  exact loop (r_pl k) 0 (by omega)
theorem p5_fewest {p q : Nat} (x12 : sh[12]? = some (.inl (5, [some (.ref 13), some (.ref 14)]))) (hr : q_rk sh rb) (hk : r_ok k) (hx : x_rock m rb k) (hS : s < r_S k) (hp : p < r_pl k) (hq : q < r_pl k) (hR : R (some (.int (v_mail k s p q))) sh m) : wX5_fewestLitSteps [.ref 12, .ref rb, .int (nI p), .int (nI q), .int (nI s)] sh m R := by
  have h8 : r_pl k ≤ 8 := hk.2.1
  have hper := r_perle hk
  have hper0 := r_perpos hk
  refine eX5_fewestLitSteps ?_
  simp only [o_no, o_cut, o_ic, o_lc, o_str, o_il, o_ll, o_al, o_is, o_as, o_inc, o_iadd, o_isub, o_imul, o_iand, o_ior, o_ishl, o_ishr, o_iushr, o_idiv, o_irem, o_ladd, o_lmul, o_land, o_lor, o_lrem, o_lshl, o_lshr, o_lcmp, o_i2l, o_l2i, o_dup, o_dup2, o_ifeq, o_ifne, o_iflt, o_ifge, o_ifgt, o_ifle, o_iceq, o_icne, o_iclt, o_icge, o_icgt, o_icle, o_sw, o_iret, o_zret, o_vret, o_getf, o_putf, o_putz, o_putr, o_iald, o_zald, o_iast, o_zast, o_alen, o_aald, o_aast, o_obj_e, o_mmax_e, o_mmin_e, o_gsc, o_gsf, o_sval, o_scod, o_salen, o_sbald, o_i2c, o_pop, o_nret, o_call_0, o_call_1, o_call_2, o_call_3, o_call_4, o_call_5, o_call_6, o_call_7, o_callV_0, o_callV_1, o_callV_2, o_callV_3, o_callV_4, o_callV_5, o_callV_6, o_callT_0, o_callT_1, q_cn_0, q_cn_i, q_cn_r, q_cn_a, q_cn_l, q_cat_eq, q_nl_none, q_nl_sn, q_nl_i, q_nl_r, q_nl_a, q_vp_0, q_vp_1, q_vp_2, q_vp_3, q_vp_4, q_vp_5, q_vp_6, q_vp_7, q_vp_8, List.getElem?_cons_zero, List.getElem?_cons_succ, List.getElem?_nil, List.set_cons_zero, List.set_cons_succ, List.set_nil, Option.toList_some, Option.toList_none, List.cons_append, List.nil_append, Nat.reduceAdd, Nat.reduceSub, Nat.reduceLeDiff, Nat.add_zero, Nat.zero_add, Nat.reduceLT, Nat.zero_le, true_and, and_true, Value.category, true_or, or_true, q_z10, q_z01, Int32.reduceLT, Int32.reduceLE, Int32.reduceToNatClampNeg, not_true_eq_false, not_false_eq_true, false_implies, true_implies, implies_true, BX5_fewestLitSteps_0, BX5_fewestLitSteps_79, BX5_fewestLitSteps_49, BX5_fewestLitSteps_46, BX5_fewestLitSteps_36, BX5_fewestLitSteps_31, BX5_fewestLitSteps_19, rmX5_fewestLitSteps, x12, q_cls_of x12, q_cls_of hr.1, hr.1, q_R0_same]
  refine p4_litSet hr ?_
  simp only [o_no, o_cut, o_ic, o_lc, o_str, o_il, o_ll, o_al, o_is, o_as, o_inc, o_iadd, o_isub, o_imul, o_iand, o_ior, o_ishl, o_ishr, o_iushr, o_idiv, o_irem, o_ladd, o_lmul, o_land, o_lor, o_lrem, o_lshl, o_lshr, o_lcmp, o_i2l, o_l2i, o_dup, o_dup2, o_ifeq, o_ifne, o_iflt, o_ifge, o_ifgt, o_ifle, o_iceq, o_icne, o_iclt, o_icge, o_icgt, o_icle, o_sw, o_iret, o_zret, o_vret, o_getf, o_putf, o_putz, o_putr, o_iald, o_zald, o_iast, o_zast, o_alen, o_aald, o_aast, o_obj_e, o_mmax_e, o_mmin_e, o_gsc, o_gsf, o_sval, o_scod, o_salen, o_sbald, o_i2c, o_pop, o_nret, o_call_0, o_call_1, o_call_2, o_call_3, o_call_4, o_call_5, o_call_6, o_call_7, o_callV_0, o_callV_1, o_callV_2, o_callV_3, o_callV_4, o_callV_5, o_callV_6, o_callT_0, o_callT_1, q_cn_0, q_cn_i, q_cn_r, q_cn_a, q_cn_l, q_cat_eq, q_nl_none, q_nl_sn, q_nl_i, q_nl_r, q_nl_a, q_vp_0, q_vp_1, q_vp_2, q_vp_3, q_vp_4, q_vp_5, q_vp_6, q_vp_7, q_vp_8, List.getElem?_cons_zero, List.getElem?_cons_succ, List.getElem?_nil, List.set_cons_zero, List.set_cons_succ, List.set_nil, Option.toList_some, Option.toList_none, List.cons_append, List.nil_append, Nat.reduceAdd, Nat.reduceSub, Nat.reduceLeDiff, Nat.add_zero, Nat.zero_add, Nat.reduceLT, Nat.zero_le, true_and, and_true, Value.category, true_or, or_true, q_z10, q_z01, Int32.reduceLT, Int32.reduceLE, Int32.reduceToNatClampNeg, not_true_eq_false, not_false_eq_true, false_implies, true_implies, implies_true, BX5_fewestLitSteps_0, BX5_fewestLitSteps_79, BX5_fewestLitSteps_49, BX5_fewestLitSteps_46, BX5_fewestLitSteps_36, BX5_fewestLitSteps_31, BX5_fewestLitSteps_19, rmX5_fewestLitSteps, x12, q_cls_of x12, q_cls_of hr.1, hr.1, q_R0_same]
  have h2p : 2 ^ p < 2 ^ 8 := Nat.pow_lt_pow_right (by decide) (by omega)
  rw [nI_shl (by omega), xs_lit hk hx hS, nI_and _ _ (by omega)]
  have loop : ∀ d j, j + d = 8 * r_per k → v_mail k s p q = f_ne (f_ff (fun n => f_bit (e_set k s p n) q) d j) (8 * r_per k) → q_WP TX5_fewestLitSteps 19 [some (.ref 12), some (.ref rb), some (.int (nI p)), some (.int (nI q)), some (.int (nI s)), some (.int (nI (r_ad k s j))), some (.int (nI (e_set k s p j))), some (.int (nI j))] [] sh m (q_R0 sh rmX5_fewestLitSteps R) := by
    intro d
    induction d with
    | zero =>
      intro j hj e
      rw [f_ff, f_ne, if_pos (by omega)] at e
      rw [e] at hR
      refine uX5_fewestLitSteps_19 ?_
      simp only [o_no, o_cut, o_ic, o_lc, o_str, o_il, o_ll, o_al, o_is, o_as, o_inc, o_iadd, o_isub, o_imul, o_iand, o_ior, o_ishl, o_ishr, o_iushr, o_idiv, o_irem, o_ladd, o_lmul, o_land, o_lor, o_lrem, o_lshl, o_lshr, o_lcmp, o_i2l, o_l2i, o_dup, o_dup2, o_ifeq, o_ifne, o_iflt, o_ifge, o_ifgt, o_ifle, o_iceq, o_icne, o_iclt, o_icge, o_icgt, o_icle, o_sw, o_iret, o_zret, o_vret, o_getf, o_putf, o_putz, o_putr, o_iald, o_zald, o_iast, o_zast, o_alen, o_aald, o_aast, o_obj_e, o_mmax_e, o_mmin_e, o_gsc, o_gsf, o_sval, o_scod, o_salen, o_sbald, o_i2c, o_pop, o_nret, o_call_0, o_call_1, o_call_2, o_call_3, o_call_4, o_call_5, o_call_6, o_call_7, o_callV_0, o_callV_1, o_callV_2, o_callV_3, o_callV_4, o_callV_5, o_callV_6, o_callT_0, o_callT_1, q_cn_0, q_cn_i, q_cn_r, q_cn_a, q_cn_l, q_cat_eq, q_nl_none, q_nl_sn, q_nl_i, q_nl_r, q_nl_a, q_vp_0, q_vp_1, q_vp_2, q_vp_3, q_vp_4, q_vp_5, q_vp_6, q_vp_7, q_vp_8, List.getElem?_cons_zero, List.getElem?_cons_succ, List.getElem?_nil, List.set_cons_zero, List.set_cons_succ, List.set_nil, Option.toList_some, Option.toList_none, List.cons_append, List.nil_append, Nat.reduceAdd, Nat.reduceSub, Nat.reduceLeDiff, Nat.add_zero, Nat.zero_add, Nat.reduceLT, Nat.zero_le, true_and, and_true, Value.category, true_or, or_true, q_z10, q_z01, Int32.reduceLT, Int32.reduceLE, Int32.reduceToNatClampNeg, not_true_eq_false, not_false_eq_true, false_implies, true_implies, implies_true, BX5_fewestLitSteps_0, BX5_fewestLitSteps_79, BX5_fewestLitSteps_49, BX5_fewestLitSteps_46, BX5_fewestLitSteps_36, BX5_fewestLitSteps_31, BX5_fewestLitSteps_19, rmX5_fewestLitSteps, x12, q_cls_of x12, q_cls_of hr.1, hr.1, q_R0_same]
      rw [hx.2.2.2.1, show (8 : Int32) = nI 8 from rfl, pk_mul]
      exact ⟨fun _ => hR, fun q => absurd (nI_le (by omega) (by omega)) q⟩
    | succ d ih =>
      intro j hj e
      have hE := e_set_lt (k := k) (s := s) (p := p) hk j
      refine uX5_fewestLitSteps_19 ?_
      simp only [o_no, o_cut, o_ic, o_lc, o_str, o_il, o_ll, o_al, o_is, o_as, o_inc, o_iadd, o_isub, o_imul, o_iand, o_ior, o_ishl, o_ishr, o_iushr, o_idiv, o_irem, o_ladd, o_lmul, o_land, o_lor, o_lrem, o_lshl, o_lshr, o_lcmp, o_i2l, o_l2i, o_dup, o_dup2, o_ifeq, o_ifne, o_iflt, o_ifge, o_ifgt, o_ifle, o_iceq, o_icne, o_iclt, o_icge, o_icgt, o_icle, o_sw, o_iret, o_zret, o_vret, o_getf, o_putf, o_putz, o_putr, o_iald, o_zald, o_iast, o_zast, o_alen, o_aald, o_aast, o_obj_e, o_mmax_e, o_mmin_e, o_gsc, o_gsf, o_sval, o_scod, o_salen, o_sbald, o_i2c, o_pop, o_nret, o_call_0, o_call_1, o_call_2, o_call_3, o_call_4, o_call_5, o_call_6, o_call_7, o_callV_0, o_callV_1, o_callV_2, o_callV_3, o_callV_4, o_callV_5, o_callV_6, o_callT_0, o_callT_1, q_cn_0, q_cn_i, q_cn_r, q_cn_a, q_cn_l, q_cat_eq, q_nl_none, q_nl_sn, q_nl_i, q_nl_r, q_nl_a, q_vp_0, q_vp_1, q_vp_2, q_vp_3, q_vp_4, q_vp_5, q_vp_6, q_vp_7, q_vp_8, List.getElem?_cons_zero, List.getElem?_cons_succ, List.getElem?_nil, List.set_cons_zero, List.set_cons_succ, List.set_nil, Option.toList_some, Option.toList_none, List.cons_append, List.nil_append, Nat.reduceAdd, Nat.reduceSub, Nat.reduceLeDiff, Nat.add_zero, Nat.zero_add, Nat.reduceLT, Nat.zero_le, true_and, and_true, Value.category, true_or, or_true, q_z10, q_z01, Int32.reduceLT, Int32.reduceLE, Int32.reduceToNatClampNeg, not_true_eq_false, not_false_eq_true, false_implies, true_implies, implies_true, BX5_fewestLitSteps_0, BX5_fewestLitSteps_79, BX5_fewestLitSteps_49, BX5_fewestLitSteps_46, BX5_fewestLitSteps_36, BX5_fewestLitSteps_31, BX5_fewestLitSteps_19, rmX5_fewestLitSteps, x12, q_cls_of x12, q_cls_of hr.1, hr.1, q_R0_same]
      rw [hx.2.2.2.1, show (8 : Int32) = nI 8 from rfl, pk_mul]
      refine ⟨fun q => absurd q (nI_ge (by omega) (by omega)), fun _ => ⟨fun y => ?_, fun y => ?_⟩⟩
      · have y : e_set k s p j = 0 := (nI_eq (b := 0) (by omega) (by decide)).mp y
        have : ∀ d, f_ff (fun n => f_bit (e_set k s p n) q) d j = j + d := by
          intro d
          have hle := f_ff_le (fun n => f_bit (e_set k s p n) q) d j
          rcases Nat.lt_or_ge (f_ff (fun n => f_bit (e_set k s p n) q) d j) (j + d) with z | z
          · have h1 := f_ff_yes d j z
            obtain ⟨i, hi⟩ : ∃ i, f_ff (fun n => f_bit (e_set k s p n) q) d j = j + i := ⟨_, (Nat.add_sub_cancel' hle.1).symm⟩
            rw [hi, e_zero y, f_bit_0] at h1
            exact absurd h1 (by decide)
          · omega
        rw [this, f_ne, if_pos (by omega)] at e
        rw [e] at hR
        exact hR
      · rw [f_ff] at e
        refine p8_bit ?_
        simp only [o_no, o_cut, o_ic, o_lc, o_str, o_il, o_ll, o_al, o_is, o_as, o_inc, o_iadd, o_isub, o_imul, o_iand, o_ior, o_ishl, o_ishr, o_iushr, o_idiv, o_irem, o_ladd, o_lmul, o_land, o_lor, o_lrem, o_lshl, o_lshr, o_lcmp, o_i2l, o_l2i, o_dup, o_dup2, o_ifeq, o_ifne, o_iflt, o_ifge, o_ifgt, o_ifle, o_iceq, o_icne, o_iclt, o_icge, o_icgt, o_icle, o_sw, o_iret, o_zret, o_vret, o_getf, o_putf, o_putz, o_putr, o_iald, o_zald, o_iast, o_zast, o_alen, o_aald, o_aast, o_obj_e, o_mmax_e, o_mmin_e, o_gsc, o_gsf, o_sval, o_scod, o_salen, o_sbald, o_i2c, o_pop, o_nret, o_call_0, o_call_1, o_call_2, o_call_3, o_call_4, o_call_5, o_call_6, o_call_7, o_callV_0, o_callV_1, o_callV_2, o_callV_3, o_callV_4, o_callV_5, o_callV_6, o_callT_0, o_callT_1, q_cn_0, q_cn_i, q_cn_r, q_cn_a, q_cn_l, q_cat_eq, q_nl_none, q_nl_sn, q_nl_i, q_nl_r, q_nl_a, q_vp_0, q_vp_1, q_vp_2, q_vp_3, q_vp_4, q_vp_5, q_vp_6, q_vp_7, q_vp_8, List.getElem?_cons_zero, List.getElem?_cons_succ, List.getElem?_nil, List.set_cons_zero, List.set_cons_succ, List.set_nil, Option.toList_some, Option.toList_none, List.cons_append, List.nil_append, Nat.reduceAdd, Nat.reduceSub, Nat.reduceLeDiff, Nat.add_zero, Nat.zero_add, Nat.reduceLT, Nat.zero_le, true_and, and_true, Value.category, true_or, or_true, q_z10, q_z01, Int32.reduceLT, Int32.reduceLE, Int32.reduceToNatClampNeg, not_true_eq_false, not_false_eq_true, false_implies, true_implies, implies_true, BX5_fewestLitSteps_0, BX5_fewestLitSteps_79, BX5_fewestLitSteps_49, BX5_fewestLitSteps_46, BX5_fewestLitSteps_36, BX5_fewestLitSteps_31, BX5_fewestLitSteps_19, rmX5_fewestLitSteps, x12, q_cls_of x12, q_cls_of hr.1, hr.1, q_R0_same]
        rw [f_bit1 hE (by omega)]
        refine ⟨fun y2 => ?_, fun y2 => ?_⟩
        · rw [if_neg y2] at e
          refine p4_stepLater hr ?_
          simp only [o_no, o_cut, o_ic, o_lc, o_str, o_il, o_ll, o_al, o_is, o_as, o_inc, o_iadd, o_isub, o_imul, o_iand, o_ior, o_ishl, o_ishr, o_iushr, o_idiv, o_irem, o_ladd, o_lmul, o_land, o_lor, o_lrem, o_lshl, o_lshr, o_lcmp, o_i2l, o_l2i, o_dup, o_dup2, o_ifeq, o_ifne, o_iflt, o_ifge, o_ifgt, o_ifle, o_iceq, o_icne, o_iclt, o_icge, o_icgt, o_icle, o_sw, o_iret, o_zret, o_vret, o_getf, o_putf, o_putz, o_putr, o_iald, o_zald, o_iast, o_zast, o_alen, o_aald, o_aast, o_obj_e, o_mmax_e, o_mmin_e, o_gsc, o_gsf, o_sval, o_scod, o_salen, o_sbald, o_i2c, o_pop, o_nret, o_call_0, o_call_1, o_call_2, o_call_3, o_call_4, o_call_5, o_call_6, o_call_7, o_callV_0, o_callV_1, o_callV_2, o_callV_3, o_callV_4, o_callV_5, o_callV_6, o_callT_0, o_callT_1, q_cn_0, q_cn_i, q_cn_r, q_cn_a, q_cn_l, q_cat_eq, q_nl_none, q_nl_sn, q_nl_i, q_nl_r, q_nl_a, q_vp_0, q_vp_1, q_vp_2, q_vp_3, q_vp_4, q_vp_5, q_vp_6, q_vp_7, q_vp_8, List.getElem?_cons_zero, List.getElem?_cons_succ, List.getElem?_nil, List.set_cons_zero, List.set_cons_succ, List.set_nil, Option.toList_some, Option.toList_none, List.cons_append, List.nil_append, Nat.reduceAdd, Nat.reduceSub, Nat.reduceLeDiff, Nat.add_zero, Nat.zero_add, Nat.reduceLT, Nat.zero_le, true_and, and_true, Value.category, true_or, or_true, q_z10, q_z01, Int32.reduceLT, Int32.reduceLE, Int32.reduceToNatClampNeg, not_true_eq_false, not_false_eq_true, false_implies, true_implies, implies_true, BX5_fewestLitSteps_0, BX5_fewestLitSteps_79, BX5_fewestLitSteps_49, BX5_fewestLitSteps_46, BX5_fewestLitSteps_36, BX5_fewestLitSteps_31, BX5_fewestLitSteps_19, rmX5_fewestLitSteps, x12, q_cls_of x12, q_cls_of hr.1, hr.1, q_R0_same]
          rw [xs_later hk hx (r_adlt hk _ _), r_adad hk]
          refine p5_spread x12 hr hk hx hE ?_
          simp only [o_no, o_cut, o_ic, o_lc, o_str, o_il, o_ll, o_al, o_is, o_as, o_inc, o_iadd, o_isub, o_imul, o_iand, o_ior, o_ishl, o_ishr, o_iushr, o_idiv, o_irem, o_ladd, o_lmul, o_land, o_lor, o_lrem, o_lshl, o_lshr, o_lcmp, o_i2l, o_l2i, o_dup, o_dup2, o_ifeq, o_ifne, o_iflt, o_ifge, o_ifgt, o_ifle, o_iceq, o_icne, o_iclt, o_icge, o_icgt, o_icle, o_sw, o_iret, o_zret, o_vret, o_getf, o_putf, o_putz, o_putr, o_iald, o_zald, o_iast, o_zast, o_alen, o_aald, o_aast, o_obj_e, o_mmax_e, o_mmin_e, o_gsc, o_gsf, o_sval, o_scod, o_salen, o_sbald, o_i2c, o_pop, o_nret, o_call_0, o_call_1, o_call_2, o_call_3, o_call_4, o_call_5, o_call_6, o_call_7, o_callV_0, o_callV_1, o_callV_2, o_callV_3, o_callV_4, o_callV_5, o_callV_6, o_callT_0, o_callT_1, q_cn_0, q_cn_i, q_cn_r, q_cn_a, q_cn_l, q_cat_eq, q_nl_none, q_nl_sn, q_nl_i, q_nl_r, q_nl_a, q_vp_0, q_vp_1, q_vp_2, q_vp_3, q_vp_4, q_vp_5, q_vp_6, q_vp_7, q_vp_8, List.getElem?_cons_zero, List.getElem?_cons_succ, List.getElem?_nil, List.set_cons_zero, List.set_cons_succ, List.set_nil, Option.toList_some, Option.toList_none, List.cons_append, List.nil_append, Nat.reduceAdd, Nat.reduceSub, Nat.reduceLeDiff, Nat.add_zero, Nat.zero_add, Nat.reduceLT, Nat.zero_le, true_and, and_true, Value.category, true_or, or_true, q_z10, q_z01, Int32.reduceLT, Int32.reduceLE, Int32.reduceToNatClampNeg, not_true_eq_false, not_false_eq_true, false_implies, true_implies, implies_true, BX5_fewestLitSteps_0, BX5_fewestLitSteps_79, BX5_fewestLitSteps_49, BX5_fewestLitSteps_46, BX5_fewestLitSteps_36, BX5_fewestLitSteps_31, BX5_fewestLitSteps_19, rmX5_fewestLitSteps, x12, q_cls_of x12, q_cls_of hr.1, hr.1, q_R0_same]
          refine p4_litSet hr ?_
          simp only [o_no, o_cut, o_ic, o_lc, o_str, o_il, o_ll, o_al, o_is, o_as, o_inc, o_iadd, o_isub, o_imul, o_iand, o_ior, o_ishl, o_ishr, o_iushr, o_idiv, o_irem, o_ladd, o_lmul, o_land, o_lor, o_lrem, o_lshl, o_lshr, o_lcmp, o_i2l, o_l2i, o_dup, o_dup2, o_ifeq, o_ifne, o_iflt, o_ifge, o_ifgt, o_ifle, o_iceq, o_icne, o_iclt, o_icge, o_icgt, o_icle, o_sw, o_iret, o_zret, o_vret, o_getf, o_putf, o_putz, o_putr, o_iald, o_zald, o_iast, o_zast, o_alen, o_aald, o_aast, o_obj_e, o_mmax_e, o_mmin_e, o_gsc, o_gsf, o_sval, o_scod, o_salen, o_sbald, o_i2c, o_pop, o_nret, o_call_0, o_call_1, o_call_2, o_call_3, o_call_4, o_call_5, o_call_6, o_call_7, o_callV_0, o_callV_1, o_callV_2, o_callV_3, o_callV_4, o_callV_5, o_callV_6, o_callT_0, o_callT_1, q_cn_0, q_cn_i, q_cn_r, q_cn_a, q_cn_l, q_cat_eq, q_nl_none, q_nl_sn, q_nl_i, q_nl_r, q_nl_a, q_vp_0, q_vp_1, q_vp_2, q_vp_3, q_vp_4, q_vp_5, q_vp_6, q_vp_7, q_vp_8, List.getElem?_cons_zero, List.getElem?_cons_succ, List.getElem?_nil, List.set_cons_zero, List.set_cons_succ, List.set_nil, Option.toList_some, Option.toList_none, List.cons_append, List.nil_append, Nat.reduceAdd, Nat.reduceSub, Nat.reduceLeDiff, Nat.add_zero, Nat.zero_add, Nat.reduceLT, Nat.zero_le, true_and, and_true, Value.category, true_or, or_true, q_z10, q_z01, Int32.reduceLT, Int32.reduceLE, Int32.reduceToNatClampNeg, not_true_eq_false, not_false_eq_true, false_implies, true_implies, implies_true, BX5_fewestLitSteps_0, BX5_fewestLitSteps_79, BX5_fewestLitSteps_49, BX5_fewestLitSteps_46, BX5_fewestLitSteps_36, BX5_fewestLitSteps_31, BX5_fewestLitSteps_19, rmX5_fewestLitSteps, x12, q_cls_of x12, q_cls_of hr.1, hr.1, q_R0_same]
          rw [xs_lit hk hx (r_adlt hk _ _), nI_and _ _ (by have := r_spr_lt hk hE (r_pl k); omega), nI_1]
          exact ih (j + 1) (by omega) e
        · rw [if_pos y2, f_ne, if_neg (by omega)] at e
          rw [e] at hR
          exact hR
  have := loop (8 * r_per k) 0 (by omega) rfl
  rw [r_ad0 hk hS] at this
  exact this
theorem p8_mail {p q st : Int32} (hs : q_xs sh rb sb) (hk : r_ok k) (hx : x_rock m rb k) (h40 : m 4 0 = nI s) (hS : s < r_S k) (hR : R (some (.int (a_mail k s p q st))) sh m) : wX8_mail [.ref 0, .int p, .int q, .int st] sh m R := by
  obtain ⟨x0, x1, x3, x4, x6, x7, x9, x12, x15, x18, hr, hb, y2, y5, y8, y10, y11, y13, y14, y16, y17, y19, hrb⟩ := id hs
  have h8 : r_pl k ≤ 8 := hk.2.1
  refine eX8_mail ?_
  simp only [o_no, o_cut, o_ic, o_lc, o_str, o_il, o_ll, o_al, o_is, o_as, o_inc, o_iadd, o_isub, o_imul, o_iand, o_ior, o_ishl, o_ishr, o_iushr, o_idiv, o_irem, o_ladd, o_lmul, o_land, o_lor, o_lrem, o_lshl, o_lshr, o_lcmp, o_i2l, o_l2i, o_dup, o_dup2, o_ifeq, o_ifne, o_iflt, o_ifge, o_ifgt, o_ifle, o_iceq, o_icne, o_iclt, o_icge, o_icgt, o_icle, o_sw, o_iret, o_zret, o_vret, o_getf, o_putf, o_putz, o_putr, o_iald, o_zald, o_iast, o_zast, o_alen, o_aald, o_aast, o_obj_e, o_mmax_e, o_mmin_e, o_gsc, o_gsf, o_sval, o_scod, o_salen, o_sbald, o_i2c, o_pop, o_nret, o_call_0, o_call_1, o_call_2, o_call_3, o_call_4, o_call_5, o_call_6, o_call_7, o_callV_0, o_callV_1, o_callV_2, o_callV_3, o_callV_4, o_callV_5, o_callV_6, o_callT_0, o_callT_1, q_cn_0, q_cn_i, q_cn_r, q_cn_a, q_cn_l, q_cat_eq, q_nl_none, q_nl_sn, q_nl_i, q_nl_r, q_nl_a, q_vp_0, q_vp_1, q_vp_2, q_vp_3, q_vp_4, q_vp_5, q_vp_6, q_vp_7, q_vp_8, List.getElem?_cons_zero, List.getElem?_cons_succ, List.getElem?_nil, List.set_cons_zero, List.set_cons_succ, List.set_nil, Option.toList_some, Option.toList_none, List.cons_append, List.nil_append, Nat.reduceAdd, Nat.reduceSub, Nat.reduceLeDiff, Nat.add_zero, Nat.zero_add, Nat.reduceLT, Nat.zero_le, true_and, and_true, Value.category, true_or, or_true, q_z10, q_z01, Int32.reduceLT, Int32.reduceLE, Int32.reduceToNatClampNeg, not_true_eq_false, not_false_eq_true, false_implies, true_implies, implies_true, BX8_mail_16, BX8_mail_29, BX8_mail_26, BX8_mail_19, BX8_mail_8, BX8_mail_0, rmX8_mail, x0, x1, x3, x4, x6, x7, x9, x12, x15, x18, q_cls_of x0, q_cls_of x1, q_cls_of x3, q_cls_of x4, q_cls_of x6, q_cls_of x7, q_cls_of x9, q_cls_of x12, q_cls_of x15, q_cls_of x18, q_cls_of hr.1, hr.1, q_R0_same]
  unfold a_mail at hR
  refine p8_isPlace hs hk hx (fun z => ?_) (fun z => ?_)
  · simp only [o_no, o_cut, o_ic, o_lc, o_str, o_il, o_ll, o_al, o_is, o_as, o_inc, o_iadd, o_isub, o_imul, o_iand, o_ior, o_ishl, o_ishr, o_iushr, o_idiv, o_irem, o_ladd, o_lmul, o_land, o_lor, o_lrem, o_lshl, o_lshr, o_lcmp, o_i2l, o_l2i, o_dup, o_dup2, o_ifeq, o_ifne, o_iflt, o_ifge, o_ifgt, o_ifle, o_iceq, o_icne, o_iclt, o_icge, o_icgt, o_icle, o_sw, o_iret, o_zret, o_vret, o_getf, o_putf, o_putz, o_putr, o_iald, o_zald, o_iast, o_zast, o_alen, o_aald, o_aast, o_obj_e, o_mmax_e, o_mmin_e, o_gsc, o_gsf, o_sval, o_scod, o_salen, o_sbald, o_i2c, o_pop, o_nret, o_call_0, o_call_1, o_call_2, o_call_3, o_call_4, o_call_5, o_call_6, o_call_7, o_callV_0, o_callV_1, o_callV_2, o_callV_3, o_callV_4, o_callV_5, o_callV_6, o_callT_0, o_callT_1, q_cn_0, q_cn_i, q_cn_r, q_cn_a, q_cn_l, q_cat_eq, q_nl_none, q_nl_sn, q_nl_i, q_nl_r, q_nl_a, q_vp_0, q_vp_1, q_vp_2, q_vp_3, q_vp_4, q_vp_5, q_vp_6, q_vp_7, q_vp_8, List.getElem?_cons_zero, List.getElem?_cons_succ, List.getElem?_nil, List.set_cons_zero, List.set_cons_succ, List.set_nil, Option.toList_some, Option.toList_none, List.cons_append, List.nil_append, Nat.reduceAdd, Nat.reduceSub, Nat.reduceLeDiff, Nat.add_zero, Nat.zero_add, Nat.reduceLT, Nat.zero_le, true_and, and_true, Value.category, true_or, or_true, q_z10, q_z01, Int32.reduceLT, Int32.reduceLE, Int32.reduceToNatClampNeg, not_true_eq_false, not_false_eq_true, false_implies, true_implies, implies_true, BX8_mail_16, BX8_mail_29, BX8_mail_26, BX8_mail_19, BX8_mail_8, BX8_mail_0, rmX8_mail, x0, x1, x3, x4, x6, x7, x9, x12, x15, x18, q_cls_of x0, q_cls_of x1, q_cls_of x3, q_cls_of x4, q_cls_of x6, q_cls_of x7, q_cls_of x9, q_cls_of x12, q_cls_of x15, q_cls_of x18, q_cls_of hr.1, hr.1, q_R0_same]
    refine p8_isPlace hs hk hx (fun z1 => ?_) (fun z1 => ?_)
    · rw [q_if_t ⟨z, z1⟩] at hR
      obtain ⟨p, hp, rfl⟩ := z
      obtain ⟨q, hq, rfl⟩ := z1
      rw [q_ix_n (n := p) (by omega), q_ix_n (n := q) (by omega)] at hR
      simp only [o_no, o_cut, o_ic, o_lc, o_str, o_il, o_ll, o_al, o_is, o_as, o_inc, o_iadd, o_isub, o_imul, o_iand, o_ior, o_ishl, o_ishr, o_iushr, o_idiv, o_irem, o_ladd, o_lmul, o_land, o_lor, o_lrem, o_lshl, o_lshr, o_lcmp, o_i2l, o_l2i, o_dup, o_dup2, o_ifeq, o_ifne, o_iflt, o_ifge, o_ifgt, o_ifle, o_iceq, o_icne, o_iclt, o_icge, o_icgt, o_icle, o_sw, o_iret, o_zret, o_vret, o_getf, o_putf, o_putz, o_putr, o_iald, o_zald, o_iast, o_zast, o_alen, o_aald, o_aast, o_obj_e, o_mmax_e, o_mmin_e, o_gsc, o_gsf, o_sval, o_scod, o_salen, o_sbald, o_i2c, o_pop, o_nret, o_call_0, o_call_1, o_call_2, o_call_3, o_call_4, o_call_5, o_call_6, o_call_7, o_callV_0, o_callV_1, o_callV_2, o_callV_3, o_callV_4, o_callV_5, o_callV_6, o_callT_0, o_callT_1, q_cn_0, q_cn_i, q_cn_r, q_cn_a, q_cn_l, q_cat_eq, q_nl_none, q_nl_sn, q_nl_i, q_nl_r, q_nl_a, q_vp_0, q_vp_1, q_vp_2, q_vp_3, q_vp_4, q_vp_5, q_vp_6, q_vp_7, q_vp_8, List.getElem?_cons_zero, List.getElem?_cons_succ, List.getElem?_nil, List.set_cons_zero, List.set_cons_succ, List.set_nil, Option.toList_some, Option.toList_none, List.cons_append, List.nil_append, Nat.reduceAdd, Nat.reduceSub, Nat.reduceLeDiff, Nat.add_zero, Nat.zero_add, Nat.reduceLT, Nat.zero_le, true_and, and_true, Value.category, true_or, or_true, q_z10, q_z01, Int32.reduceLT, Int32.reduceLE, Int32.reduceToNatClampNeg, not_true_eq_false, not_false_eq_true, false_implies, true_implies, implies_true, BX8_mail_16, BX8_mail_29, BX8_mail_26, BX8_mail_19, BX8_mail_8, BX8_mail_0, rmX8_mail, x0, x1, x3, x4, x6, x7, x9, x12, x15, x18, q_cls_of x0, q_cls_of x1, q_cls_of x3, q_cls_of x4, q_cls_of x6, q_cls_of x7, q_cls_of x9, q_cls_of x12, q_cls_of x15, q_cls_of x18, q_cls_of hr.1, hr.1, q_R0_same]
      refine p8_isStep (fun z2 => ?_) (fun z2 => ?_)
      · rw [q_if_t z2] at hR
        obtain ⟨t, ht, rfl⟩ := z2
        rw [q_ix_n (n := t) (by omega)] at hR
        simp only [o_no, o_cut, o_ic, o_lc, o_str, o_il, o_ll, o_al, o_is, o_as, o_inc, o_iadd, o_isub, o_imul, o_iand, o_ior, o_ishl, o_ishr, o_iushr, o_idiv, o_irem, o_ladd, o_lmul, o_land, o_lor, o_lrem, o_lshl, o_lshr, o_lcmp, o_i2l, o_l2i, o_dup, o_dup2, o_ifeq, o_ifne, o_iflt, o_ifge, o_ifgt, o_ifle, o_iceq, o_icne, o_iclt, o_icge, o_icgt, o_icle, o_sw, o_iret, o_zret, o_vret, o_getf, o_putf, o_putz, o_putr, o_iald, o_zald, o_iast, o_zast, o_alen, o_aald, o_aast, o_obj_e, o_mmax_e, o_mmin_e, o_gsc, o_gsf, o_sval, o_scod, o_salen, o_sbald, o_i2c, o_pop, o_nret, o_call_0, o_call_1, o_call_2, o_call_3, o_call_4, o_call_5, o_call_6, o_call_7, o_callV_0, o_callV_1, o_callV_2, o_callV_3, o_callV_4, o_callV_5, o_callV_6, o_callT_0, o_callT_1, q_cn_0, q_cn_i, q_cn_r, q_cn_a, q_cn_l, q_cat_eq, q_nl_none, q_nl_sn, q_nl_i, q_nl_r, q_nl_a, q_vp_0, q_vp_1, q_vp_2, q_vp_3, q_vp_4, q_vp_5, q_vp_6, q_vp_7, q_vp_8, List.getElem?_cons_zero, List.getElem?_cons_succ, List.getElem?_nil, List.set_cons_zero, List.set_cons_succ, List.set_nil, Option.toList_some, Option.toList_none, List.cons_append, List.nil_append, Nat.reduceAdd, Nat.reduceSub, Nat.reduceLeDiff, Nat.add_zero, Nat.zero_add, Nat.reduceLT, Nat.zero_le, true_and, and_true, Value.category, true_or, or_true, q_z10, q_z01, Int32.reduceLT, Int32.reduceLE, Int32.reduceToNatClampNeg, not_true_eq_false, not_false_eq_true, false_implies, true_implies, implies_true, BX8_mail_16, BX8_mail_29, BX8_mail_26, BX8_mail_19, BX8_mail_8, BX8_mail_0, rmX8_mail, x0, x1, x3, x4, x6, x7, x9, x12, x15, x18, q_cls_of x0, q_cls_of x1, q_cls_of x3, q_cls_of x4, q_cls_of x6, q_cls_of x7, q_cls_of x9, q_cls_of x12, q_cls_of x15, q_cls_of x18, q_cls_of hr.1, hr.1, q_R0_same]
        refine p8_standingAt hs hk hx h40 hS (by omega) ?_
        simp only [o_no, o_cut, o_ic, o_lc, o_str, o_il, o_ll, o_al, o_is, o_as, o_inc, o_iadd, o_isub, o_imul, o_iand, o_ior, o_ishl, o_ishr, o_iushr, o_idiv, o_irem, o_ladd, o_lmul, o_land, o_lor, o_lrem, o_lshl, o_lshr, o_lcmp, o_i2l, o_l2i, o_dup, o_dup2, o_ifeq, o_ifne, o_iflt, o_ifge, o_ifgt, o_ifle, o_iceq, o_icne, o_iclt, o_icge, o_icgt, o_icle, o_sw, o_iret, o_zret, o_vret, o_getf, o_putf, o_putz, o_putr, o_iald, o_zald, o_iast, o_zast, o_alen, o_aald, o_aast, o_obj_e, o_mmax_e, o_mmin_e, o_gsc, o_gsf, o_sval, o_scod, o_salen, o_sbald, o_i2c, o_pop, o_nret, o_call_0, o_call_1, o_call_2, o_call_3, o_call_4, o_call_5, o_call_6, o_call_7, o_callV_0, o_callV_1, o_callV_2, o_callV_3, o_callV_4, o_callV_5, o_callV_6, o_callT_0, o_callT_1, q_cn_0, q_cn_i, q_cn_r, q_cn_a, q_cn_l, q_cat_eq, q_nl_none, q_nl_sn, q_nl_i, q_nl_r, q_nl_a, q_vp_0, q_vp_1, q_vp_2, q_vp_3, q_vp_4, q_vp_5, q_vp_6, q_vp_7, q_vp_8, List.getElem?_cons_zero, List.getElem?_cons_succ, List.getElem?_nil, List.set_cons_zero, List.set_cons_succ, List.set_nil, Option.toList_some, Option.toList_none, List.cons_append, List.nil_append, Nat.reduceAdd, Nat.reduceSub, Nat.reduceLeDiff, Nat.add_zero, Nat.zero_add, Nat.reduceLT, Nat.zero_le, true_and, and_true, Value.category, true_or, or_true, q_z10, q_z01, Int32.reduceLT, Int32.reduceLE, Int32.reduceToNatClampNeg, not_true_eq_false, not_false_eq_true, false_implies, true_implies, implies_true, BX8_mail_16, BX8_mail_29, BX8_mail_26, BX8_mail_19, BX8_mail_8, BX8_mail_0, rmX8_mail, x0, x1, x3, x4, x6, x7, x9, x12, x15, x18, q_cls_of x0, q_cls_of x1, q_cls_of x3, q_cls_of x4, q_cls_of x6, q_cls_of x7, q_cls_of x9, q_cls_of x12, q_cls_of x15, q_cls_of x18, q_cls_of hr.1, hr.1, q_R0_same]
        refine p5_fewest x12 hr hk hx (r_adlt hk _ _) hp hq ?_
        simp only [o_no, o_cut, o_ic, o_lc, o_str, o_il, o_ll, o_al, o_is, o_as, o_inc, o_iadd, o_isub, o_imul, o_iand, o_ior, o_ishl, o_ishr, o_iushr, o_idiv, o_irem, o_ladd, o_lmul, o_land, o_lor, o_lrem, o_lshl, o_lshr, o_lcmp, o_i2l, o_l2i, o_dup, o_dup2, o_ifeq, o_ifne, o_iflt, o_ifge, o_ifgt, o_ifle, o_iceq, o_icne, o_iclt, o_icge, o_icgt, o_icle, o_sw, o_iret, o_zret, o_vret, o_getf, o_putf, o_putz, o_putr, o_iald, o_zald, o_iast, o_zast, o_alen, o_aald, o_aast, o_obj_e, o_mmax_e, o_mmin_e, o_gsc, o_gsf, o_sval, o_scod, o_salen, o_sbald, o_i2c, o_pop, o_nret, o_call_0, o_call_1, o_call_2, o_call_3, o_call_4, o_call_5, o_call_6, o_call_7, o_callV_0, o_callV_1, o_callV_2, o_callV_3, o_callV_4, o_callV_5, o_callV_6, o_callT_0, o_callT_1, q_cn_0, q_cn_i, q_cn_r, q_cn_a, q_cn_l, q_cat_eq, q_nl_none, q_nl_sn, q_nl_i, q_nl_r, q_nl_a, q_vp_0, q_vp_1, q_vp_2, q_vp_3, q_vp_4, q_vp_5, q_vp_6, q_vp_7, q_vp_8, List.getElem?_cons_zero, List.getElem?_cons_succ, List.getElem?_nil, List.set_cons_zero, List.set_cons_succ, List.set_nil, Option.toList_some, Option.toList_none, List.cons_append, List.nil_append, Nat.reduceAdd, Nat.reduceSub, Nat.reduceLeDiff, Nat.add_zero, Nat.zero_add, Nat.reduceLT, Nat.zero_le, true_and, and_true, Value.category, true_or, or_true, q_z10, q_z01, Int32.reduceLT, Int32.reduceLE, Int32.reduceToNatClampNeg, not_true_eq_false, not_false_eq_true, false_implies, true_implies, implies_true, BX8_mail_16, BX8_mail_29, BX8_mail_26, BX8_mail_19, BX8_mail_8, BX8_mail_0, rmX8_mail, x0, x1, x3, x4, x6, x7, x9, x12, x15, x18, q_cls_of x0, q_cls_of x1, q_cls_of x3, q_cls_of x4, q_cls_of x6, q_cls_of x7, q_cls_of x9, q_cls_of x12, q_cls_of x15, q_cls_of x18, q_cls_of hr.1, hr.1, q_R0_same]
        exact hR
      · rw [q_if_f z2] at hR
        simp only [o_no, o_cut, o_ic, o_lc, o_str, o_il, o_ll, o_al, o_is, o_as, o_inc, o_iadd, o_isub, o_imul, o_iand, o_ior, o_ishl, o_ishr, o_iushr, o_idiv, o_irem, o_ladd, o_lmul, o_land, o_lor, o_lrem, o_lshl, o_lshr, o_lcmp, o_i2l, o_l2i, o_dup, o_dup2, o_ifeq, o_ifne, o_iflt, o_ifge, o_ifgt, o_ifle, o_iceq, o_icne, o_iclt, o_icge, o_icgt, o_icle, o_sw, o_iret, o_zret, o_vret, o_getf, o_putf, o_putz, o_putr, o_iald, o_zald, o_iast, o_zast, o_alen, o_aald, o_aast, o_obj_e, o_mmax_e, o_mmin_e, o_gsc, o_gsf, o_sval, o_scod, o_salen, o_sbald, o_i2c, o_pop, o_nret, o_call_0, o_call_1, o_call_2, o_call_3, o_call_4, o_call_5, o_call_6, o_call_7, o_callV_0, o_callV_1, o_callV_2, o_callV_3, o_callV_4, o_callV_5, o_callV_6, o_callT_0, o_callT_1, q_cn_0, q_cn_i, q_cn_r, q_cn_a, q_cn_l, q_cat_eq, q_nl_none, q_nl_sn, q_nl_i, q_nl_r, q_nl_a, q_vp_0, q_vp_1, q_vp_2, q_vp_3, q_vp_4, q_vp_5, q_vp_6, q_vp_7, q_vp_8, List.getElem?_cons_zero, List.getElem?_cons_succ, List.getElem?_nil, List.set_cons_zero, List.set_cons_succ, List.set_nil, Option.toList_some, Option.toList_none, List.cons_append, List.nil_append, Nat.reduceAdd, Nat.reduceSub, Nat.reduceLeDiff, Nat.add_zero, Nat.zero_add, Nat.reduceLT, Nat.zero_le, true_and, and_true, Value.category, true_or, or_true, q_z10, q_z01, Int32.reduceLT, Int32.reduceLE, Int32.reduceToNatClampNeg, not_true_eq_false, not_false_eq_true, false_implies, true_implies, implies_true, BX8_mail_16, BX8_mail_29, BX8_mail_26, BX8_mail_19, BX8_mail_8, BX8_mail_0, rmX8_mail, x0, x1, x3, x4, x6, x7, x9, x12, x15, x18, q_cls_of x0, q_cls_of x1, q_cls_of x3, q_cls_of x4, q_cls_of x6, q_cls_of x7, q_cls_of x9, q_cls_of x12, q_cls_of x15, q_cls_of x18, q_cls_of hr.1, hr.1, q_R0_same]
        exact hR
    · rw [q_if_f (fun q => z1 q.2)] at hR
      simp only [o_no, o_cut, o_ic, o_lc, o_str, o_il, o_ll, o_al, o_is, o_as, o_inc, o_iadd, o_isub, o_imul, o_iand, o_ior, o_ishl, o_ishr, o_iushr, o_idiv, o_irem, o_ladd, o_lmul, o_land, o_lor, o_lrem, o_lshl, o_lshr, o_lcmp, o_i2l, o_l2i, o_dup, o_dup2, o_ifeq, o_ifne, o_iflt, o_ifge, o_ifgt, o_ifle, o_iceq, o_icne, o_iclt, o_icge, o_icgt, o_icle, o_sw, o_iret, o_zret, o_vret, o_getf, o_putf, o_putz, o_putr, o_iald, o_zald, o_iast, o_zast, o_alen, o_aald, o_aast, o_obj_e, o_mmax_e, o_mmin_e, o_gsc, o_gsf, o_sval, o_scod, o_salen, o_sbald, o_i2c, o_pop, o_nret, o_call_0, o_call_1, o_call_2, o_call_3, o_call_4, o_call_5, o_call_6, o_call_7, o_callV_0, o_callV_1, o_callV_2, o_callV_3, o_callV_4, o_callV_5, o_callV_6, o_callT_0, o_callT_1, q_cn_0, q_cn_i, q_cn_r, q_cn_a, q_cn_l, q_cat_eq, q_nl_none, q_nl_sn, q_nl_i, q_nl_r, q_nl_a, q_vp_0, q_vp_1, q_vp_2, q_vp_3, q_vp_4, q_vp_5, q_vp_6, q_vp_7, q_vp_8, List.getElem?_cons_zero, List.getElem?_cons_succ, List.getElem?_nil, List.set_cons_zero, List.set_cons_succ, List.set_nil, Option.toList_some, Option.toList_none, List.cons_append, List.nil_append, Nat.reduceAdd, Nat.reduceSub, Nat.reduceLeDiff, Nat.add_zero, Nat.zero_add, Nat.reduceLT, Nat.zero_le, true_and, and_true, Value.category, true_or, or_true, q_z10, q_z01, Int32.reduceLT, Int32.reduceLE, Int32.reduceToNatClampNeg, not_true_eq_false, not_false_eq_true, false_implies, true_implies, implies_true, BX8_mail_16, BX8_mail_29, BX8_mail_26, BX8_mail_19, BX8_mail_8, BX8_mail_0, rmX8_mail, x0, x1, x3, x4, x6, x7, x9, x12, x15, x18, q_cls_of x0, q_cls_of x1, q_cls_of x3, q_cls_of x4, q_cls_of x6, q_cls_of x7, q_cls_of x9, q_cls_of x12, q_cls_of x15, q_cls_of x18, q_cls_of hr.1, hr.1, q_R0_same]
      exact hR
  · rw [q_if_f (fun q => z q.1)] at hR
    simp only [o_no, o_cut, o_ic, o_lc, o_str, o_il, o_ll, o_al, o_is, o_as, o_inc, o_iadd, o_isub, o_imul, o_iand, o_ior, o_ishl, o_ishr, o_iushr, o_idiv, o_irem, o_ladd, o_lmul, o_land, o_lor, o_lrem, o_lshl, o_lshr, o_lcmp, o_i2l, o_l2i, o_dup, o_dup2, o_ifeq, o_ifne, o_iflt, o_ifge, o_ifgt, o_ifle, o_iceq, o_icne, o_iclt, o_icge, o_icgt, o_icle, o_sw, o_iret, o_zret, o_vret, o_getf, o_putf, o_putz, o_putr, o_iald, o_zald, o_iast, o_zast, o_alen, o_aald, o_aast, o_obj_e, o_mmax_e, o_mmin_e, o_gsc, o_gsf, o_sval, o_scod, o_salen, o_sbald, o_i2c, o_pop, o_nret, o_call_0, o_call_1, o_call_2, o_call_3, o_call_4, o_call_5, o_call_6, o_call_7, o_callV_0, o_callV_1, o_callV_2, o_callV_3, o_callV_4, o_callV_5, o_callV_6, o_callT_0, o_callT_1, q_cn_0, q_cn_i, q_cn_r, q_cn_a, q_cn_l, q_cat_eq, q_nl_none, q_nl_sn, q_nl_i, q_nl_r, q_nl_a, q_vp_0, q_vp_1, q_vp_2, q_vp_3, q_vp_4, q_vp_5, q_vp_6, q_vp_7, q_vp_8, List.getElem?_cons_zero, List.getElem?_cons_succ, List.getElem?_nil, List.set_cons_zero, List.set_cons_succ, List.set_nil, Option.toList_some, Option.toList_none, List.cons_append, List.nil_append, Nat.reduceAdd, Nat.reduceSub, Nat.reduceLeDiff, Nat.add_zero, Nat.zero_add, Nat.reduceLT, Nat.zero_le, true_and, and_true, Value.category, true_or, or_true, q_z10, q_z01, Int32.reduceLT, Int32.reduceLE, Int32.reduceToNatClampNeg, not_true_eq_false, not_false_eq_true, false_implies, true_implies, implies_true, BX8_mail_16, BX8_mail_29, BX8_mail_26, BX8_mail_19, BX8_mail_8, BX8_mail_0, rmX8_mail, x0, x1, x3, x4, x6, x7, x9, x12, x15, x18, q_cls_of x0, q_cls_of x1, q_cls_of x3, q_cls_of x4, q_cls_of x6, q_cls_of x7, q_cls_of x9, q_cls_of x12, q_cls_of x15, q_cls_of x18, q_cls_of hr.1, hr.1, q_R0_same]
    exact hR
def e_G (k : RK) (E s' : Nat) (x : Nat) : Bool := decide (E &&& r_rc k x ≠ 0) && r_lt k x s'
theorem e_set_m (hk : r_ok k) (hsy : r_sym k) (hS : s < r_S k) (p n : Nat) : r_set (e_G k (e_set k s p n) (r_ad k s (n + 1))) (r_pl k) = e_set k s p (n + 1) := by
  refine f_bit_ext (fun x => ?_)
  have h1 : f_bit (r_set (e_G k (e_set k s p n) (r_ad k s (n + 1))) (r_pl k)) x = true ↔ (x < r_pl k ∧ e_G k (e_set k s p n) (r_ad k s (n + 1)) x = true) := by
    rw [f_bit, r_set_bit]
    by_cases q : x < r_pl k ∧ e_G k (e_set k s p n) (r_ad k s (n + 1)) x = true
    · rw [if_pos q]; exact ⟨fun _ => q, fun _ => by decide⟩
    · rw [if_neg q]; exact ⟨fun z => absurd z (by decide), fun z => absurd z q⟩
  have h2 := e_set_up (p := p) hk hS (n := n) (x := x)
  have h3 : (e_set k s p n &&& r_rc k x ≠ 0) ↔ ∃ y, f_bit (e_set k s p n) y = true ∧ (x = y ∨ f_bit (r_rd k y) x = true) := by
    rw [f_bit_nz]
    constructor
    · rintro ⟨y, hy⟩
      rw [f_bit_and, Bool.and_eq_true, r_rc_bit, Bool.or_eq_true, decide_eq_true_iff] at hy
      refine ⟨y, hy.1, hy.2.elim (fun z => Or.inr (by rw [hsy]; exact z)) Or.inl⟩
    · rintro ⟨y, h1, h2⟩
      refine ⟨y, ?_⟩
      rw [f_bit_and, Bool.and_eq_true, r_rc_bit, Bool.or_eq_true, decide_eq_true_iff]
      exact ⟨h1, h2.elim Or.inr (fun z => Or.inl (by rw [hsy]; exact z))⟩
  have h4 : e_G k (e_set k s p n) (r_ad k s (n + 1)) x = true ↔ (e_set k s p n &&& r_rc k x ≠ 0) ∧ r_lt k x (r_ad k s (n + 1)) = true := by
    rw [e_G, Bool.and_eq_true, decide_eq_true_iff]
  have h5 : f_bit (r_set (e_G k (e_set k s p n) (r_ad k s (n + 1))) (r_pl k)) x = true ↔ f_bit (e_set k s p (n + 1)) x = true := by
    rw [h1, h2, h4, h3]
    exact ⟨fun z => ⟨⟨z.1, z.2.2⟩, z.2.1⟩, fun z => ⟨z.1.1, z.2, z.1.2⟩⟩
  cases e1 : f_bit (e_set k s p (n + 1)) x
  · cases e2 : f_bit (r_set (e_G k (e_set k s p n) (r_ad k s (n + 1))) (r_pl k)) x
    · rfl
    · rw [h5.mp e2] at e1; exact e1
  · exact h5.mpr e1
theorem v_mail_1 (hk : r_ok k) (hS : s < r_S k) (p q : Nat) : f_ne (f_ff (fun n => f_bit (e_set k s p n) q) (8 * r_per k + 1) 0) (8 * r_per k + 1) = v_mail k s p q := by
  have hper := r_perpos hk
  unfold v_mail
  by_cases c : ∃ n, n < 8 * r_per k ∧ f_bit (e_set k s p n) q = true
  · obtain ⟨n, hn, hb⟩ := c
    have key : ∀ d, n < d → f_ff (fun n => f_bit (e_set k s p n) q) d 0 ≤ n := by
      intro d hd
      rcases Nat.lt_or_ge n (f_ff (fun n => f_bit (e_set k s p n) q) d 0) with z | z
      · have := f_ff_no d 0 n (Nat.zero_le _) z
        rw [hb] at this
        exact absurd this (by decide)
      · exact z
    have k1 := key (8 * r_per k) hn
    have k2 := key (8 * r_per k + 1) (by omega)
    have y1 := f_ff_yes (F := fun n => f_bit (e_set k s p n) q) (8 * r_per k) 0 (by omega)
    have e : f_ff (fun n => f_bit (e_set k s p n) q) (8 * r_per k + 1) 0 = f_ff (fun n => f_bit (e_set k s p n) q) (8 * r_per k) 0 :=
      f_ff_is (by omega) y1 (fun r hr h => by
        have := f_ff_no (F := fun n => f_bit (e_set k s p n) q) (8 * r_per k) 0 r (Nat.zero_le _) hr
        rw [h] at this
        exact absurd this (by decide))
    rw [e, f_ne, f_ne, if_neg (by omega), if_neg (by omega)]
  · have no : ∀ n, ¬ f_bit (e_set k s p n) q = true := fun n h => c (e_short hk hS n h)
    have key : ∀ d, f_ff (fun n => f_bit (e_set k s p n) q) d 0 = d := by
      intro d
      have hle := f_ff_le (fun n => f_bit (e_set k s p n) q) d 0
      rcases Nat.lt_or_ge (f_ff (fun n => f_bit (e_set k s p n) q) d 0) d with z | z
      · exact absurd (f_ff_yes (F := fun n => f_bit (e_set k s p n) q) d 0 (by omega)) (no _)
      · omega
    rw [key, key, f_ne, f_ne, if_pos rfl, if_pos rfl]
theorem e_set0 (hk : r_ok k) (hS : s < r_S k) {p : Nat} (hp : p < r_pl k) : (if r_lt k p s = true then 2 ^ p else 0) = e_set k s p 0 := by
  refine f_bit_ext (fun x => ?_)
  rw [e_set, f_bit_and, f_bit_2p, r_ls_bit]
  by_cases c : p = x
  · subst c
    rw [decide_eq_true rfl, decide_eq_true hp, Bool.true_and, Bool.true_and]
    by_cases d : r_lt k p s = true
    · rw [if_pos d, f_bit_2p, d]; exact decide_eq_true rfl
    · rw [if_neg d, f_bit_0]; exact (Bool.not_eq_true _ ▸ d : r_lt k p s = false).symm
  · rw [decide_eq_false c, Bool.false_and]
    split
    · rw [f_bit_2p]; exact decide_eq_false c
    · exact f_bit_0 x
theorem p9_mail {p q st : Int32} (hs : q_md sh c) (hk : r_ok k) (hsy : r_sym k) (hm : m_rock m c k) (hf : m_shf m c 0 k s) (hR : ∀ m', q_but (c + 9) m m' → R (some (.int (a_mail k s p q st))) sh m') : wX9_mail [.ref c, .int p, .int q, .int st] sh m R := by
  obtain ⟨z0, z1, z2, z3, z4, z5, z6, z7, z8, z9, z10, z11, z12, z13, z14, z15, z16⟩ := id hs
  have h8 : r_pl k ≤ 8 := hk.2.1
  have hper := r_perle hk
  have hper0 := r_perpos hk
  refine eX9_mail ?_
  simp only [o_no, o_cut, o_ic, o_lc, o_str, o_il, o_ll, o_al, o_is, o_as, o_inc, o_iadd, o_isub, o_imul, o_iand, o_ior, o_ishl, o_ishr, o_iushr, o_idiv, o_irem, o_ladd, o_lmul, o_land, o_lor, o_lrem, o_lshl, o_lshr, o_lcmp, o_i2l, o_l2i, o_dup, o_dup2, o_ifeq, o_ifne, o_iflt, o_ifge, o_ifgt, o_ifle, o_iceq, o_icne, o_iclt, o_icge, o_icgt, o_icle, o_sw, o_iret, o_zret, o_vret, o_getf, o_putf, o_putz, o_putr, o_iald, o_zald, o_iast, o_zast, o_alen, o_aald, o_aast, o_obj_e, o_mmax_e, o_mmin_e, o_gsc, o_gsf, o_sval, o_scod, o_salen, o_sbald, o_i2c, o_pop, o_nret, o_call_0, o_call_1, o_call_2, o_call_3, o_call_4, o_call_5, o_call_6, o_call_7, o_callV_0, o_callV_1, o_callV_2, o_callV_3, o_callV_4, o_callV_5, o_callV_6, o_callT_0, o_callT_1, q_cn_0, q_cn_i, q_cn_r, q_cn_a, q_cn_l, q_cat_eq, q_nl_none, q_nl_sn, q_nl_i, q_nl_r, q_nl_a, q_vp_0, q_vp_1, q_vp_2, q_vp_3, q_vp_4, q_vp_5, q_vp_6, q_vp_7, q_vp_8, List.getElem?_cons_zero, List.getElem?_cons_succ, List.getElem?_nil, List.set_cons_zero, List.set_cons_succ, List.set_nil, Option.toList_some, Option.toList_none, List.cons_append, List.nil_append, Nat.reduceAdd, Nat.reduceSub, Nat.reduceLeDiff, Nat.add_zero, Nat.zero_add, Nat.reduceLT, Nat.zero_le, true_and, and_true, Value.category, true_or, or_true, q_z10, q_z01, Int32.reduceLT, Int32.reduceLE, Int32.reduceToNatClampNeg, not_true_eq_false, not_false_eq_true, false_implies, true_implies, implies_true, BX9_mail_16, BX9_mail_29, BX9_mail_26, BX9_mail_19, BX9_mail_8, BX9_mail_0, BX9_mail_166, BX9_mail_74, BX9_mail_71, BX9_mail_62, BX9_mail_57, BX9_mail_45, BX9_mail_156, BX9_mail_111, BX9_mail_107, BX9_mail_89, BX9_mail_80, BX9_mail_141, BX9_mail_140, BX9_mail_136, BX9_mail_121, BX9_mail_112, rmX9_mail, z0, z1, z2, z3, z4, z5, z6, z7, z8, z9, z10, z11, z12, z13, z14, z15, z16, q_cls_of z0, q_R0_same]
  unfold a_mail at hR
  refine p9_isPlace hs hm hk (fun z => ?_) (fun z => ?_)
  · simp only [o_no, o_cut, o_ic, o_lc, o_str, o_il, o_ll, o_al, o_is, o_as, o_inc, o_iadd, o_isub, o_imul, o_iand, o_ior, o_ishl, o_ishr, o_iushr, o_idiv, o_irem, o_ladd, o_lmul, o_land, o_lor, o_lrem, o_lshl, o_lshr, o_lcmp, o_i2l, o_l2i, o_dup, o_dup2, o_ifeq, o_ifne, o_iflt, o_ifge, o_ifgt, o_ifle, o_iceq, o_icne, o_iclt, o_icge, o_icgt, o_icle, o_sw, o_iret, o_zret, o_vret, o_getf, o_putf, o_putz, o_putr, o_iald, o_zald, o_iast, o_zast, o_alen, o_aald, o_aast, o_obj_e, o_mmax_e, o_mmin_e, o_gsc, o_gsf, o_sval, o_scod, o_salen, o_sbald, o_i2c, o_pop, o_nret, o_call_0, o_call_1, o_call_2, o_call_3, o_call_4, o_call_5, o_call_6, o_call_7, o_callV_0, o_callV_1, o_callV_2, o_callV_3, o_callV_4, o_callV_5, o_callV_6, o_callT_0, o_callT_1, q_cn_0, q_cn_i, q_cn_r, q_cn_a, q_cn_l, q_cat_eq, q_nl_none, q_nl_sn, q_nl_i, q_nl_r, q_nl_a, q_vp_0, q_vp_1, q_vp_2, q_vp_3, q_vp_4, q_vp_5, q_vp_6, q_vp_7, q_vp_8, List.getElem?_cons_zero, List.getElem?_cons_succ, List.getElem?_nil, List.set_cons_zero, List.set_cons_succ, List.set_nil, Option.toList_some, Option.toList_none, List.cons_append, List.nil_append, Nat.reduceAdd, Nat.reduceSub, Nat.reduceLeDiff, Nat.add_zero, Nat.zero_add, Nat.reduceLT, Nat.zero_le, true_and, and_true, Value.category, true_or, or_true, q_z10, q_z01, Int32.reduceLT, Int32.reduceLE, Int32.reduceToNatClampNeg, not_true_eq_false, not_false_eq_true, false_implies, true_implies, implies_true, BX9_mail_16, BX9_mail_29, BX9_mail_26, BX9_mail_19, BX9_mail_8, BX9_mail_0, BX9_mail_166, BX9_mail_74, BX9_mail_71, BX9_mail_62, BX9_mail_57, BX9_mail_45, BX9_mail_156, BX9_mail_111, BX9_mail_107, BX9_mail_89, BX9_mail_80, BX9_mail_141, BX9_mail_140, BX9_mail_136, BX9_mail_121, BX9_mail_112, rmX9_mail, z0, z1, z2, z3, z4, z5, z6, z7, z8, z9, z10, z11, z12, z13, z14, z15, z16, q_cls_of z0, q_R0_same]
    refine p9_isPlace hs hm hk (fun z1 => ?_) (fun z1 => ?_)
    · rw [q_if_t ⟨z, z1⟩] at hR
      obtain ⟨p, hp, rfl⟩ := z
      obtain ⟨q, hq, rfl⟩ := z1
      rw [q_ix_n (n := p) (by omega), q_ix_n (n := q) (by omega)] at hR
      simp only [o_no, o_cut, o_ic, o_lc, o_str, o_il, o_ll, o_al, o_is, o_as, o_inc, o_iadd, o_isub, o_imul, o_iand, o_ior, o_ishl, o_ishr, o_iushr, o_idiv, o_irem, o_ladd, o_lmul, o_land, o_lor, o_lrem, o_lshl, o_lshr, o_lcmp, o_i2l, o_l2i, o_dup, o_dup2, o_ifeq, o_ifne, o_iflt, o_ifge, o_ifgt, o_ifle, o_iceq, o_icne, o_iclt, o_icge, o_icgt, o_icle, o_sw, o_iret, o_zret, o_vret, o_getf, o_putf, o_putz, o_putr, o_iald, o_zald, o_iast, o_zast, o_alen, o_aald, o_aast, o_obj_e, o_mmax_e, o_mmin_e, o_gsc, o_gsf, o_sval, o_scod, o_salen, o_sbald, o_i2c, o_pop, o_nret, o_call_0, o_call_1, o_call_2, o_call_3, o_call_4, o_call_5, o_call_6, o_call_7, o_callV_0, o_callV_1, o_callV_2, o_callV_3, o_callV_4, o_callV_5, o_callV_6, o_callT_0, o_callT_1, q_cn_0, q_cn_i, q_cn_r, q_cn_a, q_cn_l, q_cat_eq, q_nl_none, q_nl_sn, q_nl_i, q_nl_r, q_nl_a, q_vp_0, q_vp_1, q_vp_2, q_vp_3, q_vp_4, q_vp_5, q_vp_6, q_vp_7, q_vp_8, List.getElem?_cons_zero, List.getElem?_cons_succ, List.getElem?_nil, List.set_cons_zero, List.set_cons_succ, List.set_nil, Option.toList_some, Option.toList_none, List.cons_append, List.nil_append, Nat.reduceAdd, Nat.reduceSub, Nat.reduceLeDiff, Nat.add_zero, Nat.zero_add, Nat.reduceLT, Nat.zero_le, true_and, and_true, Value.category, true_or, or_true, q_z10, q_z01, Int32.reduceLT, Int32.reduceLE, Int32.reduceToNatClampNeg, not_true_eq_false, not_false_eq_true, false_implies, true_implies, implies_true, BX9_mail_16, BX9_mail_29, BX9_mail_26, BX9_mail_19, BX9_mail_8, BX9_mail_0, BX9_mail_166, BX9_mail_74, BX9_mail_71, BX9_mail_62, BX9_mail_57, BX9_mail_45, BX9_mail_156, BX9_mail_111, BX9_mail_107, BX9_mail_89, BX9_mail_80, BX9_mail_141, BX9_mail_140, BX9_mail_136, BX9_mail_121, BX9_mail_112, rmX9_mail, z0, z1, z2, z3, z4, z5, z6, z7, z8, z9, z10, z11, z12, z13, z14, z15, z16, q_cls_of z0, q_R0_same]
      refine p9_isStep (fun z2 => ?_) (fun z2 => ?_)
      · rw [q_if_t z2] at hR
        obtain ⟨st, hst, rfl⟩ := z2
        rw [q_ix_n (n := st) (by omega), ← v_mail_1 hk (r_adlt hk _ _)] at hR
        have hS' := r_adlt hk s st
        simp only [o_no, o_cut, o_ic, o_lc, o_str, o_il, o_ll, o_al, o_is, o_as, o_inc, o_iadd, o_isub, o_imul, o_iand, o_ior, o_ishl, o_ishr, o_iushr, o_idiv, o_irem, o_ladd, o_lmul, o_land, o_lor, o_lrem, o_lshl, o_lshr, o_lcmp, o_i2l, o_l2i, o_dup, o_dup2, o_ifeq, o_ifne, o_iflt, o_ifge, o_ifgt, o_ifle, o_iceq, o_icne, o_iclt, o_icge, o_icgt, o_icle, o_sw, o_iret, o_zret, o_vret, o_getf, o_putf, o_putz, o_putr, o_iald, o_zald, o_iast, o_zast, o_alen, o_aald, o_aast, o_obj_e, o_mmax_e, o_mmin_e, o_gsc, o_gsf, o_sval, o_scod, o_salen, o_sbald, o_i2c, o_pop, o_nret, o_call_0, o_call_1, o_call_2, o_call_3, o_call_4, o_call_5, o_call_6, o_call_7, o_callV_0, o_callV_1, o_callV_2, o_callV_3, o_callV_4, o_callV_5, o_callV_6, o_callT_0, o_callT_1, q_cn_0, q_cn_i, q_cn_r, q_cn_a, q_cn_l, q_cat_eq, q_nl_none, q_nl_sn, q_nl_i, q_nl_r, q_nl_a, q_vp_0, q_vp_1, q_vp_2, q_vp_3, q_vp_4, q_vp_5, q_vp_6, q_vp_7, q_vp_8, List.getElem?_cons_zero, List.getElem?_cons_succ, List.getElem?_nil, List.set_cons_zero, List.set_cons_succ, List.set_nil, Option.toList_some, Option.toList_none, List.cons_append, List.nil_append, Nat.reduceAdd, Nat.reduceSub, Nat.reduceLeDiff, Nat.add_zero, Nat.zero_add, Nat.reduceLT, Nat.zero_le, true_and, and_true, Value.category, true_or, or_true, q_z10, q_z01, Int32.reduceLT, Int32.reduceLE, Int32.reduceToNatClampNeg, not_true_eq_false, not_false_eq_true, false_implies, true_implies, implies_true, BX9_mail_16, BX9_mail_29, BX9_mail_26, BX9_mail_19, BX9_mail_8, BX9_mail_0, BX9_mail_166, BX9_mail_74, BX9_mail_71, BX9_mail_62, BX9_mail_57, BX9_mail_45, BX9_mail_156, BX9_mail_111, BX9_mail_107, BX9_mail_89, BX9_mail_80, BX9_mail_141, BX9_mail_140, BX9_mail_136, BX9_mail_121, BX9_mail_112, rmX9_mail, z0, z1, z2, z3, z4, z5, z6, z7, z8, z9, z10, z11, z12, z13, z14, z15, z16, q_cls_of z0, q_R0_same]
        refine p9_isLit hs hm hk hf hp (by omega) (fun m1 hb1 => ?_)
        simp only [o_no, o_cut, o_ic, o_lc, o_str, o_il, o_ll, o_al, o_is, o_as, o_inc, o_iadd, o_isub, o_imul, o_iand, o_ior, o_ishl, o_ishr, o_iushr, o_idiv, o_irem, o_ladd, o_lmul, o_land, o_lor, o_lrem, o_lshl, o_lshr, o_lcmp, o_i2l, o_l2i, o_dup, o_dup2, o_ifeq, o_ifne, o_iflt, o_ifge, o_ifgt, o_ifle, o_iceq, o_icne, o_iclt, o_icge, o_icgt, o_icle, o_sw, o_iret, o_zret, o_vret, o_getf, o_putf, o_putz, o_putr, o_iald, o_zald, o_iast, o_zast, o_alen, o_aald, o_aast, o_obj_e, o_mmax_e, o_mmin_e, o_gsc, o_gsf, o_sval, o_scod, o_salen, o_sbald, o_i2c, o_pop, o_nret, o_call_0, o_call_1, o_call_2, o_call_3, o_call_4, o_call_5, o_call_6, o_call_7, o_callV_0, o_callV_1, o_callV_2, o_callV_3, o_callV_4, o_callV_5, o_callV_6, o_callT_0, o_callT_1, q_cn_0, q_cn_i, q_cn_r, q_cn_a, q_cn_l, q_cat_eq, q_nl_none, q_nl_sn, q_nl_i, q_nl_r, q_nl_a, q_vp_0, q_vp_1, q_vp_2, q_vp_3, q_vp_4, q_vp_5, q_vp_6, q_vp_7, q_vp_8, List.getElem?_cons_zero, List.getElem?_cons_succ, List.getElem?_nil, List.set_cons_zero, List.set_cons_succ, List.set_nil, Option.toList_some, Option.toList_none, List.cons_append, List.nil_append, Nat.reduceAdd, Nat.reduceSub, Nat.reduceLeDiff, Nat.add_zero, Nat.zero_add, Nat.reduceLT, Nat.zero_le, true_and, and_true, Value.category, true_or, or_true, q_z10, q_z01, Int32.reduceLT, Int32.reduceLE, Int32.reduceToNatClampNeg, not_true_eq_false, not_false_eq_true, false_implies, true_implies, implies_true, BX9_mail_16, BX9_mail_29, BX9_mail_26, BX9_mail_19, BX9_mail_8, BX9_mail_0, BX9_mail_166, BX9_mail_74, BX9_mail_71, BX9_mail_62, BX9_mail_57, BX9_mail_45, BX9_mail_156, BX9_mail_111, BX9_mail_107, BX9_mail_89, BX9_mail_80, BX9_mail_141, BX9_mail_140, BX9_mail_136, BX9_mail_121, BX9_mail_112, rmX9_mail, z0, z1, z2, z3, z4, z5, z6, z7, z8, z9, z10, z11, z12, z13, z14, z15, z16, q_cls_of z0, q_R0_same]
        refine p9_one ?_
        simp only [o_no, o_cut, o_ic, o_lc, o_str, o_il, o_ll, o_al, o_is, o_as, o_inc, o_iadd, o_isub, o_imul, o_iand, o_ior, o_ishl, o_ishr, o_iushr, o_idiv, o_irem, o_ladd, o_lmul, o_land, o_lor, o_lrem, o_lshl, o_lshr, o_lcmp, o_i2l, o_l2i, o_dup, o_dup2, o_ifeq, o_ifne, o_iflt, o_ifge, o_ifgt, o_ifle, o_iceq, o_icne, o_iclt, o_icge, o_icgt, o_icle, o_sw, o_iret, o_zret, o_vret, o_getf, o_putf, o_putz, o_putr, o_iald, o_zald, o_iast, o_zast, o_alen, o_aald, o_aast, o_obj_e, o_mmax_e, o_mmin_e, o_gsc, o_gsf, o_sval, o_scod, o_salen, o_sbald, o_i2c, o_pop, o_nret, o_call_0, o_call_1, o_call_2, o_call_3, o_call_4, o_call_5, o_call_6, o_call_7, o_callV_0, o_callV_1, o_callV_2, o_callV_3, o_callV_4, o_callV_5, o_callV_6, o_callT_0, o_callT_1, q_cn_0, q_cn_i, q_cn_r, q_cn_a, q_cn_l, q_cat_eq, q_nl_none, q_nl_sn, q_nl_i, q_nl_r, q_nl_a, q_vp_0, q_vp_1, q_vp_2, q_vp_3, q_vp_4, q_vp_5, q_vp_6, q_vp_7, q_vp_8, List.getElem?_cons_zero, List.getElem?_cons_succ, List.getElem?_nil, List.set_cons_zero, List.set_cons_succ, List.set_nil, Option.toList_some, Option.toList_none, List.cons_append, List.nil_append, Nat.reduceAdd, Nat.reduceSub, Nat.reduceLeDiff, Nat.add_zero, Nat.zero_add, Nat.reduceLT, Nat.zero_le, true_and, and_true, Value.category, true_or, or_true, q_z10, q_z01, Int32.reduceLT, Int32.reduceLE, Int32.reduceToNatClampNeg, not_true_eq_false, not_false_eq_true, false_implies, true_implies, implies_true, BX9_mail_16, BX9_mail_29, BX9_mail_26, BX9_mail_19, BX9_mail_8, BX9_mail_0, BX9_mail_166, BX9_mail_74, BX9_mail_71, BX9_mail_62, BX9_mail_57, BX9_mail_45, BX9_mail_156, BX9_mail_111, BX9_mail_107, BX9_mail_89, BX9_mail_80, BX9_mail_141, BX9_mail_140, BX9_mail_136, BX9_mail_121, BX9_mail_112, rmX9_mail, z0, z1, z2, z3, z4, z5, z6, z7, z8, z9, z10, z11, z12, z13, z14, z15, z16, q_cls_of z0, q_R0_same]
        rw [one_one]
        have e0 : (if r_lt k p (r_ad k s st) = true then 1 else 0 : Int32) <<< (nI p &&& 31) = nI (e_set k (r_ad k s st) p 0) := by
          rw [← e_set0 hk hS' hp]
          split
          · rw [nI_shl (by omega)]
          · rw [Int32.zero_shiftLeft]; rfl
        rw [e0]
        obtain ⟨V, hV⟩ : ∃ V, V = f_ne (f_ff (fun n => f_bit (e_set k (r_ad k s st) p n) q) (8 * r_per k + 1) 0) (8 * r_per k + 1) := ⟨_, rfl⟩
        rw [← hV] at hR
        have loop : ∀ d j (m2 : q_Mm) (v6 v7 v8 : Option Value), j + d = 8 * r_per k + 1 → V = f_ne (f_ff (fun n => f_bit (e_set k (r_ad k s st) p n) q) d j) (8 * r_per k + 1) → q_but (c + 9) m m2 → q_WP TX9_mail 45 [some (.ref c), some (.int (nI p)), some (.int (nI q)), some (.int (nI st)), some (.int (nI (e_set k (r_ad k s st) p j))), some (.int (nI j)), v6, v7, v8] [] sh m2 (q_R0 sh rmX9_mail R) := by
          intro d
          induction d with
          | zero =>
            intro j m2 v6 v7 v8 hj e hb
            rw [f_ff, f_ne, if_pos (by omega)] at e
            rw [e] at hR
            refine uX9_mail_45 ?_
            simp only [o_no, o_cut, o_ic, o_lc, o_str, o_il, o_ll, o_al, o_is, o_as, o_inc, o_iadd, o_isub, o_imul, o_iand, o_ior, o_ishl, o_ishr, o_iushr, o_idiv, o_irem, o_ladd, o_lmul, o_land, o_lor, o_lrem, o_lshl, o_lshr, o_lcmp, o_i2l, o_l2i, o_dup, o_dup2, o_ifeq, o_ifne, o_iflt, o_ifge, o_ifgt, o_ifle, o_iceq, o_icne, o_iclt, o_icge, o_icgt, o_icle, o_sw, o_iret, o_zret, o_vret, o_getf, o_putf, o_putz, o_putr, o_iald, o_zald, o_iast, o_zast, o_alen, o_aald, o_aast, o_obj_e, o_mmax_e, o_mmin_e, o_gsc, o_gsf, o_sval, o_scod, o_salen, o_sbald, o_i2c, o_pop, o_nret, o_call_0, o_call_1, o_call_2, o_call_3, o_call_4, o_call_5, o_call_6, o_call_7, o_callV_0, o_callV_1, o_callV_2, o_callV_3, o_callV_4, o_callV_5, o_callV_6, o_callT_0, o_callT_1, q_cn_0, q_cn_i, q_cn_r, q_cn_a, q_cn_l, q_cat_eq, q_nl_none, q_nl_sn, q_nl_i, q_nl_r, q_nl_a, q_vp_0, q_vp_1, q_vp_2, q_vp_3, q_vp_4, q_vp_5, q_vp_6, q_vp_7, q_vp_8, List.getElem?_cons_zero, List.getElem?_cons_succ, List.getElem?_nil, List.set_cons_zero, List.set_cons_succ, List.set_nil, Option.toList_some, Option.toList_none, List.cons_append, List.nil_append, Nat.reduceAdd, Nat.reduceSub, Nat.reduceLeDiff, Nat.add_zero, Nat.zero_add, Nat.reduceLT, Nat.zero_le, true_and, and_true, Value.category, true_or, or_true, q_z10, q_z01, Int32.reduceLT, Int32.reduceLE, Int32.reduceToNatClampNeg, not_true_eq_false, not_false_eq_true, false_implies, true_implies, implies_true, BX9_mail_16, BX9_mail_29, BX9_mail_26, BX9_mail_19, BX9_mail_8, BX9_mail_0, BX9_mail_166, BX9_mail_74, BX9_mail_71, BX9_mail_62, BX9_mail_57, BX9_mail_45, BX9_mail_156, BX9_mail_111, BX9_mail_107, BX9_mail_89, BX9_mail_80, BX9_mail_141, BX9_mail_140, BX9_mail_136, BX9_mail_121, BX9_mail_112, rmX9_mail, z0, z1, z2, z3, z4, z5, z6, z7, z8, z9, z10, z11, z12, z13, z14, z15, z16, q_cls_of z0, q_R0_same]
            rw [(m_rock_but hm (by decide) hb).2.2.2.2.1, show (8 : Int32) = nI 8 from rfl, pk_mul]
            exact ⟨fun _ => hR m2 hb, fun q => absurd (nI_lt (by omega) (by omega)) q⟩
          | succ d ih =>
            intro j m2 v6 v7 v8 hj e hb
            have hE := e_set_lt (k := k) (s := r_ad k s st) (p := p) hk j
            refine uX9_mail_45 ?_
            simp only [o_no, o_cut, o_ic, o_lc, o_str, o_il, o_ll, o_al, o_is, o_as, o_inc, o_iadd, o_isub, o_imul, o_iand, o_ior, o_ishl, o_ishr, o_iushr, o_idiv, o_irem, o_ladd, o_lmul, o_land, o_lor, o_lrem, o_lshl, o_lshr, o_lcmp, o_i2l, o_l2i, o_dup, o_dup2, o_ifeq, o_ifne, o_iflt, o_ifge, o_ifgt, o_ifle, o_iceq, o_icne, o_iclt, o_icge, o_icgt, o_icle, o_sw, o_iret, o_zret, o_vret, o_getf, o_putf, o_putz, o_putr, o_iald, o_zald, o_iast, o_zast, o_alen, o_aald, o_aast, o_obj_e, o_mmax_e, o_mmin_e, o_gsc, o_gsf, o_sval, o_scod, o_salen, o_sbald, o_i2c, o_pop, o_nret, o_call_0, o_call_1, o_call_2, o_call_3, o_call_4, o_call_5, o_call_6, o_call_7, o_callV_0, o_callV_1, o_callV_2, o_callV_3, o_callV_4, o_callV_5, o_callV_6, o_callT_0, o_callT_1, q_cn_0, q_cn_i, q_cn_r, q_cn_a, q_cn_l, q_cat_eq, q_nl_none, q_nl_sn, q_nl_i, q_nl_r, q_nl_a, q_vp_0, q_vp_1, q_vp_2, q_vp_3, q_vp_4, q_vp_5, q_vp_6, q_vp_7, q_vp_8, List.getElem?_cons_zero, List.getElem?_cons_succ, List.getElem?_nil, List.set_cons_zero, List.set_cons_succ, List.set_nil, Option.toList_some, Option.toList_none, List.cons_append, List.nil_append, Nat.reduceAdd, Nat.reduceSub, Nat.reduceLeDiff, Nat.add_zero, Nat.zero_add, Nat.reduceLT, Nat.zero_le, true_and, and_true, Value.category, true_or, or_true, q_z10, q_z01, Int32.reduceLT, Int32.reduceLE, Int32.reduceToNatClampNeg, not_true_eq_false, not_false_eq_true, false_implies, true_implies, implies_true, BX9_mail_16, BX9_mail_29, BX9_mail_26, BX9_mail_19, BX9_mail_8, BX9_mail_0, BX9_mail_166, BX9_mail_74, BX9_mail_71, BX9_mail_62, BX9_mail_57, BX9_mail_45, BX9_mail_156, BX9_mail_111, BX9_mail_107, BX9_mail_89, BX9_mail_80, BX9_mail_141, BX9_mail_140, BX9_mail_136, BX9_mail_121, BX9_mail_112, rmX9_mail, z0, z1, z2, z3, z4, z5, z6, z7, z8, z9, z10, z11, z12, z13, z14, z15, z16, q_cls_of z0, q_R0_same]
            rw [(m_rock_but hm (by decide) hb).2.2.2.2.1, show (8 : Int32) = nI 8 from rfl, pk_mul]
            refine ⟨fun q => absurd q (nI_nlt (by omega) (by omega)), fun _ => ⟨fun y => ?_, fun y => ?_⟩⟩
            · have y : e_set k (r_ad k s st) p j = 0 := (nI_eq (b := 0) (by omega) (by decide)).mp y
              have : ∀ d, f_ff (fun n => f_bit (e_set k (r_ad k s st) p n) q) d j = j + d := by
                intro d
                have hle := f_ff_le (fun n => f_bit (e_set k (r_ad k s st) p n) q) d j
                rcases Nat.lt_or_ge (f_ff (fun n => f_bit (e_set k (r_ad k s st) p n) q) d j) (j + d) with z | z
                · have h1 := f_ff_yes d j z
                  obtain ⟨i, hi⟩ : ∃ i, f_ff (fun n => f_bit (e_set k (r_ad k s st) p n) q) d j = j + i := ⟨_, (Nat.add_sub_cancel' hle.1).symm⟩
                  rw [hi, e_zero y, f_bit_0] at h1
                  exact absurd h1 (by decide)
                · omega
              rw [this, f_ne, if_pos (by omega)] at e
              rw [e] at hR
              exact hR m2 hb
            · rw [f_ff] at e
              refine p9_has (fun y2 => ?_) (fun y2 => ?_)
              · rw [f_bit1 hE (by omega)] at y2
                rw [if_pos y2, f_ne, if_neg (by omega)] at e
                rw [e] at hR
                simp only [o_no, o_cut, o_ic, o_lc, o_str, o_il, o_ll, o_al, o_is, o_as, o_inc, o_iadd, o_isub, o_imul, o_iand, o_ior, o_ishl, o_ishr, o_iushr, o_idiv, o_irem, o_ladd, o_lmul, o_land, o_lor, o_lrem, o_lshl, o_lshr, o_lcmp, o_i2l, o_l2i, o_dup, o_dup2, o_ifeq, o_ifne, o_iflt, o_ifge, o_ifgt, o_ifle, o_iceq, o_icne, o_iclt, o_icge, o_icgt, o_icle, o_sw, o_iret, o_zret, o_vret, o_getf, o_putf, o_putz, o_putr, o_iald, o_zald, o_iast, o_zast, o_alen, o_aald, o_aast, o_obj_e, o_mmax_e, o_mmin_e, o_gsc, o_gsf, o_sval, o_scod, o_salen, o_sbald, o_i2c, o_pop, o_nret, o_call_0, o_call_1, o_call_2, o_call_3, o_call_4, o_call_5, o_call_6, o_call_7, o_callV_0, o_callV_1, o_callV_2, o_callV_3, o_callV_4, o_callV_5, o_callV_6, o_callT_0, o_callT_1, q_cn_0, q_cn_i, q_cn_r, q_cn_a, q_cn_l, q_cat_eq, q_nl_none, q_nl_sn, q_nl_i, q_nl_r, q_nl_a, q_vp_0, q_vp_1, q_vp_2, q_vp_3, q_vp_4, q_vp_5, q_vp_6, q_vp_7, q_vp_8, List.getElem?_cons_zero, List.getElem?_cons_succ, List.getElem?_nil, List.set_cons_zero, List.set_cons_succ, List.set_nil, Option.toList_some, Option.toList_none, List.cons_append, List.nil_append, Nat.reduceAdd, Nat.reduceSub, Nat.reduceLeDiff, Nat.add_zero, Nat.zero_add, Nat.reduceLT, Nat.zero_le, true_and, and_true, Value.category, true_or, or_true, q_z10, q_z01, Int32.reduceLT, Int32.reduceLE, Int32.reduceToNatClampNeg, not_true_eq_false, not_false_eq_true, false_implies, true_implies, implies_true, BX9_mail_16, BX9_mail_29, BX9_mail_26, BX9_mail_19, BX9_mail_8, BX9_mail_0, BX9_mail_166, BX9_mail_74, BX9_mail_71, BX9_mail_62, BX9_mail_57, BX9_mail_45, BX9_mail_156, BX9_mail_111, BX9_mail_107, BX9_mail_89, BX9_mail_80, BX9_mail_141, BX9_mail_140, BX9_mail_136, BX9_mail_121, BX9_mail_112, rmX9_mail, z0, z1, z2, z3, z4, z5, z6, z7, z8, z9, z10, z11, z12, z13, z14, z15, z16, q_cls_of z0, q_R0_same]
                exact hR m2 hb
              · rw [f_bit1 hE (by omega)] at y2
                rw [if_neg y2] at e
                have ih := fun m3 v6 v7 v8 => ih (j + 1) m3 v6 v7 v8 (by omega) e
                rw [← e_set_m hk hsy hS' p j] at ih
                generalize e_set k (r_ad k s st) p j = E at *
                have inner : ∀ g x (m3 : q_Mm) (v8 : Option Value), x + g = r_pl k → q_but (c + 9) m m3 → q_WP TX9_mail 80 [some (.ref c), some (.int (nI p)), some (.int (nI q)), some (.int (nI st)), some (.int (nI E)), some (.int (nI j)), some (.int (nI (r_set (e_G k E (r_ad k (r_ad k s st) (j + 1))) x))), some (.int (nI x)), v8] [] sh m3 (q_R0 sh rmX9_mail R) := by
                  intro g
                  induction g with
                  | zero =>
                    intro x m3 v8 hx hb3
                    obtain rfl : x = r_pl k := by omega
                    refine uX9_mail_80 ?_
                    simp only [o_no, o_cut, o_ic, o_lc, o_str, o_il, o_ll, o_al, o_is, o_as, o_inc, o_iadd, o_isub, o_imul, o_iand, o_ior, o_ishl, o_ishr, o_iushr, o_idiv, o_irem, o_ladd, o_lmul, o_land, o_lor, o_lrem, o_lshl, o_lshr, o_lcmp, o_i2l, o_l2i, o_dup, o_dup2, o_ifeq, o_ifne, o_iflt, o_ifge, o_ifgt, o_ifle, o_iceq, o_icne, o_iclt, o_icge, o_icgt, o_icle, o_sw, o_iret, o_zret, o_vret, o_getf, o_putf, o_putz, o_putr, o_iald, o_zald, o_iast, o_zast, o_alen, o_aald, o_aast, o_obj_e, o_mmax_e, o_mmin_e, o_gsc, o_gsf, o_sval, o_scod, o_salen, o_sbald, o_i2c, o_pop, o_nret, o_call_0, o_call_1, o_call_2, o_call_3, o_call_4, o_call_5, o_call_6, o_call_7, o_callV_0, o_callV_1, o_callV_2, o_callV_3, o_callV_4, o_callV_5, o_callV_6, o_callT_0, o_callT_1, q_cn_0, q_cn_i, q_cn_r, q_cn_a, q_cn_l, q_cat_eq, q_nl_none, q_nl_sn, q_nl_i, q_nl_r, q_nl_a, q_vp_0, q_vp_1, q_vp_2, q_vp_3, q_vp_4, q_vp_5, q_vp_6, q_vp_7, q_vp_8, List.getElem?_cons_zero, List.getElem?_cons_succ, List.getElem?_nil, List.set_cons_zero, List.set_cons_succ, List.set_nil, Option.toList_some, Option.toList_none, List.cons_append, List.nil_append, Nat.reduceAdd, Nat.reduceSub, Nat.reduceLeDiff, Nat.add_zero, Nat.zero_add, Nat.reduceLT, Nat.zero_le, true_and, and_true, Value.category, true_or, or_true, q_z10, q_z01, Int32.reduceLT, Int32.reduceLE, Int32.reduceToNatClampNeg, not_true_eq_false, not_false_eq_true, false_implies, true_implies, implies_true, BX9_mail_16, BX9_mail_29, BX9_mail_26, BX9_mail_19, BX9_mail_8, BX9_mail_0, BX9_mail_166, BX9_mail_74, BX9_mail_71, BX9_mail_62, BX9_mail_57, BX9_mail_45, BX9_mail_156, BX9_mail_111, BX9_mail_107, BX9_mail_89, BX9_mail_80, BX9_mail_141, BX9_mail_140, BX9_mail_136, BX9_mail_121, BX9_mail_112, rmX9_mail, z0, z1, z2, z3, z4, z5, z6, z7, z8, z9, z10, z11, z12, z13, z14, z15, z16, q_cls_of z0, q_R0_same]
                    rw [(m_rock_but hm (by decide) hb3).2.1]
                    refine ⟨fun _ => ?_, fun q => absurd (nI_le (by omega) (by omega)) q⟩
                    rw [nI_1]
                    exact ih m3 _ _ _ hb3
                  | succ g ihg =>
                    intro x m3 v8 hx hb3
                    have hm3 := m_rock_but hm (i := 9) (by decide) hb3
                    have nx := fun m4 v8 => ihg (x + 1) m4 v8 (by omega)
                    rw [r_set] at nx
                    have hrl := r_set_lt (e_G k E (r_ad k (r_ad k s st) (j + 1))) x
                    have hxx : x < r_pl k := by omega
                    have fin : ∀ (b : Bool) (m4 : q_Mm) (v8 : Option Value), q_but (c + 9) m m4 → e_G k E (r_ad k (r_ad k s st) (j + 1)) x = b → BX9_mail_141 [some (.ref c), some (.int (nI p)), some (.int (nI q)), some (.int (nI st)), some (.int (nI E)), some (.int (nI j)), some (.int (nI (r_set (e_G k E (r_ad k (r_ad k s st) (j + 1))) x))), some (.int (nI x)), v8] [.int (if b = true then 1 else 0), .int (nI (r_set (e_G k E (r_ad k (r_ad k s st) (j + 1))) x))] sh m4 (fun pc L st sh2 m => q_WP TX9_mail pc L st sh2 m (q_R0 sh rmX9_mail R)) (q_R0 sh rmX9_mail R) := by
                      intro b m4 v8 hb4 hbe
                      simp only [o_no, o_cut, o_ic, o_lc, o_str, o_il, o_ll, o_al, o_is, o_as, o_inc, o_iadd, o_isub, o_imul, o_iand, o_ior, o_ishl, o_ishr, o_iushr, o_idiv, o_irem, o_ladd, o_lmul, o_land, o_lor, o_lrem, o_lshl, o_lshr, o_lcmp, o_i2l, o_l2i, o_dup, o_dup2, o_ifeq, o_ifne, o_iflt, o_ifge, o_ifgt, o_ifle, o_iceq, o_icne, o_iclt, o_icge, o_icgt, o_icle, o_sw, o_iret, o_zret, o_vret, o_getf, o_putf, o_putz, o_putr, o_iald, o_zald, o_iast, o_zast, o_alen, o_aald, o_aast, o_obj_e, o_mmax_e, o_mmin_e, o_gsc, o_gsf, o_sval, o_scod, o_salen, o_sbald, o_i2c, o_pop, o_nret, o_call_0, o_call_1, o_call_2, o_call_3, o_call_4, o_call_5, o_call_6, o_call_7, o_callV_0, o_callV_1, o_callV_2, o_callV_3, o_callV_4, o_callV_5, o_callV_6, o_callT_0, o_callT_1, q_cn_0, q_cn_i, q_cn_r, q_cn_a, q_cn_l, q_cat_eq, q_nl_none, q_nl_sn, q_nl_i, q_nl_r, q_nl_a, q_vp_0, q_vp_1, q_vp_2, q_vp_3, q_vp_4, q_vp_5, q_vp_6, q_vp_7, q_vp_8, List.getElem?_cons_zero, List.getElem?_cons_succ, List.getElem?_nil, List.set_cons_zero, List.set_cons_succ, List.set_nil, Option.toList_some, Option.toList_none, List.cons_append, List.nil_append, Nat.reduceAdd, Nat.reduceSub, Nat.reduceLeDiff, Nat.add_zero, Nat.zero_add, Nat.reduceLT, Nat.zero_le, true_and, and_true, Value.category, true_or, or_true, q_z10, q_z01, Int32.reduceLT, Int32.reduceLE, Int32.reduceToNatClampNeg, not_true_eq_false, not_false_eq_true, false_implies, true_implies, implies_true, BX9_mail_16, BX9_mail_29, BX9_mail_26, BX9_mail_19, BX9_mail_8, BX9_mail_0, BX9_mail_166, BX9_mail_74, BX9_mail_71, BX9_mail_62, BX9_mail_57, BX9_mail_45, BX9_mail_156, BX9_mail_111, BX9_mail_107, BX9_mail_89, BX9_mail_80, BX9_mail_141, BX9_mail_140, BX9_mail_136, BX9_mail_121, BX9_mail_112, rmX9_mail, z0, z1, z2, z3, z4, z5, z6, z7, z8, z9, z10, z11, z12, z13, z14, z15, z16, q_cls_of z0, q_R0_same]
                      refine p9_one ?_
                      simp only [o_no, o_cut, o_ic, o_lc, o_str, o_il, o_ll, o_al, o_is, o_as, o_inc, o_iadd, o_isub, o_imul, o_iand, o_ior, o_ishl, o_ishr, o_iushr, o_idiv, o_irem, o_ladd, o_lmul, o_land, o_lor, o_lrem, o_lshl, o_lshr, o_lcmp, o_i2l, o_l2i, o_dup, o_dup2, o_ifeq, o_ifne, o_iflt, o_ifge, o_ifgt, o_ifle, o_iceq, o_icne, o_iclt, o_icge, o_icgt, o_icle, o_sw, o_iret, o_zret, o_vret, o_getf, o_putf, o_putz, o_putr, o_iald, o_zald, o_iast, o_zast, o_alen, o_aald, o_aast, o_obj_e, o_mmax_e, o_mmin_e, o_gsc, o_gsf, o_sval, o_scod, o_salen, o_sbald, o_i2c, o_pop, o_nret, o_call_0, o_call_1, o_call_2, o_call_3, o_call_4, o_call_5, o_call_6, o_call_7, o_callV_0, o_callV_1, o_callV_2, o_callV_3, o_callV_4, o_callV_5, o_callV_6, o_callT_0, o_callT_1, q_cn_0, q_cn_i, q_cn_r, q_cn_a, q_cn_l, q_cat_eq, q_nl_none, q_nl_sn, q_nl_i, q_nl_r, q_nl_a, q_vp_0, q_vp_1, q_vp_2, q_vp_3, q_vp_4, q_vp_5, q_vp_6, q_vp_7, q_vp_8, List.getElem?_cons_zero, List.getElem?_cons_succ, List.getElem?_nil, List.set_cons_zero, List.set_cons_succ, List.set_nil, Option.toList_some, Option.toList_none, List.cons_append, List.nil_append, Nat.reduceAdd, Nat.reduceSub, Nat.reduceLeDiff, Nat.add_zero, Nat.zero_add, Nat.reduceLT, Nat.zero_le, true_and, and_true, Value.category, true_or, or_true, q_z10, q_z01, Int32.reduceLT, Int32.reduceLE, Int32.reduceToNatClampNeg, not_true_eq_false, not_false_eq_true, false_implies, true_implies, implies_true, BX9_mail_16, BX9_mail_29, BX9_mail_26, BX9_mail_19, BX9_mail_8, BX9_mail_0, BX9_mail_166, BX9_mail_74, BX9_mail_71, BX9_mail_62, BX9_mail_57, BX9_mail_45, BX9_mail_156, BX9_mail_111, BX9_mail_107, BX9_mail_89, BX9_mail_80, BX9_mail_141, BX9_mail_140, BX9_mail_136, BX9_mail_121, BX9_mail_112, rmX9_mail, z0, z1, z2, z3, z4, z5, z6, z7, z8, z9, z10, z11, z12, z13, z14, z15, z16, q_cls_of z0, q_R0_same]
                      rw [one_one, nI_1]
                      have nx := nx m4 v8 hb4
                      rw [hbe] at nx
                      cases b with
                      | true => rw [if_pos rfl, nI_shl (by omega), nI_orp hrl]; exact nx
                      | false => rw [if_neg (by decide), Int32.zero_shiftLeft, Int32.or_zero]; exact nx
                    refine uX9_mail_80 ?_
                    simp only [o_no, o_cut, o_ic, o_lc, o_str, o_il, o_ll, o_al, o_is, o_as, o_inc, o_iadd, o_isub, o_imul, o_iand, o_ior, o_ishl, o_ishr, o_iushr, o_idiv, o_irem, o_ladd, o_lmul, o_land, o_lor, o_lrem, o_lshl, o_lshr, o_lcmp, o_i2l, o_l2i, o_dup, o_dup2, o_ifeq, o_ifne, o_iflt, o_ifge, o_ifgt, o_ifle, o_iceq, o_icne, o_iclt, o_icge, o_icgt, o_icle, o_sw, o_iret, o_zret, o_vret, o_getf, o_putf, o_putz, o_putr, o_iald, o_zald, o_iast, o_zast, o_alen, o_aald, o_aast, o_obj_e, o_mmax_e, o_mmin_e, o_gsc, o_gsf, o_sval, o_scod, o_salen, o_sbald, o_i2c, o_pop, o_nret, o_call_0, o_call_1, o_call_2, o_call_3, o_call_4, o_call_5, o_call_6, o_call_7, o_callV_0, o_callV_1, o_callV_2, o_callV_3, o_callV_4, o_callV_5, o_callV_6, o_callT_0, o_callT_1, q_cn_0, q_cn_i, q_cn_r, q_cn_a, q_cn_l, q_cat_eq, q_nl_none, q_nl_sn, q_nl_i, q_nl_r, q_nl_a, q_vp_0, q_vp_1, q_vp_2, q_vp_3, q_vp_4, q_vp_5, q_vp_6, q_vp_7, q_vp_8, List.getElem?_cons_zero, List.getElem?_cons_succ, List.getElem?_nil, List.set_cons_zero, List.set_cons_succ, List.set_nil, Option.toList_some, Option.toList_none, List.cons_append, List.nil_append, Nat.reduceAdd, Nat.reduceSub, Nat.reduceLeDiff, Nat.add_zero, Nat.zero_add, Nat.reduceLT, Nat.zero_le, true_and, and_true, Value.category, true_or, or_true, q_z10, q_z01, Int32.reduceLT, Int32.reduceLE, Int32.reduceToNatClampNeg, not_true_eq_false, not_false_eq_true, false_implies, true_implies, implies_true, BX9_mail_16, BX9_mail_29, BX9_mail_26, BX9_mail_19, BX9_mail_8, BX9_mail_0, BX9_mail_166, BX9_mail_74, BX9_mail_71, BX9_mail_62, BX9_mail_57, BX9_mail_45, BX9_mail_156, BX9_mail_111, BX9_mail_107, BX9_mail_89, BX9_mail_80, BX9_mail_141, BX9_mail_140, BX9_mail_136, BX9_mail_121, BX9_mail_112, rmX9_mail, z0, z1, z2, z3, z4, z5, z6, z7, z8, z9, z10, z11, z12, z13, z14, z15, z16, q_cls_of z0, q_R0_same]
                    rw [hm3.2.1]
                    refine ⟨fun q => absurd q (nI_ge (by omega) (by omega)), fun _ => ?_⟩
                    rw [nI_clamp (n := x) (by omega), hm3.2.2.2.2.2.2.2.2.1 x hxx, nI_shl (by omega), nI_or, nI_and _ _ (by omega)]
                    refine ⟨vp_in_nI (by omega) (by decide), fun y3 => ?_, fun y3 => ?_⟩
                    · have y3 : E &&& r_rc k x = 0 := (nI_eq (b := 0) (by have := Nat.and_le_left (n := E) (m := r_rc k x); show E &&& r_rc k x < _; omega) (by decide)).mp y3
                      refine uX9_mail_112 ?_
                      have := fin false m3 (some (.int 0)) hb3 (by rw [e_G, decide_eq_false (fun q => q y3), Bool.false_and])
                      simp only [o_no, o_cut, o_ic, o_lc, o_str, o_il, o_ll, o_al, o_is, o_as, o_inc, o_iadd, o_isub, o_imul, o_iand, o_ior, o_ishl, o_ishr, o_iushr, o_idiv, o_irem, o_ladd, o_lmul, o_land, o_lor, o_lrem, o_lshl, o_lshr, o_lcmp, o_i2l, o_l2i, o_dup, o_dup2, o_ifeq, o_ifne, o_iflt, o_ifge, o_ifgt, o_ifle, o_iceq, o_icne, o_iclt, o_icge, o_icgt, o_icle, o_sw, o_iret, o_zret, o_vret, o_getf, o_putf, o_putz, o_putr, o_iald, o_zald, o_iast, o_zast, o_alen, o_aald, o_aast, o_obj_e, o_mmax_e, o_mmin_e, o_gsc, o_gsf, o_sval, o_scod, o_salen, o_sbald, o_i2c, o_pop, o_nret, o_call_0, o_call_1, o_call_2, o_call_3, o_call_4, o_call_5, o_call_6, o_call_7, o_callV_0, o_callV_1, o_callV_2, o_callV_3, o_callV_4, o_callV_5, o_callV_6, o_callT_0, o_callT_1, q_cn_0, q_cn_i, q_cn_r, q_cn_a, q_cn_l, q_cat_eq, q_nl_none, q_nl_sn, q_nl_i, q_nl_r, q_nl_a, q_vp_0, q_vp_1, q_vp_2, q_vp_3, q_vp_4, q_vp_5, q_vp_6, q_vp_7, q_vp_8, List.getElem?_cons_zero, List.getElem?_cons_succ, List.getElem?_nil, List.set_cons_zero, List.set_cons_succ, List.set_nil, Option.toList_some, Option.toList_none, List.cons_append, List.nil_append, Nat.reduceAdd, Nat.reduceSub, Nat.reduceLeDiff, Nat.add_zero, Nat.zero_add, Nat.reduceLT, Nat.zero_le, true_and, and_true, Value.category, true_or, or_true, q_z10, q_z01, Int32.reduceLT, Int32.reduceLE, Int32.reduceToNatClampNeg, not_true_eq_false, not_false_eq_true, false_implies, true_implies, implies_true, BX9_mail_16, BX9_mail_29, BX9_mail_26, BX9_mail_19, BX9_mail_8, BX9_mail_0, BX9_mail_166, BX9_mail_74, BX9_mail_71, BX9_mail_62, BX9_mail_57, BX9_mail_45, BX9_mail_156, BX9_mail_111, BX9_mail_107, BX9_mail_89, BX9_mail_80, BX9_mail_141, BX9_mail_140, BX9_mail_136, BX9_mail_121, BX9_mail_112, rmX9_mail, z0, z1, z2, z3, z4, z5, z6, z7, z8, z9, z10, z11, z12, z13, z14, z15, z16, q_cls_of z0, q_R0_same]
                      simp only [o_no, o_cut, o_ic, o_lc, o_str, o_il, o_ll, o_al, o_is, o_as, o_inc, o_iadd, o_isub, o_imul, o_iand, o_ior, o_ishl, o_ishr, o_iushr, o_idiv, o_irem, o_ladd, o_lmul, o_land, o_lor, o_lrem, o_lshl, o_lshr, o_lcmp, o_i2l, o_l2i, o_dup, o_dup2, o_ifeq, o_ifne, o_iflt, o_ifge, o_ifgt, o_ifle, o_iceq, o_icne, o_iclt, o_icge, o_icgt, o_icle, o_sw, o_iret, o_zret, o_vret, o_getf, o_putf, o_putz, o_putr, o_iald, o_zald, o_iast, o_zast, o_alen, o_aald, o_aast, o_obj_e, o_mmax_e, o_mmin_e, o_gsc, o_gsf, o_sval, o_scod, o_salen, o_sbald, o_i2c, o_pop, o_nret, o_call_0, o_call_1, o_call_2, o_call_3, o_call_4, o_call_5, o_call_6, o_call_7, o_callV_0, o_callV_1, o_callV_2, o_callV_3, o_callV_4, o_callV_5, o_callV_6, o_callT_0, o_callT_1, q_cn_0, q_cn_i, q_cn_r, q_cn_a, q_cn_l, q_cat_eq, q_nl_none, q_nl_sn, q_nl_i, q_nl_r, q_nl_a, q_vp_0, q_vp_1, q_vp_2, q_vp_3, q_vp_4, q_vp_5, q_vp_6, q_vp_7, q_vp_8, List.getElem?_cons_zero, List.getElem?_cons_succ, List.getElem?_nil, List.set_cons_zero, List.set_cons_succ, List.set_nil, Option.toList_some, Option.toList_none, List.cons_append, List.nil_append, Nat.reduceAdd, Nat.reduceSub, Nat.reduceLeDiff, Nat.add_zero, Nat.zero_add, Nat.reduceLT, Nat.zero_le, true_and, and_true, Value.category, true_or, or_true, q_z10, q_z01, Int32.reduceLT, Int32.reduceLE, Int32.reduceToNatClampNeg, not_true_eq_false, not_false_eq_true, false_implies, true_implies, implies_true, BX9_mail_16, BX9_mail_29, BX9_mail_26, BX9_mail_19, BX9_mail_8, BX9_mail_0, BX9_mail_166, BX9_mail_74, BX9_mail_71, BX9_mail_62, BX9_mail_57, BX9_mail_45, BX9_mail_156, BX9_mail_111, BX9_mail_107, BX9_mail_89, BX9_mail_80, BX9_mail_141, BX9_mail_140, BX9_mail_136, BX9_mail_121, BX9_mail_112, rmX9_mail, z0, z1, z2, z3, z4, z5, z6, z7, z8, z9, z10, z11, z12, z13, z14, z15, z16, q_cls_of z0, q_R0_same] at this
                      simpa using this
                    · have y3 : E &&& r_rc k x ≠ 0 := fun q => y3 (by show nI (E &&& r_rc k x) = 0; rw [q]; rfl)
                      refine uX9_mail_112 ?_
                      simp only [o_no, o_cut, o_ic, o_lc, o_str, o_il, o_ll, o_al, o_is, o_as, o_inc, o_iadd, o_isub, o_imul, o_iand, o_ior, o_ishl, o_ishr, o_iushr, o_idiv, o_irem, o_ladd, o_lmul, o_land, o_lor, o_lrem, o_lshl, o_lshr, o_lcmp, o_i2l, o_l2i, o_dup, o_dup2, o_ifeq, o_ifne, o_iflt, o_ifge, o_ifgt, o_ifle, o_iceq, o_icne, o_iclt, o_icge, o_icgt, o_icle, o_sw, o_iret, o_zret, o_vret, o_getf, o_putf, o_putz, o_putr, o_iald, o_zald, o_iast, o_zast, o_alen, o_aald, o_aast, o_obj_e, o_mmax_e, o_mmin_e, o_gsc, o_gsf, o_sval, o_scod, o_salen, o_sbald, o_i2c, o_pop, o_nret, o_call_0, o_call_1, o_call_2, o_call_3, o_call_4, o_call_5, o_call_6, o_call_7, o_callV_0, o_callV_1, o_callV_2, o_callV_3, o_callV_4, o_callV_5, o_callV_6, o_callT_0, o_callT_1, q_cn_0, q_cn_i, q_cn_r, q_cn_a, q_cn_l, q_cat_eq, q_nl_none, q_nl_sn, q_nl_i, q_nl_r, q_nl_a, q_vp_0, q_vp_1, q_vp_2, q_vp_3, q_vp_4, q_vp_5, q_vp_6, q_vp_7, q_vp_8, List.getElem?_cons_zero, List.getElem?_cons_succ, List.getElem?_nil, List.set_cons_zero, List.set_cons_succ, List.set_nil, Option.toList_some, Option.toList_none, List.cons_append, List.nil_append, Nat.reduceAdd, Nat.reduceSub, Nat.reduceLeDiff, Nat.add_zero, Nat.zero_add, Nat.reduceLT, Nat.zero_le, true_and, and_true, Value.category, true_or, or_true, q_z10, q_z01, Int32.reduceLT, Int32.reduceLE, Int32.reduceToNatClampNeg, not_true_eq_false, not_false_eq_true, false_implies, true_implies, implies_true, BX9_mail_16, BX9_mail_29, BX9_mail_26, BX9_mail_19, BX9_mail_8, BX9_mail_0, BX9_mail_166, BX9_mail_74, BX9_mail_71, BX9_mail_62, BX9_mail_57, BX9_mail_45, BX9_mail_156, BX9_mail_111, BX9_mail_107, BX9_mail_89, BX9_mail_80, BX9_mail_141, BX9_mail_140, BX9_mail_136, BX9_mail_121, BX9_mail_112, rmX9_mail, z0, z1, z2, z3, z4, z5, z6, z7, z8, z9, z10, z11, z12, z13, z14, z15, z16, q_cls_of z0, q_R0_same]
                      rw [nI_add, nI_1]
                      refine p9_isLit hs hm3 hk (m_shf_but hf (i := 9) (by decide) hb3) hxx (by omega) (fun m4 hb4 => ?_)
                      have hG : e_G k E (r_ad k (r_ad k s st) (j + 1)) x = r_lt k x (r_ad k s (st + j + 1)) := by
                        rw [e_G, decide_eq_true y3, Bool.true_and, r_adad hk, Nat.add_assoc]
                      simp only [o_no, o_cut, o_ic, o_lc, o_str, o_il, o_ll, o_al, o_is, o_as, o_inc, o_iadd, o_isub, o_imul, o_iand, o_ior, o_ishl, o_ishr, o_iushr, o_idiv, o_irem, o_ladd, o_lmul, o_land, o_lor, o_lrem, o_lshl, o_lshr, o_lcmp, o_i2l, o_l2i, o_dup, o_dup2, o_ifeq, o_ifne, o_iflt, o_ifge, o_ifgt, o_ifle, o_iceq, o_icne, o_iclt, o_icge, o_icgt, o_icle, o_sw, o_iret, o_zret, o_vret, o_getf, o_putf, o_putz, o_putr, o_iald, o_zald, o_iast, o_zast, o_alen, o_aald, o_aast, o_obj_e, o_mmax_e, o_mmin_e, o_gsc, o_gsf, o_sval, o_scod, o_salen, o_sbald, o_i2c, o_pop, o_nret, o_call_0, o_call_1, o_call_2, o_call_3, o_call_4, o_call_5, o_call_6, o_call_7, o_callV_0, o_callV_1, o_callV_2, o_callV_3, o_callV_4, o_callV_5, o_callV_6, o_callT_0, o_callT_1, q_cn_0, q_cn_i, q_cn_r, q_cn_a, q_cn_l, q_cat_eq, q_nl_none, q_nl_sn, q_nl_i, q_nl_r, q_nl_a, q_vp_0, q_vp_1, q_vp_2, q_vp_3, q_vp_4, q_vp_5, q_vp_6, q_vp_7, q_vp_8, List.getElem?_cons_zero, List.getElem?_cons_succ, List.getElem?_nil, List.set_cons_zero, List.set_cons_succ, List.set_nil, Option.toList_some, Option.toList_none, List.cons_append, List.nil_append, Nat.reduceAdd, Nat.reduceSub, Nat.reduceLeDiff, Nat.add_zero, Nat.zero_add, Nat.reduceLT, Nat.zero_le, true_and, and_true, Value.category, true_or, or_true, q_z10, q_z01, Int32.reduceLT, Int32.reduceLE, Int32.reduceToNatClampNeg, not_true_eq_false, not_false_eq_true, false_implies, true_implies, implies_true, BX9_mail_16, BX9_mail_29, BX9_mail_26, BX9_mail_19, BX9_mail_8, BX9_mail_0, BX9_mail_166, BX9_mail_74, BX9_mail_71, BX9_mail_62, BX9_mail_57, BX9_mail_45, BX9_mail_156, BX9_mail_111, BX9_mail_107, BX9_mail_89, BX9_mail_80, BX9_mail_141, BX9_mail_140, BX9_mail_136, BX9_mail_121, BX9_mail_112, rmX9_mail, z0, z1, z2, z3, z4, z5, z6, z7, z8, z9, z10, z11, z12, z13, z14, z15, z16, q_cls_of z0, q_R0_same]
                      cases hl : r_lt k x (r_ad k s (st + j + 1)) with
                      | true =>
                        have := fin true m4 (some (.int 1)) (hb3.tr hb4) (by rw [hG, hl])
                        simp only [o_no, o_cut, o_ic, o_lc, o_str, o_il, o_ll, o_al, o_is, o_as, o_inc, o_iadd, o_isub, o_imul, o_iand, o_ior, o_ishl, o_ishr, o_iushr, o_idiv, o_irem, o_ladd, o_lmul, o_land, o_lor, o_lrem, o_lshl, o_lshr, o_lcmp, o_i2l, o_l2i, o_dup, o_dup2, o_ifeq, o_ifne, o_iflt, o_ifge, o_ifgt, o_ifle, o_iceq, o_icne, o_iclt, o_icge, o_icgt, o_icle, o_sw, o_iret, o_zret, o_vret, o_getf, o_putf, o_putz, o_putr, o_iald, o_zald, o_iast, o_zast, o_alen, o_aald, o_aast, o_obj_e, o_mmax_e, o_mmin_e, o_gsc, o_gsf, o_sval, o_scod, o_salen, o_sbald, o_i2c, o_pop, o_nret, o_call_0, o_call_1, o_call_2, o_call_3, o_call_4, o_call_5, o_call_6, o_call_7, o_callV_0, o_callV_1, o_callV_2, o_callV_3, o_callV_4, o_callV_5, o_callV_6, o_callT_0, o_callT_1, q_cn_0, q_cn_i, q_cn_r, q_cn_a, q_cn_l, q_cat_eq, q_nl_none, q_nl_sn, q_nl_i, q_nl_r, q_nl_a, q_vp_0, q_vp_1, q_vp_2, q_vp_3, q_vp_4, q_vp_5, q_vp_6, q_vp_7, q_vp_8, List.getElem?_cons_zero, List.getElem?_cons_succ, List.getElem?_nil, List.set_cons_zero, List.set_cons_succ, List.set_nil, Option.toList_some, Option.toList_none, List.cons_append, List.nil_append, Nat.reduceAdd, Nat.reduceSub, Nat.reduceLeDiff, Nat.add_zero, Nat.zero_add, Nat.reduceLT, Nat.zero_le, true_and, and_true, Value.category, true_or, or_true, q_z10, q_z01, Int32.reduceLT, Int32.reduceLE, Int32.reduceToNatClampNeg, not_true_eq_false, not_false_eq_true, false_implies, true_implies, implies_true, BX9_mail_16, BX9_mail_29, BX9_mail_26, BX9_mail_19, BX9_mail_8, BX9_mail_0, BX9_mail_166, BX9_mail_74, BX9_mail_71, BX9_mail_62, BX9_mail_57, BX9_mail_45, BX9_mail_156, BX9_mail_111, BX9_mail_107, BX9_mail_89, BX9_mail_80, BX9_mail_141, BX9_mail_140, BX9_mail_136, BX9_mail_121, BX9_mail_112, rmX9_mail, z0, z1, z2, z3, z4, z5, z6, z7, z8, z9, z10, z11, z12, z13, z14, z15, z16, q_cls_of z0, q_R0_same] at this
                        refine ⟨fun q => absurd q (by decide), fun _ => ?_⟩
                        simpa using this
                      | false =>
                        have := fin false m4 (some (.int 1)) (hb3.tr hb4) (by rw [hG, hl])
                        simp only [o_no, o_cut, o_ic, o_lc, o_str, o_il, o_ll, o_al, o_is, o_as, o_inc, o_iadd, o_isub, o_imul, o_iand, o_ior, o_ishl, o_ishr, o_iushr, o_idiv, o_irem, o_ladd, o_lmul, o_land, o_lor, o_lrem, o_lshl, o_lshr, o_lcmp, o_i2l, o_l2i, o_dup, o_dup2, o_ifeq, o_ifne, o_iflt, o_ifge, o_ifgt, o_ifle, o_iceq, o_icne, o_iclt, o_icge, o_icgt, o_icle, o_sw, o_iret, o_zret, o_vret, o_getf, o_putf, o_putz, o_putr, o_iald, o_zald, o_iast, o_zast, o_alen, o_aald, o_aast, o_obj_e, o_mmax_e, o_mmin_e, o_gsc, o_gsf, o_sval, o_scod, o_salen, o_sbald, o_i2c, o_pop, o_nret, o_call_0, o_call_1, o_call_2, o_call_3, o_call_4, o_call_5, o_call_6, o_call_7, o_callV_0, o_callV_1, o_callV_2, o_callV_3, o_callV_4, o_callV_5, o_callV_6, o_callT_0, o_callT_1, q_cn_0, q_cn_i, q_cn_r, q_cn_a, q_cn_l, q_cat_eq, q_nl_none, q_nl_sn, q_nl_i, q_nl_r, q_nl_a, q_vp_0, q_vp_1, q_vp_2, q_vp_3, q_vp_4, q_vp_5, q_vp_6, q_vp_7, q_vp_8, List.getElem?_cons_zero, List.getElem?_cons_succ, List.getElem?_nil, List.set_cons_zero, List.set_cons_succ, List.set_nil, Option.toList_some, Option.toList_none, List.cons_append, List.nil_append, Nat.reduceAdd, Nat.reduceSub, Nat.reduceLeDiff, Nat.add_zero, Nat.zero_add, Nat.reduceLT, Nat.zero_le, true_and, and_true, Value.category, true_or, or_true, q_z10, q_z01, Int32.reduceLT, Int32.reduceLE, Int32.reduceToNatClampNeg, not_true_eq_false, not_false_eq_true, false_implies, true_implies, implies_true, BX9_mail_16, BX9_mail_29, BX9_mail_26, BX9_mail_19, BX9_mail_8, BX9_mail_0, BX9_mail_166, BX9_mail_74, BX9_mail_71, BX9_mail_62, BX9_mail_57, BX9_mail_45, BX9_mail_156, BX9_mail_111, BX9_mail_107, BX9_mail_89, BX9_mail_80, BX9_mail_141, BX9_mail_140, BX9_mail_136, BX9_mail_121, BX9_mail_112, rmX9_mail, z0, z1, z2, z3, z4, z5, z6, z7, z8, z9, z10, z11, z12, z13, z14, z15, z16, q_cls_of z0, q_R0_same] at this
                        refine ⟨fun _ => ?_, fun q => absurd rfl q⟩
                        simpa using this
                simp only [o_no, o_cut, o_ic, o_lc, o_str, o_il, o_ll, o_al, o_is, o_as, o_inc, o_iadd, o_isub, o_imul, o_iand, o_ior, o_ishl, o_ishr, o_iushr, o_idiv, o_irem, o_ladd, o_lmul, o_land, o_lor, o_lrem, o_lshl, o_lshr, o_lcmp, o_i2l, o_l2i, o_dup, o_dup2, o_ifeq, o_ifne, o_iflt, o_ifge, o_ifgt, o_ifle, o_iceq, o_icne, o_iclt, o_icge, o_icgt, o_icle, o_sw, o_iret, o_zret, o_vret, o_getf, o_putf, o_putz, o_putr, o_iald, o_zald, o_iast, o_zast, o_alen, o_aald, o_aast, o_obj_e, o_mmax_e, o_mmin_e, o_gsc, o_gsf, o_sval, o_scod, o_salen, o_sbald, o_i2c, o_pop, o_nret, o_call_0, o_call_1, o_call_2, o_call_3, o_call_4, o_call_5, o_call_6, o_call_7, o_callV_0, o_callV_1, o_callV_2, o_callV_3, o_callV_4, o_callV_5, o_callV_6, o_callT_0, o_callT_1, q_cn_0, q_cn_i, q_cn_r, q_cn_a, q_cn_l, q_cat_eq, q_nl_none, q_nl_sn, q_nl_i, q_nl_r, q_nl_a, q_vp_0, q_vp_1, q_vp_2, q_vp_3, q_vp_4, q_vp_5, q_vp_6, q_vp_7, q_vp_8, List.getElem?_cons_zero, List.getElem?_cons_succ, List.getElem?_nil, List.set_cons_zero, List.set_cons_succ, List.set_nil, Option.toList_some, Option.toList_none, List.cons_append, List.nil_append, Nat.reduceAdd, Nat.reduceSub, Nat.reduceLeDiff, Nat.add_zero, Nat.zero_add, Nat.reduceLT, Nat.zero_le, true_and, and_true, Value.category, true_or, or_true, q_z10, q_z01, Int32.reduceLT, Int32.reduceLE, Int32.reduceToNatClampNeg, not_true_eq_false, not_false_eq_true, false_implies, true_implies, implies_true, BX9_mail_16, BX9_mail_29, BX9_mail_26, BX9_mail_19, BX9_mail_8, BX9_mail_0, BX9_mail_166, BX9_mail_74, BX9_mail_71, BX9_mail_62, BX9_mail_57, BX9_mail_45, BX9_mail_156, BX9_mail_111, BX9_mail_107, BX9_mail_89, BX9_mail_80, BX9_mail_141, BX9_mail_140, BX9_mail_136, BX9_mail_121, BX9_mail_112, rmX9_mail, z0, z1, z2, z3, z4, z5, z6, z7, z8, z9, z10, z11, z12, z13, z14, z15, z16, q_cls_of z0, q_R0_same]
                have := inner (r_pl k) 0 m2 v8 (by omega) hb
                exact this
        exact loop (8 * r_per k + 1) 0 m1 none none none (by omega) hV hb1
      · rw [q_if_f z2] at hR
        simp only [o_no, o_cut, o_ic, o_lc, o_str, o_il, o_ll, o_al, o_is, o_as, o_inc, o_iadd, o_isub, o_imul, o_iand, o_ior, o_ishl, o_ishr, o_iushr, o_idiv, o_irem, o_ladd, o_lmul, o_land, o_lor, o_lrem, o_lshl, o_lshr, o_lcmp, o_i2l, o_l2i, o_dup, o_dup2, o_ifeq, o_ifne, o_iflt, o_ifge, o_ifgt, o_ifle, o_iceq, o_icne, o_iclt, o_icge, o_icgt, o_icle, o_sw, o_iret, o_zret, o_vret, o_getf, o_putf, o_putz, o_putr, o_iald, o_zald, o_iast, o_zast, o_alen, o_aald, o_aast, o_obj_e, o_mmax_e, o_mmin_e, o_gsc, o_gsf, o_sval, o_scod, o_salen, o_sbald, o_i2c, o_pop, o_nret, o_call_0, o_call_1, o_call_2, o_call_3, o_call_4, o_call_5, o_call_6, o_call_7, o_callV_0, o_callV_1, o_callV_2, o_callV_3, o_callV_4, o_callV_5, o_callV_6, o_callT_0, o_callT_1, q_cn_0, q_cn_i, q_cn_r, q_cn_a, q_cn_l, q_cat_eq, q_nl_none, q_nl_sn, q_nl_i, q_nl_r, q_nl_a, q_vp_0, q_vp_1, q_vp_2, q_vp_3, q_vp_4, q_vp_5, q_vp_6, q_vp_7, q_vp_8, List.getElem?_cons_zero, List.getElem?_cons_succ, List.getElem?_nil, List.set_cons_zero, List.set_cons_succ, List.set_nil, Option.toList_some, Option.toList_none, List.cons_append, List.nil_append, Nat.reduceAdd, Nat.reduceSub, Nat.reduceLeDiff, Nat.add_zero, Nat.zero_add, Nat.reduceLT, Nat.zero_le, true_and, and_true, Value.category, true_or, or_true, q_z10, q_z01, Int32.reduceLT, Int32.reduceLE, Int32.reduceToNatClampNeg, not_true_eq_false, not_false_eq_true, false_implies, true_implies, implies_true, BX9_mail_16, BX9_mail_29, BX9_mail_26, BX9_mail_19, BX9_mail_8, BX9_mail_0, BX9_mail_166, BX9_mail_74, BX9_mail_71, BX9_mail_62, BX9_mail_57, BX9_mail_45, BX9_mail_156, BX9_mail_111, BX9_mail_107, BX9_mail_89, BX9_mail_80, BX9_mail_141, BX9_mail_140, BX9_mail_136, BX9_mail_121, BX9_mail_112, rmX9_mail, z0, z1, z2, z3, z4, z5, z6, z7, z8, z9, z10, z11, z12, z13, z14, z15, z16, q_cls_of z0, q_R0_same]
        exact hR m q_but.rf
    · rw [q_if_f (fun q => z1 q.2)] at hR
      simp only [o_no, o_cut, o_ic, o_lc, o_str, o_il, o_ll, o_al, o_is, o_as, o_inc, o_iadd, o_isub, o_imul, o_iand, o_ior, o_ishl, o_ishr, o_iushr, o_idiv, o_irem, o_ladd, o_lmul, o_land, o_lor, o_lrem, o_lshl, o_lshr, o_lcmp, o_i2l, o_l2i, o_dup, o_dup2, o_ifeq, o_ifne, o_iflt, o_ifge, o_ifgt, o_ifle, o_iceq, o_icne, o_iclt, o_icge, o_icgt, o_icle, o_sw, o_iret, o_zret, o_vret, o_getf, o_putf, o_putz, o_putr, o_iald, o_zald, o_iast, o_zast, o_alen, o_aald, o_aast, o_obj_e, o_mmax_e, o_mmin_e, o_gsc, o_gsf, o_sval, o_scod, o_salen, o_sbald, o_i2c, o_pop, o_nret, o_call_0, o_call_1, o_call_2, o_call_3, o_call_4, o_call_5, o_call_6, o_call_7, o_callV_0, o_callV_1, o_callV_2, o_callV_3, o_callV_4, o_callV_5, o_callV_6, o_callT_0, o_callT_1, q_cn_0, q_cn_i, q_cn_r, q_cn_a, q_cn_l, q_cat_eq, q_nl_none, q_nl_sn, q_nl_i, q_nl_r, q_nl_a, q_vp_0, q_vp_1, q_vp_2, q_vp_3, q_vp_4, q_vp_5, q_vp_6, q_vp_7, q_vp_8, List.getElem?_cons_zero, List.getElem?_cons_succ, List.getElem?_nil, List.set_cons_zero, List.set_cons_succ, List.set_nil, Option.toList_some, Option.toList_none, List.cons_append, List.nil_append, Nat.reduceAdd, Nat.reduceSub, Nat.reduceLeDiff, Nat.add_zero, Nat.zero_add, Nat.reduceLT, Nat.zero_le, true_and, and_true, Value.category, true_or, or_true, q_z10, q_z01, Int32.reduceLT, Int32.reduceLE, Int32.reduceToNatClampNeg, not_true_eq_false, not_false_eq_true, false_implies, true_implies, implies_true, BX9_mail_16, BX9_mail_29, BX9_mail_26, BX9_mail_19, BX9_mail_8, BX9_mail_0, BX9_mail_166, BX9_mail_74, BX9_mail_71, BX9_mail_62, BX9_mail_57, BX9_mail_45, BX9_mail_156, BX9_mail_111, BX9_mail_107, BX9_mail_89, BX9_mail_80, BX9_mail_141, BX9_mail_140, BX9_mail_136, BX9_mail_121, BX9_mail_112, rmX9_mail, z0, z1, z2, z3, z4, z5, z6, z7, z8, z9, z10, z11, z12, z13, z14, z15, z16, q_cls_of z0, q_R0_same]
      exact hR m q_but.rf
  · rw [q_if_f (fun q => z q.1)] at hR
    simp only [o_no, o_cut, o_ic, o_lc, o_str, o_il, o_ll, o_al, o_is, o_as, o_inc, o_iadd, o_isub, o_imul, o_iand, o_ior, o_ishl, o_ishr, o_iushr, o_idiv, o_irem, o_ladd, o_lmul, o_land, o_lor, o_lrem, o_lshl, o_lshr, o_lcmp, o_i2l, o_l2i, o_dup, o_dup2, o_ifeq, o_ifne, o_iflt, o_ifge, o_ifgt, o_ifle, o_iceq, o_icne, o_iclt, o_icge, o_icgt, o_icle, o_sw, o_iret, o_zret, o_vret, o_getf, o_putf, o_putz, o_putr, o_iald, o_zald, o_iast, o_zast, o_alen, o_aald, o_aast, o_obj_e, o_mmax_e, o_mmin_e, o_gsc, o_gsf, o_sval, o_scod, o_salen, o_sbald, o_i2c, o_pop, o_nret, o_call_0, o_call_1, o_call_2, o_call_3, o_call_4, o_call_5, o_call_6, o_call_7, o_callV_0, o_callV_1, o_callV_2, o_callV_3, o_callV_4, o_callV_5, o_callV_6, o_callT_0, o_callT_1, q_cn_0, q_cn_i, q_cn_r, q_cn_a, q_cn_l, q_cat_eq, q_nl_none, q_nl_sn, q_nl_i, q_nl_r, q_nl_a, q_vp_0, q_vp_1, q_vp_2, q_vp_3, q_vp_4, q_vp_5, q_vp_6, q_vp_7, q_vp_8, List.getElem?_cons_zero, List.getElem?_cons_succ, List.getElem?_nil, List.set_cons_zero, List.set_cons_succ, List.set_nil, Option.toList_some, Option.toList_none, List.cons_append, List.nil_append, Nat.reduceAdd, Nat.reduceSub, Nat.reduceLeDiff, Nat.add_zero, Nat.zero_add, Nat.reduceLT, Nat.zero_le, true_and, and_true, Value.category, true_or, or_true, q_z10, q_z01, Int32.reduceLT, Int32.reduceLE, Int32.reduceToNatClampNeg, not_true_eq_false, not_false_eq_true, false_implies, true_implies, implies_true, BX9_mail_16, BX9_mail_29, BX9_mail_26, BX9_mail_19, BX9_mail_8, BX9_mail_0, BX9_mail_166, BX9_mail_74, BX9_mail_71, BX9_mail_62, BX9_mail_57, BX9_mail_45, BX9_mail_156, BX9_mail_111, BX9_mail_107, BX9_mail_89, BX9_mail_80, BX9_mail_141, BX9_mail_140, BX9_mail_136, BX9_mail_121, BX9_mail_112, rmX9_mail, z0, z1, z2, z3, z4, z5, z6, z7, z8, z9, z10, z11, z12, z13, z14, z15, z16, q_cls_of z0, q_R0_same]
    exact hR m q_but.rf
end MAI
