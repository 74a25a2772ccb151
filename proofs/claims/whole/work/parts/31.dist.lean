/-! How many pushes off a standing is. -/
def r_P (k : RK) (s j : Nat) : Nat := r_mv k s (r_sv k j 0) (r_sv k j 1) (r_sv k j 2)
def r_U (k : RK) (s j : Nat) : Nat := r_mv k s (12 * r_N k 0 - r_sv k j 0) (12 * r_N k 1 - r_sv k j 1) (12 * r_N k 2 - r_sv k j 2)
def d_w (k : RK) (w : Nat) : Nat → Nat → Prop
  | 0, s => s = w
  | n + 1, s => d_w k w n s ∨ ∃ j, j < r_pu k ∧ d_w k w n (r_P k s j)
def d_is (k : RK) (w s n : Nat) : Prop := d_w k w n s ∧ ∀ m, m < n → ¬ d_w k w m s
def d_fin (k : RK) (w s : Nat) : Prop := ∃ n, d_w k w n s
section DI
variable {k : RK} {w : Nat}
theorem r_Pdg (hk : r_ok k) (s j i : Nat) (hi : i < 3) : r_dg k (r_P k s j) i = (r_dg k s i + r_sv k j i) % r_N k i := by
  rw [r_P, r_mvdg hk _ _ _ _ _ hi, show (if i = 0 then r_sv k j 0 else if i = 1 then r_sv k j 1 else r_sv k j 2) = r_sv k j i from by
    match i, hi with
    | 0, _ => rfl
    | 1, _ => rfl
    | 2, _ => rfl]
  show _ = (s / r_wt k i % r_N k i + r_sv k j i) % r_N k i
  rw [Nat.mod_add_mod]
theorem r_Udg (hk : r_ok k) (s j i : Nat) (hi : i < 3) : r_dg k (r_U k s j) i = (r_dg k s i + (12 * r_N k i - r_sv k j i)) % r_N k i := by
  rw [r_U, r_mvdg hk _ _ _ _ _ hi, show (if i = 0 then 12 * r_N k 0 - r_sv k j 0 else if i = 1 then 12 * r_N k 1 - r_sv k j 1 else 12 * r_N k 2 - r_sv k j 2) = 12 * r_N k i - r_sv k j i from by
    match i, hi with
    | 0, _ => rfl
    | 1, _ => rfl
    | 2, _ => rfl]
  show _ = (s / r_wt k i % r_N k i + (12 * r_N k i - r_sv k j i)) % r_N k i
  rw [Nat.mod_add_mod]
theorem r_Plt (hk : r_ok k) (s j : Nat) : r_P k s j < r_S k := r_mvlt hk _ _ _ _
theorem r_Ult (hk : r_ok k) (s j : Nat) : r_U k s j < r_S k := r_mvlt hk _ _ _ _
theorem r_PU (hk : r_ok k) {s : Nat} (hs : s < r_S k) (j : Nat) : r_P k (r_U k s j) j = s := by
  refine r_ext hk (r_Plt hk _ _) hs (fun i hi => ?_)
  have hN := r_Npos hk i
  have hv := hk.2.2.2.2.2.2.2.2 j i
  have hd := r_dglt hk s i
  rw [r_Pdg hk _ _ _ hi, r_Udg hk _ _ _ hi, Nat.mod_add_mod, Nat.add_assoc, Nat.sub_add_cancel (by omega), Nat.add_mul_mod_self_right, Nat.mod_eq_of_lt hd]
theorem r_UP (hk : r_ok k) {s : Nat} (hs : s < r_S k) (j : Nat) : r_U k (r_P k s j) j = s := by
  refine r_ext hk (r_Ult hk _ _) hs (fun i hi => ?_)
  have hN := r_Npos hk i
  have hv := hk.2.2.2.2.2.2.2.2 j i
  have hd := r_dglt hk s i
  rw [r_Udg hk _ _ _ hi, r_Pdg hk _ _ _ hi, Nat.mod_add_mod, Nat.add_assoc, Nat.add_sub_cancel' (by omega), Nat.add_mul_mod_self_right, Nat.mod_eq_of_lt hd]
theorem d_w_mono {s n m : Nat} (h : d_w k w n s) (hm : n ≤ m) : d_w k w m s := by
  induction m with
  | zero => rw [show n = 0 by omega] at h; exact h
  | succ m ih =>
    rcases Nat.eq_or_lt_of_le hm with q | q
    · rw [← q]; exact h
    · exact Or.inl (ih (by omega))
theorem d_least {s : Nat} : ∀ n, d_w k w n s → ∃ m, d_is k w s m := by
  intro n
  induction n using Nat.strongRecOn with
  | _ n ih =>
    intro h
    by_cases e : ∃ m, m < n ∧ d_w k w m s
    · obtain ⟨m, hm, h2⟩ := e
      exact ih m hm h2
    · exact ⟨n, h, fun m hm z => e ⟨m, hm, z⟩⟩
theorem d_D_ex (k : RK) (w s : Nat) : ∃ n, d_is k w s n ∨ (¬ d_fin k w s ∧ n = 99999999) := by
  by_cases e : d_fin k w s
  · obtain ⟨n, h⟩ := e
    obtain ⟨m, hm⟩ := d_least n h
    exact ⟨m, Or.inl hm⟩
  · exact ⟨_, Or.inr ⟨e, rfl⟩⟩
noncomputable def d_D (k : RK) (w s : Nat) : Nat := Classical.choose (d_D_ex k w s)
theorem d_D_fin {s : Nat} (h : d_fin k w s) : d_is k w s (d_D k w s) := (Classical.choose_spec (d_D_ex k w s)).resolve_right (fun z => z.1 h)
theorem d_D_inf {s : Nat} (h : ¬ d_fin k w s) : d_D k w s = 99999999 := by
  rcases Classical.choose_spec (d_D_ex k w s) with z | z
  · exact absurd ⟨_, z.1⟩ h
  · exact z.2
theorem d_is_eq {s n m : Nat} (h : d_is k w s n) (h' : d_is k w s m) : n = m := by
  rcases Nat.lt_or_ge n m with q | q
  · exact absurd h.1 (h'.2 n q)
  · rcases Nat.lt_or_ge m n with q2 | q2
    · exact absurd h'.1 (h.2 m q2)
    · omega
theorem d_D_is {s n : Nat} (h : d_is k w s n) : d_D k w s = n := d_is_eq (d_D_fin ⟨n, h.1⟩) h
theorem d_D_w : d_D k w w = 0 := d_D_is ⟨rfl, fun m hm => absurd hm (Nat.not_lt_zero _)⟩
theorem d_0 {s : Nat} (h : d_is k w s 0) : s = w := h.1
theorem d_down {s n : Nat} (h : d_is k w s (n + 1)) : ∃ j, j < r_pu k ∧ d_is k w (r_P k s j) n := by
  rcases h.1 with z | ⟨j, hj, hz⟩
  · exact absurd z (h.2 n (Nat.lt_succ_self n))
  · exact ⟨j, hj, hz, fun m hm z => h.2 (m + 1) (by omega) (Or.inr ⟨j, hj, z⟩)⟩
theorem d_step {s j : Nat} (hj : j < r_pu k) (h : d_fin k w (r_P k s j)) : d_fin k w s ∧ d_D k w s ≤ d_D k w (r_P k s j) + 1 := by
  have h1 := d_D_fin h
  have h2 : d_w k w (d_D k w (r_P k s j) + 1) s := Or.inr ⟨j, hj, h1.1⟩
  refine ⟨⟨_, h2⟩, ?_⟩
  rcases Nat.lt_or_ge (d_D k w (r_P k s j) + 1) (d_D k w s) with q | q
  · exact absurd h2 ((d_D_fin ⟨_, h2⟩).2 _ q)
  · exact q
theorem d_path (hk : r_ok k) : ∀ n s, s < r_S k → d_is k w s n → ∃ g : Nat → Nat, ∀ i, i ≤ n → g i < r_S k ∧ d_is k w (g i) (n - i)
  | 0, s, hs, h => ⟨fun _ => s, fun i hi => by rw [show i = 0 by omega]; exact ⟨hs, h⟩⟩
  | n + 1, s, hs, h => by
    obtain ⟨j, hj, h2⟩ := d_down h
    obtain ⟨g, hg⟩ := d_path hk n _ (r_Plt hk s j) h2
    refine ⟨fun i => if i = 0 then s else g (i - 1), fun i hi => ?_⟩
    by_cases c : i = 0
    · show (if i = 0 then s else g (i - 1)) < _ ∧ d_is k w (if i = 0 then s else g (i - 1)) (n + 1 - i)
      rw [if_pos c, c]; exact ⟨hs, h⟩
    · show (if i = 0 then s else g (i - 1)) < _ ∧ d_is k w (if i = 0 then s else g (i - 1)) (n + 1 - i)
      rw [if_neg c, show n + 1 - i = n - (i - 1) by omega]
      exact hg (i - 1) (by omega)
theorem d_bound (hk : r_ok k) {s n : Nat} (hs : s < r_S k) (h : d_is k w s n) : n < r_S k := by
  rcases Nat.lt_or_ge n (r_S k) with q | q
  · exact q
  · obtain ⟨g, hg⟩ := d_path hk n s hs h
    obtain ⟨i, j, hij, hj, hf⟩ := q_php (r_S k) g (fun i hi => (hg i (by omega)).1)
    have h1 := (hg i (by omega)).2
    rw [hf] at h1
    have := d_is_eq h1 (hg j (by omega)).2
    omega
theorem d_D_lt (hk : r_ok k) {s : Nat} (hs : s < r_S k) (h : d_fin k w s) : d_D k w s < r_S k := d_bound hk hs (d_D_fin h)
theorem d_D_le (hk : r_ok k) {s : Nat} (hs : s < r_S k) : d_D k w s ≤ 99999999 := by
  by_cases h : d_fin k w s
  · have := d_D_lt hk hs h; have := (r_Sle hk).2; omega
  · rw [d_D_inf h]; omega
theorem d_fin_iff (hk : r_ok k) {s : Nat} (hs : s < r_S k) : d_fin k w s ↔ d_D k w s < 99999999 := by
  constructor
  · intro h; have := d_D_lt hk hs h; have := (r_Sle hk).2; omega
  · intro h
    by_cases e : d_fin k w s
    · exact e
    · rw [d_D_inf e] at h; omega
/-- the least push that brings nearer -/
noncomputable def v_push (k : RK) (w s : Nat) : Nat := f_ff (fun j => decide (d_D k w (r_P k s j) + 1 = d_D k w s)) (r_pu k) 0
noncomputable def w_walk (k : RK) (w s : Nat) : Nat → Nat
  | 0 => s
  | n + 1 => r_P k (w_walk k w s n) (v_push k w (w_walk k w s n))
theorem v_push_lt (hk : r_ok k) {s : Nat} (hs : s < r_S k) (h0 : d_fin k w s) (h1 : 0 < d_D k w s) : v_push k w s < r_pu k ∧ d_D k w (r_P k s (v_push k w s)) + 1 = d_D k w s ∧ ∀ j, j < v_push k w s → d_D k w (r_P k s j) + 1 ≠ d_D k w s := by
  obtain ⟨n, hn⟩ : ∃ n, d_D k w s = n + 1 := ⟨d_D k w s - 1, by omega⟩
  have hd := d_D_fin h0
  rw [hn] at hd
  obtain ⟨j, hj, h2⟩ := d_down hd
  have h3 := d_D_is h2
  have hle := f_ff_le (fun j => decide (d_D k w (r_P k s j) + 1 = d_D k w s)) (r_pu k) 0
  have hlt : v_push k w s < r_pu k := by
    rcases Nat.lt_or_ge (v_push k w s) (r_pu k) with q | q
    · exact q
    · have := f_ff_no (F := fun j => decide (d_D k w (r_P k s j) + 1 = d_D k w s)) (r_pu k) 0 j (Nat.zero_le _) (by show j < v_push k w s; omega)
      rw [decide_eq_false_iff_not] at this
      omega
  refine ⟨hlt, ?_, fun i hi => ?_⟩
  · have := f_ff_yes (F := fun j => decide (d_D k w (r_P k s j) + 1 = d_D k w s)) (r_pu k) 0 (by rw [Nat.zero_add]; exact hlt)
    rw [decide_eq_true_iff] at this
    exact this
  · have := f_ff_no (F := fun j => decide (d_D k w (r_P k s j) + 1 = d_D k w s)) (r_pu k) 0 i (Nat.zero_le _) hi
    rw [decide_eq_false_iff_not] at this
    exact this
theorem w_walk_ok (hk : r_ok k) {s : Nat} (hs : s < r_S k) (h0 : d_fin k w s) : ∀ n, n ≤ d_D k w s → w_walk k w s n < r_S k ∧ d_fin k w (w_walk k w s n) ∧ d_D k w (w_walk k w s n) + n = d_D k w s
  | 0, _ => ⟨hs, h0, rfl⟩
  | n + 1, hn => by
    obtain ⟨h1, h2, h3⟩ := w_walk_ok hk hs h0 n (by omega)
    obtain ⟨h4, h5, -⟩ := v_push_lt hk h1 h2 (by omega)
    have h6 : d_D k w (w_walk k w s (n + 1)) + 1 = d_D k w (w_walk k w s n) := h5
    have h7 := r_Plt hk (w_walk k w s n) (v_push k w (w_walk k w s n))
    have h8 := d_D_lt hk h1 h2
    have h9 := (r_Sle hk).2
    exact ⟨h7, (d_fin_iff hk h7).mpr (by show d_D k w (w_walk k w s (n + 1)) < _; omega), by omega⟩
end DI
def c_can (k : RK) (a b c : Int32) : Prop := (0 < r_tn k → a < nI (r_N k 0)) ∧ (1 < r_tn k → b < nI (r_N k 1)) ∧ (2 < r_tn k → c < nI (r_N k 2))
noncomputable def v_mend (k : RK) (s w : Nat) (i : Int32) : Int32 := q_if (d_fin k w s) (if i = -1 then nI (d_D k w s) else q_if (q_lt i (d_D k w s)) (nI (v_push k w (w_walk k w s (q_ix i)))) (-1)) (-1)
noncomputable def a_mend (k : RK) (s : Nat) (a b c i : Int32) : Int32 := q_if (q_rg a 11 ∧ q_rg b 11 ∧ q_rg c 11) (q_if (c_can k a b c) (v_mend k s (r_mv k 0 (q_ix a) (q_ix b) (q_ix c)) i) (-1)) (-1000000002)
