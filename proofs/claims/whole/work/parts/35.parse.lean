/-! The text, read: what both readers find in it. -/
abbrev PS : Type := Nat × Nat
def c_in (v a b : Int32) : Bool := !decide (v < a) && !decide (b < v)
theorem c_in_iff {v a b : Int32} : c_in v a b = true ↔ q_ins v a b := by
  unfold c_in q_ins
  rw [Bool.and_eq_true, Bool.not_eq_true', Bool.not_eq_true', decide_eq_false_iff_not, decide_eq_false_iff_not]
/-- the byte at i; -1 behind the end -/
def t_at (x : TX) (i : Nat) : Int32 := if i < x.2 then x.1 i else -1
def t_sk (x : TX) (i : Nat) : Nat := f_ff (fun j => !decide (x.1 j = 32)) (x.2 - i) i
def t_lt (x : TX) (i : Nat) : Nat := f_ff (fun j => !c_in (x.1 j) 97 122) (x.2 - i) i
def t_fg (x : TX) (i : Nat) : Nat := f_ff (fun j => !c_in (x.1 j) 48 57) (x.2 - i) i
def t_dg (x : TX) (j : Nat) : Nat := (x.1 j).toNatClampNeg - 48
def t_v (x : TX) (i : Nat) : Nat → Nat
  | 0 => 0
  | n + 1 => 10 * t_v x i n + t_dg x (i + n)
theorem f_in (G : Nat → Bool) {n i : Nat} (h : i ≤ n) : i ≤ f_ff G (n - i) i ∧ f_ff G (n - i) i ≤ n := by
  have := f_ff_le G (n - i) i
  omega
theorem f_stop {G : Nat → Bool} {n i : Nat} (h : i < n) (g : G i = true) : f_ff G (n - i) i = i := by
  rw [show n - i = (n - i - 1) + 1 by omega, f_ff, if_pos g]
theorem f_go {G : Nat → Bool} {n i : Nat} (h : i < n) (g : ¬ G i = true) : f_ff G (n - i) i = f_ff G (n - (i + 1)) (i + 1) := by
  rw [show n - i = (n - (i + 1)) + 1 by omega, f_ff, if_neg g]
theorem f_end (G : Nat → Bool) {n i : Nat} (h : n ≤ i) : f_ff G (n - i) i = i := by
  rw [show n - i = 0 by omega]; rfl
theorem f_idem {G : Nat → Bool} {n i : Nat} (h : i ≤ n) : f_ff G (n - f_ff G (n - i) i) (f_ff G (n - i) i) = f_ff G (n - i) i := by
  have h1 := f_in G h
  rcases Nat.lt_or_ge (f_ff G (n - i) i) n with q | q
  · exact f_stop q (f_ff_yes _ _ (by omega))
  · exact f_end _ q
theorem t_sk_sk (x : TX) {i : Nat} (h : i ≤ x.2) : t_sk x (t_sk x i) = t_sk x i := f_idem h
theorem t_sk_in (x : TX) {i : Nat} (h : i ≤ x.2) : i ≤ t_sk x i ∧ t_sk x i ≤ x.2 := f_in _ h
theorem t_lt_in (x : TX) {i : Nat} (h : i ≤ x.2) : i ≤ t_lt x i ∧ t_lt x i ≤ x.2 := f_in _ h
theorem t_fg_in (x : TX) {i : Nat} (h : i ≤ x.2) : i ≤ t_fg x i ∧ t_fg x i ≤ x.2 := f_in _ h
/-- a number: where it begins, where it ends, its value, its fault -/
def t_nend (x : TX) (i : Nat) : Nat := t_fg x (t_sk x i)
def t_nv (x : TX) (i : Nat) : Nat := t_v x (t_sk x i) (t_nend x i - t_sk x i)
def t_nc (x : TX) (lim i : Nat) : Nat := if t_nend x i = t_sk x i then 1 else if t_nend x i - t_sk x i ≤ 3 ∧ t_nv x i < lim then 0 else 2
def t_num (x : TX) (lim i : Nat) : PS := if t_nc x lim i = 0 then (0, t_nend x i) else (t_nc x lim i, t_sk x i)
def t_bd (s : PS) (f : Nat → PS) : PS := if s.1 = 0 then f s.2 else s
def t_mv (s : PS) (e : Nat) : PS := if s.1 = 0 then (0, e) else s
def t_end (x : TX) (i : Nat) : PS := if t_at x (t_sk x i) = 59 then (0, t_sk x i + 1) else (1, t_sk x i)
theorem t_bd0 {s : PS} {f : Nat → PS} (h : s.1 = 0) : t_bd s f = f s.2 := if_pos h
theorem t_bd1 {s : PS} {f : Nat → PS} (h : ¬ s.1 = 0) : t_bd s f = s := if_neg h
theorem t_bd_0 {s : PS} {f : Nat → PS} (h : (t_bd s f).1 = 0) : s.1 = 0 := by
  by_cases e : s.1 = 0
  · exact e
  · rw [t_bd1 e] at h; exact h
theorem t_bd_bd (s : PS) (f g : Nat → PS) : t_bd (t_bd s f) g = t_bd s (fun e => t_bd (f e) g) := by
  by_cases h : s.1 = 0
  · rw [t_bd0 h, t_bd0 h]
  · rw [t_bd1 h, t_bd1 h, t_bd1 h]
theorem t_mv0 {s : PS} {e : Nat} (h : s.1 = 0) : t_mv s e = (0, e) := if_pos h
theorem t_mv1 {s : PS} {e : Nat} (h : ¬ s.1 = 0) : t_mv s e = s := if_neg h
/-- from i on, within the text -/
def p_in (x : TX) (i : Nat) (s : PS) : Prop := s.1 ≤ 4 ∧ i ≤ s.2 ∧ s.2 ≤ x.2
theorem p_in.bd {x : TX} {i : Nat} {s : PS} {f : Nat → PS} (h : p_in x i s) (hf : ∀ e, i ≤ e → e ≤ x.2 → p_in x e (f e)) : p_in x i (t_bd s f) := by
  by_cases q : s.1 = 0
  · rw [t_bd0 q]
    have := hf s.2 h.2.1 h.2.2
    exact ⟨this.1, Nat.le_trans h.2.1 this.2.1, this.2.2⟩
  · rw [t_bd1 q]; exact h
theorem t_nc_le (x : TX) (lim i : Nat) : t_nc x lim i ≤ 2 := by
  unfold t_nc; split
  · omega
  · split <;> omega
theorem t_num_in (x : TX) (lim : Nat) {i : Nat} (h : i ≤ x.2) : p_in x i (t_num x lim i) := by
  have h1 := t_sk_in x h
  have h2 := t_fg_in x h1.2
  have h3 := t_nc_le x lim i
  unfold t_num
  split
  · exact ⟨Nat.zero_le _, Nat.le_trans h1.1 h2.1, h2.2⟩
  · exact ⟨Nat.le_trans h3 (by decide), h1.1, h1.2⟩
theorem t_at_lt {x : TX} {i b : Nat} (hb : b < 2 ^ 31) (h : t_at x i = nI b) : i < x.2 := by
  unfold t_at at h
  by_cases q : i < x.2
  · exact q
  · rw [if_neg q] at h
    exact absurd (h ▸ nI_pos' hb) (by decide)
theorem t_end_in (x : TX) {i : Nat} (h : i ≤ x.2) : p_in x i (t_end x i) ∧ ((t_end x i).1 = 0 → i < (t_end x i).2) := by
  have h1 := t_sk_in x h
  unfold t_end
  split
  · rename_i q
    have := t_at_lt (b := 59) (by decide) q
    exact ⟨⟨Nat.zero_le _, by show i ≤ t_sk x i + 1; omega, by show t_sk x i + 1 ≤ x.2; omega⟩, fun _ => by show i < t_sk x i + 1; omega⟩
  · exact ⟨⟨by show 1 ≤ 4; decide, h1.1, h1.2⟩, fun z => absurd z (by show ¬ (1 : Nat) = 0; decide)⟩
/-! what has been told so far -/
def k_0 : RK := ((0, 0, 0, 0), fun _ => 1, fun _ _ => 0, fun _ _ => 0, fun _ => 0, fun _ _ => 0)
def k_T (k : RK) (v : Nat) (f : Nat → Int32) : RK := ((r_tn k + 1, r_pl k, r_wy k, r_pu k), fun i => if i = r_tn k then v else r_N k i, fun i j => if i = r_tn k then f j else r_pt k i j, r_fc k, r_rd k, r_sv k)
def k_P (k : RK) (f : Nat → Int32) : RK := ((r_tn k, r_pl k + 1, r_wy k, r_pu k), r_N k, r_pt k, fun p i => if p = r_pl k then f i else r_fc k p i, r_rd k, r_sv k)
def k_W (k : RK) (p q : Nat) : RK := ((r_tn k, r_pl k, r_wy k + 1, r_pu k), r_N k, r_pt k, r_fc k, fun y => r_rd k y ||| ((if y = p then 2 ^ q else 0) ||| (if y = q then 2 ^ p else 0)), r_sv k)
def k_Q (k : RK) (f : Nat → Nat) : RK := ((r_tn k, r_pl k, r_wy k, r_pu k + 1), r_N k, r_pt k, r_fc k, r_rd k, fun q i => if q = r_pu k then f i else r_sv k q i)
def t_3 (a b c : Nat) : Nat → Nat
  | 0 => a
  | 1 => b
  | _ => c
theorem k_0_ok : r_ok k_0 ∧ r_sym k_0 :=
  ⟨⟨by decide, by decide, by decide, by decide, fun i h => absurd h (Nat.not_lt_zero _), fun _ _ => rfl, fun _ => Nat.zero_lt_one, fun _ _ => rfl, fun _ _ => Nat.zero_le _⟩, fun p q => by show f_bit 0 q = f_bit 0 p; rw [f_bit_0, f_bit_0]⟩
theorem k_T_ok {k : RK} (h : r_ok k ∧ r_sym k) (h3 : r_tn k < 3) {v : Nat} {f : Nat → Int32} (hv : 2 ≤ v ∧ v ≤ 12) : r_ok (k_T k v f) ∧ r_sym (k_T k v f) := by
  obtain ⟨⟨h0, h1, h2, h4, h5, h6, h7, h8, h9⟩, hs⟩ := h
  refine ⟨⟨h3, h1, h2, h4, fun i hi => ?_, fun i hi => ?_, h7, h8, h9⟩, hs⟩
  · have hi : i < r_tn k + 1 := hi
    show 2 ≤ (if i = r_tn k then v else r_N k i) ∧ (if i = r_tn k then v else r_N k i) ≤ 12
    by_cases e : i = r_tn k
    · rw [if_pos e]; exact hv
    · rw [if_neg e]; exact h5 i (by omega)
  · have hi : r_tn k + 1 ≤ i := hi
    show (if i = r_tn k then v else r_N k i) = 1
    rw [if_neg (by omega)]; exact h6 i (by omega)
theorem k_P_ok {k : RK} (h : r_ok k ∧ r_sym k) (h8 : r_pl k < 8) {f : Nat → Int32} : r_ok (k_P k f) ∧ r_sym (k_P k f) := by
  obtain ⟨⟨h0, h1, h2, h4, h5, h6, h7, h9, h10⟩, hs⟩ := h
  exact ⟨⟨h0, h8, h2, h4, h5, h6, fun p => Nat.lt_of_lt_of_le (h7 p) (Nat.pow_le_pow_right (by decide) (Nat.le_succ _)), fun p hp => h9 p (Nat.le_trans (Nat.le_succ _) hp), h10⟩, hs⟩
theorem k_Q_ok {k : RK} (h : r_ok k ∧ r_sym k) (h8 : r_pu k < 4) {f : Nat → Nat} (hf : ∀ i, f i ≤ 11) : r_ok (k_Q k f) ∧ r_sym (k_Q k f) := by
  obtain ⟨⟨h0, h1, h2, h4, h5, h6, h7, h9, h10⟩, hs⟩ := h
  refine ⟨⟨h0, h1, h2, h8, h5, h6, h7, h9, fun q i => ?_⟩, hs⟩
  show (if q = r_pu k then f i else r_sv k q i) ≤ 11
  split
  · exact hf i
  · exact h10 q i
theorem k_W_bit (k : RK) (p q a b : Nat) : f_bit (r_rd (k_W k p q) a) b = (f_bit (r_rd k a) b || ((decide (a = p) && decide (b = q)) || (decide (a = q) && decide (b = p)))) := by
  show f_bit (r_rd k a ||| ((if a = p then 2 ^ q else 0) ||| (if a = q then 2 ^ p else 0))) b = _
  rw [f_bit_or, f_bit_or]
  have e : ∀ (c : Prop) [Decidable c] (y : Nat), f_bit (if c then 2 ^ y else 0) b = (decide c && decide (b = y)) := by
    intro c _ y
    by_cases hc : c
    · rw [if_pos hc, f_bit_2p, decide_eq_true hc, Bool.true_and]
      exact decide_eq_decide.mpr eq_comm
    · rw [if_neg hc, f_bit_0, decide_eq_false hc, Bool.false_and]
  rw [e, e]
theorem k_W_ok {k : RK} (h : r_ok k ∧ r_sym k) (h12 : r_wy k < 12) {p q : Nat} (hp : p < r_pl k) (hq : q < r_pl k) : r_ok (k_W k p q) ∧ r_sym (k_W k p q) := by
  obtain ⟨⟨h0, h1, h2, h4, h5, h6, h7, h9, h10⟩, hs⟩ := h
  refine ⟨⟨h0, h1, h12, h4, h5, h6, fun y => ?_, fun y hy => ?_, h10⟩, fun a b => ?_⟩
  · show r_rd k y ||| ((if y = p then 2 ^ q else 0) ||| (if y = q then 2 ^ p else 0)) < 2 ^ r_pl k
    refine Nat.or_lt_two_pow (h7 y) (Nat.or_lt_two_pow ?_ ?_)
    · split
      · exact Nat.pow_lt_pow_right (by decide) hq
      · exact Nat.two_pow_pos _
    · split
      · exact Nat.pow_lt_pow_right (by decide) hp
      · exact Nat.two_pow_pos _
  · have hy : r_pl k ≤ y := hy
    show r_rd k y ||| ((if y = p then 2 ^ q else 0) ||| (if y = q then 2 ^ p else 0)) = 0
    rw [h9 y hy, if_neg (by omega), if_neg (by omega)]
    rfl
  · rw [k_W_bit, k_W_bit, hs a b, Bool.and_comm (decide (a = p)), Bool.and_comm (decide (a = q)), Bool.or_comm (decide (b = q) && decide (a = p))]
/-! the clauses -/
def t_tl (x : TX) : Nat → Nat → (Nat → Int32) → Nat → PS × (Nat × (Nat → Int32))
  | 0, v, f, i => ((1, i), (v, f))
  | d + 1, v, f, i =>
    if t_nc x 19 i = 0 then
      (if t_at x (t_sk x (t_nend x i)) = 44 then
        (if d = 0 then ((1, t_sk x (t_nend x i)), (v + 1, fun j => if j = v then nI (t_nv x i) - 9 else f j))
         else t_tl x d (v + 1) (fun j => if j = v then nI (t_nv x i) - 9 else f j) (t_sk x (t_nend x i) + 1))
       else if v = 0 then ((1, t_sk x (t_nend x i)), (v + 1, fun j => if j = v then nI (t_nv x i) - 9 else f j))
       else ((0, t_sk x (t_nend x i)), (v + 1, fun j => if j = v then nI (t_nv x i) - 9 else f j)))
    else ((t_nc x 19 i, t_sk x i), (v, f))
theorem t_tl_in (x : TX) : ∀ d v f i, i ≤ x.2 → d + v = 12 → p_in x i (t_tl x d v f i).1 ∧ ((t_tl x d v f i).1.1 = 0 → 2 ≤ (t_tl x d v f i).2.1 ∧ (t_tl x d v f i).2.1 ≤ 12)
  | 0, v, f, i, hi, hd => ⟨⟨by show 1 ≤ 4; decide, Nat.le_refl _, hi⟩, fun z => absurd z (by show ¬ (1 : Nat) = 0; decide)⟩
  | d + 1, v, f, i, hi, hd => by
    have h1 := t_sk_in x hi
    have h2 : t_sk x i ≤ t_nend x i ∧ t_nend x i ≤ x.2 := t_fg_in x h1.2
    have h3 := t_sk_in x h2.2
    have h4 := t_nc_le x 19 i
    rw [t_tl]
    by_cases c : t_nc x 19 i = 0
    · rw [if_pos c]
      by_cases c2 : t_at x (t_sk x (t_nend x i)) = 44
      · rw [if_pos c2]
        have h5 := t_at_lt (b := 44) (by decide) c2
        by_cases c3 : d = 0
        · rw [if_pos c3]
          exact ⟨⟨by show 1 ≤ 4; decide, by show i ≤ t_sk x (t_nend x i); omega, h3.2⟩, fun z => absurd z (by show ¬ (1 : Nat) = 0; decide)⟩
        · rw [if_neg c3]
          have ih := t_tl_in x d (v + 1) (fun j => if j = v then nI (t_nv x i) - 9 else f j) (t_sk x (t_nend x i) + 1) (by omega) (by omega)
          exact ⟨⟨ih.1.1, Nat.le_trans (by omega) ih.1.2.1, ih.1.2.2⟩, ih.2⟩
      · rw [if_neg c2]
        by_cases c3 : v = 0
        · rw [if_pos c3]
          exact ⟨⟨by show 1 ≤ 4; decide, by show i ≤ t_sk x (t_nend x i); omega, h3.2⟩, fun z => absurd z (by show ¬ (1 : Nat) = 0; decide)⟩
        · rw [if_neg c3]
          exact ⟨⟨Nat.zero_le _, by show i ≤ t_sk x (t_nend x i); omega, h3.2⟩, fun _ => ⟨by show 2 ≤ v + 1; omega, by show v + 1 ≤ 12; omega⟩⟩
    · rw [if_neg c]
      exact ⟨⟨Nat.le_trans h4 (by decide), h1.1, h1.2⟩, fun z => absurd z c⟩
def t_wd (x : TX) (i e : Nat) (w : List Int32) : Bool := decide (e - i = w.length) && (List.range w.length).all (fun j => decide (x.1 (i + j) = w.getD j 0))
theorem t_wd_iff {x : TX} {i e : Nat} {w : List Int32} : t_wd x i e w = true ↔ e - i = w.length ∧ ∀ j, j < w.length → x.1 (i + j) = w.getD j 0 := by
  rw [t_wd, Bool.and_eq_true, decide_eq_true_iff, List.all_eq_true]
  exact and_congr_right (fun _ => ⟨fun h j hj => of_decide_eq_true (h j (List.mem_range.mpr hj)), fun h j hj => decide_eq_true (h j (List.mem_range.mp hj))⟩)
def t_c2 (x : TX) (lim i : Nat) : PS := t_bd (t_num x lim i) (t_num x lim)
def t_c3 (x : TX) (lim i : Nat) : PS := t_bd (t_c2 x lim i) (t_num x lim)
theorem t_c2_in (x : TX) (lim : Nat) {i : Nat} (h : i ≤ x.2) : p_in x i (t_c2 x lim i) := (t_num_in x lim h).bd (fun _ _ h => t_num_in x lim h)
theorem t_c3_in (x : TX) (lim : Nat) {i : Nat} (h : i ≤ x.2) : p_in x i (t_c3 x lim i) := (t_c2_in x lim h).bd (fun _ _ h => t_num_in x lim h)
theorem t_num_0 {x : TX} {lim i : Nat} (h : (t_num x lim i).1 = 0) : t_nc x lim i = 0 ∧ t_nv x i < lim ∧ t_num x lim i = (0, t_nend x i) := by
  unfold t_num at h ⊢
  by_cases c : t_nc x lim i = 0
  · refine ⟨c, ?_, if_pos c⟩
    unfold t_nc at c
    by_cases c1 : t_nend x i = t_sk x i
    · rw [if_pos c1] at c; exact absurd c (by decide)
    · rw [if_neg c1] at c
      by_cases c2 : t_nend x i - t_sk x i ≤ 3 ∧ t_nv x i < lim
      · exact c2.2
      · rw [if_neg c2] at c; exact absurd c (by decide)
  · rw [if_neg c] at h; exact absurd h c
/-- the three values of a clause -/
def t_a (x : TX) (i : Nat) : Nat := t_nv x i
def t_b (x : TX) (lim i : Nat) : Nat := t_nv x (t_num x lim i).2
def t_c (x : TX) (lim i : Nat) : Nat := t_nv x (t_c2 x lim i).2
def t_bad (x : TX) (k : RK) (i : Nat) : Prop := t_a x i = t_b x (r_pl k) i ∨ f_bit (r_rd k (t_a x i)) (t_b x (r_pl k) i) = true
noncomputable def t_way (x : TX) (k : RK) (i : Nat) : PS := t_bd (t_c2 x (r_pl k) i) (fun e => @ite _ (t_bad x k i) (Classical.propDecidable _) (4, t_sk x (t_num x (r_pl k) i).2) (0, e))
theorem t_way_t {x : TX} {k : RK} {i : Nat} (h : t_bad x k i) : t_way x k i = t_bd (t_c2 x (r_pl k) i) (fun _ => (4, t_sk x (t_num x (r_pl k) i).2)) := by
  unfold t_way; congr 1; funext e; exact if_pos h
theorem t_way_f {x : TX} {k : RK} {i : Nat} (h : ¬ t_bad x k i) : t_way x k i = t_c2 x (r_pl k) i := by
  unfold t_way
  by_cases c : (t_c2 x (r_pl k) i).1 = 0
  · rw [t_bd0 c, if_neg h, ← c]
  · rw [t_bd1 c]
theorem t_way_in {x : TX} {k : RK} {i : Nat} (h : i ≤ x.2) : p_in x i (t_way x k i) := by
  have h1 := t_num_in x (r_pl k) h
  have h2 := t_sk_in x h1.2.2
  have h3 := t_c2_in x (r_pl k) h
  by_cases c : t_bad x k i
  · rw [t_way_t c]
    by_cases q : (t_c2 x (r_pl k) i).1 = 0
    · rw [t_bd0 q]; exact ⟨by show 4 ≤ 4; decide, Nat.le_trans h1.2.1 h2.1, h2.2⟩
    · rw [t_bd1 q]; exact h3
  · rw [t_way_f c]; exact h3
noncomputable def t_cl (x : TX) (k : RK) (i : Nat) : PS × RK :=
  if t_wd x i (t_lt x i) (q_sbyt.getD 0 []) = true then
    (if r_tn k < 3 then ((t_tl x 12 0 (fun _ => 0) (t_lt x i)).1, k_T k (t_tl x 12 0 (fun _ => 0) (t_lt x i)).2.1 (t_tl x 12 0 (fun _ => 0) (t_lt x i)).2.2) else ((3, i), k))
  else if t_wd x i (t_lt x i) (q_sbyt.getD 1 []) = true then
    (if r_pl k < 8 then (t_c3 x 19 (t_lt x i), k_P k (fun e => nI (t_3 (t_a x (t_lt x i)) (t_b x 19 (t_lt x i)) (t_c x 19 (t_lt x i)) e) - 9)) else ((3, i), k))
  else if t_wd x i (t_lt x i) (q_sbyt.getD 2 []) = true then
    (if r_wy k < 12 then (t_way x k (t_lt x i), k_W k (t_a x (t_lt x i)) (t_b x (r_pl k) (t_lt x i))) else ((3, i), k))
  else if t_wd x i (t_lt x i) (q_sbyt.getD 3 []) = true then
    (if r_pu k < 4 then (t_c3 x 12 (t_lt x i), k_Q k (t_3 (t_a x (t_lt x i)) (t_b x 12 (t_lt x i)) (t_c x 12 (t_lt x i)))) else ((3, i), k))
  else ((1, i), k)
theorem t_c2_0 {x : TX} {lim i : Nat} (h : (t_c2 x lim i).1 = 0) : t_a x i < lim ∧ t_b x lim i < lim := by
  have h1 := t_bd_0 h
  have h2 := t_num_0 h1
  unfold t_c2 at h
  rw [t_bd0 h1] at h
  exact ⟨h2.2.1, (t_num_0 h).2.1⟩
theorem t_c3_0 {x : TX} {lim i : Nat} (h : (t_c3 x lim i).1 = 0) : t_a x i < lim ∧ t_b x lim i < lim ∧ t_c x lim i < lim := by
  have h1 := t_bd_0 h
  have h2 := t_c2_0 h1
  unfold t_c3 at h
  rw [t_bd0 h1] at h
  exact ⟨h2.1, h2.2, (t_num_0 h).2.1⟩
theorem t_3_le {a b c n : Nat} (ha : a ≤ n) (hb : b ≤ n) (hc : c ≤ n) (i : Nat) : t_3 a b c i ≤ n := by
  match i with
  | 0 => exact ha
  | 1 => exact hb
  | _ + 2 => exact hc
theorem t_cl_in (x : TX) {k : RK} {i : Nat} (hk : r_ok k ∧ r_sym k) (hi : i ≤ x.2) : p_in x i (t_cl x k i).1 ∧ ((t_cl x k i).1.1 = 0 → r_ok (t_cl x k i).2 ∧ r_sym (t_cl x k i).2) := by
  have h1 := t_lt_in x hi
  have wk : ∀ s, p_in x (t_lt x i) s → p_in x i s := fun s h => ⟨h.1, Nat.le_trans h1.1 h.2.1, h.2.2⟩
  have f3 : p_in x i (3, i) := ⟨by show 3 ≤ 4; decide, Nat.le_refl _, hi⟩
  have f1 : p_in x i (1, i) := ⟨by show 1 ≤ 4; decide, Nat.le_refl _, hi⟩
  unfold t_cl
  by_cases c0 : t_wd x i (t_lt x i) (q_sbyt.getD 0 []) = true
  · rw [if_pos c0]
    by_cases d0 : r_tn k < 3
    · rw [if_pos d0]
      have := t_tl_in x 12 0 (fun _ => 0) (t_lt x i) h1.2 rfl
      exact ⟨wk _ this.1, fun z => k_T_ok hk d0 (this.2 z)⟩
    · rw [if_neg d0]; exact ⟨f3, fun z => absurd z (by show ¬ (3 : Nat) = 0; decide)⟩
  rw [if_neg c0]
  by_cases c1 : t_wd x i (t_lt x i) (q_sbyt.getD 1 []) = true
  · rw [if_pos c1]
    by_cases d0 : r_pl k < 8
    · rw [if_pos d0]
      exact ⟨wk _ (t_c3_in x 19 h1.2), fun _ => k_P_ok hk d0⟩
    · rw [if_neg d0]; exact ⟨f3, fun z => absurd z (by show ¬ (3 : Nat) = 0; decide)⟩
  rw [if_neg c1]
  by_cases c2 : t_wd x i (t_lt x i) (q_sbyt.getD 2 []) = true
  · rw [if_pos c2]
    by_cases d0 : r_wy k < 12
    · rw [if_pos d0]
      refine ⟨wk _ (t_way_in h1.2), fun z => ?_⟩
      have := t_c2_0 (t_bd_0 z)
      exact k_W_ok hk d0 this.1 this.2
    · rw [if_neg d0]; exact ⟨f3, fun z => absurd z (by show ¬ (3 : Nat) = 0; decide)⟩
  rw [if_neg c2]
  by_cases c3 : t_wd x i (t_lt x i) (q_sbyt.getD 3 []) = true
  · rw [if_pos c3]
    by_cases d0 : r_pu k < 4
    · rw [if_pos d0]
      refine ⟨wk _ (t_c3_in x 12 h1.2), fun z => ?_⟩
      have := t_c3_0 z
      exact k_Q_ok hk d0 (t_3_le (by omega) (by omega) (by omega))
    · rw [if_neg d0]; exact ⟨f3, fun z => absurd z (by show ¬ (3 : Nat) = 0; decide)⟩
  rw [if_neg c3]
  exact ⟨f1, fun z => absurd z (by show ¬ (1 : Nat) = 0; decide)⟩
noncomputable def t_rk (x : TX) : Nat → RK → Nat → PS × RK
  | 0, k, i => ((0, i), k)
  | d + 1, k, i => if t_sk x i < x.2 then (if (t_bd (t_cl x k (t_sk x i)).1 (t_end x)).1 = 0 then t_rk x d (t_cl x k (t_sk x i)).2 (t_bd (t_cl x k (t_sk x i)).1 (t_end x)).2 else (t_bd (t_cl x k (t_sk x i)).1 (t_end x), (t_cl x k (t_sk x i)).2)) else ((0, t_sk x i), k)
theorem t_st_in (x : TX) {k : RK} {i : Nat} (hk : r_ok k ∧ r_sym k) (hi : i ≤ x.2) : p_in x i (t_bd (t_cl x k i).1 (t_end x)) ∧ ((t_bd (t_cl x k i).1 (t_end x)).1 = 0 → i < (t_bd (t_cl x k i).1 (t_end x)).2 ∧ r_ok (t_cl x k i).2 ∧ r_sym (t_cl x k i).2) := by
  have h1 := t_cl_in x hk hi
  refine ⟨h1.1.bd (fun e _ h => (t_end_in x h).1), fun z => ?_⟩
  have h0 := t_bd_0 z
  rw [t_bd0 h0] at z ⊢
  have h2 := (t_end_in x h1.1.2.2).2 z
  exact ⟨Nat.lt_of_le_of_lt h1.1.2.1 h2, h1.2 h0⟩
theorem t_rk_ok (x : TX) : ∀ d (k : RK) i, r_ok k ∧ r_sym k → i ≤ x.2 → (t_rk x d k i).1.1 ≤ 4 ∧ (t_rk x d k i).1.2 ≤ x.2 ∧ ((t_rk x d k i).1.1 = 0 → r_ok (t_rk x d k i).2 ∧ r_sym (t_rk x d k i).2)
  | 0, k, i, hk, hi => ⟨Nat.zero_le _, hi, fun _ => hk⟩
  | d + 1, k, i, hk, hi => by
    have h1 := t_sk_in x hi
    rw [t_rk]
    by_cases c : t_sk x i < x.2
    · rw [if_pos c]
      have h2 := t_st_in x hk h1.2
      by_cases e : (t_bd (t_cl x k (t_sk x i)).1 (t_end x)).1 = 0
      · rw [if_pos e]
        exact t_rk_ok x d _ _ (h2.2 e).2 h2.1.2.2
      · rw [if_neg e]
        exact ⟨h2.1.1, h2.1.2.2, fun z => absurd z e⟩
    · rw [if_neg c]; exact ⟨Nat.zero_le _, h1.2, fun _ => hk⟩
