/-! What a rock is, as numbers: its turnings' coding, its heights, its light. -/
abbrev RK : Type := (Nat × Nat × Nat × Nat) × (Nat → Nat) × (Nat → Nat → Int32) × (Nat → Nat → Int32) × (Nat → Nat) × (Nat → Nat → Nat)
def r_tn (k : RK) : Nat := k.1.1
def r_pl (k : RK) : Nat := k.1.2.1
def r_wy (k : RK) : Nat := k.1.2.2.1
def r_pu (k : RK) : Nat := k.1.2.2.2
def r_N (k : RK) : Nat → Nat := k.2.1
def r_pt (k : RK) : Nat → Nat → Int32 := k.2.2.1
def r_fc (k : RK) : Nat → Nat → Int32 := k.2.2.2.1
def r_rd (k : RK) : Nat → Nat := k.2.2.2.2.1
def r_sv (k : RK) : Nat → Nat → Nat := k.2.2.2.2.2
def r_ok (k : RK) : Prop := r_tn k ≤ 3 ∧ r_pl k ≤ 8 ∧ r_wy k ≤ 12 ∧ r_pu k ≤ 4 ∧ (∀ i, i < r_tn k → 2 ≤ r_N k i ∧ r_N k i ≤ 12) ∧ (∀ i, r_tn k ≤ i → r_N k i = 1) ∧ (∀ p, r_rd k p < 2 ^ r_pl k) ∧ (∀ p, r_pl k ≤ p → r_rd k p = 0) ∧ (∀ q i, r_sv k q i ≤ 11)
def r_wt (k : RK) : Nat → Nat
  | 0 => r_N k 1 * r_N k 2
  | 1 => r_N k 2
  | _ => 1
def r_S (k : RK) : Nat := r_N k 0 * (r_N k 1 * r_N k 2)
def r_dg (k : RK) (s i : Nat) : Nat := s / r_wt k i % r_N k i
def r_mv (k : RK) (s a b c : Nat) : Nat := (s / r_wt k 0 + a) % r_N k 0 * r_wt k 0 + (s / r_wt k 1 + b) % r_N k 1 * r_wt k 1 + (s / r_wt k 2 + c) % r_N k 2 * r_wt k 2
/-- how the turnings stand t steps on -/
def r_ad (k : RK) (s t : Nat) : Nat := r_mv k s t t t
def r_per (k : RK) : Nat := Nat.lcm (r_N k 0) (Nat.lcm (r_N k 1) (r_N k 2))
def r_hs (f : Nat → Int32) : Nat → Int32
  | 0 => 0
  | n + 1 => r_hs f n + f n
def r_ht (k : RK) (p s : Nat) : Int32 := r_hs (fun i => r_fc k p i * r_pt k i (r_dg k s i)) (r_tn k)
def r_lt (k : RK) (p s : Nat) : Bool := decide (0 < r_ht k p s)
/-- a set of those below n -/
def r_set (f : Nat → Bool) : Nat → Nat
  | 0 => 0
  | n + 1 => r_set f n + (if f n then 2 ^ n else 0)
def r_ls (k : RK) (s : Nat) : Nat := r_set (fun p => r_lt k p s) (r_pl k)
theorem r_Npos {k : RK} (h : r_ok k) (i : Nat) : 1 ≤ r_N k i ∧ r_N k i ≤ 12 := by
  obtain ⟨-, -, -, -, h5, h6, -⟩ := h
  rcases Nat.lt_or_ge i (r_tn k) with q | q
  · have := h5 i q; omega
  · have := h6 i q; omega
theorem r_wtpos {k : RK} (h : r_ok k) (i : Nat) : 1 ≤ r_wt k i ∧ r_wt k i ≤ 144 := by
  have h1 := r_Npos h 1
  have h2 := r_Npos h 2
  match i with
  | 0 =>
    refine ⟨Nat.mul_pos h1.1 h2.1, ?_⟩
    calc r_N k 1 * r_N k 2 ≤ 12 * 12 := Nat.mul_le_mul h1.2 h2.2
      _ = 144 := rfl
  | 1 => exact ⟨h2.1, Nat.le_trans h2.2 (by decide)⟩
  | _ + 2 => exact ⟨Nat.le_refl 1, by show 1 ≤ 144; decide⟩
theorem r_Sle {k : RK} (h : r_ok k) : 1 ≤ r_S k ∧ r_S k ≤ 1728 := by
  have h0 := r_Npos h 0
  have hw := r_wtpos h 0
  refine ⟨Nat.mul_pos h0.1 hw.1, ?_⟩
  calc r_N k 0 * (r_N k 1 * r_N k 2) ≤ 12 * 144 := Nat.mul_le_mul h0.2 hw.2
    _ = 1728 := rfl
/-- three digits -/
theorem r_code {n1 n2 d0 d1 d2 : Nat} (h1 : d1 < n1) (h2 : d2 < n2) : (d0 * (n1 * n2) + d1 * n2 + d2 * 1) / (n1 * n2) = d0 ∧ (d0 * (n1 * n2) + d1 * n2 + d2 * 1) / n2 = d0 * n1 + d1 ∧ (d0 * (n1 * n2) + d1 * n2 + d2 * 1) / n2 % n1 = d1 ∧ (d0 * (n1 * n2) + d1 * n2 + d2 * 1) % n2 = d2 := by
  have hn2 : 0 < n2 := by omega
  have hn1 : 0 < n1 := by omega
  have e : d0 * (n1 * n2) + d1 * n2 + d2 * 1 = (d0 * n1 + d1) * n2 + d2 := by
    rw [Nat.mul_one, Nat.add_mul, Nat.mul_assoc]
  have a2 : ((d0 * n1 + d1) * n2 + d2) / n2 = d0 * n1 + d1 := by
    rw [Nat.add_comm, Nat.add_mul_div_right _ _ hn2, Nat.div_eq_of_lt h2, Nat.zero_add]
  rw [e]
  refine ⟨?_, a2, ?_, ?_⟩
  · rw [Nat.mul_comm n1 n2, ← Nat.div_div_eq_div_mul, a2, Nat.add_comm, Nat.add_mul_div_right _ _ hn1, Nat.div_eq_of_lt h1, Nat.zero_add]
  · rw [a2, Nat.add_comm, Nat.add_mul_mod_self_right, Nat.mod_eq_of_lt h1]
  · rw [Nat.add_comm, Nat.add_mul_mod_self_right, Nat.mod_eq_of_lt h2]
section RB
variable {k : RK} (h : r_ok k)
theorem r_mvdg (h : r_ok k) (s a b c i : Nat) (hi : i < 3) : r_dg k (r_mv k s a b c) i = (s / r_wt k i + (if i = 0 then a else if i = 1 then b else c)) % r_N k i := by
  have h1 := r_Npos h 1
  have h2 := r_Npos h 2
  have d0 : (s / r_wt k 0 + a) % r_N k 0 < r_N k 0 := Nat.mod_lt _ (by have := r_Npos h 0; omega)
  have d1 : (s / r_wt k 1 + b) % r_N k 1 < r_N k 1 := Nat.mod_lt _ (by omega)
  have d2 : (s / r_wt k 2 + c) % r_N k 2 < r_N k 2 := Nat.mod_lt _ (by omega)
  obtain ⟨q1, q2, q3, q4⟩ := r_code (d0 := (s / r_wt k 0 + a) % r_N k 0) d1 d2
  match i, hi with
  | 0, _ =>
    show (r_mv k s a b c) / (r_N k 1 * r_N k 2) % r_N k 0 = _
    rw [show r_mv k s a b c = (s / r_wt k 0 + a) % r_N k 0 * (r_N k 1 * r_N k 2) + (s / r_wt k 1 + b) % r_N k 1 * r_N k 2 + (s / r_wt k 2 + c) % r_N k 2 * 1 from rfl, q1, Nat.mod_mod]
    rfl
  | 1, _ =>
    show (r_mv k s a b c) / (r_N k 2) % r_N k 1 = _
    rw [show r_mv k s a b c = (s / r_wt k 0 + a) % r_N k 0 * (r_N k 1 * r_N k 2) + (s / r_wt k 1 + b) % r_N k 1 * r_N k 2 + (s / r_wt k 2 + c) % r_N k 2 * 1 from rfl, q3]
    rfl
  | 2, _ =>
    show (r_mv k s a b c) / 1 % r_N k 2 = _
    rw [Nat.div_one, show r_mv k s a b c = (s / r_wt k 0 + a) % r_N k 0 * (r_N k 1 * r_N k 2) + (s / r_wt k 1 + b) % r_N k 1 * r_N k 2 + (s / r_wt k 2 + c) % r_N k 2 * 1 from rfl, q4]
    rfl
theorem r_mvlt (h : r_ok k) (s a b c : Nat) : r_mv k s a b c < r_S k := by
  have d0 : (s / r_wt k 0 + a) % r_N k 0 < r_N k 0 := Nat.mod_lt _ (by have := r_Npos h 0; omega)
  have d1 : (s / r_wt k 1 + b) % r_N k 1 < r_N k 1 := Nat.mod_lt _ (by have := r_Npos h 1; omega)
  have d2 : (s / r_wt k 2 + c) % r_N k 2 < r_N k 2 := Nat.mod_lt _ (by have := r_Npos h 2; omega)
  show (s / r_wt k 0 + a) % r_N k 0 * (r_N k 1 * r_N k 2) + (s / r_wt k 1 + b) % r_N k 1 * r_N k 2 + (s / r_wt k 2 + c) % r_N k 2 * 1 < r_N k 0 * (r_N k 1 * r_N k 2)
  generalize (s / r_wt k 0 + a) % r_N k 0 = e0 at d0
  generalize (s / r_wt k 1 + b) % r_N k 1 = e1 at d1
  generalize (s / r_wt k 2 + c) % r_N k 2 = e2 at d2
  have p1 : e1 * r_N k 2 + e2 < r_N k 1 * r_N k 2 := by
    calc e1 * r_N k 2 + e2 < e1 * r_N k 2 + r_N k 2 := by omega
      _ = (e1 + 1) * r_N k 2 := by rw [Nat.add_mul, Nat.one_mul]
      _ ≤ r_N k 1 * r_N k 2 := Nat.mul_le_mul_right _ d1
  calc e0 * (r_N k 1 * r_N k 2) + e1 * r_N k 2 + e2 * 1 < e0 * (r_N k 1 * r_N k 2) + r_N k 1 * r_N k 2 := by omega
    _ = (e0 + 1) * (r_N k 1 * r_N k 2) := by rw [Nat.add_mul, Nat.one_mul]
    _ ≤ r_N k 0 * (r_N k 1 * r_N k 2) := Nat.mul_le_mul_right _ d0
/-- a standing is told by its digits -/
theorem r_ext (h : r_ok k) {s s' : Nat} (hs : s < r_S k) (hs' : s' < r_S k) (e : ∀ i, i < 3 → r_dg k s i = r_dg k s' i) : s = s' := by
  have key : ∀ s, s < r_S k → s = r_dg k s 0 * (r_N k 1 * r_N k 2) + r_dg k s 1 * r_N k 2 + r_dg k s 2 * 1 := by
    intro s hs
    have hw := r_wtpos h 0
    have h2 := r_Npos h 2
    have a0 : r_dg k s 0 = s / (r_N k 1 * r_N k 2) := Nat.mod_eq_of_lt (Nat.div_lt_of_lt_mul (by rw [Nat.mul_comm]; exact hs))
    have a2 : r_dg k s 2 = s % r_N k 2 := by show s / 1 % _ = _; rw [Nat.div_one]
    have a1 : r_dg k s 1 = s / r_N k 2 % r_N k 1 := rfl
    rw [a0, a1, a2, Nat.mul_one]
    have b1 := Nat.div_add_mod s (r_N k 2)
    have b2 := Nat.div_add_mod (s / r_N k 2) (r_N k 1)
    rw [Nat.div_div_eq_div_mul, Nat.mul_comm (r_N k 2) (r_N k 1)] at b2
    calc s = r_N k 2 * (s / r_N k 2) + s % r_N k 2 := b1.symm
      _ = r_N k 2 * (r_N k 1 * (s / (r_N k 1 * r_N k 2)) + s / r_N k 2 % r_N k 1) + s % r_N k 2 := by rw [b2]
      _ = _ := by rw [Nat.mul_add, Nat.mul_comm (r_N k 2) (s / r_N k 2 % r_N k 1), ← Nat.mul_assoc, Nat.mul_comm (r_N k 2) (r_N k 1), Nat.mul_comm (r_N k 1 * r_N k 2)]
  rw [key s hs, key s' hs', e 0 (by decide), e 1 (by decide), e 2 (by decide)]
theorem r_dglt (h : r_ok k) (s i : Nat) : r_dg k s i < r_N k i := Nat.mod_lt _ (by have := r_Npos h i; omega)
theorem r_addg (h : r_ok k) (s t i : Nat) (hi : i < 3) : r_dg k (r_ad k s t) i = (r_dg k s i + t) % r_N k i := by
  rw [r_ad, r_mvdg h _ _ _ _ _ hi, r_dg, Nat.mod_add_mod]
  split
  · rfl
  · split <;> rfl
theorem r_adlt (h : r_ok k) (s t : Nat) : r_ad k s t < r_S k := r_mvlt h _ _ _ _
theorem r_ad0 (h : r_ok k) {s : Nat} (hs : s < r_S k) : r_ad k s 0 = s :=
  r_ext h (r_adlt h _ _) hs fun i hi => by rw [r_addg h _ _ _ hi, Nat.add_zero, Nat.mod_eq_of_lt (r_dglt h s i)]
theorem r_adad (h : r_ok k) (s t u : Nat) : r_ad k (r_ad k s t) u = r_ad k s (t + u) :=
  r_ext h (r_adlt h _ _) (r_adlt h _ _) fun i hi => by
    rw [r_addg h _ _ _ hi, r_addg h _ _ _ hi, r_addg h _ _ _ hi, Nat.mod_add_mod, Nat.add_assoc]
theorem r_perN (i : Nat) (hi : i < 3) : r_N k i ∣ r_per k := by
  match i, hi with
  | 0, _ => exact Nat.dvd_lcm_left _ _
  | 1, _ => exact Nat.dvd_trans (Nat.dvd_lcm_left _ _) (Nat.dvd_lcm_right _ _)
  | 2, _ => exact Nat.dvd_trans (Nat.dvd_lcm_right _ _) (Nat.dvd_lcm_right _ _)
theorem r_perpos (h : r_ok k) : 0 < r_per k := Nat.lcm_pos (by have := r_Npos h 0; omega) (Nat.lcm_pos (by have := r_Npos h 1; omega) (by have := r_Npos h 2; omega))
theorem r_perS (h : r_ok k) : r_per k ∣ r_S k := by
  refine Nat.lcm_dvd (Nat.dvd_mul_right _ _) (Nat.lcm_dvd ?_ ?_)
  · exact Nat.dvd_trans (Nat.dvd_mul_right _ _) (Nat.dvd_mul_left _ _)
  · exact Nat.dvd_trans (Nat.dvd_mul_left _ _) (Nat.dvd_mul_left _ _)
theorem r_perle (h : r_ok k) : r_per k ≤ 1728 := Nat.le_trans (Nat.le_of_dvd (r_Sle h).1 (r_perS h)) (r_Sle h).2
theorem r_adper (h : r_ok k) (s t : Nat) : r_ad k s (t + r_per k) = r_ad k s t :=
  r_ext h (r_adlt h _ _) (r_adlt h _ _) fun i hi => by
    obtain ⟨c, hc⟩ := r_perN (k := k) i hi
    rw [r_addg h _ _ _ hi, r_addg h _ _ _ hi, hc, ← Nat.add_assoc, Nat.add_mul_mod_self_left]
end RB
/-! numbers of the machine -/
theorem q_n1 : (1 : Int32) = nI 1 := rfl
theorem q_n2 : (2 : Int32) = nI 2 := rfl
theorem q_at_n {r : Nat → Int32} {n i : Nat} (hi : i < n) (hn : n < 2 ^ 31) : q_at r n (nI i) = r i := by
  rw [q_at, if_neg (nI_pos (by omega)), if_neg (nI_ge hi hn), nI_clamp (by omega)]
theorem q_lo2_n {x n : Nat} (hx : x < 2 ^ 31) (h0 : 0 < n) (hn : n < 2 ^ 31) : q_lo2 (nI x) (nI n) = nI (x % n) := by
  have h1 : ¬ nI n < 1 := by rw [q_n1]; exact nI_nlt (by omega) hn
  rw [q_lo2, if_neg h1, pk_rem hx h0 hn]
theorem r_set_lt (f : Nat → Bool) : ∀ n, r_set f n < 2 ^ n
  | 0 => Nat.zero_lt_one
  | n + 1 => by
    have := r_set_lt f n
    rw [r_set, Nat.pow_succ]
    split <;> omega
theorem r_set_bit (f : Nat → Bool) : ∀ n p, r_set f n / 2 ^ p % 2 = if p < n ∧ f p = true then 1 else 0
  | 0, p => by simp [r_set]
  | n + 1, p => by
    have h1 := r_set_lt f n
    rw [r_set]
    rcases Nat.lt_trichotomy p n with hp | hp | hp
    · have h2 := r_set_bit f n p
      have e : 2 ^ n = 2 * 2 ^ (n - 1 - p) * 2 ^ p := by
        rw [Nat.mul_comm 2, ← Nat.pow_succ, ← Nat.pow_add]; congr 1; omega
      have : (r_set f n + if f n = true then 2 ^ n else 0) / 2 ^ p % 2 = r_set f n / 2 ^ p % 2 := by
        split
        · rw [e, Nat.add_mul_div_right _ _ (Nat.two_pow_pos p), Nat.add_mul_mod_self_left]
        · rfl
      rw [this, h2]
      simp [hp, Nat.lt_succ_of_lt hp]
    · subst hp
      have e : (r_set f p + if f p = true then 2 ^ p else 0) / 2 ^ p = if f p = true then 1 else 0 := by
        split
        · rw [Nat.add_div_right _ (Nat.two_pow_pos p), Nat.div_eq_of_lt h1]
        · rw [Nat.add_zero, Nat.div_eq_of_lt h1]
      rw [e]
      by_cases hf : f p = true <;> simp [hf]
    · have h3 : r_set f n + (if f n = true then 2 ^ n else 0) < 2 ^ p := by
        have : 2 ^ (n + 1) ≤ 2 ^ p := Nat.pow_le_pow_right (by decide) hp
        rw [Nat.pow_succ] at this
        split <;> omega
      rw [Nat.div_eq_of_lt h3, if_neg (by omega)]
theorem q_sh {j : Nat} (hj : j < 32) : ((nI j &&& 31).toBitVec.smod 32).toNat = j := by
  have : ∀ n, n < 32 → ((nI n &&& 31).toBitVec.smod 32).toNat = n := by decide +kernel
  exact this j hj
theorem q_bit_n {a p : Nat} (ha : a < 2 ^ 31) (hp : p < 32) : q_bit (nI a) (nI p) = nI (a / 2 ^ p % 2) := by
  rw [q_bit, pk_shrN ha _ p (q_sh hp), pk_andN (by have := Nat.div_le_self a (2 ^ p); omega) 1 (by decide)]
