/-! What the calls answer. -/
noncomputable def q_if (c : Prop) (a b : Int32) : Int32 := @ite _ c (Classical.propDecidable c) a b
theorem q_if_t {c : Prop} {a b : Int32} (h : c) : q_if c a b = a := by unfold q_if; exact if_pos h
theorem q_if_f {c : Prop} {a b : Int32} (h : ¬ c) : q_if c a b = b := by unfold q_if; exact if_neg h
def q_ix (p : Int32) : Nat := p.toNatClampNeg
theorem q_ix_n {n : Nat} (h : n < 2 ^ 31) : q_ix (nI n) = n := nI_clamp h
noncomputable def a_step (st v : Int32) : Int32 := q_if (q_rg st 999999) v (-1000000002)
noncomputable def a_plc (k : RK) (p v : Int32) : Int32 := q_if (q_lt p (r_pl k)) v (-1000000001)
noncomputable def a_height (k : RK) (s : Nat) (p st : Int32) : Int32 := a_plc k p (a_step st (r_ht k (q_ix p) (r_ad k s (q_ix st))))
def v_next (k : RK) (s p t : Nat) (w : Int32) : Int32 := if f_ff (r_F k p (r_ad k s t)) (r_per k) 0 = r_per k then -1 else if w = 0 then nI (f_ff (r_F k p (r_ad k s t)) (r_per k) 0) else nI (f_ff (fun j => !r_F k p (r_ad k s t) (f_ff (r_F k p (r_ad k s t)) (r_per k) 0 + j)) (r_per k) 0)
noncomputable def a_next (k : RK) (s : Nat) (p st w : Int32) : Int32 := a_plc k p (q_if (q_rg st 999999 ∧ q_rg w 1) (v_next k s (q_ix p) (q_ix st) w) (-1000000002))
def v_share (k : RK) (s p : Nat) (w : Int32) : Int32 := if w = 0 then nI (f_cnt (r_F k p s) (r_per k) / Nat.gcd (f_cnt (r_F k p s) (r_per k)) (r_per k)) else nI (r_per k / Nat.gcd (f_cnt (r_F k p s) (r_per k)) (r_per k))
noncomputable def a_share (k : RK) (s : Nat) (p w : Int32) : Int32 := a_plc k p (q_if (q_rg w 1) (v_share k s (q_ix p) w) (-1000000002))
def f_pl (n per : Nat) (t : Nat) : Int32 := if n = per then -1 else nI (t + n)
def r_Q (k : RK) (s : Nat) (d : Nat → Int32) : Nat → Bool := fun t => decide (∀ i : Fin 3, i.val < r_tn k → nI (r_dg k (r_ad k s t) i.val) = d i.val)
def d_3 (a b c : Int32) : Nat → Int32
  | 0 => a
  | 1 => b
  | _ => c
noncomputable def a_stand (k : RK) (s : Nat) (a b c st : Int32) : Int32 := q_if (q_rg a 11 ∧ q_rg b 11 ∧ q_rg c 11 ∧ q_rg st 999999) (f_pl (f_ff (r_Q k (r_ad k s (q_ix st)) (d_3 a b c)) (r_per k) 0) (r_per k) (q_ix st)) (-1000000002)
noncomputable def a_cross (k : RK) (s : Nat) (p q st : Int32) : Int32 := q_if (q_lt p (r_pl k) ∧ q_lt q (r_pl k) ∧ p ≠ q) (a_step st (f_pl (f_ff (r_X k (q_ix p) (q_ix q) (r_ad k s (q_ix st))) (r_per k) 0) (r_per k) (q_ix st))) (-1000000001)
/-- the least dark of the first n places, and where: (least, best + 1) -/
def f_store (D : Nat → Nat) : Nat → Nat × Nat
  | 0 => (1729, 0)
  | n + 1 => if D n < (f_store D n).1 then (D n, n + 1) else f_store D n
def a_store (k : RK) (s : Nat) : Int32 := nI (f_store (fun p => f_dark (r_F k p s) (r_per k)) (r_pl k)).2 - 1
noncomputable def a_sw : List Int32 → Nat → Int32 → Int32
  | [], _, _ => -1000000002
  | v :: l, j, w => q_if (w = nI j) v (a_sw l (j + 1) w)
noncomputable def a_turning (k : RK) (s stp : Nat) (i w : Int32) : Int32 := q_if (q_lt i (r_tn k)) (a_sw [nI (r_N k (q_ix i)), nI (r_dg k s (q_ix i)), nI (r_dg k (r_ad k s stp) (q_ix i)), r_pt k (q_ix i) (r_dg k (r_ad k s stp) (q_ix i))] 0 w) (-1000000001)
noncomputable def a_place (k : RK) (s : Nat) (p w : Int32) : Int32 := a_plc k p (a_sw [r_fc k (q_ix p) 0, r_fc k (q_ix p) 1, r_fc k (q_ix p) 2, nI (r_rd k (q_ix p)), nI (f_dark (r_F k (q_ix p) s) (r_per k)), nI (f_cnt (r_F k (q_ix p) s) (r_per k))] 0 w)
noncomputable def a_told (k : RK) (tl s wh stp : Nat) (lg : Int32) (sn bn : Nat) (w : Int32) : Int32 := a_sw [nI (r_tn k), nI (r_pl k), nI (r_wy k), nI (r_pu k), nI tl, nI (r_per k), nI stp, (if r_pl k = 0 then -1 else nI wh), lg, nI sn, nI bn, nI (r_ls k (r_ad k s stp))] 0 w
theorem a_sw_t {v : Int32} {l : List Int32} {j : Nat} {w : Int32} (h : w = nI j) : a_sw (v :: l) j w = v := by rw [a_sw, q_if_t h]
theorem a_sw_f {v : Int32} {l : List Int32} {j : Nat} {w : Int32} (h : ¬ w = nI j) : a_sw (v :: l) j w = a_sw l (j + 1) w := by rw [a_sw, q_if_f h]
