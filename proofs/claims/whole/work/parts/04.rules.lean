/-! One transformer an instruction, and why it is sound. -/
def o_ic (v : Int32) (t : q_TT) : q_TT := fun L st sh m K R => t L (.int v :: st) sh m K R
theorem k_iconst {X : q_CX} {y : MethodName} {cc : ByteArray} {nL : Nat} {ret : Option FieldType} {rm : Room} {Ts : List Cond} (h : q_OK X y cc nL ret rm Ts) {pc : Nat} {t : q_TT} {n : Int} {v : Int32} (hd : decode cc pc = .ok (.iconst n, 1)) (hv : Int32.ofInt n = v) (ht : q_SK X nL (pc + 1) t) : q_SK X nL pc (o_ic v t) := by
  intro L st sh m K R hT hK hR
  obtain ⟨p, l, e, Rm, s, mi, args, below, meth, c, D, cs, ad0, sA, sV, A, nz, mcs, Qc, Q⟩ := X
  obtain ⟨hx, hb, hml, hown, hts, hr, hlks, hRm, hKK, hA, hE, hmc, hnm⟩ := h
  intro ad H locs ls hl hP hD hS h1 h2 h3
  exact lv_iconst hx hb hd hv (ht _ _ _ _ _ _ hT hK hR ad H locs ls hl hP hD hS h1 h2 h3)
theorem k_bipush {X : q_CX} {y : MethodName} {cc : ByteArray} {nL : Nat} {ret : Option FieldType} {rm : Room} {Ts : List Cond} (h : q_OK X y cc nL ret rm Ts) {pc : Nat} {t : q_TT} {n : Int} {v : Int32} (hd : decode cc pc = .ok (.bipush n, 2)) (hv : (Int8.ofInt n).toInt32 = v) (ht : q_SK X nL (pc + 2) t) : q_SK X nL pc (o_ic v t) := by
  intro L st sh m K R hT hK hR
  obtain ⟨p, l, e, Rm, s, mi, args, below, meth, c, D, cs, ad0, sA, sV, A, nz, mcs, Qc, Q⟩ := X
  obtain ⟨hx, hb, hml, hown, hts, hr, hlks, hRm, hKK, hA, hE, hmc, hnm⟩ := h
  intro ad H locs ls hl hP hD hS h1 h2 h3
  exact lv_bipush hx hb hd hv (ht _ _ _ _ _ _ hT hK hR ad H locs ls hl hP hD hS h1 h2 h3)
theorem k_sipush {X : q_CX} {y : MethodName} {cc : ByteArray} {nL : Nat} {ret : Option FieldType} {rm : Room} {Ts : List Cond} (h : q_OK X y cc nL ret rm Ts) {pc : Nat} {t : q_TT} {n : Int} {v : Int32} (hd : decode cc pc = .ok (.sipush n, 3)) (hv : (Int16.ofInt n).toInt32 = v) (ht : q_SK X nL (pc + 3) t) : q_SK X nL pc (o_ic v t) := by
  intro L st sh m K R hT hK hR
  obtain ⟨p, l, e, Rm, s, mi, args, below, meth, c, D, cs, ad0, sA, sV, A, nz, mcs, Qc, Q⟩ := X
  obtain ⟨hx, hb, hml, hown, hts, hr, hlks, hRm, hKK, hA, hE, hmc, hnm⟩ := h
  intro ad H locs ls hl hP hD hS h1 h2 h3
  exact lv_sipush hx hb hd hv (ht _ _ _ _ _ _ hT hK hR ad H locs ls hl hP hD hS h1 h2 h3)
theorem k_ldc {X : q_CX} {y : MethodName} {cc : ByteArray} {nL : Nat} {ret : Option FieldType} {rm : Room} {Ts : List Cond} (h : q_OK X y cc nL ret rm Ts) {pc : Nat} {t : q_TT} {idx : Nat} {v : Int32} (hd : decode cc pc = .ok (.ldc idx, 2)) (hv : Cond.constant y.cls idx v ∈ Ts) (ht : q_SK X nL (pc + 2) t) : q_SK X nL pc (o_ic v t) := by
  intro L st sh m K R hT hK hR
  obtain ⟨p, l, e, Rm, s, mi, args, below, meth, c, D, cs, ad0, sA, sV, A, nz, mcs, Qc, Q⟩ := X
  obtain ⟨hx, hb, hml, hown, hts, hr, hlks, hRm, hKK, hA, hE, hmc, hnm⟩ := h
  intro ad H locs ls hl hP hD hS h1 h2 h3
  exact lv_ldc hx hb hown (hts _ hv) hd (ht _ _ _ _ _ _ hT hK hR ad H locs ls hl hP hD hS h1 h2 h3)
theorem k_ldcw {X : q_CX} {y : MethodName} {cc : ByteArray} {nL : Nat} {ret : Option FieldType} {rm : Room} {Ts : List Cond} (h : q_OK X y cc nL ret rm Ts) {pc : Nat} {t : q_TT} {idx : Nat} {v : Int32} (hd : decode cc pc = .ok (.ldc_w idx, 3)) (hv : Cond.constant y.cls idx v ∈ Ts) (ht : q_SK X nL (pc + 3) t) : q_SK X nL pc (o_ic v t) := by
  intro L st sh m K R hT hK hR
  obtain ⟨p, l, e, Rm, s, mi, args, below, meth, c, D, cs, ad0, sA, sV, A, nz, mcs, Qc, Q⟩ := X
  obtain ⟨hx, hb, hml, hown, hts, hr, hlks, hRm, hKK, hA, hE, hmc, hnm⟩ := h
  intro ad H locs ls hl hP hD hS h1 h2 h3
  exact lv_ldcw hx hb hown (hts _ hv) hd (ht _ _ _ _ _ _ hT hK hR ad H locs ls hl hP hD hS h1 h2 h3)
def o_lc (v : Int64) (t : q_TT) : q_TT := fun L st sh m K R => t L (.long v :: st) sh m K R
theorem k_lconst {X : q_CX} {y : MethodName} {cc : ByteArray} {nL : Nat} {ret : Option FieldType} {rm : Room} {Ts : List Cond} (h : q_OK X y cc nL ret rm Ts) {pc : Nat} {t : q_TT} {n : Fin 2} {v : Int64} (hd : decode cc pc = .ok (.lconst n, 1)) (hv : Int64.ofNat (n : Nat) = v) (ht : q_SK X nL (pc + 1) t) : q_SK X nL pc (o_lc v t) := by
  intro L st sh m K R hT hK hR
  obtain ⟨p, l, e, Rm, s, mi, args, below, meth, c, D, cs, ad0, sA, sV, A, nz, mcs, Qc, Q⟩ := X
  obtain ⟨hx, hb, hml, hown, hts, hr, hlks, hRm, hKK, hA, hE, hmc, hnm⟩ := h
  intro ad H locs ls hl hP hD hS h1 h2 h3
  exact lv_lconst hx hb hd hv (ht _ _ _ _ _ _ hT hK hR ad H locs ls hl hP hD hS h1 h2 h3)
theorem k_ldc2 {X : q_CX} {y : MethodName} {cc : ByteArray} {nL : Nat} {ret : Option FieldType} {rm : Room} {Ts : List Cond} (h : q_OK X y cc nL ret rm Ts) {pc : Nat} {t : q_TT} {idx : Nat} {v : Int64} (hd : decode cc pc = .ok (.ldc2_w idx, 3)) (hv : Cond.constantLong y.cls idx v ∈ Ts) (ht : q_SK X nL (pc + 3) t) : q_SK X nL pc (o_lc v t) := by
  intro L st sh m K R hT hK hR
  obtain ⟨p, l, e, Rm, s, mi, args, below, meth, c, D, cs, ad0, sA, sV, A, nz, mcs, Qc, Q⟩ := X
  obtain ⟨hx, hb, hml, hown, hts, hr, hlks, hRm, hKK, hA, hE, hmc, hnm⟩ := h
  intro ad H locs ls hl hP hD hS h1 h2 h3
  exact lv_ldc2 hx hb hown (hts _ hv) hd (ht _ _ _ _ _ _ hT hK hR ad H locs ls hl hP hD hS h1 h2 h3)
def o_str (i : Nat) (t : q_TT) : q_TT := fun L st sh m K R => t L (.retAddr i :: st) sh m K R
theorem k_str {X : q_CX} {y : MethodName} {cc : ByteArray} {nL : Nat} {ret : Option FieldType} {rm : Room} {Ts : List Cond} (h : q_OK X y cc nL ret rm Ts) {pc : Nat} {t : q_TT} {i idx : Nat} (hi : i < 4) (hy : y.cls = RX3) (hix : (q_sty.getD i (0, "")).1 = idx) (hd : decode cc pc = .ok (.ldc idx, 2)) (ht : q_SK X nL (pc + 2) t) : q_SK X nL pc (o_str i t) := by
  intro L st sh m K R hT hK hR
  obtain ⟨p, l, e, Rm, s, mi, args, below, meth, c, D, cs, ad0, sA, sV, A, nz, mcs, Qc, Q⟩ := X
  obtain ⟨hx, hb, hml, hown, hts, hr, hlks, hRm, hKK, hA, hE, hmc, hnm⟩ := h
  intro ad H locs ls hl hP hD hS h1 h2 h3
  subst hix
  rw [hy] at hown
  exact va_ldcS hx hb hown (hE.2.2.1 i hi) hd (ht _ _ _ _ _ _ hT hK hR ad H locs ls hl hP hD hS h1 h2 h3)
def o_il (i : Nat) (t : q_TT) : q_TT := fun L st sh m K R => match L[i]? with
  | some (some (.int x)) => t L (.int x :: st) sh m K R
  | _ => False
def o_ll (i : Nat) (t : q_TT) : q_TT := fun L st sh m K R => match L[i]? with
  | some (some (.long x)) => t L (.long x :: st) sh m K R
  | _ => False
def o_al (i : Nat) (t : q_TT) : q_TT := fun L st sh m K R => match L[i]? with
  | some (some (.ref x)) => t L (.ref x :: st) sh m K R
  | some (some (.retAddr x)) => t L (.retAddr x :: st) sh m K R
  | _ => False
theorem k_iload_n {X : q_CX} {y : MethodName} {cc : ByteArray} {nL : Nat} {ret : Option FieldType} {rm : Room} {Ts : List Cond} (h : q_OK X y cc nL ret rm Ts) {pc : Nat} {t : q_TT} {i : Nat} {k : Fin 4} (hd : decode cc pc = .ok (.iload_n k, 1)) (hi : (k : Nat) = i) (ht : q_SK X nL (pc + 1) t) : q_SK X nL pc (o_il i t) := by
  intro L st sh m K R hT hK hR
  obtain ⟨p, l, e, Rm, s, mi, args, below, meth, c, D, cs, ad0, sA, sV, A, nz, mcs, Qc, Q⟩ := X
  obtain ⟨hx, hb, hml, hown, hts, hr, hlks, hRm, hKK, hA, hE, hmc, hnm⟩ := h
  unfold o_il at hT
  split at hT
  · intro ad H locs ls hl hP hD hS h1 h2 h3
    exact lv_iload_n hx hb hd hi (hl.at (by assumption)) (ht _ _ _ _ _ _ hT hK hR ad H locs ls hl hP hD hS h1 h2 h3)
  · exact hT.elim
theorem k_iload {X : q_CX} {y : MethodName} {cc : ByteArray} {nL : Nat} {ret : Option FieldType} {rm : Room} {Ts : List Cond} (h : q_OK X y cc nL ret rm Ts) {pc : Nat} {t : q_TT} {i : Nat} (hd : decode cc pc = .ok (.iload i, 2)) (ht : q_SK X nL (pc + 2) t) : q_SK X nL pc (o_il i t) := by
  intro L st sh m K R hT hK hR
  obtain ⟨p, l, e, Rm, s, mi, args, below, meth, c, D, cs, ad0, sA, sV, A, nz, mcs, Qc, Q⟩ := X
  obtain ⟨hx, hb, hml, hown, hts, hr, hlks, hRm, hKK, hA, hE, hmc, hnm⟩ := h
  unfold o_il at hT
  split at hT
  · intro ad H locs ls hl hP hD hS h1 h2 h3
    exact lv_iload hx hb hd (hl.at (by assumption)) (ht _ _ _ _ _ _ hT hK hR ad H locs ls hl hP hD hS h1 h2 h3)
  · exact hT.elim
theorem k_lload_n {X : q_CX} {y : MethodName} {cc : ByteArray} {nL : Nat} {ret : Option FieldType} {rm : Room} {Ts : List Cond} (h : q_OK X y cc nL ret rm Ts) {pc : Nat} {t : q_TT} {i : Nat} {k : Fin 4} (hd : decode cc pc = .ok (.lload_n k, 1)) (hi : (k : Nat) = i) (ht : q_SK X nL (pc + 1) t) : q_SK X nL pc (o_ll i t) := by
  intro L st sh m K R hT hK hR
  obtain ⟨p, l, e, Rm, s, mi, args, below, meth, c, D, cs, ad0, sA, sV, A, nz, mcs, Qc, Q⟩ := X
  obtain ⟨hx, hb, hml, hown, hts, hr, hlks, hRm, hKK, hA, hE, hmc, hnm⟩ := h
  unfold o_ll at hT
  split at hT
  · intro ad H locs ls hl hP hD hS h1 h2 h3
    exact lv_lload_n hx hb hd hi (hl.at (by assumption)) (ht _ _ _ _ _ _ hT hK hR ad H locs ls hl hP hD hS h1 h2 h3)
  · exact hT.elim
theorem k_lload {X : q_CX} {y : MethodName} {cc : ByteArray} {nL : Nat} {ret : Option FieldType} {rm : Room} {Ts : List Cond} (h : q_OK X y cc nL ret rm Ts) {pc : Nat} {t : q_TT} {i : Nat} (hd : decode cc pc = .ok (.lload i, 2)) (ht : q_SK X nL (pc + 2) t) : q_SK X nL pc (o_ll i t) := by
  intro L st sh m K R hT hK hR
  obtain ⟨p, l, e, Rm, s, mi, args, below, meth, c, D, cs, ad0, sA, sV, A, nz, mcs, Qc, Q⟩ := X
  obtain ⟨hx, hb, hml, hown, hts, hr, hlks, hRm, hKK, hA, hE, hmc, hnm⟩ := h
  unfold o_ll at hT
  split at hT
  · intro ad H locs ls hl hP hD hS h1 h2 h3
    exact lv_lload hx hb hd (hl.at (by assumption)) (ht _ _ _ _ _ _ hT hK hR ad H locs ls hl hP hD hS h1 h2 h3)
  · exact hT.elim
theorem k_aload_n {X : q_CX} {y : MethodName} {cc : ByteArray} {nL : Nat} {ret : Option FieldType} {rm : Room} {Ts : List Cond} (h : q_OK X y cc nL ret rm Ts) {pc : Nat} {t : q_TT} {i : Nat} {k : Fin 4} (hd : decode cc pc = .ok (.aload_n k, 1)) (hi : (k : Nat) = i) (ht : q_SK X nL (pc + 1) t) : q_SK X nL pc (o_al i t) := by
  intro L st sh m K R hT hK hR
  obtain ⟨p, l, e, Rm, s, mi, args, below, meth, c, D, cs, ad0, sA, sV, A, nz, mcs, Qc, Q⟩ := X
  obtain ⟨hx, hb, hml, hown, hts, hr, hlks, hRm, hKK, hA, hE, hmc, hnm⟩ := h
  unfold o_al at hT
  split at hT
  · intro ad H locs ls hl hP hD hS h1 h2 h3
    exact lv_aload_n hx hb hd hi (hl.at (by assumption)) (ht _ _ _ _ _ _ hT hK hR ad H locs ls hl hP hD hS h1 h2 h3)
  · intro ad H locs ls hl hP hD hS h1 h2 h3
    exact lv_aload_n hx hb hd hi (hl.at (by assumption)) (ht _ _ _ _ _ _ hT hK hR ad H locs ls hl hP hD hS h1 h2 h3)
  · exact hT.elim
theorem k_aload {X : q_CX} {y : MethodName} {cc : ByteArray} {nL : Nat} {ret : Option FieldType} {rm : Room} {Ts : List Cond} (h : q_OK X y cc nL ret rm Ts) {pc : Nat} {t : q_TT} {i : Nat} (hd : decode cc pc = .ok (.aload i, 2)) (ht : q_SK X nL (pc + 2) t) : q_SK X nL pc (o_al i t) := by
  intro L st sh m K R hT hK hR
  obtain ⟨p, l, e, Rm, s, mi, args, below, meth, c, D, cs, ad0, sA, sV, A, nz, mcs, Qc, Q⟩ := X
  obtain ⟨hx, hb, hml, hown, hts, hr, hlks, hRm, hKK, hA, hE, hmc, hnm⟩ := h
  unfold o_al at hT
  split at hT
  · intro ad H locs ls hl hP hD hS h1 h2 h3
    exact lv_aload hx hb hd (hl.at (by assumption)) (ht _ _ _ _ _ _ hT hK hR ad H locs ls hl hP hD hS h1 h2 h3)
  · intro ad H locs ls hl hP hD hS h1 h2 h3
    exact lv_aload hx hb hd (hl.at (by assumption)) (ht _ _ _ _ _ _ hT hK hR ad H locs ls hl hP hD hS h1 h2 h3)
  · exact hT.elim
def o_is (i : Nat) (t : q_TT) : q_TT := fun L st sh m K R => match st with
  | .int x :: st => q_nl L[i - 1]? ∧ t (L.set i (some (.int x))) st sh m K R
  | _ => False
def o_as (i : Nat) (t : q_TT) : q_TT := fun L st sh m K R => match st with
  | .ref x :: st => q_nl L[i - 1]? ∧ t (L.set i (some (.ref x))) st sh m K R
  | _ => False
theorem k_istore_n {X : q_CX} {y : MethodName} {cc : ByteArray} {nL : Nat} {ret : Option FieldType} {rm : Room} {Ts : List Cond} (h : q_OK X y cc nL ret rm Ts) {pc : Nat} {t : q_TT} {i : Nat} {k : Fin 4} (hd : decode cc pc = .ok (.istore_n k, 1)) (hi : (k : Nat) = i) (hn : i < nL) (ht : q_SK X nL (pc + 1) t) : q_SK X nL pc (o_is i t) := by
  intro L st sh m K R hT hK hR
  obtain ⟨p, l, e, Rm, s, mi, args, below, meth, c, D, cs, ad0, sA, sV, A, nz, mcs, Qc, Q⟩ := X
  obtain ⟨hx, hb, hml, hown, hts, hr, hlks, hRm, hKK, hA, hE, hmc, hnm⟩ := h
  unfold o_is at hT
  split at hT
  · intro ad H locs ls hl hP hD hS h1 h2 h3
    exact lv_istore_n hx hb hd hi hl.has hn rfl (fun ls' hl' => ht _ _ _ _ _ _ hT.2 hK hR ad H locs ls' (hl.set (ex := []) hT.1 hl') hP hD hS h1 h2 h3)
  · exact hT.elim
theorem k_istore {X : q_CX} {y : MethodName} {cc : ByteArray} {nL : Nat} {ret : Option FieldType} {rm : Room} {Ts : List Cond} (h : q_OK X y cc nL ret rm Ts) {pc : Nat} {t : q_TT} {i : Nat} (hd : decode cc pc = .ok (.istore i, 2)) (hn : i < nL) (ht : q_SK X nL (pc + 2) t) : q_SK X nL pc (o_is i t) := by
  intro L st sh m K R hT hK hR
  obtain ⟨p, l, e, Rm, s, mi, args, below, meth, c, D, cs, ad0, sA, sV, A, nz, mcs, Qc, Q⟩ := X
  obtain ⟨hx, hb, hml, hown, hts, hr, hlks, hRm, hKK, hA, hE, hmc, hnm⟩ := h
  unfold o_is at hT
  split at hT
  · intro ad H locs ls hl hP hD hS h1 h2 h3
    exact lv_istore hx hb hd hl.has hn rfl (fun ls' hl' => ht _ _ _ _ _ _ hT.2 hK hR ad H locs ls' (hl.set (ex := []) hT.1 hl') hP hD hS h1 h2 h3)
  · exact hT.elim
theorem k_astore_n {X : q_CX} {y : MethodName} {cc : ByteArray} {nL : Nat} {ret : Option FieldType} {rm : Room} {Ts : List Cond} (h : q_OK X y cc nL ret rm Ts) {pc : Nat} {t : q_TT} {i : Nat} {k : Fin 4} (hd : decode cc pc = .ok (.astore_n k, 1)) (hi : (k : Nat) = i) (hn : i < nL) (ht : q_SK X nL (pc + 1) t) : q_SK X nL pc (o_as i t) := by
  intro L st sh m K R hT hK hR
  obtain ⟨p, l, e, Rm, s, mi, args, below, meth, c, D, cs, ad0, sA, sV, A, nz, mcs, Qc, Q⟩ := X
  obtain ⟨hx, hb, hml, hown, hts, hr, hlks, hRm, hKK, hA, hE, hmc, hnm⟩ := h
  unfold o_as at hT
  split at hT
  · intro ad H locs ls hl hP hD hS h1 h2 h3
    exact lv_astore_n hx hb hd hi hl.has hn rfl (fun ls' hl' => ht _ _ _ _ _ _ hT.2 hK hR ad H locs ls' (hl.set (ex := []) hT.1 hl') hP hD hS h1 h2 h3)
  · exact hT.elim
def o_inc (i : Nat) (d : Int32) (t : q_TT) : q_TT := fun L st sh m K R => match L[i]? with
  | some (some (.int x)) => q_nl L[i - 1]? ∧ t (L.set i (some (.int (x + d)))) st sh m K R
  | _ => False
theorem k_iinc {X : q_CX} {y : MethodName} {cc : ByteArray} {nL : Nat} {ret : Option FieldType} {rm : Room} {Ts : List Cond} (h : q_OK X y cc nL ret rm Ts) {pc : Nat} {t : q_TT} {i : Nat} {n : Int} {d : Int32} (hd : decode cc pc = .ok (.iinc i n, 3)) (hv : Int32.ofInt n = d) (hn : i < nL) (ht : q_SK X nL (pc + 3) t) : q_SK X nL pc (o_inc i d t) := by
  intro L st sh m K R hT hK hR
  obtain ⟨p, l, e, Rm, s, mi, args, below, meth, c, D, cs, ad0, sA, sV, A, nz, mcs, Qc, Q⟩ := X
  obtain ⟨hx, hb, hml, hown, hts, hr, hlks, hRm, hKK, hA, hE, hmc, hnm⟩ := h
  unfold o_inc at hT
  split at hT
  · rename_i x hx0
    intro ad H locs ls hl hP hD hS h1 h2 h3
    subst hv
    have hl2 : lv_has ls nL ([(i, Value.int x)] ++ q_asc ad sA L) := ⟨hl.has.1, hl.has.2.1, fun q hq => by
      rcases List.mem_append.mp hq with h5 | h5
      · simp at h5; subst h5; exact hl.at hx0
      · exact hl.has.2.2 q h5⟩
    exact lv_iinc hx hb hd hl2 (k := 0) rfl rfl hn rfl (fun ls' hl' => ht _ _ _ _ _ _ hT.2 hK hR ad H locs ls' (hl.set (ex := [(i, Value.int x)]) hT.1 hl') hP hD hS h1 h2 h3)
  · exact hT.elim
def o_iadd (t : q_TT) : q_TT := fun L st sh m K R => match st with
  | .int y :: .int x :: st => t L (.int (x + y) :: st) sh m K R
  | _ => False
theorem k_iadd {X : q_CX} {y : MethodName} {cc : ByteArray} {nL : Nat} {ret : Option FieldType} {rm : Room} {Ts : List Cond} (h : q_OK X y cc nL ret rm Ts) {pc : Nat} {t : q_TT} (hd : decode cc pc = .ok (.iadd, 1)) (ht : q_SK X nL (pc + 1) t) : q_SK X nL pc (o_iadd t) := by
  intro L st sh m K R hT hK hR
  obtain ⟨p, l, e, Rm, s, mi, args, below, meth, c, D, cs, ad0, sA, sV, A, nz, mcs, Qc, Q⟩ := X
  obtain ⟨hx, hb, hml, hown, hts, hr, hlks, hRm, hKK, hA, hE, hmc, hnm⟩ := h
  unfold o_iadd at hT
  split at hT
  · intro ad H locs ls hl hP hD hS h1 h2 h3
    exact lv_iadd hx hb hd (ht _ _ _ _ _ _ hT hK hR ad H locs ls hl hP hD hS h1 h2 h3)
  · exact hT.elim
def o_isub (t : q_TT) : q_TT := fun L st sh m K R => match st with
  | .int y :: .int x :: st => t L (.int (x - y) :: st) sh m K R
  | _ => False
theorem k_isub {X : q_CX} {y : MethodName} {cc : ByteArray} {nL : Nat} {ret : Option FieldType} {rm : Room} {Ts : List Cond} (h : q_OK X y cc nL ret rm Ts) {pc : Nat} {t : q_TT} (hd : decode cc pc = .ok (.isub, 1)) (ht : q_SK X nL (pc + 1) t) : q_SK X nL pc (o_isub t) := by
  intro L st sh m K R hT hK hR
  obtain ⟨p, l, e, Rm, s, mi, args, below, meth, c, D, cs, ad0, sA, sV, A, nz, mcs, Qc, Q⟩ := X
  obtain ⟨hx, hb, hml, hown, hts, hr, hlks, hRm, hKK, hA, hE, hmc, hnm⟩ := h
  unfold o_isub at hT
  split at hT
  · intro ad H locs ls hl hP hD hS h1 h2 h3
    exact lv_isub hx hb hd (ht _ _ _ _ _ _ hT hK hR ad H locs ls hl hP hD hS h1 h2 h3)
  · exact hT.elim
def o_imul (t : q_TT) : q_TT := fun L st sh m K R => match st with
  | .int y :: .int x :: st => t L (.int (x * y) :: st) sh m K R
  | _ => False
theorem k_imul {X : q_CX} {y : MethodName} {cc : ByteArray} {nL : Nat} {ret : Option FieldType} {rm : Room} {Ts : List Cond} (h : q_OK X y cc nL ret rm Ts) {pc : Nat} {t : q_TT} (hd : decode cc pc = .ok (.imul, 1)) (ht : q_SK X nL (pc + 1) t) : q_SK X nL pc (o_imul t) := by
  intro L st sh m K R hT hK hR
  obtain ⟨p, l, e, Rm, s, mi, args, below, meth, c, D, cs, ad0, sA, sV, A, nz, mcs, Qc, Q⟩ := X
  obtain ⟨hx, hb, hml, hown, hts, hr, hlks, hRm, hKK, hA, hE, hmc, hnm⟩ := h
  unfold o_imul at hT
  split at hT
  · intro ad H locs ls hl hP hD hS h1 h2 h3
    exact lv_imul hx hb hd (ht _ _ _ _ _ _ hT hK hR ad H locs ls hl hP hD hS h1 h2 h3)
  · exact hT.elim
def o_iand (t : q_TT) : q_TT := fun L st sh m K R => match st with
  | .int y :: .int x :: st => t L (.int (x &&& y) :: st) sh m K R
  | _ => False
theorem k_iand {X : q_CX} {y : MethodName} {cc : ByteArray} {nL : Nat} {ret : Option FieldType} {rm : Room} {Ts : List Cond} (h : q_OK X y cc nL ret rm Ts) {pc : Nat} {t : q_TT} (hd : decode cc pc = .ok (.iand, 1)) (ht : q_SK X nL (pc + 1) t) : q_SK X nL pc (o_iand t) := by
  intro L st sh m K R hT hK hR
  obtain ⟨p, l, e, Rm, s, mi, args, below, meth, c, D, cs, ad0, sA, sV, A, nz, mcs, Qc, Q⟩ := X
  obtain ⟨hx, hb, hml, hown, hts, hr, hlks, hRm, hKK, hA, hE, hmc, hnm⟩ := h
  unfold o_iand at hT
  split at hT
  · intro ad H locs ls hl hP hD hS h1 h2 h3
    exact lv_iand hx hb hd (ht _ _ _ _ _ _ hT hK hR ad H locs ls hl hP hD hS h1 h2 h3)
  · exact hT.elim
def o_ior (t : q_TT) : q_TT := fun L st sh m K R => match st with
  | .int y :: .int x :: st => t L (.int (x ||| y) :: st) sh m K R
  | _ => False
theorem k_ior {X : q_CX} {y : MethodName} {cc : ByteArray} {nL : Nat} {ret : Option FieldType} {rm : Room} {Ts : List Cond} (h : q_OK X y cc nL ret rm Ts) {pc : Nat} {t : q_TT} (hd : decode cc pc = .ok (.ior, 1)) (ht : q_SK X nL (pc + 1) t) : q_SK X nL pc (o_ior t) := by
  intro L st sh m K R hT hK hR
  obtain ⟨p, l, e, Rm, s, mi, args, below, meth, c, D, cs, ad0, sA, sV, A, nz, mcs, Qc, Q⟩ := X
  obtain ⟨hx, hb, hml, hown, hts, hr, hlks, hRm, hKK, hA, hE, hmc, hnm⟩ := h
  unfold o_ior at hT
  split at hT
  · intro ad H locs ls hl hP hD hS h1 h2 h3
    exact lv_ior hx hb hd (ht _ _ _ _ _ _ hT hK hR ad H locs ls hl hP hD hS h1 h2 h3)
  · exact hT.elim
def o_ishl (t : q_TT) : q_TT := fun L st sh m K R => match st with
  | .int y :: .int x :: st => t L (.int (x <<< (y &&& 31)) :: st) sh m K R
  | _ => False
theorem k_ishl {X : q_CX} {y : MethodName} {cc : ByteArray} {nL : Nat} {ret : Option FieldType} {rm : Room} {Ts : List Cond} (h : q_OK X y cc nL ret rm Ts) {pc : Nat} {t : q_TT} (hd : decode cc pc = .ok (.ishl, 1)) (ht : q_SK X nL (pc + 1) t) : q_SK X nL pc (o_ishl t) := by
  intro L st sh m K R hT hK hR
  obtain ⟨p, l, e, Rm, s, mi, args, below, meth, c, D, cs, ad0, sA, sV, A, nz, mcs, Qc, Q⟩ := X
  obtain ⟨hx, hb, hml, hown, hts, hr, hlks, hRm, hKK, hA, hE, hmc, hnm⟩ := h
  unfold o_ishl at hT
  split at hT
  · intro ad H locs ls hl hP hD hS h1 h2 h3
    exact lv_ishl hx hb hd (ht _ _ _ _ _ _ hT hK hR ad H locs ls hl hP hD hS h1 h2 h3)
  · exact hT.elim
def o_ishr (t : q_TT) : q_TT := fun L st sh m K R => match st with
  | .int y :: .int x :: st => t L (.int (x >>> (y &&& 31)) :: st) sh m K R
  | _ => False
theorem k_ishr {X : q_CX} {y : MethodName} {cc : ByteArray} {nL : Nat} {ret : Option FieldType} {rm : Room} {Ts : List Cond} (h : q_OK X y cc nL ret rm Ts) {pc : Nat} {t : q_TT} (hd : decode cc pc = .ok (.ishr, 1)) (ht : q_SK X nL (pc + 1) t) : q_SK X nL pc (o_ishr t) := by
  intro L st sh m K R hT hK hR
  obtain ⟨p, l, e, Rm, s, mi, args, below, meth, c, D, cs, ad0, sA, sV, A, nz, mcs, Qc, Q⟩ := X
  obtain ⟨hx, hb, hml, hown, hts, hr, hlks, hRm, hKK, hA, hE, hmc, hnm⟩ := h
  unfold o_ishr at hT
  split at hT
  · intro ad H locs ls hl hP hD hS h1 h2 h3
    exact lv_ishr hx hb hd (ht _ _ _ _ _ _ hT hK hR ad H locs ls hl hP hD hS h1 h2 h3)
  · exact hT.elim
def o_iushr (t : q_TT) : q_TT := fun L st sh m K R => match st with
  | .int y :: .int x :: st => t L (.int ((x.toUInt32 >>> (y.toUInt32 &&& Int32.toUInt32 31)).toInt32) :: st) sh m K R
  | _ => False
theorem k_iushr {X : q_CX} {y : MethodName} {cc : ByteArray} {nL : Nat} {ret : Option FieldType} {rm : Room} {Ts : List Cond} (h : q_OK X y cc nL ret rm Ts) {pc : Nat} {t : q_TT} (hd : decode cc pc = .ok (.iushr, 1)) (ht : q_SK X nL (pc + 1) t) : q_SK X nL pc (o_iushr t) := by
  intro L st sh m K R hT hK hR
  obtain ⟨p, l, e, Rm, s, mi, args, below, meth, c, D, cs, ad0, sA, sV, A, nz, mcs, Qc, Q⟩ := X
  obtain ⟨hx, hb, hml, hown, hts, hr, hlks, hRm, hKK, hA, hE, hmc, hnm⟩ := h
  unfold o_iushr at hT
  split at hT
  · intro ad H locs ls hl hP hD hS h1 h2 h3
    exact lv_iushr hx hb hd rfl (ht _ _ _ _ _ _ hT hK hR ad H locs ls hl hP hD hS h1 h2 h3)
  · exact hT.elim
def o_idiv (t : q_TT) : q_TT := fun L st sh m K R => match st with
  | .int y :: .int x :: st => ¬ y = 0 ∧ t L (.int (x / y) :: st) sh m K R
  | _ => False
theorem k_idiv {X : q_CX} {y : MethodName} {cc : ByteArray} {nL : Nat} {ret : Option FieldType} {rm : Room} {Ts : List Cond} (h : q_OK X y cc nL ret rm Ts) {pc : Nat} {t : q_TT} (hd : decode cc pc = .ok (.idiv, 1)) (ht : q_SK X nL (pc + 1) t) : q_SK X nL pc (o_idiv t) := by
  intro L st sh m K R hT hK hR
  obtain ⟨p, l, e, Rm, s, mi, args, below, meth, c, D, cs, ad0, sA, sV, A, nz, mcs, Qc, Q⟩ := X
  obtain ⟨hx, hb, hml, hown, hts, hr, hlks, hRm, hKK, hA, hE, hmc, hnm⟩ := h
  unfold o_idiv at hT
  split at hT
  · intro ad H locs ls hl hP hD hS h1 h2 h3
    exact lv_idiv hx hb hd hT.1 (ht _ _ _ _ _ _ hT.2 hK hR ad H locs ls hl hP hD hS h1 h2 h3)
  · exact hT.elim
def o_irem (t : q_TT) : q_TT := fun L st sh m K R => match st with
  | .int y :: .int x :: st => ¬ y = 0 ∧ t L (.int (x - x / y * y) :: st) sh m K R
  | _ => False
theorem k_irem {X : q_CX} {y : MethodName} {cc : ByteArray} {nL : Nat} {ret : Option FieldType} {rm : Room} {Ts : List Cond} (h : q_OK X y cc nL ret rm Ts) {pc : Nat} {t : q_TT} (hd : decode cc pc = .ok (.irem, 1)) (ht : q_SK X nL (pc + 1) t) : q_SK X nL pc (o_irem t) := by
  intro L st sh m K R hT hK hR
  obtain ⟨p, l, e, Rm, s, mi, args, below, meth, c, D, cs, ad0, sA, sV, A, nz, mcs, Qc, Q⟩ := X
  obtain ⟨hx, hb, hml, hown, hts, hr, hlks, hRm, hKK, hA, hE, hmc, hnm⟩ := h
  unfold o_irem at hT
  split at hT
  · intro ad H locs ls hl hP hD hS h1 h2 h3
    exact lv_irem hx hb hd hT.1 (ht _ _ _ _ _ _ hT.2 hK hR ad H locs ls hl hP hD hS h1 h2 h3)
  · exact hT.elim
def o_ladd (t : q_TT) : q_TT := fun L st sh m K R => match st with
  | .long y :: .long x :: st => t L (.long (x + y) :: st) sh m K R
  | _ => False
theorem k_ladd {X : q_CX} {y : MethodName} {cc : ByteArray} {nL : Nat} {ret : Option FieldType} {rm : Room} {Ts : List Cond} (h : q_OK X y cc nL ret rm Ts) {pc : Nat} {t : q_TT} (hd : decode cc pc = .ok (.ladd, 1)) (ht : q_SK X nL (pc + 1) t) : q_SK X nL pc (o_ladd t) := by
  intro L st sh m K R hT hK hR
  obtain ⟨p, l, e, Rm, s, mi, args, below, meth, c, D, cs, ad0, sA, sV, A, nz, mcs, Qc, Q⟩ := X
  obtain ⟨hx, hb, hml, hown, hts, hr, hlks, hRm, hKK, hA, hE, hmc, hnm⟩ := h
  unfold o_ladd at hT
  split at hT
  · intro ad H locs ls hl hP hD hS h1 h2 h3
    exact lv_ladd hx hb hd (ht _ _ _ _ _ _ hT hK hR ad H locs ls hl hP hD hS h1 h2 h3)
  · exact hT.elim
def o_lmul (t : q_TT) : q_TT := fun L st sh m K R => match st with
  | .long y :: .long x :: st => t L (.long (x * y) :: st) sh m K R
  | _ => False
theorem k_lmul {X : q_CX} {y : MethodName} {cc : ByteArray} {nL : Nat} {ret : Option FieldType} {rm : Room} {Ts : List Cond} (h : q_OK X y cc nL ret rm Ts) {pc : Nat} {t : q_TT} (hd : decode cc pc = .ok (.lmul, 1)) (ht : q_SK X nL (pc + 1) t) : q_SK X nL pc (o_lmul t) := by
  intro L st sh m K R hT hK hR
  obtain ⟨p, l, e, Rm, s, mi, args, below, meth, c, D, cs, ad0, sA, sV, A, nz, mcs, Qc, Q⟩ := X
  obtain ⟨hx, hb, hml, hown, hts, hr, hlks, hRm, hKK, hA, hE, hmc, hnm⟩ := h
  unfold o_lmul at hT
  split at hT
  · intro ad H locs ls hl hP hD hS h1 h2 h3
    exact lv_lmul hx hb hd (ht _ _ _ _ _ _ hT hK hR ad H locs ls hl hP hD hS h1 h2 h3)
  · exact hT.elim
def o_land (t : q_TT) : q_TT := fun L st sh m K R => match st with
  | .long y :: .long x :: st => t L (.long (x &&& y) :: st) sh m K R
  | _ => False
theorem k_land {X : q_CX} {y : MethodName} {cc : ByteArray} {nL : Nat} {ret : Option FieldType} {rm : Room} {Ts : List Cond} (h : q_OK X y cc nL ret rm Ts) {pc : Nat} {t : q_TT} (hd : decode cc pc = .ok (.land, 1)) (ht : q_SK X nL (pc + 1) t) : q_SK X nL pc (o_land t) := by
  intro L st sh m K R hT hK hR
  obtain ⟨p, l, e, Rm, s, mi, args, below, meth, c, D, cs, ad0, sA, sV, A, nz, mcs, Qc, Q⟩ := X
  obtain ⟨hx, hb, hml, hown, hts, hr, hlks, hRm, hKK, hA, hE, hmc, hnm⟩ := h
  unfold o_land at hT
  split at hT
  · intro ad H locs ls hl hP hD hS h1 h2 h3
    exact lv_land hx hb hd (ht _ _ _ _ _ _ hT hK hR ad H locs ls hl hP hD hS h1 h2 h3)
  · exact hT.elim
def o_lor (t : q_TT) : q_TT := fun L st sh m K R => match st with
  | .long y :: .long x :: st => t L (.long (x ||| y) :: st) sh m K R
  | _ => False
theorem k_lor {X : q_CX} {y : MethodName} {cc : ByteArray} {nL : Nat} {ret : Option FieldType} {rm : Room} {Ts : List Cond} (h : q_OK X y cc nL ret rm Ts) {pc : Nat} {t : q_TT} (hd : decode cc pc = .ok (.lor, 1)) (ht : q_SK X nL (pc + 1) t) : q_SK X nL pc (o_lor t) := by
  intro L st sh m K R hT hK hR
  obtain ⟨p, l, e, Rm, s, mi, args, below, meth, c, D, cs, ad0, sA, sV, A, nz, mcs, Qc, Q⟩ := X
  obtain ⟨hx, hb, hml, hown, hts, hr, hlks, hRm, hKK, hA, hE, hmc, hnm⟩ := h
  unfold o_lor at hT
  split at hT
  · intro ad H locs ls hl hP hD hS h1 h2 h3
    exact lv_lor hx hb hd (ht _ _ _ _ _ _ hT hK hR ad H locs ls hl hP hD hS h1 h2 h3)
  · exact hT.elim
def o_lrem (t : q_TT) : q_TT := fun L st sh m K R => match st with
  | .long y :: .long x :: st => ¬ y = 0 ∧ t L (.long (x - x / y * y) :: st) sh m K R
  | _ => False
theorem k_lrem {X : q_CX} {y : MethodName} {cc : ByteArray} {nL : Nat} {ret : Option FieldType} {rm : Room} {Ts : List Cond} (h : q_OK X y cc nL ret rm Ts) {pc : Nat} {t : q_TT} (hd : decode cc pc = .ok (.lrem, 1)) (ht : q_SK X nL (pc + 1) t) : q_SK X nL pc (o_lrem t) := by
  intro L st sh m K R hT hK hR
  obtain ⟨p, l, e, Rm, s, mi, args, below, meth, c, D, cs, ad0, sA, sV, A, nz, mcs, Qc, Q⟩ := X
  obtain ⟨hx, hb, hml, hown, hts, hr, hlks, hRm, hKK, hA, hE, hmc, hnm⟩ := h
  unfold o_lrem at hT
  split at hT
  · intro ad H locs ls hl hP hD hS h1 h2 h3
    exact lv_lrem hx hb hd hT.1 (ht _ _ _ _ _ _ hT.2 hK hR ad H locs ls hl hP hD hS h1 h2 h3)
  · exact hT.elim
def o_lshl (t : q_TT) : q_TT := fun L st sh m K R => match st with
  | .int y :: .long x :: st => t L (.long (x <<< (y.toInt64 &&& 63)) :: st) sh m K R
  | _ => False
theorem k_lshl {X : q_CX} {y : MethodName} {cc : ByteArray} {nL : Nat} {ret : Option FieldType} {rm : Room} {Ts : List Cond} (h : q_OK X y cc nL ret rm Ts) {pc : Nat} {t : q_TT} (hd : decode cc pc = .ok (.lshl, 1)) (ht : q_SK X nL (pc + 1) t) : q_SK X nL pc (o_lshl t) := by
  intro L st sh m K R hT hK hR
  obtain ⟨p, l, e, Rm, s, mi, args, below, meth, c, D, cs, ad0, sA, sV, A, nz, mcs, Qc, Q⟩ := X
  obtain ⟨hx, hb, hml, hown, hts, hr, hlks, hRm, hKK, hA, hE, hmc, hnm⟩ := h
  unfold o_lshl at hT
  split at hT
  · intro ad H locs ls hl hP hD hS h1 h2 h3
    exact lv_lshl hx hb hd rfl (ht _ _ _ _ _ _ hT hK hR ad H locs ls hl hP hD hS h1 h2 h3)
  · exact hT.elim
def o_lshr (t : q_TT) : q_TT := fun L st sh m K R => match st with
  | .int y :: .long x :: st => t L (.long (x >>> (y.toInt64 &&& 63)) :: st) sh m K R
  | _ => False
theorem k_lshr {X : q_CX} {y : MethodName} {cc : ByteArray} {nL : Nat} {ret : Option FieldType} {rm : Room} {Ts : List Cond} (h : q_OK X y cc nL ret rm Ts) {pc : Nat} {t : q_TT} (hd : decode cc pc = .ok (.lshr, 1)) (ht : q_SK X nL (pc + 1) t) : q_SK X nL pc (o_lshr t) := by
  intro L st sh m K R hT hK hR
  obtain ⟨p, l, e, Rm, s, mi, args, below, meth, c, D, cs, ad0, sA, sV, A, nz, mcs, Qc, Q⟩ := X
  obtain ⟨hx, hb, hml, hown, hts, hr, hlks, hRm, hKK, hA, hE, hmc, hnm⟩ := h
  unfold o_lshr at hT
  split at hT
  · intro ad H locs ls hl hP hD hS h1 h2 h3
    exact lv_lshr hx hb hd rfl (ht _ _ _ _ _ _ hT hK hR ad H locs ls hl hP hD hS h1 h2 h3)
  · exact hT.elim
def o_lcmp (t : q_TT) : q_TT := fun L st sh m K R => match st with
  | .long y :: .long x :: st => t L (.int (lg_cmp x y) :: st) sh m K R
  | _ => False
theorem k_lcmp {X : q_CX} {y : MethodName} {cc : ByteArray} {nL : Nat} {ret : Option FieldType} {rm : Room} {Ts : List Cond} (h : q_OK X y cc nL ret rm Ts) {pc : Nat} {t : q_TT} (hd : decode cc pc = .ok (.lcmp, 1)) (ht : q_SK X nL (pc + 1) t) : q_SK X nL pc (o_lcmp t) := by
  intro L st sh m K R hT hK hR
  obtain ⟨p, l, e, Rm, s, mi, args, below, meth, c, D, cs, ad0, sA, sV, A, nz, mcs, Qc, Q⟩ := X
  obtain ⟨hx, hb, hml, hown, hts, hr, hlks, hRm, hKK, hA, hE, hmc, hnm⟩ := h
  unfold o_lcmp at hT
  split at hT
  · intro ad H locs ls hl hP hD hS h1 h2 h3
    exact W.lcmp hx hb hd (ht _ _ _ _ _ _ hT hK hR ad H locs ls hl hP hD hS h1 h2 h3)
  · exact hT.elim
def o_i2l (t : q_TT) : q_TT := fun L st sh m K R => match st with
  | .int x :: st => t L (.long x.toInt64 :: st) sh m K R
  | _ => False
theorem k_i2l {X : q_CX} {y : MethodName} {cc : ByteArray} {nL : Nat} {ret : Option FieldType} {rm : Room} {Ts : List Cond} (h : q_OK X y cc nL ret rm Ts) {pc : Nat} {t : q_TT} (hd : decode cc pc = .ok (.i2l, 1)) (ht : q_SK X nL (pc + 1) t) : q_SK X nL pc (o_i2l t) := by
  intro L st sh m K R hT hK hR
  obtain ⟨p, l, e, Rm, s, mi, args, below, meth, c, D, cs, ad0, sA, sV, A, nz, mcs, Qc, Q⟩ := X
  obtain ⟨hx, hb, hml, hown, hts, hr, hlks, hRm, hKK, hA, hE, hmc, hnm⟩ := h
  unfold o_i2l at hT
  split at hT
  · intro ad H locs ls hl hP hD hS h1 h2 h3
    exact lv_i2l hx hb hd rfl (ht _ _ _ _ _ _ hT hK hR ad H locs ls hl hP hD hS h1 h2 h3)
  · exact hT.elim
def o_l2i (t : q_TT) : q_TT := fun L st sh m K R => match st with
  | .long x :: st => t L (.int x.toInt32 :: st) sh m K R
  | _ => False
theorem k_l2i {X : q_CX} {y : MethodName} {cc : ByteArray} {nL : Nat} {ret : Option FieldType} {rm : Room} {Ts : List Cond} (h : q_OK X y cc nL ret rm Ts) {pc : Nat} {t : q_TT} (hd : decode cc pc = .ok (.l2i, 1)) (ht : q_SK X nL (pc + 1) t) : q_SK X nL pc (o_l2i t) := by
  intro L st sh m K R hT hK hR
  obtain ⟨p, l, e, Rm, s, mi, args, below, meth, c, D, cs, ad0, sA, sV, A, nz, mcs, Qc, Q⟩ := X
  obtain ⟨hx, hb, hml, hown, hts, hr, hlks, hRm, hKK, hA, hE, hmc, hnm⟩ := h
  unfold o_l2i at hT
  split at hT
  · intro ad H locs ls hl hP hD hS h1 h2 h3
    exact lv_l2i hx hb hd rfl (ht _ _ _ _ _ _ hT hK hR ad H locs ls hl hP hD hS h1 h2 h3)
  · exact hT.elim
def o_dup (t : q_TT) : q_TT := fun L st sh m K R => match st with
  | v :: st => v.category = 1 ∧ t L (v :: v :: st) sh m K R
  | _ => False
theorem k_dup {X : q_CX} {y : MethodName} {cc : ByteArray} {nL : Nat} {ret : Option FieldType} {rm : Room} {Ts : List Cond} (h : q_OK X y cc nL ret rm Ts) {pc : Nat} {t : q_TT} (hd : decode cc pc = .ok (.dup, 1)) (ht : q_SK X nL (pc + 1) t) : q_SK X nL pc (o_dup t) := by
  intro L st sh m K R hT hK hR
  obtain ⟨p, l, e, Rm, s, mi, args, below, meth, c, D, cs, ad0, sA, sV, A, nz, mcs, Qc, Q⟩ := X
  obtain ⟨hx, hb, hml, hown, hts, hr, hlks, hRm, hKK, hA, hE, hmc, hnm⟩ := h
  unfold o_dup at hT
  split at hT
  · intro ad H locs ls hl hP hD hS h1 h2 h3
    exact lv_dup hx hb hd (by rw [q_cv_cat]; exact hT.1) (ht _ _ _ _ _ _ hT.2 hK hR ad H locs ls hl hP hD hS h1 h2 h3)
  · exact hT.elim
def o_dup2 (t : q_TT) : q_TT := fun L st sh m K R => match st with
  | v :: u :: st => (v.category = 1 ∧ u.category = 1) ∧ t L (v :: u :: v :: u :: st) sh m K R
  | _ => False
theorem k_dup2 {X : q_CX} {y : MethodName} {cc : ByteArray} {nL : Nat} {ret : Option FieldType} {rm : Room} {Ts : List Cond} (h : q_OK X y cc nL ret rm Ts) {pc : Nat} {t : q_TT} (hd : decode cc pc = .ok (.dup2, 1)) (ht : q_SK X nL (pc + 1) t) : q_SK X nL pc (o_dup2 t) := by
  intro L st sh m K R hT hK hR
  obtain ⟨p, l, e, Rm, s, mi, args, below, meth, c, D, cs, ad0, sA, sV, A, nz, mcs, Qc, Q⟩ := X
  obtain ⟨hx, hb, hml, hown, hts, hr, hlks, hRm, hKK, hA, hE, hmc, hnm⟩ := h
  unfold o_dup2 at hT
  split at hT
  · intro ad H locs ls hl hP hD hS h1 h2 h3
    exact lv_dup2_11 hx hb hd (by rw [q_cv_cat]; exact hT.1.1) (by rw [q_cv_cat]; exact hT.1.2) (ht _ _ _ _ _ _ hT.2 hK hR ad H locs ls hl hP hD hS h1 h2 h3)
  · exact hT.elim
def o_ifeq (tt tf : q_TT) : q_TT := fun L st sh m K R => match st with
  | .int x :: st => (x = 0 → tt L st sh m K R) ∧ (¬ x = 0 → tf L st sh m K R)
  | _ => False
theorem k_ifeq {X : q_CX} {y : MethodName} {cc : ByteArray} {nL : Nat} {ret : Option FieldType} {rm : Room} {Ts : List Cond} (h : q_OK X y cc nL ret rm Ts) {pc : Nat} {tt tf : q_TT} {off : Int} {tgt : Nat} (hd : decode cc pc = .ok (.ifCond .eq off, 3)) (hg : (pc : Int) + off = (tgt : Int)) (h5 : q_SK X nL tgt tt) (h6 : q_SK X nL (pc + 3) tf) : q_SK X nL pc (o_ifeq tt tf) := by
  intro L st sh m K R hT hK hR
  obtain ⟨p, l, e, Rm, s, mi, args, below, meth, c, D, cs, ad0, sA, sV, A, nz, mcs, Qc, Q⟩ := X
  obtain ⟨hx, hb, hml, hown, hts, hr, hlks, hRm, hKK, hA, hE, hmc, hnm⟩ := h
  unfold o_ifeq at hT
  split at hT
  · intro ad H locs ls hl hP hD hS h1 h2 h3
    exact lv_if_eq hx hb hd hg (fun c9 => h5 _ _ _ _ _ _ (hT.1 c9) hK hR ad H locs ls hl hP hD hS h1 h2 h3) (fun c9 => h6 _ _ _ _ _ _ (hT.2 c9) hK hR ad H locs ls hl hP hD hS h1 h2 h3)
  · exact hT.elim
def o_ifne (tt tf : q_TT) : q_TT := fun L st sh m K R => match st with
  | .int x :: st => (¬ x = 0 → tt L st sh m K R) ∧ (x = 0 → tf L st sh m K R)
  | _ => False
theorem k_ifne {X : q_CX} {y : MethodName} {cc : ByteArray} {nL : Nat} {ret : Option FieldType} {rm : Room} {Ts : List Cond} (h : q_OK X y cc nL ret rm Ts) {pc : Nat} {tt tf : q_TT} {off : Int} {tgt : Nat} (hd : decode cc pc = .ok (.ifCond .ne off, 3)) (hg : (pc : Int) + off = (tgt : Int)) (h5 : q_SK X nL tgt tt) (h6 : q_SK X nL (pc + 3) tf) : q_SK X nL pc (o_ifne tt tf) := by
  intro L st sh m K R hT hK hR
  obtain ⟨p, l, e, Rm, s, mi, args, below, meth, c, D, cs, ad0, sA, sV, A, nz, mcs, Qc, Q⟩ := X
  obtain ⟨hx, hb, hml, hown, hts, hr, hlks, hRm, hKK, hA, hE, hmc, hnm⟩ := h
  unfold o_ifne at hT
  split at hT
  · intro ad H locs ls hl hP hD hS h1 h2 h3
    exact lv_if_ne hx hb hd hg (fun c9 => h5 _ _ _ _ _ _ (hT.1 c9) hK hR ad H locs ls hl hP hD hS h1 h2 h3) (fun c9 => h6 _ _ _ _ _ _ (hT.2 c9) hK hR ad H locs ls hl hP hD hS h1 h2 h3)
  · exact hT.elim
def o_iflt (tt tf : q_TT) : q_TT := fun L st sh m K R => match st with
  | .int x :: st => (x < 0 → tt L st sh m K R) ∧ (¬ x < 0 → tf L st sh m K R)
  | _ => False
theorem k_iflt {X : q_CX} {y : MethodName} {cc : ByteArray} {nL : Nat} {ret : Option FieldType} {rm : Room} {Ts : List Cond} (h : q_OK X y cc nL ret rm Ts) {pc : Nat} {tt tf : q_TT} {off : Int} {tgt : Nat} (hd : decode cc pc = .ok (.ifCond .lt off, 3)) (hg : (pc : Int) + off = (tgt : Int)) (h5 : q_SK X nL tgt tt) (h6 : q_SK X nL (pc + 3) tf) : q_SK X nL pc (o_iflt tt tf) := by
  intro L st sh m K R hT hK hR
  obtain ⟨p, l, e, Rm, s, mi, args, below, meth, c, D, cs, ad0, sA, sV, A, nz, mcs, Qc, Q⟩ := X
  obtain ⟨hx, hb, hml, hown, hts, hr, hlks, hRm, hKK, hA, hE, hmc, hnm⟩ := h
  unfold o_iflt at hT
  split at hT
  · intro ad H locs ls hl hP hD hS h1 h2 h3
    exact lv_if_lt hx hb hd hg (fun c9 => h5 _ _ _ _ _ _ (hT.1 c9) hK hR ad H locs ls hl hP hD hS h1 h2 h3) (fun c9 => h6 _ _ _ _ _ _ (hT.2 c9) hK hR ad H locs ls hl hP hD hS h1 h2 h3)
  · exact hT.elim
def o_ifge (tt tf : q_TT) : q_TT := fun L st sh m K R => match st with
  | .int x :: st => (0 ≤ x → tt L st sh m K R) ∧ (¬ 0 ≤ x → tf L st sh m K R)
  | _ => False
theorem k_ifge {X : q_CX} {y : MethodName} {cc : ByteArray} {nL : Nat} {ret : Option FieldType} {rm : Room} {Ts : List Cond} (h : q_OK X y cc nL ret rm Ts) {pc : Nat} {tt tf : q_TT} {off : Int} {tgt : Nat} (hd : decode cc pc = .ok (.ifCond .ge off, 3)) (hg : (pc : Int) + off = (tgt : Int)) (h5 : q_SK X nL tgt tt) (h6 : q_SK X nL (pc + 3) tf) : q_SK X nL pc (o_ifge tt tf) := by
  intro L st sh m K R hT hK hR
  obtain ⟨p, l, e, Rm, s, mi, args, below, meth, c, D, cs, ad0, sA, sV, A, nz, mcs, Qc, Q⟩ := X
  obtain ⟨hx, hb, hml, hown, hts, hr, hlks, hRm, hKK, hA, hE, hmc, hnm⟩ := h
  unfold o_ifge at hT
  split at hT
  · intro ad H locs ls hl hP hD hS h1 h2 h3
    exact lv_if_ge hx hb hd hg (fun c9 => h5 _ _ _ _ _ _ (hT.1 c9) hK hR ad H locs ls hl hP hD hS h1 h2 h3) (fun c9 => h6 _ _ _ _ _ _ (hT.2 c9) hK hR ad H locs ls hl hP hD hS h1 h2 h3)
  · exact hT.elim
def o_ifgt (tt tf : q_TT) : q_TT := fun L st sh m K R => match st with
  | .int x :: st => (0 < x → tt L st sh m K R) ∧ (¬ 0 < x → tf L st sh m K R)
  | _ => False
theorem k_ifgt {X : q_CX} {y : MethodName} {cc : ByteArray} {nL : Nat} {ret : Option FieldType} {rm : Room} {Ts : List Cond} (h : q_OK X y cc nL ret rm Ts) {pc : Nat} {tt tf : q_TT} {off : Int} {tgt : Nat} (hd : decode cc pc = .ok (.ifCond .gt off, 3)) (hg : (pc : Int) + off = (tgt : Int)) (h5 : q_SK X nL tgt tt) (h6 : q_SK X nL (pc + 3) tf) : q_SK X nL pc (o_ifgt tt tf) := by
  intro L st sh m K R hT hK hR
  obtain ⟨p, l, e, Rm, s, mi, args, below, meth, c, D, cs, ad0, sA, sV, A, nz, mcs, Qc, Q⟩ := X
  obtain ⟨hx, hb, hml, hown, hts, hr, hlks, hRm, hKK, hA, hE, hmc, hnm⟩ := h
  unfold o_ifgt at hT
  split at hT
  · intro ad H locs ls hl hP hD hS h1 h2 h3
    exact lv_if_gt hx hb hd hg (fun c9 => h5 _ _ _ _ _ _ (hT.1 c9) hK hR ad H locs ls hl hP hD hS h1 h2 h3) (fun c9 => h6 _ _ _ _ _ _ (hT.2 c9) hK hR ad H locs ls hl hP hD hS h1 h2 h3)
  · exact hT.elim
def o_ifle (tt tf : q_TT) : q_TT := fun L st sh m K R => match st with
  | .int x :: st => (x ≤ 0 → tt L st sh m K R) ∧ (¬ x ≤ 0 → tf L st sh m K R)
  | _ => False
theorem k_ifle {X : q_CX} {y : MethodName} {cc : ByteArray} {nL : Nat} {ret : Option FieldType} {rm : Room} {Ts : List Cond} (h : q_OK X y cc nL ret rm Ts) {pc : Nat} {tt tf : q_TT} {off : Int} {tgt : Nat} (hd : decode cc pc = .ok (.ifCond .le off, 3)) (hg : (pc : Int) + off = (tgt : Int)) (h5 : q_SK X nL tgt tt) (h6 : q_SK X nL (pc + 3) tf) : q_SK X nL pc (o_ifle tt tf) := by
  intro L st sh m K R hT hK hR
  obtain ⟨p, l, e, Rm, s, mi, args, below, meth, c, D, cs, ad0, sA, sV, A, nz, mcs, Qc, Q⟩ := X
  obtain ⟨hx, hb, hml, hown, hts, hr, hlks, hRm, hKK, hA, hE, hmc, hnm⟩ := h
  unfold o_ifle at hT
  split at hT
  · intro ad H locs ls hl hP hD hS h1 h2 h3
    exact lv_if_le hx hb hd hg (fun c9 => h5 _ _ _ _ _ _ (hT.1 c9) hK hR ad H locs ls hl hP hD hS h1 h2 h3) (fun c9 => h6 _ _ _ _ _ _ (hT.2 c9) hK hR ad H locs ls hl hP hD hS h1 h2 h3)
  · exact hT.elim
def o_iceq (tt tf : q_TT) : q_TT := fun L st sh m K R => match st with
  | .int y :: .int x :: st => (x = y → tt L st sh m K R) ∧ (¬ x = y → tf L st sh m K R)
  | _ => False
theorem k_iceq {X : q_CX} {y : MethodName} {cc : ByteArray} {nL : Nat} {ret : Option FieldType} {rm : Room} {Ts : List Cond} (h : q_OK X y cc nL ret rm Ts) {pc : Nat} {tt tf : q_TT} {off : Int} {tgt : Nat} (hd : decode cc pc = .ok (.if_icmp .eq off, 3)) (hg : (pc : Int) + off = (tgt : Int)) (h5 : q_SK X nL tgt tt) (h6 : q_SK X nL (pc + 3) tf) : q_SK X nL pc (o_iceq tt tf) := by
  intro L st sh m K R hT hK hR
  obtain ⟨p, l, e, Rm, s, mi, args, below, meth, c, D, cs, ad0, sA, sV, A, nz, mcs, Qc, Q⟩ := X
  obtain ⟨hx, hb, hml, hown, hts, hr, hlks, hRm, hKK, hA, hE, hmc, hnm⟩ := h
  unfold o_iceq at hT
  split at hT
  · intro ad H locs ls hl hP hD hS h1 h2 h3
    exact lv_icmp_eq hx hb hd hg (fun c9 => h5 _ _ _ _ _ _ (hT.1 c9) hK hR ad H locs ls hl hP hD hS h1 h2 h3) (fun c9 => h6 _ _ _ _ _ _ (hT.2 c9) hK hR ad H locs ls hl hP hD hS h1 h2 h3)
  · exact hT.elim
def o_icne (tt tf : q_TT) : q_TT := fun L st sh m K R => match st with
  | .int y :: .int x :: st => (¬ x = y → tt L st sh m K R) ∧ (x = y → tf L st sh m K R)
  | _ => False
theorem k_icne {X : q_CX} {y : MethodName} {cc : ByteArray} {nL : Nat} {ret : Option FieldType} {rm : Room} {Ts : List Cond} (h : q_OK X y cc nL ret rm Ts) {pc : Nat} {tt tf : q_TT} {off : Int} {tgt : Nat} (hd : decode cc pc = .ok (.if_icmp .ne off, 3)) (hg : (pc : Int) + off = (tgt : Int)) (h5 : q_SK X nL tgt tt) (h6 : q_SK X nL (pc + 3) tf) : q_SK X nL pc (o_icne tt tf) := by
  intro L st sh m K R hT hK hR
  obtain ⟨p, l, e, Rm, s, mi, args, below, meth, c, D, cs, ad0, sA, sV, A, nz, mcs, Qc, Q⟩ := X
  obtain ⟨hx, hb, hml, hown, hts, hr, hlks, hRm, hKK, hA, hE, hmc, hnm⟩ := h
  unfold o_icne at hT
  split at hT
  · intro ad H locs ls hl hP hD hS h1 h2 h3
    exact lv_icmp_ne hx hb hd hg (fun c9 => h5 _ _ _ _ _ _ (hT.1 c9) hK hR ad H locs ls hl hP hD hS h1 h2 h3) (fun c9 => h6 _ _ _ _ _ _ (hT.2 c9) hK hR ad H locs ls hl hP hD hS h1 h2 h3)
  · exact hT.elim
def o_iclt (tt tf : q_TT) : q_TT := fun L st sh m K R => match st with
  | .int y :: .int x :: st => (x < y → tt L st sh m K R) ∧ (¬ x < y → tf L st sh m K R)
  | _ => False
theorem k_iclt {X : q_CX} {y : MethodName} {cc : ByteArray} {nL : Nat} {ret : Option FieldType} {rm : Room} {Ts : List Cond} (h : q_OK X y cc nL ret rm Ts) {pc : Nat} {tt tf : q_TT} {off : Int} {tgt : Nat} (hd : decode cc pc = .ok (.if_icmp .lt off, 3)) (hg : (pc : Int) + off = (tgt : Int)) (h5 : q_SK X nL tgt tt) (h6 : q_SK X nL (pc + 3) tf) : q_SK X nL pc (o_iclt tt tf) := by
  intro L st sh m K R hT hK hR
  obtain ⟨p, l, e, Rm, s, mi, args, below, meth, c, D, cs, ad0, sA, sV, A, nz, mcs, Qc, Q⟩ := X
  obtain ⟨hx, hb, hml, hown, hts, hr, hlks, hRm, hKK, hA, hE, hmc, hnm⟩ := h
  unfold o_iclt at hT
  split at hT
  · intro ad H locs ls hl hP hD hS h1 h2 h3
    exact lv_icmp_lt hx hb hd hg (fun c9 => h5 _ _ _ _ _ _ (hT.1 c9) hK hR ad H locs ls hl hP hD hS h1 h2 h3) (fun c9 => h6 _ _ _ _ _ _ (hT.2 c9) hK hR ad H locs ls hl hP hD hS h1 h2 h3)
  · exact hT.elim
def o_icge (tt tf : q_TT) : q_TT := fun L st sh m K R => match st with
  | .int y :: .int x :: st => (y ≤ x → tt L st sh m K R) ∧ (¬ y ≤ x → tf L st sh m K R)
  | _ => False
theorem k_icge {X : q_CX} {y : MethodName} {cc : ByteArray} {nL : Nat} {ret : Option FieldType} {rm : Room} {Ts : List Cond} (h : q_OK X y cc nL ret rm Ts) {pc : Nat} {tt tf : q_TT} {off : Int} {tgt : Nat} (hd : decode cc pc = .ok (.if_icmp .ge off, 3)) (hg : (pc : Int) + off = (tgt : Int)) (h5 : q_SK X nL tgt tt) (h6 : q_SK X nL (pc + 3) tf) : q_SK X nL pc (o_icge tt tf) := by
  intro L st sh m K R hT hK hR
  obtain ⟨p, l, e, Rm, s, mi, args, below, meth, c, D, cs, ad0, sA, sV, A, nz, mcs, Qc, Q⟩ := X
  obtain ⟨hx, hb, hml, hown, hts, hr, hlks, hRm, hKK, hA, hE, hmc, hnm⟩ := h
  unfold o_icge at hT
  split at hT
  · intro ad H locs ls hl hP hD hS h1 h2 h3
    exact lv_icmp_ge hx hb hd hg (fun c9 => h5 _ _ _ _ _ _ (hT.1 c9) hK hR ad H locs ls hl hP hD hS h1 h2 h3) (fun c9 => h6 _ _ _ _ _ _ (hT.2 c9) hK hR ad H locs ls hl hP hD hS h1 h2 h3)
  · exact hT.elim
def o_icgt (tt tf : q_TT) : q_TT := fun L st sh m K R => match st with
  | .int y :: .int x :: st => (y < x → tt L st sh m K R) ∧ (¬ y < x → tf L st sh m K R)
  | _ => False
theorem k_icgt {X : q_CX} {y : MethodName} {cc : ByteArray} {nL : Nat} {ret : Option FieldType} {rm : Room} {Ts : List Cond} (h : q_OK X y cc nL ret rm Ts) {pc : Nat} {tt tf : q_TT} {off : Int} {tgt : Nat} (hd : decode cc pc = .ok (.if_icmp .gt off, 3)) (hg : (pc : Int) + off = (tgt : Int)) (h5 : q_SK X nL tgt tt) (h6 : q_SK X nL (pc + 3) tf) : q_SK X nL pc (o_icgt tt tf) := by
  intro L st sh m K R hT hK hR
  obtain ⟨p, l, e, Rm, s, mi, args, below, meth, c, D, cs, ad0, sA, sV, A, nz, mcs, Qc, Q⟩ := X
  obtain ⟨hx, hb, hml, hown, hts, hr, hlks, hRm, hKK, hA, hE, hmc, hnm⟩ := h
  unfold o_icgt at hT
  split at hT
  · intro ad H locs ls hl hP hD hS h1 h2 h3
    exact lv_icmp_gt hx hb hd hg (fun c9 => h5 _ _ _ _ _ _ (hT.1 c9) hK hR ad H locs ls hl hP hD hS h1 h2 h3) (fun c9 => h6 _ _ _ _ _ _ (hT.2 c9) hK hR ad H locs ls hl hP hD hS h1 h2 h3)
  · exact hT.elim
def o_icle (tt tf : q_TT) : q_TT := fun L st sh m K R => match st with
  | .int y :: .int x :: st => (x ≤ y → tt L st sh m K R) ∧ (¬ x ≤ y → tf L st sh m K R)
  | _ => False
theorem k_icle {X : q_CX} {y : MethodName} {cc : ByteArray} {nL : Nat} {ret : Option FieldType} {rm : Room} {Ts : List Cond} (h : q_OK X y cc nL ret rm Ts) {pc : Nat} {tt tf : q_TT} {off : Int} {tgt : Nat} (hd : decode cc pc = .ok (.if_icmp .le off, 3)) (hg : (pc : Int) + off = (tgt : Int)) (h5 : q_SK X nL tgt tt) (h6 : q_SK X nL (pc + 3) tf) : q_SK X nL pc (o_icle tt tf) := by
  intro L st sh m K R hT hK hR
  obtain ⟨p, l, e, Rm, s, mi, args, below, meth, c, D, cs, ad0, sA, sV, A, nz, mcs, Qc, Q⟩ := X
  obtain ⟨hx, hb, hml, hown, hts, hr, hlks, hRm, hKK, hA, hE, hmc, hnm⟩ := h
  unfold o_icle at hT
  split at hT
  · intro ad H locs ls hl hP hD hS h1 h2 h3
    exact lv_icmp_le hx hb hd hg (fun c9 => h5 _ _ _ _ _ _ (hT.1 c9) hK hR ad H locs ls hl hP hD hS h1 h2 h3) (fun c9 => h6 _ _ _ _ _ _ (hT.2 c9) hK hR ad H locs ls hl hP hD hS h1 h2 h3)
  · exact hT.elim
theorem k_goto {X : q_CX} {y : MethodName} {cc : ByteArray} {nL : Nat} {ret : Option FieldType} {rm : Room} {Ts : List Cond} (h : q_OK X y cc nL ret rm Ts) {pc : Nat} {t : q_TT} {off : Int} {tgt : Nat} (hd : decode cc pc = .ok (.goto off, 3)) (hg : (pc : Int) + off = (tgt : Int)) (ht : q_SK X nL tgt t) : q_SK X nL pc t := by
  intro L st sh m K R hT hK hR
  obtain ⟨p, l, e, Rm, s, mi, args, below, meth, c, D, cs, ad0, sA, sV, A, nz, mcs, Qc, Q⟩ := X
  obtain ⟨hx, hb, hml, hown, hts, hr, hlks, hRm, hKK, hA, hE, hmc, hnm⟩ := h
  intro ad H locs ls hl hP hD hS h1 h2 h3
  exact lv_goto hx hb hd hg (ht _ _ _ _ _ _ hT hK hR ad H locs ls hl hP hD hS h1 h2 h3)
def o_sw : Nat → List q_TT → q_TT → q_TT
  | _, [], d => fun L st sh m K R => match st with
    | .int _ :: st => d L st sh m K R
    | _ => False
  | j, t :: r, d => fun L st sh m K R => match st with
    | .int x :: st => (x = nI j → t L st sh m K R) ∧ (x ≠ nI j → o_sw (j + 1) r d L (.int x :: st) sh m K R)
    | _ => False
theorem o_sw_out {L : q_Lo} {st : List Value} {sh : q_Sh} {m : q_Mm} {K : q_KN} {R : q_KR} {d : q_TT} {x : Int32} : ∀ (ts : List q_TT) (j : Nat), (∀ i, i < ts.length → x ≠ nI (j + i)) → o_sw j ts d L (.int x :: st) sh m K R → d L st sh m K R
  | [], _, _, h => h
  | t :: r, j, hn, h => o_sw_out r (j + 1) (fun i hi => by rw [show j + 1 + i = j + (i + 1) by omega]; exact hn (i + 1) (by simpa using hi)) (h.2 (by have := hn 0 (by simp); simpa using this))
theorem o_sw_in {L : q_Lo} {st : List Value} {sh : q_Sh} {m : q_Mm} {K : q_KN} {R : q_KR} {d : q_TT} : ∀ (ts : List q_TT) (j i : Nat) (t : q_TT), j + ts.length < 2 ^ 31 → ts[i]? = some t → o_sw j ts d L (.int (nI (j + i)) :: st) sh m K R → t L st sh m K R
  | [], _, _, _, _, h, _ => by simp at h
  | a :: r, j, 0, t, _, h, h2 => by simp at h; subst h; exact h2.1 rfl
  | a :: r, j, i + 1, t, hb, h, h2 => by
    have hl : i < r.length := by simp at h; exact (List.getElem?_eq_some_iff.mp h).1
    have hlen : (a :: r).length = r.length + 1 := rfl
    have h3 := h2.2 (fun e => by have := (nI_eq (a := j + (i + 1)) (b := j) (by omega) (by omega)).mp e; omega)
    rw [show j + (i + 1) = j + 1 + i by omega] at h3
    exact o_sw_in r (j + 1) i t (by omega) (by simpa using h) h3
def q_tsl (X : q_CX) (nL pc : Nat) (offs : Array Int) : Nat → List q_TT → Prop
  | _, [] => True
  | j, t :: r => (∃ (off : Int) (tgt : Nat), offs[j]? = some off ∧ (pc : Int) + off = (tgt : Int) ∧ q_SK X nL tgt t) ∧ q_tsl X nL pc offs (j + 1) r
theorem q_tsl_get {X : q_CX} {nL pc : Nat} {offs : Array Int} : ∀ (ts : List q_TT) (j i : Nat) (t : q_TT), q_tsl X nL pc offs j ts → ts[i]? = some t → ∃ (off : Int) (tgt : Nat), offs[j + i]? = some off ∧ (pc : Int) + off = (tgt : Int) ∧ q_SK X nL tgt t
  | [], _, _, _, _, h => by simp at h
  | a :: r, j, 0, t, h, h2 => by simp at h2; subst h2; exact h.1
  | a :: r, j, i + 1, t, h, h2 => by
    have := q_tsl_get r (j + 1) i t h.2 (by simpa using h2)
    rw [show j + 1 + i = j + (i + 1) by omega] at this
    exact this
theorem k_sw {X : q_CX} {y : MethodName} {cc : ByteArray} {nL : Nat} {ret : Option FieldType} {rm : Room} {Ts : List Cond} (h : q_OK X y cc nL ret rm Ts) {pc : Nat} {ts : List q_TT} {d : q_TT} {dflt hi : Int} {offs : Array Int} {len tgt : Nat} (hd : decode cc pc = .ok (.tableswitch dflt 0 hi offs, len)) (hlen : hi + 1 = (ts.length : Int)) (hsm : ts.length < 2 ^ 31) (hts5 : q_tsl X nL pc offs 0 ts) (hg : (pc : Int) + dflt = (tgt : Int)) (h6 : q_SK X nL tgt d) : q_SK X nL pc (o_sw 0 ts d) := by
  intro L st sh m K R hT hK hR
  obtain ⟨p, l, e, Rm, s, mi, args, below, meth, c, D, cs, ad0, sA, sV, A, nz, mcs, Qc, Q⟩ := X
  obtain ⟨hx, hb, hml, hown, hts, hr, hlks, hRm, hKK, hA, hE, hmc, hnm⟩ := h
  intro ad H locs ls hl hP hD hS h1 h2 h3
  have hst : ∃ x st', st = .int x :: st' := by
    cases ts with
    | nil => unfold o_sw at hT; split at hT; exact ⟨_, _, rfl⟩; exact hT.elim
    | cons a r => unfold o_sw at hT; split at hT; exact ⟨_, _, rfl⟩; exact hT.elim
  obtain ⟨x, st', rfl⟩ := hst
  by_cases hin : 0 ≤ x.toInt ∧ x.toInt ≤ hi
  · obtain ⟨n, hn⟩ : ∃ n : Nat, x.toInt = n := ⟨x.toInt.toNat, by omega⟩
    have hnl : n < ts.length := by omega
    have hxn : x = nI n := by
      apply Int32.toInt_inj.mp
      rw [hn, nI_toInt (by omega)]
    have hT' : o_sw 0 ts d L (.int (nI (0 + n)) :: st') sh m K R := by rw [Nat.zero_add, ← hxn]; exact hT
    have htn : ts[n]? = some ts[n] := List.getElem?_eq_getElem hnl
    have hk := o_sw_in ts 0 n _ (by omega) htn hT'
    obtain ⟨off, tg2, e1, e2, e3⟩ := q_tsl_get ts 0 n _ hts5 htn
    exact lv_tableIn hx hb hd (by omega) (by omega) (by rw [hn]; simpa using e1) e2 (e3 _ _ _ _ _ _ hk hK hR ad H locs ls hl hP hD hS h1 h2 h3)
  · refine lv_tableOut hx hb hd (by omega) hg (h6 _ _ _ _ _ _ (o_sw_out ts 0 (fun i hi2 e => ?_) hT) hK hR ad H locs ls hl hP hD hS h1 h2 h3)
    rw [e, Nat.zero_add, nI_toInt (by omega)] at hin
    omega
def o_iret : q_TT := fun _ st sh m _ R => match st with
  | [.int x] => R (some (.int x)) sh m
  | _ => False
def o_zret : q_TT := fun _ st sh m _ R => match st with
  | [.int x] => (x = 0 ∨ x = 1) ∧ R (some (.int x)) sh m
  | _ => False
def o_vret : q_TT := fun _ st sh m _ R => match st with
  | [] => R none sh m
  | _ => False
theorem k_iret {X : q_CX} {y : MethodName} {cc : ByteArray} {nL : Nat} {rm : Room} {Ts : List Cond} (h : q_OK X y cc nL (some .int) rm Ts) {pc : Nat} (hQ : q_QM X) (hd : decode cc pc = .ok (.ireturn, 1)) : q_SK X nL pc o_iret := by
  intro L st sh m K R hT hK hR
  obtain ⟨p, l, e, Rm, s, mi, args, below, meth, c, D, cs, ad0, sA, sV, A, nz, mcs, Qc, Q⟩ := X
  obtain ⟨hx, hb, hml, hown, hts, hr, hlks, hRm, hKK, hA, hE, hmc, hnm⟩ := h
  have hQ : Q = MQ below Qc args s mcs.1 mcs.2 A := hQ
  unfold o_iret at hT
  split at hT
  · intro ad H locs ls hl hP hD hS h1 h2 h3
    obtain ⟨r1, r2, r3⟩ := hR _ _ _ hT
    rw [hQ, show sh.length - nz.1 = mcs.1 by omega, show q_sl sh - nz.2 = mcs.2 by omega]
    exact W.iret hx hb hr (fun t ht hW => r3 ad H locs t hP hD hS h1 ht hW) hS.2.2 hd hlks
  · exact hT.elim
theorem k_zret {X : q_CX} {y : MethodName} {cc : ByteArray} {nL : Nat} {rm : Room} {Ts : List Cond} (h : q_OK X y cc nL (some .boolean) rm Ts) {pc : Nat} (hQ : q_QM X) (hd : decode cc pc = .ok (.ireturn, 1)) : q_SK X nL pc o_zret := by
  intro L st sh m K R hT hK hR
  obtain ⟨p, l, e, Rm, s, mi, args, below, meth, c, D, cs, ad0, sA, sV, A, nz, mcs, Qc, Q⟩ := X
  obtain ⟨hx, hb, hml, hown, hts, hr, hlks, hRm, hKK, hA, hE, hmc, hnm⟩ := h
  have hQ : Q = MQ below Qc args s mcs.1 mcs.2 A := hQ
  unfold o_zret at hT
  split at hT
  · intro ad H locs ls hl hP hD hS h1 h2 h3
    obtain ⟨r1, r2, r3⟩ := hR _ _ _ hT.2
    rw [hQ, show sh.length - nz.1 = mcs.1 by omega, show q_sl sh - nz.2 = mcs.2 by omega]
    exact W.zret hx hb hr (by rcases hT.1 with q | q <;> subst q <;> decide) (fun t ht hW => r3 ad H locs t hP hD hS h1 ht hW) hS.2.2 hd hlks
  · exact hT.elim
theorem k_vret {X : q_CX} {y : MethodName} {cc : ByteArray} {nL : Nat} {rm : Room} {Ts : List Cond} (h : q_OK X y cc nL none rm Ts) {pc : Nat} (hQ : q_QM X) (hd : decode cc pc = .ok (.return_, 1)) : q_SK X nL pc o_vret := by
  intro L st sh m K R hT hK hR
  obtain ⟨p, l, e, Rm, s, mi, args, below, meth, c, D, cs, ad0, sA, sV, A, nz, mcs, Qc, Q⟩ := X
  obtain ⟨hx, hb, hml, hown, hts, hr, hlks, hRm, hKK, hA, hE, hmc, hnm⟩ := h
  have hQ : Q = MQ below Qc args s mcs.1 mcs.2 A := hQ
  unfold o_vret at hT
  split at hT
  · intro ad H locs ls hl hP hD hS h1 h2 h3
    obtain ⟨r1, r2, r3⟩ := hR _ _ _ hT
    rw [hQ, show sh.length - nz.1 = mcs.1 by omega, show q_sl sh - nz.2 = mcs.2 by omega]
    exact W.vret hx hb hr (fun t ht hW => r3 ad H locs t hP hD hS h1 ht hW) hS.2.2 hd hlks
  · exact hT.elim
