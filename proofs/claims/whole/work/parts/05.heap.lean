/-! Fields, arrays, new cells, calls. -/
section QW
variable {cs : ClassId × ClassId × ClassId} {ad sA : Nat → Nat} {sh : q_Sh} {m : q_Mm}
theorem q_put_int {k ci j : Nat} {fs : List (Option Value)} {x : Int32} (hk : sh[k]? = some (.inl (ci, fs))) (hf : fs[j]? = some none) : (q_ws cs ad sA sh m).set k (ad k, .inr (ci, (q_fv ad sA (m k) 0 fs).set j (.int x))) = q_ws cs ad sA sh (q_up m k j x) := by
  have h1 := q_ws_row (cs := cs) (ad := ad) (sA := sA) (m := m) (upd (m k) j x) hk
  have h2 := q_fv_int (ad := ad) (sA := sA) (row := m k) (x := x) (i := 0) hf
  rw [Nat.zero_add] at h2
  rw [← h2]
  exact h1
theorem q_put_ref {k ci j : Nat} {fs : List (Option Value)} {v0 v : Value} (hk : sh[k]? = some (.inl (ci, fs))) (hf : fs[j]? = some (some v0)) : (q_ws cs ad sA sh m).set k (ad k, .inr (ci, (q_fv ad sA (m k) 0 fs).set j (q_cv ad sA v))) = q_ws cs ad sA (sh.set k (.inl (ci, fs.set j (some v)))) m := by
  rw [← q_fv_ref hf]
  exact q_ws_shape (.inl (ci, fs.set j (some v))) (List.getElem?_eq_some_iff.mp hk).1
theorem q_put_arr {k kd n i : Nat} {x : Int32} (hk : sh[k]? = some (.inr (.inl (kd, n)))) : (q_ws cs ad sA sh m).set k (ad k, .inl (if kd = 0 then cs.1 else cs.2.1, n, .inl (upd (m k) i x))) = q_ws cs ad sA sh (q_up m k i x) := q_ws_row (upd (m k) i x) hk
theorem q_put_q {k p i : Nat} {l : List (Option Nat)} (hk : sh[k]? = some (.inr (.inr l))) (hi : i < l.length) : (q_ws cs ad sA sh m).set k (ad k, .inl (cs.2.2, l.length, .inr (.inr (.inr (.inr (va_up (fun j => (l.getD j none).map ad) i (some (ad p)))))))) = q_ws cs ad sA (sh.set k (.inr (.inr (l.set i (some p))))) m := by
  rw [← q_ws_shape _ (List.getElem?_eq_some_iff.mp hk).1]
  congr 1
  simp only [q_ce, List.length_set]
  have : va_up (fun j => (l.getD j none).map ad) i (some (ad p)) = fun j => ((l.set i (some p)).getD j none).map ad := by
    funext j
    unfold va_up
    by_cases h : j = i
    · subst h; simp [List.getD_eq_getElem?_getD, hi]
    · rw [if_neg h]
      show Option.map ad (l.getD j none) = _
      rw [List.getD_eq_getElem?_getD, List.getD_eq_getElem?_getD, List.getElem?_set_ne (Ne.symm h)]
  rw [this]
end QW
theorem q_sl_set {sh : q_Sh} {k : Nat} {c c' : q_SC} (hk : sh[k]? = some c) (h : q_sz c' = q_sz c) : q_sl (sh.set k c') = q_sl sh := by
  unfold q_sl
  congr 1
  apply List.ext_getElem?
  intro i
  rw [List.getElem?_map, List.getElem?_map]
  by_cases hi : i = k
  · subst hi
    rw [List.getElem?_set_self (List.getElem?_eq_some_iff.mp hk).1, hk]
    simp [h]
  · rw [List.getElem?_set_ne (Ne.symm hi)]
def q_vv (n : Nat) : Value → Bool
  | .ref k => decide (k < n)
  | _ => true
def q_vo (n : Nat) : Option Value → Bool
  | none => true
  | some v => q_vv n v
def q_vn (n : Nat) : Option Nat → Bool
  | none => true
  | some k => decide (k < n)
def q_vsc (n : Nat) : q_SC → Bool
  | .inl (_, fs) => fs.all (q_vo n)
  | .inr (.inl _) => true
  | .inr (.inr l) => l.all (q_vn n)
def q_vsh (sh : q_Sh) : Bool := sh.all (q_vsc sh.length)
section QV
variable {n : Nat} {ad ad' sA : Nat → Nat} (ha : ∀ k : Nat, k < n → ad' k = ad k)
theorem q_cv_eq {v : Value} (ha : ∀ k : Nat, k < n → ad' k = ad k) (h : q_vv n v = true) : q_cv ad' sA v = q_cv ad sA v := by
  cases v <;> first | rfl | (simp only [q_vv, decide_eq_true_eq] at h; simp only [q_cv, ha _ h])
theorem q_fv_eq (ha : ∀ k : Nat, k < n → ad' k = ad k) {row : Nat → Int32} : ∀ (fs : List (Option Value)) (i : Nat), fs.all (q_vo n) = true → q_fv ad' sA row i fs = q_fv ad sA row i fs
  | [], _, _ => rfl
  | none :: r, i, h => by
    simp only [List.all_cons, Bool.and_eq_true] at h
    simp only [q_fv, q_fv_eq ha r (i + 1) h.2]
  | some v :: r, i, h => by
    simp only [List.all_cons, Bool.and_eq_true] at h
    simp only [q_fv, q_fv_eq ha r (i + 1) h.2, q_cv_eq ha h.1]
theorem q_ce_eq (ha : ∀ k : Nat, k < n → ad' k = ad k) {cs : ClassId × ClassId × ClassId} {row : Nat → Int32} {c : q_SC} (h : q_vsc n c = true) : q_ce cs ad' sA c row = q_ce cs ad sA c row := by
  match c, h with
  | .inl (ci, fs), h => simp only [q_ce, q_fv_eq ha fs 0 h]
  | .inr (.inl _), _ => rfl
  | .inr (.inr l), h =>
    simp only [q_ce]
    have : (fun j => (l.getD j none).map ad') = fun j => (l.getD j none).map ad := by
      funext j
      rw [List.getD_eq_getElem?_getD]
      cases hj : l[j]? with
      | none => rfl
      | some o =>
        cases o with
        | none => rfl
        | some k =>
          have := List.all_eq_true.mp h _ (List.mem_of_getElem? hj)
          simp only [q_vn, decide_eq_true_eq] at this
          simp [ha _ this]
    rw [this]
theorem q_st_eq (ha : ∀ k : Nat, k < n → ad' k = ad k) {st : List Value} (h : st.all (q_vv n) = true) : st.map (q_cv ad' sA) = st.map (q_cv ad sA) :=
  List.map_congr_left fun v hv => q_cv_eq ha (List.all_eq_true.mp h v hv)
theorem q_lh_eq (ha : ∀ k : Nat, k < n → ad' k = ad k) {L : q_Lo} {ls : Array Slot} {nL : Nat} (h : L.all (q_vo n) = true) (hl : q_lh ad sA L ls nL) : q_lh ad' sA L ls nL :=
  ⟨hl.1, hl.2.1, hl.2.2.1, fun i v hi => by
    rw [q_cv_eq (v := v) ha (List.all_eq_true.mp h (some v) (List.mem_of_getElem? hi))]
    exact hl.2.2.2 i v hi⟩
end QV
theorem q_ws_new {cs : ClassId × ClassId × ClassId} {ad sA : Nat → Nat} {sh : q_Sh} {m : q_Mm} {c : q_SC} {q : Nat} (hv : q_vsh sh = true) (hc : q_vsc sh.length c = true) :
    q_ws cs (fun k => if k = sh.length then q else ad k) sA (sh ++ [c]) (q_zr m sh.length) = q_ws cs ad sA sh m ++ [(q, q_ce cs ad sA c (fun _ => 0))] := by
  have ha : ∀ k : Nat, k < sh.length → (fun k => if k = sh.length then q else ad k) k = ad k := fun k hk => if_neg (Nat.ne_of_lt hk)
  apply List.ext_getElem?
  intro i
  rcases Nat.lt_trichotomy i sh.length with hi | hi | hi
  · have hci : sh[i]? = some sh[i] := List.getElem?_eq_getElem hi
    rw [q_ws_get (sh := sh ++ [c]) (c := sh[i]) (by rw [List.getElem?_append_left hi]; exact hci), List.getElem?_append_left (by simpa [q_ws] using hi), q_ws_get hci]
    rw [q_ce_eq ha (List.all_eq_true.mp hv _ (List.mem_of_getElem? hci))]
    simp [q_zr, Nat.ne_of_lt hi]
  · subst hi
    rw [q_ws_get (sh := sh ++ [c]) (c := c) (by simp), List.getElem?_append_right (by simp [q_ws])]
    rw [q_ce_eq ha hc]
    simp [q_ws, q_zr]
  · rw [List.getElem?_eq_none (by simp [q_ws]; omega), List.getElem?_eq_none (by simp [q_ws]; omega)]
def o_getf (ci j : Nat) (t : q_TT) : q_TT := fun L st sh m K R => match st with
  | .ref k :: st => match sh[k]? with
    | some (.inl (ci', fs)) => ci' = ci ∧ (match fs[j]? with
      | some none => t L (.int (m k j) :: st) sh m K R
      | some (some v) => t L (v :: st) sh m K R
      | none => False)
    | _ => False
  | _ => False
theorem k_getf {X : q_CX} {y : MethodName} {cc : ByteArray} {nL : Nat} {ret : Option FieldType} {rm : Room} {Ts : List Cond} (h : q_OK X y cc nL ret rm Ts) {pc : Nat} {t : q_TT} {ci j N idx : Nat} {C : String} {T : u_T} (hc : vwCl[ci]? = some (C, T, N)) (hin : ∀ w ∈ u_ws C T N, w ∈ Ts) (hj : j < N) (hlk : Cond.fieldLink y.cls idx (T j).1 (T j).2.1 (T j).2.2.1 ∈ Ts) (hd : decode cc pc = .ok (.getfield idx, 3)) (ht : q_SK X nL (pc + 3) t) : q_SK X nL pc (o_getf ci j t) := by
  intro L st sh m K R hT hK hR
  obtain ⟨p, l, e, Rm, s, mi, args, below, meth, c, D, cs, ad0, sA, sV, A, nz, mcs, Qc, Q⟩ := X
  obtain ⟨hx, hb, hml, hown, hts, hr, hlks, hRm, hKK, hA, hE, hmc, hnm⟩ := h
  unfold o_getf at hT
  split at hT
  · rename_i k st
    split at hT
    · rename_i ci' fs hk
      obtain ⟨rfl, hT⟩ := hT
      intro ad H locs ls hl hP hD hS h1 h2 h3
      have he := q_ws_get (cs := cs) (ad := ad) (sA := sA) (m := m) hk
      split at hT
      · rename_i hf
        have hv := q_fv_get (ad := ad) (sA := sA) (row := m k) (i := 0) hf
        rw [Nat.zero_add] at hv
        exact va_get hx hb hts hin hown hKK hP k he hc j hj (hts _ hlk) (fun _ h9 => h9) hv hd (ht _ _ _ _ _ _ hT hK hR ad H locs ls hl hP hD hS h1 h2 h3)
      · rename_i hf
        have hv := q_fv_get (ad := ad) (sA := sA) (row := m k) (i := 0) hf
        exact va_get hx hb hts hin hown hKK hP k he hc j hj (hts _ hlk) (fun _ h9 => h9) hv hd (ht _ _ _ _ _ _ hT hK hR ad H locs ls hl hP hD hS h1 h2 h3)
      · exact hT.elim
    · exact hT.elim
  · exact hT.elim
def o_putf (ci j : Nat) (t : q_TT) : q_TT := fun L st sh m K R => match st with
  | .int x :: .ref k :: st => match sh[k]? with
    | some (.inl (ci', fs)) => ci' = ci ∧ fs[j]? = some none ∧ t L st sh (q_up m k j x) K R
    | _ => False
  | _ => False
theorem k_putf {X : q_CX} {y : MethodName} {cc : ByteArray} {nL : Nat} {ret : Option FieldType} {rm : Room} {Ts : List Cond} (h : q_OK X y cc nL ret rm Ts) {pc : Nat} {t : q_TT} {ci j N idx : Nat} {C : String} {T : u_T} (hc : vwCl[ci]? = some (C, T, N)) (hin : ∀ w ∈ u_ws C T N, w ∈ Ts) (hj : j < N) (hlk : Cond.fieldLink y.cls idx (T j).1 (T j).2.1 (T j).2.2.1 ∈ Ts) (ty0 : Nat → FieldType) (hty : ∀ k, k < N → parseFieldDescriptor (T k).2.2.1 = some (ty0 k)) (hnm9 : ∀ a, a < N → ∀ b, b < N → a ≠ b → (T a).2.1 ≠ (T b).2.1) (hfin : (T j).2.2.2 = false) (hpd : parseFieldDescriptor (T j).2.2.1 = some .int) (hd : decode cc pc = .ok (.putfield idx, 3)) (ht : q_SK X nL (pc + 3) t) : q_SK X nL pc (o_putf ci j t) := by
  intro L st sh m K R hT hK hR
  obtain ⟨p, l, e, Rm, s, mi, args, below, meth, c, D, cs, ad0, sA, sV, A, nz, mcs, Qc, Q⟩ := X
  obtain ⟨hx, hb, hml, hown, hts, hr, hlks, hRm, hKK, hA, hE, hmc, hnm⟩ := h
  unfold o_putf at hT
  split at hT
  · rename_i x k st
    split at hT
    · rename_i ci' fs hk
      have hf := hT.2.1
      have hci := hT.1
      subst hci
      intro ad H locs ls hl hP hD hS h1 h2 h3
      have he := q_ws_get (cs := cs) (ad := ad) (sA := sA) (m := m) hk
      refine va_put (v := .int x) (ty := .int) hx hb hts hin ty0 hty hnm9 hown hKK hP hD hS k he hc j hj (hts _ hlk) (fun _ h9 => h9) hfin hpd rfl rfl (by rw [q_fv_len]; exact (List.getElem?_eq_some_iff.mp hf).1) hd (fun H1 locs1 hP1 hD1 hS1 => ?_)
      rw [q_put_int hk hf] at hP1 hD1
      exact ht _ _ _ _ _ _ hT.2.2 hK hR ad H1 locs1 ls hl hP1 hD1 hS1 h1 h2 h3
    · exact hT.elim
  · exact hT.elim
def o_putz (ci j : Nat) (t : q_TT) : q_TT := fun L st sh m K R => match st with
  | .int x :: .ref k :: st => match sh[k]? with
    | some (.inl (ci', fs)) => ci' = ci ∧ fs[j]? = some none ∧ (x = 0 ∨ x = 1) ∧ t L st sh (q_up m k j x) K R
    | _ => False
  | _ => False
theorem k_putz {X : q_CX} {y : MethodName} {cc : ByteArray} {nL : Nat} {ret : Option FieldType} {rm : Room} {Ts : List Cond} (h : q_OK X y cc nL ret rm Ts) {pc : Nat} {t : q_TT} {ci j N idx : Nat} {C : String} {T : u_T} (hc : vwCl[ci]? = some (C, T, N)) (hin : ∀ w ∈ u_ws C T N, w ∈ Ts) (hj : j < N) (hlk : Cond.fieldLink y.cls idx (T j).1 (T j).2.1 (T j).2.2.1 ∈ Ts) (ty0 : Nat → FieldType) (hty : ∀ k, k < N → parseFieldDescriptor (T k).2.2.1 = some (ty0 k)) (hnm9 : ∀ a, a < N → ∀ b, b < N → a ≠ b → (T a).2.1 ≠ (T b).2.1) (hfin : (T j).2.2.2 = false) (hpd : parseFieldDescriptor (T j).2.2.1 = some .boolean) (hd : decode cc pc = .ok (.putfield idx, 3)) (ht : q_SK X nL (pc + 3) t) : q_SK X nL pc (o_putz ci j t) := by
  intro L st sh m K R hT hK hR
  obtain ⟨p, l, e, Rm, s, mi, args, below, meth, c, D, cs, ad0, sA, sV, A, nz, mcs, Qc, Q⟩ := X
  obtain ⟨hx, hb, hml, hown, hts, hr, hlks, hRm, hKK, hA, hE, hmc, hnm⟩ := h
  unfold o_putz at hT
  split at hT
  · rename_i x k st
    split at hT
    · rename_i ci' fs hk
      have hf := hT.2.1
      have hci := hT.1
      subst hci
      intro ad H locs ls hl hP hD hS h1 h2 h3
      have he := q_ws_get (cs := cs) (ad := ad) (sA := sA) (m := m) hk
      refine va_put (v := .int x) (ty := .boolean) hx hb hts hin ty0 hty hnm9 hown hKK hP hD hS k he hc j hj (hts _ hlk) (fun _ h9 => h9) hfin hpd (by rcases hT.2.2.1 with q | q <;> subst q <;> decide) (by rcases hT.2.2.1 with q | q <;> subst q <;> decide) (by rw [q_fv_len]; exact (List.getElem?_eq_some_iff.mp hf).1) hd (fun H1 locs1 hP1 hD1 hS1 => ?_)
      rw [q_put_int hk hf] at hP1 hD1
      exact ht _ _ _ _ _ _ hT.2.2.2 hK hR ad H1 locs1 ls hl hP1 hD1 hS1 h1 h2 h3
    · exact hT.elim
  · exact hT.elim
def o_putr (ci j : Nat) (t : q_TT) : q_TT := fun L st sh m K R => match st with
  | .ref a :: .ref k :: st => match sh[k]? with
    | some (.inl (ci', fs)) => ci' = ci ∧ (match fs[j]? with
      | some (some _) => t L st (sh.set k (.inl (ci, fs.set j (some (.ref a))))) m K R
      | _ => False)
    | _ => False
  | _ => False
theorem k_putr {X : q_CX} {y : MethodName} {cc : ByteArray} {nL : Nat} {ret : Option FieldType} {rm : Room} {Ts : List Cond} (h : q_OK X y cc nL ret rm Ts) {pc : Nat} {t : q_TT} {ci j N idx : Nat} {C : String} {T : u_T} (hc : vwCl[ci]? = some (C, T, N)) (hin : ∀ w ∈ u_ws C T N, w ∈ Ts) (hj : j < N) (hlk : Cond.fieldLink y.cls idx (T j).1 (T j).2.1 (T j).2.2.1 ∈ Ts) (ty0 : Nat → FieldType) (hty : ∀ k, k < N → parseFieldDescriptor (T k).2.2.1 = some (ty0 k)) (hnm9 : ∀ a, a < N → ∀ b, b < N → a ≠ b → (T a).2.1 ≠ (T b).2.1) {ty : FieldType} (hfin : (T j).2.2.2 = false) (hpd : parseFieldDescriptor (T j).2.2.1 = some ty) (hnr : ∀ a : Nat, narrow ty (.ref a) = .ref a ∧ fits ty (.ref a) = true) (hd : decode cc pc = .ok (.putfield idx, 3)) (ht : q_SK X nL (pc + 3) t) : q_SK X nL pc (o_putr ci j t) := by
  intro L st sh m K R hT hK hR
  obtain ⟨p, l, e, Rm, s, mi, args, below, meth, c, D, cs, ad0, sA, sV, A, nz, mcs, Qc, Q⟩ := X
  obtain ⟨hx, hb, hml, hown, hts, hr, hlks, hRm, hKK, hA, hE, hmc, hnm⟩ := h
  unfold o_putr at hT
  split at hT
  · rename_i a k st
    split at hT
    · rename_i ci' fs hk
      obtain ⟨hci, hT⟩ := hT
      subst hci
      split at hT
      · rename_i v0 hf
        intro ad H locs ls hl hP hD hS h1 h2 h3
        have he := q_ws_get (cs := cs) (ad := ad) (sA := sA) (m := m) hk
        refine va_put (v := .ref (ad a)) (ty := ty) hx hb hts hin ty0 hty hnm9 hown hKK hP hD hS k he hc j hj (hts _ hlk) (fun _ h9 => h9) hfin hpd (hnr _).1 (hnr _).2 (by rw [q_fv_len]; exact (List.getElem?_eq_some_iff.mp hf).1) hd (fun H1 locs1 hP1 hD1 hS1 => ?_)
        have e1 := q_put_ref (cs := cs) (ad := ad) (sA := sA) (m := m) (v := .ref a) hk hf
        have e2 : q_sl (sh.set k (.inl (ci', fs.set j (some (.ref a))))) = q_sl sh := q_sl_set hk (by simp [q_sz])
        rw [show Value.ref (ad a) = q_cv ad sA (.ref a) from rfl, e1] at hP1 hD1
        have := ht _ _ _ _ _ _ hT hK hR ad H1 locs1 ls hl hP1 hD1 hS1 h1 (by rw [List.length_set]; exact h2) (by rw [e2]; exact h3)
        rw [List.length_set, e2] at this
        exact this
      · exact hT.elim
    · exact hT.elim
  · exact hT.elim
theorem k_putrF {X : q_CX} {y : MethodName} {cc : ByteArray} {nL : Nat} {ret : Option FieldType} {rm : Room} {Ts : List Cond} (h : q_OK X y cc nL ret rm Ts) {pc : Nat} {t : q_TT} {ci j N idx : Nat} {C : String} {T : u_T} (hc : vwCl[ci]? = some (C, T, N)) (hin : ∀ w ∈ u_ws C T N, w ∈ Ts) (hj : j < N) (hlk : Cond.fieldLink y.cls idx (T j).1 (T j).2.1 (T j).2.2.1 ∈ Ts) (ty0 : Nat → FieldType) (hty : ∀ k, k < N → parseFieldDescriptor (T k).2.2.1 = some (ty0 k)) (hnm9 : ∀ a, a < N → ∀ b, b < N → a ≠ b → (T a).2.1 ≠ (T b).2.1) {ty : FieldType} (hfin : (T j).2.2.2 = true) (hini : y.name = "<init>") (hdecl : (T j).1 = y.cls) (hpd : parseFieldDescriptor (T j).2.2.1 = some ty) (hnr : ∀ a : Nat, narrow ty (.ref a) = .ref a ∧ fits ty (.ref a) = true) (hd : decode cc pc = .ok (.putfield idx, 3)) (ht : q_SK X nL (pc + 3) t) : q_SK X nL pc (o_putr ci j t) := by
  intro L st sh m K R hT hK hR
  obtain ⟨p, l, e, Rm, s, mi, args, below, meth, c, D, cs, ad0, sA, sV, A, nz, mcs, Qc, Q⟩ := X
  obtain ⟨hx, hb, hml, hown, hts, hr, hlks, hRm, hKK, hA, hE, hmc, hnm⟩ := h
  unfold o_putr at hT
  split at hT
  · rename_i a k st
    split at hT
    · rename_i ci' fs hk
      obtain ⟨hci, hT⟩ := hT
      subst hci
      split at hT
      · rename_i v0 hf
        intro ad H locs ls hl hP hD hS h1 h2 h3
        have he := q_ws_get (cs := cs) (ad := ad) (sA := sA) (m := m) hk
        refine va_putF (v := .ref (ad a)) (ty := ty) hx hb hts hin ty0 hty hnm9 hown hKK hP hD hS k he hc j hj (hts _ hlk) (fun _ h9 => h9) hfin (by rw [hnm]; exact hini) hdecl hpd (hnr _).1 (hnr _).2 (by rw [q_fv_len]; exact (List.getElem?_eq_some_iff.mp hf).1) hd (fun H1 locs1 hP1 hD1 hS1 => ?_)
        have e1 := q_put_ref (cs := cs) (ad := ad) (sA := sA) (m := m) (v := .ref a) hk hf
        have e2 : q_sl (sh.set k (.inl (ci', fs.set j (some (.ref a))))) = q_sl sh := q_sl_set hk (by simp [q_sz])
        rw [show Value.ref (ad a) = q_cv ad sA (.ref a) from rfl, e1] at hP1 hD1
        have := ht _ _ _ _ _ _ hT hK hR ad H1 locs1 ls hl hP1 hD1 hS1 h1 (by rw [List.length_set]; exact h2) (by rw [e2]; exact h3)
        rw [List.length_set, e2] at this
        exact this
      · exact hT.elim
    · exact hT.elim
  · exact hT.elim
def o_iald (t : q_TT) : q_TT := fun L st sh m K R => match st with
  | .int i :: .ref k :: st => match sh[k]? with
    | some (.inr (.inl (0, n))) => vp_in i n ∧ t L (.int (m k i.toNatClampNeg) :: st) sh m K R
    | _ => False
  | _ => False
theorem k_iald {X : q_CX} {y : MethodName} {cc : ByteArray} {nL : Nat} {ret : Option FieldType} {rm : Room} {Ts : List Cond} (h : q_OK X y cc nL ret rm Ts) {pc : Nat} {t : q_TT} (hd : decode cc pc = .ok (.iaload, 1)) (ht : q_SK X nL (pc + 1) t) : q_SK X nL pc (o_iald t) := by
  intro L st sh m K R hT hK hR
  obtain ⟨p, l, e, Rm, s, mi, args, below, meth, c, D, cs, ad0, sA, sV, A, nz, mcs, Qc, Q⟩ := X
  obtain ⟨hx, hb, hml, hown, hts, hr, hlks, hRm, hKK, hA, hE, hmc, hnm⟩ := h
  unfold o_iald at hT
  split at hT
  · rename_i i k st
    split at hT
    · rename_i n hk
      intro ad H locs ls hl hP hD hS h1 h2 h3
      have he := q_ws_get (cs := cs) (ad := ad) (sA := sA) (m := m) hk
      exact va_iald hx hb hKK hP k 0 he rfl hT.1 hd (ht _ _ _ _ _ _ hT.2 hK hR ad H locs ls hl hP hD hS h1 h2 h3)
    · exact hT.elim
  · exact hT.elim
def o_zald (t : q_TT) : q_TT := fun L st sh m K R => match st with
  | .int i :: .ref k :: st => match sh[k]? with
    | some (.inr (.inl (1, n))) => vp_in i n ∧ t L (.int (m k i.toNatClampNeg) :: st) sh m K R
    | _ => False
  | _ => False
theorem k_zald {X : q_CX} {y : MethodName} {cc : ByteArray} {nL : Nat} {ret : Option FieldType} {rm : Room} {Ts : List Cond} (h : q_OK X y cc nL ret rm Ts) {pc : Nat} {t : q_TT} (hd : decode cc pc = .ok (.baload, 1)) (ht : q_SK X nL (pc + 1) t) : q_SK X nL pc (o_zald t) := by
  intro L st sh m K R hT hK hR
  obtain ⟨p, l, e, Rm, s, mi, args, below, meth, c, D, cs, ad0, sA, sV, A, nz, mcs, Qc, Q⟩ := X
  obtain ⟨hx, hb, hml, hown, hts, hr, hlks, hRm, hKK, hA, hE, hmc, hnm⟩ := h
  unfold o_zald at hT
  split at hT
  · rename_i i k st
    split at hT
    · rename_i n hk
      intro ad H locs ls hl hP hD hS h1 h2 h3
      have he := q_ws_get (cs := cs) (ad := ad) (sA := sA) (m := m) hk
      exact va_zald hx hb hKK hP k 1 he rfl hT.1 hd (ht _ _ _ _ _ _ hT.2 hK hR ad H locs ls hl hP hD hS h1 h2 h3)
    · exact hT.elim
  · exact hT.elim
def o_iast (t : q_TT) : q_TT := fun L st sh m K R => match st with
  | .int x :: .int i :: .ref k :: st => match sh[k]? with
    | some (.inr (.inl (0, n))) => vp_in i n ∧ t L st sh (q_up m k i.toNatClampNeg x) K R
    | _ => False
  | _ => False
theorem k_iast {X : q_CX} {y : MethodName} {cc : ByteArray} {nL : Nat} {ret : Option FieldType} {rm : Room} {Ts : List Cond} (h : q_OK X y cc nL ret rm Ts) {pc : Nat} {t : q_TT} (hd : decode cc pc = .ok (.iastore, 1)) (ht : q_SK X nL (pc + 1) t) : q_SK X nL pc (o_iast t) := by
  intro L st sh m K R hT hK hR
  obtain ⟨p, l, e, Rm, s, mi, args, below, meth, c, D, cs, ad0, sA, sV, A, nz, mcs, Qc, Q⟩ := X
  obtain ⟨hx, hb, hml, hown, hts, hr, hlks, hRm, hKK, hA, hE, hmc, hnm⟩ := h
  unfold o_iast at hT
  split at hT
  · rename_i x i k st
    split at hT
    · rename_i n hk
      intro ad H locs ls hl hP hD hS h1 h2 h3
      have he := q_ws_get (cs := cs) (ad := ad) (sA := sA) (m := m) hk
      refine va_iast hx hb hKK hP hD hS k 0 he rfl hT.1 hd (fun H1 locs1 hP1 hD1 hS1 => ?_)
      have e1 := q_put_arr (cs := cs) (ad := ad) (sA := sA) (m := m) (i := i.toNatClampNeg) (x := x) hk
      have hP1 : va_P D vwCl ((q_ws cs ad sA sh m).set k (ad k, .inl (if 0 = 0 then cs.1 else cs.2.1, n, .inl (upd (m k) i.toNatClampNeg x)))) H1 := hP1
      have hD1 : va_D A ((q_ws cs ad sA sh m).set k (ad k, .inl (if 0 = 0 then cs.1 else cs.2.1, n, .inl (upd (m k) i.toNatClampNeg x)))) := hD1
      rw [e1] at hP1 hD1
      exact ht _ _ _ _ _ _ hT.2 hK hR ad H1 locs1 ls hl hP1 hD1 hS1 h1 h2 h3
    · exact hT.elim
  · exact hT.elim
def o_zast (t : q_TT) : q_TT := fun L st sh m K R => match st with
  | .int x :: .int i :: .ref k :: st => match sh[k]? with
    | some (.inr (.inl (1, n))) => vp_in i n ∧ (x = 0 ∨ x = 1) ∧ t L st sh (q_up m k i.toNatClampNeg x) K R
    | _ => False
  | _ => False
theorem k_zast {X : q_CX} {y : MethodName} {cc : ByteArray} {nL : Nat} {ret : Option FieldType} {rm : Room} {Ts : List Cond} (h : q_OK X y cc nL ret rm Ts) {pc : Nat} {t : q_TT} (hd : decode cc pc = .ok (.bastore, 1)) (ht : q_SK X nL (pc + 1) t) : q_SK X nL pc (o_zast t) := by
  intro L st sh m K R hT hK hR
  obtain ⟨p, l, e, Rm, s, mi, args, below, meth, c, D, cs, ad0, sA, sV, A, nz, mcs, Qc, Q⟩ := X
  obtain ⟨hx, hb, hml, hown, hts, hr, hlks, hRm, hKK, hA, hE, hmc, hnm⟩ := h
  unfold o_zast at hT
  split at hT
  · rename_i x i k st
    split at hT
    · rename_i n hk
      intro ad H locs ls hl hP hD hS h1 h2 h3
      have he := q_ws_get (cs := cs) (ad := ad) (sA := sA) (m := m) hk
      refine va_zast hx hb hKK hP hD hS k 1 he rfl hT.1 hd (fun H1 locs1 hP1 hD1 hS1 => ?_)
      have e0 : vp_nar .boolean x = x := by rcases hT.2.1 with q | q <;> subst q <;> decide
      rw [e0] at hP1 hD1
      have e1 := q_put_arr (cs := cs) (ad := ad) (sA := sA) (m := m) (i := i.toNatClampNeg) (x := x) hk
      have hP1 : va_P D vwCl ((q_ws cs ad sA sh m).set k (ad k, .inl (if 1 = 0 then cs.1 else cs.2.1, n, .inl (upd (m k) i.toNatClampNeg x)))) H1 := hP1
      have hD1 : va_D A ((q_ws cs ad sA sh m).set k (ad k, .inl (if 1 = 0 then cs.1 else cs.2.1, n, .inl (upd (m k) i.toNatClampNeg x)))) := hD1
      rw [e1] at hP1 hD1
      exact ht _ _ _ _ _ _ hT.2.2 hK hR ad H1 locs1 ls hl hP1 hD1 hS1 h1 h2 h3
    · exact hT.elim
  · exact hT.elim
def o_alen (t : q_TT) : q_TT := fun L st sh m K R => match st with
  | .ref k :: st => match sh[k]? with
    | some (.inr (.inl (0, n))) => t L (.int (nI n) :: st) sh m K R
    | _ => False
  | _ => False
theorem k_alen {X : q_CX} {y : MethodName} {cc : ByteArray} {nL : Nat} {ret : Option FieldType} {rm : Room} {Ts : List Cond} (h : q_OK X y cc nL ret rm Ts) {pc : Nat} {t : q_TT} (hd : decode cc pc = .ok (.arraylength, 1)) (ht : q_SK X nL (pc + 1) t) : q_SK X nL pc (o_alen t) := by
  intro L st sh m K R hT hK hR
  obtain ⟨p, l, e, Rm, s, mi, args, below, meth, c, D, cs, ad0, sA, sV, A, nz, mcs, Qc, Q⟩ := X
  obtain ⟨hx, hb, hml, hown, hts, hr, hlks, hRm, hKK, hA, hE, hmc, hnm⟩ := h
  unfold o_alen at hT
  split at hT
  · rename_i k st
    split at hT
    · rename_i n hk
      intro ad H locs ls hl hP hD hS h1 h2 h3
      have he := q_ws_get (cs := cs) (ad := ad) (sA := sA) (m := m) hk
      exact va_alen (ty := .int) hx hb hKK hP k 0 he rfl rfl hd (ht _ _ _ _ _ _ hT hK hR ad H locs ls hl hP hD hS h1 h2 h3)
    · exact hT.elim
  · exact hT.elim
def o_aald (t : q_TT) : q_TT := fun L st sh m K R => match st with
  | .int i :: .ref k :: st => match sh[k]? with
    | some (.inr (.inr l)) => vp_in i l.length ∧ (match l[i.toNatClampNeg]? with
      | some (some p) => t L (.ref p :: st) sh m K R
      | _ => False)
    | _ => False
  | _ => False
theorem k_aald {X : q_CX} {y : MethodName} {cc : ByteArray} {nL : Nat} {ret : Option FieldType} {rm : Room} {Ts : List Cond} (h : q_OK X y cc nL ret rm Ts) {pc : Nat} {t : q_TT} (hd : decode cc pc = .ok (.aaload, 1)) (ht : q_SK X nL (pc + 1) t) : q_SK X nL pc (o_aald t) := by
  intro L st sh m K R hT hK hR
  obtain ⟨p, l, e, Rm, s, mi, args, below, meth, c, D, cs, ad0, sA, sV, A, nz, mcs, Qc, Q⟩ := X
  obtain ⟨hx, hb, hml, hown, hts, hr, hlks, hRm, hKK, hA, hE, hmc, hnm⟩ := h
  unfold o_aald at hT
  split at hT
  · rename_i i k st
    split at hT
    · rename_i l hk
      obtain ⟨hi, hT⟩ := hT
      split at hT
      · rename_i p hp
        intro ad H locs ls hl hP hD hS h1 h2 h3
        have he := q_ws_get (cs := cs) (ad := ad) (sA := sA) (m := m) hk
        refine va_aldq (C := RX1) hx hb hKK hP k 2 he rfl hi hd ?_
        have e9 : (l.getD i.toNatClampNeg none).map ad = some (ad p) := by
          rw [List.getD_eq_getElem?_getD, hp]; rfl
        show W _ _ _ _ _ _ _ _ _ _ _ _ _ _ _ (F0 mi (pc + 1) ls (va_rf ((l.getD i.toNatClampNeg none).map ad) :: _))
        rw [e9]
        exact ht _ _ _ _ _ _ hT hK hR ad H locs ls hl hP hD hS h1 h2 h3
      · exact hT.elim
    · exact hT.elim
  · exact hT.elim
def o_aast (t : q_TT) : q_TT := fun L st sh m K R => match st with
  | .ref p :: .int i :: .ref k :: st => match sh[k]?, sh[p]? with
    | some (.inr (.inr l)), some (.inl (1, _)) => vp_in i l.length ∧ t L st (sh.set k (.inr (.inr (l.set i.toNatClampNeg (some p))))) m K R
    | _, _ => False
  | _ => False
theorem k_aast {X : q_CX} {y : MethodName} {cc : ByteArray} {nL : Nat} {ret : Option FieldType} {rm : Room} {Ts : List Cond} (h : q_OK X y cc nL ret rm Ts) {pc : Nat} {t : q_TT} (hd : decode cc pc = .ok (.aastore, 1)) (ht : q_SK X nL (pc + 1) t) : q_SK X nL pc (o_aast t) := by
  intro L st sh m K R hT hK hR
  obtain ⟨p, l, e, Rm, s, mi, args, below, meth, c, D, cs, ad0, sA, sV, A, nz, mcs, Qc, Q⟩ := X
  obtain ⟨hx, hb, hml, hown, hts, hr, hlks, hRm, hKK, hA, hE, hmc, hnm⟩ := h
  unfold o_aast at hT
  split at hT
  · rename_i p i k st
    split at hT
    · rename_i l fs hk hp
      obtain ⟨hi, hT⟩ := hT
      intro ad H locs ls hl hP hD hS h1 h2 h3
      have he := q_ws_get (cs := cs) (ad := ad) (sA := sA) (m := m) hk
      have hv := q_ws_get (cs := cs) (ad := ad) (sA := sA) (m := m) hp
      have hil : i.toNatClampNeg < l.length := Nat.not_le.mp fun q => hi (Or.inr q)
      refine va_astq (r := (RX1, TX1, 5)) hx hb hKK hP hD hS k 2 p 1 he rfl hv rfl hi hd (fun H1 locs1 hP1 hD1 hS1 => ?_)
      have e1 := q_put_q (cs := cs) (ad := ad) (sA := sA) (m := m) (p := p) hk hil
      have e2 : q_sl (sh.set k (.inr (.inr (l.set i.toNatClampNeg (some p))))) = q_sl sh := q_sl_set hk (by simp [q_sz])
      rw [e1] at hP1 hD1
      have := ht _ _ _ _ _ _ hT hK hR ad H1 locs1 ls hl hP1 hD1 hS1 h1 (by rw [List.length_set]; exact h2) (by rw [e2]; exact h3)
      rw [List.length_set, e2] at this
      exact this
    · exact hT.elim
  · exact hT.elim
def q_dv (fs : List (Option Value)) : List Value := fs.map fun o => match o with
  | none => .int 0
  | some v => v
def q_nul (fs : List (Option Value)) : Bool := fs.all fun o => match o with
  | none => true
  | some .null => true
  | _ => false
theorem q_dv_eq {ad sA : Nat → Nat} : ∀ (fs : List (Option Value)) (i : Nat), q_nul fs = true → q_fv ad sA (fun _ => 0) i fs = q_dv fs
  | [], _, _ => rfl
  | none :: r, i, h => by
    simp only [q_nul, List.all_cons, Bool.true_and] at h
    simp only [q_fv, q_dv_eq r (i + 1) h, q_dv, List.map_cons]
  | some .null :: r, i, h => by
    simp only [q_nul, List.all_cons, Bool.true_and] at h
    simp only [q_fv, q_dv_eq r (i + 1) h, q_dv, List.map_cons, q_cv]
  | some (.int _) :: _, _, h => by simp [q_nul] at h
  | some (.long _) :: _, _, h => by simp [q_nul] at h
  | some (.float _) :: _, _, h => by simp [q_nul] at h
  | some (.double _) :: _, _, h => by simp [q_nul] at h
  | some (.ref _) :: _, _, h => by simp [q_nul] at h
  | some (.retAddr _) :: _, _, h => by simp [q_nul] at h
theorem q_nul_v : ∀ (fs : List (Option Value)) (n : Nat), q_nul fs = true → fs.all (q_vo n) = true
  | [], _, _ => rfl
  | none :: r, n, h => by
    simp only [q_nul, List.all_cons, Bool.true_and] at h
    simp only [List.all_cons, q_vo, Bool.true_and]; exact q_nul_v r n h
  | some .null :: r, n, h => by
    simp only [q_nul, List.all_cons, Bool.true_and] at h
    simp only [List.all_cons, q_vo, q_vv, Bool.true_and]; exact q_nul_v r n h
  | some (.int _) :: _, _, h => by simp [q_nul] at h
  | some (.long _) :: _, _, h => by simp [q_nul] at h
  | some (.float _) :: _, _, h => by simp [q_nul] at h
  | some (.double _) :: _, _, h => by simp [q_nul] at h
  | some (.ref _) :: _, _, h => by simp [q_nul] at h
  | some (.retAddr _) :: _, _, h => by simp [q_nul] at h
theorem q_sl_app (sh : q_Sh) (c : q_SC) : q_sl (sh ++ [c]) = q_sl sh + q_sz c := by simp [q_sl]
/-- all places named in the frame and the world stand -/
def q_val (L : q_Lo) (st : List Value) (sh : q_Sh) : Prop := q_vsh sh = true ∧ st.all (q_vv sh.length) = true ∧ L.all (q_vo sh.length) = true
def o_new (ci : Nat) (fs : List (Option Value)) (cap : Nat × Nat) (t : q_TT) : q_TT := fun L st sh m K R => q_val L st sh ∧ sh.length + 1 ≤ cap.1 ∧ q_sl sh + fs.length ≤ cap.2 ∧ t L (.ref sh.length :: st) (sh ++ [.inl (ci, fs)]) (q_zr m sh.length) K R
theorem k_new {X : q_CX} {y : MethodName} {cc : ByteArray} {nL : Nat} {ret : Option FieldType} {rm : Room} {Ts : List Cond} (h : q_OK X y cc nL ret rm Ts) {pc : Nat} {t : q_TT} {cap : Nat × Nat} (hcap : q_cap X rm cap) {ci N idx : Nat} {C : String} {T : u_T} {fs : List (Option Value)} (hc : vwCl[ci]? = some (C, T, N)) (hin : ∀ w ∈ u_ws C T N, w ∈ Ts) (hlk : Cond.classLink y.cls idx C ∈ Ts) (hins : Cond.instantiable C N ∈ Ts) (hini : Cond.initialized C ∈ Ts) (ty0 : Nat → FieldType) (hty : ∀ k, k < N → parseFieldDescriptor (T k).2.2.1 = some (ty0 k)) (hfs : ∀ j, j < N → defaultValue (ty0 j) = vp_V (q_dv fs) j) (hnu : q_nul fs = true) (hfl : fs.length = N) (hd : decode cc pc = .ok (.new idx, 3)) (ht : q_SK X nL (pc + 3) t) : q_SK X nL pc (o_new ci fs cap t) := by
  intro L st sh m K R hT hK hR
  obtain ⟨p, l, e, Rm, s, mi, args, below, meth, c, D, cs, ad0, sA, sV, A, nz, mcs, Qc, Q⟩ := X
  obtain ⟨hx, hb, hml, hown, hts, hr, hlks, hRm, hKK, hA, hE, hmc, hnm⟩ := h
  obtain ⟨⟨v1, v2, v3⟩, c1, c2, hT⟩ := hT
  have hcap1 : cap.1 ≤ nz.1 + rm.cells := hcap.1
  have hcap2 : cap.2 ≤ nz.2 + rm.slots := hcap.2
  subst hRm
  intro ad H locs ls hl hP hD hS h1 h2 h3
  refine va_new (fs := q_dv fs) hx hb hts hin ty0 hty hown (hts _ hlk) (hts _ hins) (hts _ hini) hKK hP hD hS hA hc hfs (by omega) (by omega) hd (fun q H1 hP1 hD1 hS1 => ?_)
  have ha : ∀ k : Nat, k < sh.length → (fun k => if k = sh.length then q else ad k) k = ad k := fun k hk => if_neg (Nat.ne_of_lt hk)
  have e1 := q_ws_new (cs := cs) (ad := ad) (sA := sA) (m := m) (c := .inl (ci, fs)) (q := q) v1 (q_nul_v fs _ hnu)
  rw [show q_ce cs ad sA (.inl (ci, fs)) (fun _ => 0) = .inr (ci, q_dv fs) by simp only [q_ce, q_dv_eq fs 0 hnu]] at e1
  rw [← e1] at hP1 hD1
  have := ht _ _ _ _ _ _ hT hK hR _ H1 locs ls (q_lh_eq ha v3 hl) hP1 hD1 hS1 ⟨fun k hk => (ha k (by omega)).trans (h1.1 k hk), fun e => by omega⟩ (by simp; omega) (by rw [q_sl_app]; simp only [q_sz]; omega)
  rw [List.map_cons, q_st_eq ha v2, List.length_append, q_sl_app, show sh.length + [Sum.inl (ci, fs)].length - nz.1 = sh.length - nz.1 + 1 by simp; omega, show q_sl sh + q_sz (.inl (ci, fs)) - nz.2 = q_sl sh - nz.2 + N by simp only [q_sz]; omega] at this
  simpa [q_cv] using this
def o_newa (kd n : Nat) (cap : Nat × Nat) (t : q_TT) : q_TT := fun L st sh m K R => match st with
  | .int x :: st => x = nI n ∧ q_val L st sh ∧ sh.length + 1 ≤ cap.1 ∧ q_sl sh + n ≤ cap.2 ∧ t L (.ref sh.length :: st) (sh ++ [.inr (.inl (kd, n))]) (q_zr m sh.length) K R
  | _ => False
theorem k_newi {X : q_CX} {y : MethodName} {cc : ByteArray} {nL : Nat} {ret : Option FieldType} {rm : Room} {Ts : List Cond} (h : q_OK X y cc nL ret rm Ts) {pc : Nat} {t : q_TT} {cap : Nat × Nat} (hcap : q_cap X rm cap) {n : Nat} (hn : n ≤ 100000) (hac : Cond.arrayClass .int ∈ Ts) (hd : decode cc pc = .ok (.newarray .int, 2)) (ht : q_SK X nL (pc + 2) t) : q_SK X nL pc (o_newa 0 n cap t) := by
  intro L st sh m K R hT hK hR
  obtain ⟨p, l, e, Rm, s, mi, args, below, meth, c, D, cs, ad0, sA, sV, A, nz, mcs, Qc, Q⟩ := X
  obtain ⟨hx, hb, hml, hown, hts, hr, hlks, hRm, hKK, hA, hE, hmc, hnm⟩ := h
  unfold o_newa at hT
  split at hT
  · rename_i x st
    obtain ⟨hxn, ⟨v1, v2, v3⟩, c1, c2, hT⟩ := hT
    subst hxn
    have hcap1 : cap.1 ≤ nz.1 + rm.cells := hcap.1
    have hcap2 : cap.2 ≤ nz.2 + rm.slots := hcap.2
    subst hRm
    intro ad H locs ls hl hP hD hS h1 h2 h3
    refine va_newa (atype := .int) (ty := .int) (N' := n) (a0 := (n, .inl (fun _ => 0))) hx hb (hts _ hac) rfl hKK hP hD hS hA (fun _ => rfl) (nI_pos (by omega)) (nI_clamp (by omega)) (by simp only [componentBytes]; omega) (by omega) (by omega) hd (fun q cA H1 hK1 hP1 hD1 hS1 => ?_)
    have ecA : cA = cs.1 := by
      have f1 : va_RA s cA .int := (hK1.2 3 (cA, .int) rfl).2
      have f2 : va_RA s cs.1 .int := (hKK.2 0 (cs.1, .int) rfl).2
      exact Option.some.inj (f1.symm.trans f2)
    subst ecA
    have ha : ∀ k : Nat, k < sh.length → (fun k => if k = sh.length then q else ad k) k = ad k := fun k hk => if_neg (Nat.ne_of_lt hk)
    have e1 := q_ws_new (cs := cs) (ad := ad) (sA := sA) (m := m) (c := .inr (.inl (0, n))) (q := q) v1 rfl
    have hP1 : va_P D vwCl (q_ws cs ad sA sh m ++ [(q, q_ce cs ad sA (.inr (.inl (0, n))) (fun _ => 0))]) H1 := hP1
    have hD1 : va_D A (q_ws cs ad sA sh m ++ [(q, q_ce cs ad sA (.inr (.inl (0, n))) (fun _ => 0))]) := hD1
    rw [← e1] at hP1 hD1
    have := ht _ _ _ _ _ _ hT hK hR _ H1 locs ls (q_lh_eq ha v3 hl) hP1 hD1 hS1 ⟨fun k hk => (ha k (by omega)).trans (h1.1 k hk), fun e => by omega⟩ (by simp; omega) (by rw [q_sl_app]; simp only [q_sz]; omega)
    rw [List.map_cons, q_st_eq ha v2, List.length_append, q_sl_app, show sh.length + [(Sum.inr (Sum.inl (0, n)) : q_SC)].length - nz.1 = sh.length - nz.1 + 1 by simp; omega, show q_sl sh + q_sz (.inr (.inl (0, n))) - nz.2 = q_sl sh - nz.2 + n by simp only [q_sz]; omega] at this
    simpa [q_cv] using this
  · exact hT.elim
theorem k_newz {X : q_CX} {y : MethodName} {cc : ByteArray} {nL : Nat} {ret : Option FieldType} {rm : Room} {Ts : List Cond} (h : q_OK X y cc nL ret rm Ts) {pc : Nat} {t : q_TT} {cap : Nat × Nat} (hcap : q_cap X rm cap) {n : Nat} (hn : n ≤ 100000) (hac : Cond.arrayClass .boolean ∈ Ts) (hd : decode cc pc = .ok (.newarray .boolean, 2)) (ht : q_SK X nL (pc + 2) t) : q_SK X nL pc (o_newa 1 n cap t) := by
  intro L st sh m K R hT hK hR
  obtain ⟨p, l, e, Rm, s, mi, args, below, meth, c, D, cs, ad0, sA, sV, A, nz, mcs, Qc, Q⟩ := X
  obtain ⟨hx, hb, hml, hown, hts, hr, hlks, hRm, hKK, hA, hE, hmc, hnm⟩ := h
  unfold o_newa at hT
  split at hT
  · rename_i x st
    obtain ⟨hxn, ⟨v1, v2, v3⟩, c1, c2, hT⟩ := hT
    subst hxn
    have hcap1 : cap.1 ≤ nz.1 + rm.cells := hcap.1
    have hcap2 : cap.2 ≤ nz.2 + rm.slots := hcap.2
    subst hRm
    intro ad H locs ls hl hP hD hS h1 h2 h3
    refine va_newa (atype := .boolean) (ty := .boolean) (N' := n) (a0 := (n, .inl (fun _ => 0))) hx hb (hts _ hac) rfl hKK hP hD hS hA (fun _ => rfl) (nI_pos (by omega)) (nI_clamp (by omega)) (by simp only [componentBytes]; omega) (by omega) (by omega) hd (fun q cA H1 hK1 hP1 hD1 hS1 => ?_)
    have ecA : cA = cs.2.1 := by
      have f1 : va_RA s cA .boolean := (hK1.2 3 (cA, .boolean) rfl).2
      have f2 : va_RA s cs.2.1 .boolean := (hKK.2 1 (cs.2.1, .boolean) rfl).2
      exact Option.some.inj (f1.symm.trans f2)
    subst ecA
    have ha : ∀ k : Nat, k < sh.length → (fun k => if k = sh.length then q else ad k) k = ad k := fun k hk => if_neg (Nat.ne_of_lt hk)
    have e1 := q_ws_new (cs := cs) (ad := ad) (sA := sA) (m := m) (c := .inr (.inl (1, n))) (q := q) v1 rfl
    have hP1 : va_P D vwCl (q_ws cs ad sA sh m ++ [(q, q_ce cs ad sA (.inr (.inl (1, n))) (fun _ => 0))]) H1 := hP1
    have hD1 : va_D A (q_ws cs ad sA sh m ++ [(q, q_ce cs ad sA (.inr (.inl (1, n))) (fun _ => 0))]) := hD1
    rw [← e1] at hP1 hD1
    have := ht _ _ _ _ _ _ hT hK hR _ H1 locs ls (q_lh_eq ha v3 hl) hP1 hD1 hS1 ⟨fun k hk => (ha k (by omega)).trans (h1.1 k hk), fun e => by omega⟩ (by simp; omega) (by rw [q_sl_app]; simp only [q_sz]; omega)
    rw [List.map_cons, q_st_eq ha v2, List.length_append, q_sl_app, show sh.length + [(Sum.inr (Sum.inl (1, n)) : q_SC)].length - nz.1 = sh.length - nz.1 + 1 by simp; omega, show q_sl sh + q_sz (.inr (.inl (1, n))) - nz.2 = q_sl sh - nz.2 + n by simp only [q_sz]; omega] at this
    simpa [q_cv] using this
  · exact hT.elim
def o_newq (n : Nat) (cap : Nat × Nat) (t : q_TT) : q_TT := fun L st sh m K R => match st with
  | .int x :: st => x = nI n ∧ q_val L st sh ∧ sh.length + 1 ≤ cap.1 ∧ q_sl sh + n ≤ cap.2 ∧ t L (.ref sh.length :: st) (sh ++ [.inr (.inr (List.replicate n none))]) (q_zr m sh.length) K R
  | _ => False
theorem k_newq {X : q_CX} {y : MethodName} {cc : ByteArray} {nL : Nat} {ret : Option FieldType} {rm : Room} {Ts : List Cond} (h : q_OK X y cc nL ret rm Ts) {pc : Nat} {t : q_TT} {cap : Nat × Nat} (hcap : q_cap X rm cap) {n idx : Nat} (hn : n ≤ 100000) (hlk : Cond.classLink y.cls idx RX1 ∈ Ts) (hd : decode cc pc = .ok (.anewarray idx, 3)) (ht : q_SK X nL (pc + 3) t) : q_SK X nL pc (o_newq n cap t) := by
  intro L st sh m K R hT hK hR
  obtain ⟨p, l, e, Rm, s, mi, args, below, meth, c, D, cs, ad0, sA, sV, A, nz, mcs, Qc, Q⟩ := X
  obtain ⟨hx, hb, hml, hown, hts, hr, hlks, hRm, hKK, hA, hE, hmc, hnm⟩ := h
  unfold o_newq at hT
  split at hT
  · rename_i x st
    obtain ⟨hxn, ⟨v1, v2, v3⟩, c1, c2, hT⟩ := hT
    subst hxn
    have hcap1 : cap.1 ≤ nz.1 + rm.cells := hcap.1
    have hcap2 : cap.2 ≤ nz.2 + rm.slots := hcap.2
    subst hRm
    intro ad H locs ls hl hP hD hS h1 h2 h3
    refine va_newq (N' := n) hx hb hown (hts _ hlk) hE.2.2.2.1 hKK hP hD hS hA (nI_pos (by omega)) (nI_clamp (by omega)) (by omega) (by omega) (by omega) hd (fun q cA H1 hK1 hP1 hD1 hS1 => ?_)
    have ecA : cA = cs.2.2 := by
      obtain ⟨_, _, _, _, _, f1⟩ : va_RA s cA (.object RX1) := (hK1.2 3 (cA, .object RX1) rfl).2
      obtain ⟨_, _, _, _, _, f2⟩ : va_RA s cs.2.2 (.object RX1) := (hKK.2 2 (cs.2.2, .object RX1) rfl).2
      exact Option.some.inj (f1.symm.trans f2)
    subst ecA
    have ha : ∀ k : Nat, k < sh.length → (fun k => if k = sh.length then q else ad k) k = ad k := fun k hk => if_neg (Nat.ne_of_lt hk)
    have e1 := q_ws_new (cs := cs) (ad := ad) (sA := sA) (m := m) (c := .inr (.inr (List.replicate n none))) (q := q) v1 (by simp [q_vsc, q_vn])
    have e2 : q_ce cs ad sA (.inr (.inr (List.replicate n none))) (fun _ => 0) = .inl (cs.2.2, n, .inr (.inr (.inr (.inr (fun _ => none))))) := by
      simp only [q_ce, List.length_replicate]
      have : (fun j => ((List.replicate n (none : Option Nat)).getD j none).map ad) = fun _ => none := by
        funext j
        rw [List.getD_eq_getElem?_getD, List.getElem?_replicate]
        split <;> rfl
      rw [this]
    rw [e2] at e1
    rw [← e1] at hP1 hD1
    have := ht _ _ _ _ _ _ hT hK hR _ H1 locs ls (q_lh_eq ha v3 hl) hP1 hD1 hS1 ⟨fun k hk => (ha k (by omega)).trans (h1.1 k hk), fun e => by omega⟩ (by simp; omega) (by rw [q_sl_app]; simp only [q_sz, List.length_replicate]; omega)
    rw [List.map_cons, q_st_eq ha v2, List.length_append, q_sl_app, show sh.length + [(Sum.inr (Sum.inr (List.replicate n none)) : q_SC)].length - nz.1 = sh.length - nz.1 + 1 by simp; omega, show q_sl sh + q_sz (.inr (.inr (List.replicate n none))) - nz.2 = q_sl sh - nz.2 + n by simp only [q_sz, List.length_replicate]; omega] at this
    simpa [q_cv] using this
  · exact hT.elim
/-- Object's constructor -/
def o_obj (t : q_TT) : q_TT := fun L st sh m K R => match st with
  | .ref _ :: st => (st.map fun v => v.category).sum ≤ 8 ∧ t L st sh m K R
  | _ => False
theorem k_obj {X : q_CX} {y : MethodName} {cc : ByteArray} {nL : Nat} {ret : Option FieldType} {rm : Room} {Ts : List Cond} (h : q_OK X y cc nL ret rm Ts) {pc : Nat} {t : q_TT} {idx : Nat} (hlk : Cond.methodLink y.cls idx objectInit ∈ Ts) (hin : Cond.instanceMethod objectInit ∈ Ts) (hcd : Cond.code objectInit ⟨#[0xb1]⟩ 1 none ∈ Ts) (hf : 1 ≤ rm.frames) (hlo : 20 ≤ rm.locals) (hd : decode cc pc = .ok (.invokespecial idx, 3)) (ht : q_SK X nL (pc + 3) t) : q_SK X nL pc (o_obj t) := by
  intro L st sh m K R hT hK hR
  obtain ⟨p, l, e, Rm, s, mi, args, below, meth, c, D, cs, ad0, sA, sV, A, nz, mcs, Qc, Q⟩ := X
  obtain ⟨hx, hb, hml, hown, hts, hr, hlks, hRm, hKK, hA, hE, hmc, hnm⟩ := h
  unfold o_obj at hT
  split at hT
  · rename_i k st
    intro ad H locs ls hl hP hD hS h1 h2 h3
    subst hRm
    have hcat : ((st.map (q_cv ad sA)).map fun v => v.category).sum ≤ 8 := by
      rw [List.map_map, show ((fun v : Value => v.category) ∘ q_cv ad sA) = fun v => v.category from funext fun v => q_cv_cat v]
      exact hT.1
    refine W.objInit hx hb hown (hts _ hlk) (hts _ hin) (hts _ hcd) (g := F0 mi pc ls (.ref (ad k) :: st.map (q_cv ad sA))) rfl (by rw [hml]; exact hl.2.1) rfl hd hf (by show 2 * 0 + _ + 12 ≤ _; omega) ?_
    exact ht _ _ _ _ _ _ hT.2 hK hR ad H locs ls hl hP hD hS h1 h2 h3
  · exact hT.elim
def o_mmax (t : q_TT) : q_TT := fun L st sh m K R => match st with
  | .int y :: .int x :: st => (st.map fun v => v.category).sum ≤ 8 ∧ t L (.int (if x < y then y else x) :: st) sh m K R
  | _ => False
theorem k_mmax {X : q_CX} {y : MethodName} {cc : ByteArray} {nL : Nat} {ret : Option FieldType} {rm : Room} {Ts : List Cond} (h : q_OK X y cc nL ret rm Ts) {pc : Nat} {t : q_TT} {idx : Nat} (hlk : Cond.methodLink y.cls idx Lib.Math.max.name ∈ Ts) (hst9 : Cond.static Lib.Math.max.name ∈ Ts) (hini : Cond.initialized "java/lang/Math" ∈ Ts) (hcd : Cond.code Lib.Math.max.name Lib.Math.max.code 2 (some .int) ∈ Ts) (hf : 1 ≤ rm.frames) (hlo : 21 ≤ rm.locals) (hd : decode cc pc = .ok (.invokestatic idx, 3)) (ht : q_SK X nL (pc + 3) t) : q_SK X nL pc (o_mmax t) := by
  intro L st sh m K R hT hK hR
  obtain ⟨p, l, e, Rm, s, mi, args, below, meth, c, D, cs, ad0, sA, sV, A, nz, mcs, Qc, Q⟩ := X
  obtain ⟨hx, hb, hml, hown, hts, hr, hlks, hRm, hKK, hA, hE, hmc, hnm⟩ := h
  unfold o_mmax at hT
  split at hT
  · rename_i y2 x st
    intro ad H locs ls hl hP hD hS h1 h2 h3
    subst hRm
    have hcat : ((st.map (q_cv ad sA)).map fun v => v.category).sum ≤ 8 := by
      rw [List.map_map, show ((fun v : Value => v.category) ∘ q_cv ad sA) = fun v => v.category from funext fun v => q_cv_cat v]
      exact hT.1
    exact va_mmax hx hb (by rw [hml]; exact hl.2.1.symm) hown (hts _ hlk) (hts _ hst9) (hts _ hini) (hts _ hcd) hf (by omega) (by omega) (by omega) hd (ht _ _ _ _ _ _ hT.2 hK hR ad H locs ls hl hP hD hS h1 h2 h3)
  · exact hT.elim
def o_mmin (t : q_TT) : q_TT := fun L st sh m K R => match st with
  | .int y :: .int x :: st => (st.map fun v => v.category).sum ≤ 8 ∧ t L (.int (if y < x then y else x) :: st) sh m K R
  | _ => False
theorem k_mmin {X : q_CX} {y : MethodName} {cc : ByteArray} {nL : Nat} {ret : Option FieldType} {rm : Room} {Ts : List Cond} (h : q_OK X y cc nL ret rm Ts) {pc : Nat} {t : q_TT} {idx : Nat} (hlk : Cond.methodLink y.cls idx Lib.Math.min.name ∈ Ts) (hst9 : Cond.static Lib.Math.min.name ∈ Ts) (hini : Cond.initialized "java/lang/Math" ∈ Ts) (hcd : Cond.code Lib.Math.min.name Lib.Math.min.code 2 (some .int) ∈ Ts) (hf : 1 ≤ rm.frames) (hlo : 21 ≤ rm.locals) (hd : decode cc pc = .ok (.invokestatic idx, 3)) (ht : q_SK X nL (pc + 3) t) : q_SK X nL pc (o_mmin t) := by
  intro L st sh m K R hT hK hR
  obtain ⟨p, l, e, Rm, s, mi, args, below, meth, c, D, cs, ad0, sA, sV, A, nz, mcs, Qc, Q⟩ := X
  obtain ⟨hx, hb, hml, hown, hts, hr, hlks, hRm, hKK, hA, hE, hmc, hnm⟩ := h
  unfold o_mmin at hT
  split at hT
  · rename_i y2 x st
    intro ad H locs ls hl hP hD hS h1 h2 h3
    subst hRm
    have hcat : ((st.map (q_cv ad sA)).map fun v => v.category).sum ≤ 8 := by
      rw [List.map_map, show ((fun v : Value => v.category) ∘ q_cv ad sA) = fun v => v.category from funext fun v => q_cv_cat v]
      exact hT.1
    exact va_mmin hx hb (by rw [hml]; exact hl.2.1.symm) hown (hts _ hlk) (hts _ hst9) (hts _ hini) (hts _ hcd) hf (by omega) (by omega) (by omega) hd (ht _ _ _ _ _ _ hT.2 hK hR ad H locs ls hl hP hD hS h1 h2 h3)
  · exact hT.elim
def q_cat (st : List Value) : Prop := (st.map fun v => v.category).sum ≤ 8
def q_cls (sh : q_Sh) (ci : Nat) : Value → Prop
  | .ref b => match sh[b]? with
    | some (.inl (c, _)) => c = ci
    | _ => False
  | _ => False
theorem q_cls_get {sh : q_Sh} {ci : Nat} {v : Value} (h : q_cls sh ci v) : ∃ b fs, v = .ref b ∧ sh[b]? = some (.inl (ci, fs)) := by
  unfold q_cls at h
  split at h
  · split at h
    · subst h; exact ⟨_, _, rfl, by assumption⟩
    · exact h.elim
  · exact h.elim
/-- n arguments off the stack, the callee's transformer, its answer on the rest -/
def o_call (n : Nat) (wp : q_WT) (t : q_TT) : q_TT := fun L st sh m K R => n ≤ st.length ∧ q_cat (st.drop n) ∧ wp (st.take n).reverse sh m (fun v sh' m' => t L (v.toList ++ st.drop n) sh' m' K R)
def o_callV (ci n : Nat) (wp : q_WT) (t : q_TT) : q_TT := fun L st sh m K R => n < st.length ∧ q_cls sh ci (st.getD n .null) ∧ q_cat (st.drop (n + 1)) ∧ wp (st.take (n + 1)).reverse sh m (fun v sh' m' => t L (v.toList ++ st.drop (n + 1)) sh' m' K R)
def o_callI (ci n : Nat) (rc : Nat × Nat) (cap : Nat × Nat) (wp : q_WT) (t : q_TT) : q_TT := fun L st sh m K R => n < st.length ∧ q_val L st sh ∧ q_cls sh ci (st.getD n .null) ∧ q_cat (st.drop (n + 1)) ∧ sh.length + rc.1 ≤ cap.1 ∧ q_sl sh + rc.2 ≤ cap.2 ∧ wp (st.take (n + 1)).reverse sh m (fun v sh' m' => t L (v.toList ++ st.drop (n + 1)) sh' m' K R)
theorem q_after {p : Program} {l : Launch} {e : Env} {Rm : Room} {s : State} {mi : MethodId} {args : Array Value} {below : List Frame} {meth : Method} {c : Code} {D : va_G} {cs : ClassId × ClassId × ClassId} {ad0 sA sV : Nat → Nat} {A : Nat → Prop} {nz mcs : Nat × Nat} {Qc : Array Value → State → Outcome → State → Prop} {Q : State → Prop} {nL pc : Nat} {L : q_Lo} {st0 : List Value} {st' : List Value} {sh : q_Sh} {m : q_Mm} {rm' : Room} {Rr : q_KR} {av : Array Value} {ad : Nat → Nat} {H : Heap} {locs : List Loc} {ls : Array Slot}
    (hrun : va_Run p l e Rm s mi args below meth c H locs (sh.length - nz.1) (q_sl sh - nz.2) rm'.cells rm'.slots (F0 mi pc ls st0) (st'.map (q_cv ad sA)) (q_QQ D cs ad sA H.size sh m rm' Rr av) (va_A (q_ws cs ad sA sh m) H.size))
    (hl : q_lh ad sA L ls nL) (hD : va_D A (q_ws cs ad sA sh m)) (hS : va_S A s.heap H locs) (h1 : (∀ k : Nat, k < nz.1 → ad k = ad0 k) ∧ (mcs.1 = 0 → ad = ad0)) (h2 : nz.1 ≤ sh.length ∧ sh.length ≤ nz.1 + Rm.cells) (h3 : nz.2 ≤ q_sl sh ∧ q_sl sh ≤ nz.2 + Rm.slots) (hA : ∀ q : Nat, s.heap.size ≤ q → A q)
    (hc1 : sh.length + rm'.cells ≤ nz.1 + Rm.cells) (hc2 : q_sl sh + rm'.slots ≤ nz.2 + Rm.slots) (hmc : mcs.1 = Rm.cells) (hval : rm'.cells = 0 ∨ (st'.all (q_vv sh.length) = true ∧ L.all (q_vo sh.length) = true))
    (kk : ∀ v sh' m', Rr v sh' m' → q_AW (p, l, e, Rm, s, mi, args, below, meth, c, D, cs, ad0, sA, sV, A, nz, mcs, Qc, Q) nL (pc + 3) L (v.toList ++ st') sh' m') : W p l e Rm s mi args below meth c H locs (sh.length - nz.1) (q_sl sh - nz.2) Q (F0 mi pc ls st0) := by
  intro T hT Xs
  obtain ⟨v, st₀, t, T', Ls, h0, X', hLs, e1, e2, ⟨⟨w, sh', m', ad', ev, hRr, z1, z2, hP', hD', ha', hz'⟩, hF⟩, hst⟩ := hrun T hT Xs
  cases ev
  rw [← e1] at hP'
  have hAA : ∀ q, va_A (q_ws cs ad sA sh m) H.size q → A q := fun q hq => by
    rcases hq with ⟨k, x, hx⟩ | hq
    · exact hD.2 k _ hx
    · exact hA q (Nat.le_trans hS.1 hq)
  have hD2 : va_D A (q_ws cs ad' sA sh' m') := hD'.weaken (fun _ q _ hq => hAA q.1 hq)
  have hS2 : va_S A s.heap T'.heap (locs ++ Ls) := by
    have hF' : va_F (va_A (q_ws cs ad sA sh m) H.size) st₀ t := hF
    unfold va_F at hF'
    rw [h0, ← e1] at hF'
    refine ⟨Nat.le_trans hS.1 hF'.1, fun q g1 g2 => ?_, fun q hq => ?_⟩
    · exact (hF'.2 q (Nat.lt_of_lt_of_le g1 hS.1) (fun z => g2 (hAA q z))).trans (hS.2.1 q g1 g2)
    · rcases List.mem_append.mp hq with g | g
      · exact hS.2.2 q g
      · exact hAA _ (hLs q g)
  have hmap : st'.map (q_cv ad' sA) = st'.map (q_cv ad sA) := by
    rcases hval with g | g
    · rw [hz' g]
    · exact q_st_eq ha' g.1
  have hl2 : q_lh ad' sA L ls nL := by
    rcases hval with g | g
    · rw [hz' g]; exact hl
    · exact q_lh_eq ha' g.2 hl
  have hk := kk w sh' m' hRr ad' T'.heap (locs ++ Ls) ls hl2 hP' hD2 hS2 ⟨fun k hk => (ha' k (by omega)).trans (h1.1 k hk), fun g => by rw [hz' (by omega), h1.2 g]⟩ (by omega) (by omega)
  rw [show sh'.length - nz.1 = sh.length - nz.1 + rm'.cells by omega, show q_sl sh' - nz.2 = q_sl sh - nz.2 + rm'.slots by omega] at hk
  obtain ⟨t2, a1, b1⟩ := hk T' rfl X'
  refine ⟨t2, hst t2 ?_, b1⟩
  have ew : (Option.map (q_cv ad' sA) w).toList ++ st'.map (q_cv ad sA) = (w.toList ++ st').map (q_cv ad' sA) := by
    rw [List.map_append, hmap]
    cases w <;> rfl
  rw [ew]
  exact a1
theorem k_callV {X : q_CX} {y : MethodName} {cc : ByteArray} {nL : Nat} {ret : Option FieldType} {rm : Room} {Ts : List Cond} (h : q_OK X y cc nL ret rm Ts) {pc : Nat} {t : q_TT} {wp : q_WT} {l' : Launch} (hl' : X.2.1 = l') {y' : MethodName} {cc' : ByteArray} {nL' : Nat} {ret' : Option FieldType} {rm' : Room} {ws' : List Cond} (hcon : ∀ as sh m Rr, wp as sh m Rr → q_AM l' y' (Cond.code y' cc' nL' ret' :: ws') rm' as sh m Rr) {ci : Nat} {C : String} {T : u_T} {N : Nat} (hC : vwCl[ci]? = some (C, T, N)) (hno : rm'.cells = 0 ∧ rm'.slots = 0) {n idx : Nat} (hy9 : y'.cls = C ∧ y'.cls ≠ "java/lang/invoke/MethodHandle" ∧ y'.cls ≠ "java/lang/invoke/VarHandle" ∧ (parseMethodDescriptor y'.desc).map (fun d => d.parameters.length) = some n) (hG : GoodIn Ts (wsV y.cls idx C y' (Cond.code y' cc' nL' ret' :: ws'))) (hR9 : rm'.frames + 1 ≤ rm.frames ∧ 8 + (nL' + 11) + rm'.locals ≤ rm.locals) (hd : decode cc pc = .ok (.invokevirtual idx, 3)) (ht : q_SK X nL (pc + 3) t) : q_SK X nL pc (o_callV ci n wp t) := by
  intro L st sh m K R hT hK hR
  obtain ⟨p, l, e, Rm, s, mi, args, below, meth, c, D, cs, ad0, sA, sV, A, nz, mcs, Qc, Q⟩ := X
  obtain ⟨hx, hb, hml, hown, hts, hr, hlks, hRm, hKK, hA, hE, hmc, hnm⟩ := h
  obtain ⟨hnl, hcl, hcat, hwp⟩ := hT
  have hl9 : l = l' := hl'
  subst hl9
  obtain ⟨b, fs, hb9, hsb⟩ := q_cls_get hcl
  obtain ⟨As, rest, hAs, hst9⟩ : ∃ As rest : List Value, As.length = n ∧ st = As.reverse ++ Value.ref b :: rest := by
    refine ⟨(st.take n).reverse, st.drop (n + 1), by simp; omega, ?_⟩
    rw [List.reverse_reverse]
    have g1 : st[n]? = some (.ref b) := by
      rw [List.getD_eq_getElem?_getD, List.getElem?_eq_getElem hnl] at hb9
      rw [List.getElem?_eq_getElem hnl]; simpa using hb9
    have g2 : st.drop n = .ref b :: st.drop (n + 1) := by
      rw [List.drop_eq_getElem_cons hnl]
      rw [List.getElem?_eq_getElem hnl] at g1
      rw [Option.some.inj g1]
    rw [← g2, List.take_append_drop]
  have e1 : (st.take (n + 1)).reverse = .ref b :: As := by
    rw [hst9]
    rw [show n + 1 = (As.reverse ++ [Value.ref b]).length by simp [hAs], show As.reverse ++ Value.ref b :: rest = (As.reverse ++ [Value.ref b]) ++ rest by simp, List.take_left']
    · simp
    · rfl
  have e2 : st.drop (n + 1) = rest := by
    rw [hst9]
    rw [show n + 1 = (As.reverse ++ [Value.ref b]).length by simp [hAs], show As.reverse ++ Value.ref b :: rest = (As.reverse ++ [Value.ref b]) ++ rest by simp, List.drop_left']
    rfl
  rw [e1, e2] at hwp
  rw [e2] at hcat
  subst hRm
  intro ad H locs ls hl hP hD hS h1 h2 h3
  have hcat : ((rest.map (q_cv ad sA)).map fun v => v.category).sum ≤ 8 := by
    rw [List.map_map, show ((fun v : Value => v.category) ∘ q_cv ad sA) = fun v => v.category from funext fun v => q_cv_cat v]
    exact hcat
  exact q_after (va_runV (As := As.map (q_cv ad sA)) (rest := rest.map (q_cv ad sA)) (g := F0 mi pc ls (st.map (q_cv ad sA))) ⟨hx, hb, hml, hown, hts⟩ (hcon _ _ _ _ hwp D cs ad sA sV H.size) (cwV n hts hG rfl rfl rfl hy9 hR9) ⟨q_Pre.blind, va_recv hKK hP hC (q_ws_get (cs := cs) (ad := ad) (sA := sA) (m := m) hsb), fun U hU hW => ⟨rfl, by rw [hU], by rw [hU]; exact hP, va_K.moved hW.alike hKK, hD.weaken (fun _ _ _ _ => trivial), by rw [hU]; exact hE.warm hW hS.2.1 (fun q hq => by rcases hq with ⟨k9, x9, hx9⟩ | hq; exact hD.2 k9 _ hx9; exact hA q (Nat.le_trans hS.1 hq))⟩⟩ rfl (by rw [List.length_map]; exact hAs) hl.2.1 (by show List.map _ st = _; rw [hst9]; simp [q_cv]) (lv_room hcat) hd ⟨by rw [hno.1]; omega, by rw [hno.2]; omega⟩) hl hD hS h1 h2 h3 hA (by rw [hno.1]; omega) (by rw [hno.2]; omega) hmc (Or.inl hno.1) (fun v sh' m' hRr => ht _ _ _ _ _ _ hRr hK hR)
theorem q_cwS {R : Room} {s : State} {args : Array Value} {own : String} {index : Nat} {y : MethodName} {bytes : ByteArray} {maxL : Nat} {ret : Option FieldType} {Ts ws' : List Cond} {rm : Room} (n : Nat) (ht : ∀ w ∈ Ts, w.before args s = true) (hT : GoodIn Ts (va_wsS own index y (Cond.code y bytes maxL ret :: ws')))
    (hd : y.cls ≠ "java/lang/invoke/MethodHandle" ∧ y.cls ≠ "java/lang/invoke/VarHandle" ∧ (parseMethodDescriptor y.desc).map (fun d => d.parameters.length) = some n) (hR : rm.frames + 1 ≤ R.frames ∧ 8 + (maxL + 11) + rm.locals ≤ R.locals) :
    CallB R s args own index y bytes maxL ret (Cond.code y bytes maxL ret :: ws') rm rm.cells rm.slots n ∧ (Cond.static y).before args s = true :=
  ⟨callB_of n ht (fun w hw => hT w (List.mem_append_right _ hw)) rfl rfl rfl (ht _ (hT _ (List.mem_append_left _ (by simp))).1) (ht _ (hT _ (List.mem_append_left _ (by simp))).1) hd hR, ht _ (hT _ (List.mem_append_left _ (by simp))).1⟩
theorem k_callS {X : q_CX} {y : MethodName} {cc : ByteArray} {nL : Nat} {ret : Option FieldType} {rm : Room} {Ts : List Cond} (h : q_OK X y cc nL ret rm Ts) {pc : Nat} {t : q_TT} {wp : q_WT} {l' : Launch} (hl' : X.2.1 = l') {y' : MethodName} {cc' : ByteArray} {nL' : Nat} {ret' : Option FieldType} {rm' : Room} {ws' : List Cond} (hcon : ∀ as sh m Rr, wp as sh m Rr → q_AM l' y' (Cond.code y' cc' nL' ret' :: ws') rm' as sh m Rr) (hno : rm'.cells = 0 ∧ rm'.slots = 0) {n idx : Nat} (hy9 : y'.cls ≠ "java/lang/invoke/MethodHandle" ∧ y'.cls ≠ "java/lang/invoke/VarHandle" ∧ (parseMethodDescriptor y'.desc).map (fun d => d.parameters.length) = some n) (hG : GoodIn Ts (va_wsS y.cls idx y' (Cond.code y' cc' nL' ret' :: ws'))) (hR9 : rm'.frames + 1 ≤ rm.frames ∧ 8 + (nL' + 11) + rm'.locals ≤ rm.locals) (hd : decode cc pc = .ok (.invokestatic idx, 3)) (ht : q_SK X nL (pc + 3) t) : q_SK X nL pc (o_call n wp t) := by
  intro L st sh m K R hT hK hR
  obtain ⟨p, l, e, Rm, s, mi, args, below, meth, c, D, cs, ad0, sA, sV, A, nz, mcs, Qc, Q⟩ := X
  obtain ⟨hx, hb, hml, hown, hts, hr, hlks, hRm, hKK, hA, hE, hmc, hnm⟩ := h
  obtain ⟨hnl, hcat, hwp⟩ := hT
  have hl9 : l = l' := hl'
  subst hl9
  obtain ⟨As, rest, hAs, hst9⟩ : ∃ As rest : List Value, As.length = n ∧ st = As.reverse ++ rest := ⟨(st.take n).reverse, st.drop n, by simp; omega, by simp⟩
  have e1 : (st.take n).reverse = As := by
    rw [hst9, show n = As.reverse.length by simp [hAs], List.take_left']
    · simp
    · rfl
  have e2 : st.drop n = rest := by
    rw [hst9, show n = As.reverse.length by simp [hAs], List.drop_left']
    rfl
  rw [e1, e2] at hwp
  rw [e2] at hcat
  subst hRm
  intro ad H locs ls hl hP hD hS h1 h2 h3
  have hcat : ((rest.map (q_cv ad sA)).map fun v => v.category).sum ≤ 8 := by
    rw [List.map_map, show ((fun v : Value => v.category) ∘ q_cv ad sA) = fun v => v.category from funext fun v => q_cv_cat v]
    exact hcat
  exact q_after (va_runS (As := As.map (q_cv ad sA)) (rest := rest.map (q_cv ad sA)) (g := F0 mi pc ls (st.map (q_cv ad sA))) ⟨hx, hb, hml, hown, hts⟩ (hcon _ _ _ _ hwp D cs ad sA sV H.size) (q_cwS n hts hG hy9 hR9) ⟨q_Pre.blind, fun U hU hW => ⟨rfl, by rw [hU], by rw [hU]; exact hP, va_K.moved hW.alike hKK, hD.weaken (fun _ _ _ _ => trivial), by rw [hU]; exact hE.warm hW hS.2.1 (fun q hq => by rcases hq with ⟨k9, x9, hx9⟩ | hq; exact hD.2 k9 _ hx9; exact hA q (Nat.le_trans hS.1 hq))⟩⟩ rfl (by rw [List.length_map]; exact hAs) hl.2.1 (by show List.map _ st = _; rw [hst9]; simp [q_cv]) (lv_room hcat) hd ⟨by rw [hno.1]; omega, by rw [hno.2]; omega⟩) hl hD hS h1 h2 h3 hA (by rw [hno.1]; omega) (by rw [hno.2]; omega) hmc (Or.inl hno.1) (fun v sh' m' hRr => ht _ _ _ _ _ _ hRr hK hR)
theorem k_callN {X : q_CX} {y : MethodName} {cc : ByteArray} {nL : Nat} {ret : Option FieldType} {rm : Room} {Ts : List Cond} (h : q_OK X y cc nL ret rm Ts) {pc : Nat} {t : q_TT} {wp : q_WT} {l' : Launch} (hl' : X.2.1 = l') {y' : MethodName} {cc' : ByteArray} {nL' : Nat} {ret' : Option FieldType} {rm' : Room} {ws' : List Cond} (hcon : ∀ as sh m Rr, wp as sh m Rr → q_AM l' y' (Cond.code y' cc' nL' ret' :: ws') rm' as sh m Rr) (hno : rm'.cells = 0 ∧ rm'.slots = 0) {n idx : Nat} (hy9 : y'.cls ≠ "java/lang/invoke/MethodHandle" ∧ y'.cls ≠ "java/lang/invoke/VarHandle" ∧ (parseMethodDescriptor y'.desc).map (fun d => d.parameters.length) = some n) (hG : GoodIn Ts (Cond.code y' cc' nL' ret' :: ws')) (hnest : (y.cls, idx, y') ∈ q_nest) (hini : Cond.initialized y'.cls ∈ Ts) (hstt : Cond.static y' ∈ Ts) (hR9 : rm'.frames + 1 ≤ rm.frames ∧ 8 + (nL' + 11) + rm'.locals ≤ rm.locals) (hd : decode cc pc = .ok (.invokestatic idx, 3)) (ht : q_SK X nL (pc + 3) t) : q_SK X nL pc (o_call n wp t) := by
  intro L st sh m K R hT hK hR
  obtain ⟨p, l, e, Rm, s, mi, args, below, meth, c, D, cs, ad0, sA, sV, A, nz, mcs, Qc, Q⟩ := X
  obtain ⟨hx, hb, hml, hown, hts, hr, hlks, hRm, hKK, hA, hE, hmc, hnm⟩ := h
  obtain ⟨hnl, hcat, hwp⟩ := hT
  have hl9 : l = l' := hl'
  subst hl9
  obtain ⟨As, rest, hAs, hst9⟩ : ∃ As rest : List Value, As.length = n ∧ st = As.reverse ++ rest := ⟨(st.take n).reverse, st.drop n, by simp; omega, by simp⟩
  have e1 : (st.take n).reverse = As := by
    rw [hst9, show n = As.reverse.length by simp [hAs], List.take_left']
    · simp
    · rfl
  have e2 : st.drop n = rest := by
    rw [hst9, show n = As.reverse.length by simp [hAs], List.drop_left']
    rfl
  rw [e1, e2] at hwp
  rw [e2] at hcat
  subst hRm
  intro ad H locs ls hl hP hD hS h1 h2 h3
  have hcat : ((rest.map (q_cv ad sA)).map fun v => v.category).sum ≤ 8 := by
    rw [List.map_map, show ((fun v : Value => v.category) ∘ q_cv ad sA) = fun v => v.category from funext fun v => q_cv_cat v]
    exact hcat
  exact q_after (va_runSN (As := As.map (q_cv ad sA)) (rest := rest.map (q_cv ad sA)) (g := F0 mi pc ls (st.map (q_cv ad sA))) ⟨hx, hb, hml, hown, hts⟩ (hcon _ _ _ _ hwp D cs ad sA sV H.size) ⟨va_cnB (host := RX8) n hts hG rfl rfl rfl (hE.1 _ hnest) (hts _ hini) hy9 hR9, hts _ hstt, trivial⟩ ⟨q_Pre.blind, fun U hU hW => ⟨rfl, by rw [hU], by rw [hU]; exact hP, va_K.moved hW.alike hKK, hD.weaken (fun _ _ _ _ => trivial), by rw [hU]; exact hE.warm hW hS.2.1 (fun q hq => by rcases hq with ⟨k9, x9, hx9⟩ | hq; exact hD.2 k9 _ hx9; exact hA q (Nat.le_trans hS.1 hq))⟩⟩ rfl (by rw [List.length_map]; exact hAs) hl.2.1 (by show List.map _ st = _; rw [hst9]; simp [q_cv]) (lv_room hcat) hd ⟨by rw [hno.1]; omega, by rw [hno.2]; omega⟩) hl hD hS h1 h2 h3 hA (by rw [hno.1]; omega) (by rw [hno.2]; omega) hmc (Or.inl hno.1) (fun v sh' m' hRr => ht _ _ _ _ _ _ hRr hK hR)
theorem k_callI {X : q_CX} {y : MethodName} {cc : ByteArray} {nL : Nat} {ret : Option FieldType} {rm : Room} {Ts : List Cond} (h : q_OK X y cc nL ret rm Ts) {pc : Nat} {t : q_TT} {wp : q_WT} {l' : Launch} (hl' : X.2.1 = l') {y' : MethodName} {cc' : ByteArray} {nL' : Nat} {ret' : Option FieldType} {rm' : Room} {ws' : List Cond} (hcon : ∀ as sh m Rr, wp as sh m Rr → q_AM l' y' (Cond.code y' cc' nL' ret' :: ws') rm' as sh m Rr) {ci : Nat} {C : String} {T : u_T} {N : Nat} (hC : vwCl[ci]? = some (C, T, N)) {cap : Nat × Nat} (hcap : q_cap X rm cap) {n idx : Nat} (hret : ret' = none) (hy9 : y'.cls ≠ "java/lang/invoke/MethodHandle" ∧ y'.cls ≠ "java/lang/invoke/VarHandle" ∧ (parseMethodDescriptor y'.desc).map (fun d => d.parameters.length) = some n) (hG : GoodIn Ts (Cond.code y' cc' nL' ret' :: ws')) (hlk : Cond.methodLink y.cls idx y' ∈ Ts) (hini : Cond.initialized y'.cls ∈ Ts) (hins : Cond.instanceMethod y' ∈ Ts) (hnm' : y'.name = "<init>") (hR9 : rm'.frames + 1 ≤ rm.frames ∧ 8 + (nL' + 11) + rm'.locals ≤ rm.locals) (hd : decode cc pc = .ok (.invokespecial idx, 3)) (ht : q_SK X nL (pc + 3) t) : q_SK X nL pc (o_callI ci n (rm'.cells, rm'.slots) cap wp t) := by
  intro L st sh m K R hT hK hR
  obtain ⟨p, l, e, Rm, s, mi, args, below, meth, c, D, cs, ad0, sA, sV, A, nz, mcs, Qc, Q⟩ := X
  obtain ⟨hx, hb, hml, hown, hts, hr, hlks, hRm, hKK, hA, hE, hmc, hnm⟩ := h
  obtain ⟨hnl, ⟨v1, v2, v3⟩, hcl, hcat, c1, c2, hwp⟩ := hT
  have hl9 : l = l' := hl'
  subst hl9
  subst hret
  obtain ⟨b, fs, hb9, hsb⟩ := q_cls_get hcl
  obtain ⟨As, rest, hAs, hst9⟩ : ∃ As rest : List Value, As.length = n ∧ st = As.reverse ++ Value.ref b :: rest := by
    refine ⟨(st.take n).reverse, st.drop (n + 1), by simp; omega, ?_⟩
    rw [List.reverse_reverse]
    have g1 : st[n]? = some (.ref b) := by
      rw [List.getD_eq_getElem?_getD, List.getElem?_eq_getElem hnl] at hb9
      rw [List.getElem?_eq_getElem hnl]; simpa using hb9
    have g2 : st.drop n = .ref b :: st.drop (n + 1) := by
      rw [List.drop_eq_getElem_cons hnl]
      rw [List.getElem?_eq_getElem hnl] at g1
      rw [Option.some.inj g1]
    rw [← g2, List.take_append_drop]
  have e1 : (st.take (n + 1)).reverse = .ref b :: As := by
    rw [hst9]
    rw [show n + 1 = (As.reverse ++ [Value.ref b]).length by simp [hAs], show As.reverse ++ Value.ref b :: rest = (As.reverse ++ [Value.ref b]) ++ rest by simp, List.take_left']
    · simp
    · rfl
  have e2 : st.drop (n + 1) = rest := by
    rw [hst9]
    rw [show n + 1 = (As.reverse ++ [Value.ref b]).length by simp [hAs], show As.reverse ++ Value.ref b :: rest = (As.reverse ++ [Value.ref b]) ++ rest by simp, List.drop_left']
    rfl
  rw [e1, e2] at hwp
  rw [e2] at hcat
  have v2 : rest.all (q_vv sh.length) = true := by rw [← e2]; exact List.all_eq_true.mpr (fun x hx5 => List.all_eq_true.mp v2 x (List.mem_of_mem_drop hx5))
  have hcap1 : cap.1 ≤ nz.1 + rm.cells := hcap.1
  have hcap2 : cap.2 ≤ nz.2 + rm.slots := hcap.2
  dsimp only at c1 c2
  subst hRm
  intro ad H locs ls hl hP hD hS h1 h2 h3
  have hcat : ((rest.map (q_cv ad sA)).map fun v => v.category).sum ≤ 8 := by
    rw [List.map_map, show ((fun v : Value => v.category) ∘ q_cv ad sA) = fun v => v.category from funext fun v => q_cv_cat v]
    exact hcat
  exact q_after (va_runI (As := As.map (q_cv ad sA)) (rest := rest.map (q_cv ad sA)) (g := F0 mi pc ls (st.map (q_cv ad sA))) ⟨hx, hb, hml, hown, hts⟩ (hcon _ _ _ _ hwp D cs ad sA sV H.size) (cwI n hts hG rfl rfl rfl (hts _ hini) (hts _ hlk) (hts _ hins) hnm' hy9 hR9) ⟨q_Pre.blind, fun U hU hW => ⟨rfl, by rw [hU], by rw [hU]; exact hP, va_K.moved hW.alike hKK, hD.weaken (fun _ _ _ _ => trivial), by rw [hU]; exact hE.warm hW hS.2.1 (fun q hq => by rcases hq with ⟨k9, x9, hx9⟩ | hq; exact hD.2 k9 _ hx9; exact hA q (Nat.le_trans hS.1 hq))⟩⟩ rfl (by rw [List.length_map]; exact hAs) hl.2.1 (by show List.map _ st = _; rw [hst9]; simp [q_cv]) (lv_room hcat) hd ⟨by omega, by omega⟩) hl hD hS h1 h2 h3 hA (by omega) (by omega) hmc (Or.inr ⟨v2, v3⟩) (fun v sh' m' hRr => ht _ _ _ _ _ _ hRr hK hR)
theorem k_callJ {X : q_CX} {y : MethodName} {cc : ByteArray} {nL : Nat} {ret : Option FieldType} {rm : Room} {Ts : List Cond} (h : q_OK X y cc nL ret rm Ts) {pc : Nat} {t : q_TT} {wp : q_WT} {l' : Launch} (hl' : X.2.1 = l') {y' : MethodName} {cc' : ByteArray} {nL' : Nat} {ret' : Option FieldType} {rm' : Room} {ws' : List Cond} (hcon : ∀ as sh m Rr, wp as sh m Rr → q_AM l' y' (Cond.code y' cc' nL' ret' :: ws') rm' as sh m Rr) {ci : Nat} {C : String} {T : u_T} {N : Nat} (hC : vwCl[ci]? = some (C, T, N)) {cap : Nat × Nat} (hcap : q_cap X rm cap) {n idx : Nat} (hret : ret' = none) (hy9 : y'.cls ≠ "java/lang/invoke/MethodHandle" ∧ y'.cls ≠ "java/lang/invoke/VarHandle" ∧ (parseMethodDescriptor y'.desc).map (fun d => d.parameters.length) = some n) (hG : GoodIn Ts (Cond.code y' cc' nL' ret' :: ws')) (hnest : (y.cls, idx, y') ∈ q_nest) (hini : Cond.initialized y'.cls ∈ Ts) (hins : Cond.instanceMethod y' ∈ Ts) (hnm' : y'.name = "<init>") (hR9 : rm'.frames + 1 ≤ rm.frames ∧ 8 + (nL' + 11) + rm'.locals ≤ rm.locals) (hd : decode cc pc = .ok (.invokespecial idx, 3)) (ht : q_SK X nL (pc + 3) t) : q_SK X nL pc (o_callI ci n (rm'.cells, rm'.slots) cap wp t) := by
  intro L st sh m K R hT hK hR
  obtain ⟨p, l, e, Rm, s, mi, args, below, meth, c, D, cs, ad0, sA, sV, A, nz, mcs, Qc, Q⟩ := X
  obtain ⟨hx, hb, hml, hown, hts, hr, hlks, hRm, hKK, hA, hE, hmc, hnm⟩ := h
  obtain ⟨hnl, ⟨v1, v2, v3⟩, hcl, hcat, c1, c2, hwp⟩ := hT
  have hl9 : l = l' := hl'
  subst hl9
  subst hret
  obtain ⟨b, fs, hb9, hsb⟩ := q_cls_get hcl
  obtain ⟨As, rest, hAs, hst9⟩ : ∃ As rest : List Value, As.length = n ∧ st = As.reverse ++ Value.ref b :: rest := by
    refine ⟨(st.take n).reverse, st.drop (n + 1), by simp; omega, ?_⟩
    rw [List.reverse_reverse]
    have g1 : st[n]? = some (.ref b) := by
      rw [List.getD_eq_getElem?_getD, List.getElem?_eq_getElem hnl] at hb9
      rw [List.getElem?_eq_getElem hnl]; simpa using hb9
    have g2 : st.drop n = .ref b :: st.drop (n + 1) := by
      rw [List.drop_eq_getElem_cons hnl]
      rw [List.getElem?_eq_getElem hnl] at g1
      rw [Option.some.inj g1]
    rw [← g2, List.take_append_drop]
  have e1 : (st.take (n + 1)).reverse = .ref b :: As := by
    rw [hst9]
    rw [show n + 1 = (As.reverse ++ [Value.ref b]).length by simp [hAs], show As.reverse ++ Value.ref b :: rest = (As.reverse ++ [Value.ref b]) ++ rest by simp, List.take_left']
    · simp
    · rfl
  have e2 : st.drop (n + 1) = rest := by
    rw [hst9]
    rw [show n + 1 = (As.reverse ++ [Value.ref b]).length by simp [hAs], show As.reverse ++ Value.ref b :: rest = (As.reverse ++ [Value.ref b]) ++ rest by simp, List.drop_left']
    rfl
  rw [e1, e2] at hwp
  rw [e2] at hcat
  have v2 : rest.all (q_vv sh.length) = true := by rw [← e2]; exact List.all_eq_true.mpr (fun x hx5 => List.all_eq_true.mp v2 x (List.mem_of_mem_drop hx5))
  have hcap1 : cap.1 ≤ nz.1 + rm.cells := hcap.1
  have hcap2 : cap.2 ≤ nz.2 + rm.slots := hcap.2
  dsimp only at c1 c2
  subst hRm
  intro ad H locs ls hl hP hD hS h1 h2 h3
  have hcat : ((rest.map (q_cv ad sA)).map fun v => v.category).sum ≤ 8 := by
    rw [List.map_map, show ((fun v : Value => v.category) ∘ q_cv ad sA) = fun v => v.category from funext fun v => q_cv_cat v]
    exact hcat
  exact q_after (va_runIN (As := As.map (q_cv ad sA)) (rest := rest.map (q_cv ad sA)) (g := F0 mi pc ls (st.map (q_cv ad sA))) ⟨hx, hb, hml, hown, hts⟩ (hcon _ _ _ _ hwp D cs ad sA sV H.size) ⟨va_cnB (host := RX8) n hts hG rfl rfl rfl (hE.1 _ hnest) (hts _ hini) hy9 hR9, hnm', hts _ hins⟩ ⟨q_Pre.blind, fun U hU hW => ⟨rfl, by rw [hU], by rw [hU]; exact hP, va_K.moved hW.alike hKK, hD.weaken (fun _ _ _ _ => trivial), by rw [hU]; exact hE.warm hW hS.2.1 (fun q hq => by rcases hq with ⟨k9, x9, hx9⟩ | hq; exact hD.2 k9 _ hx9; exact hA q (Nat.le_trans hS.1 hq))⟩⟩ rfl (by rw [List.length_map]; exact hAs) hl.2.1 (by show List.map _ st = _; rw [hst9]; simp [q_cv]) (lv_room hcat) hd ⟨by omega, by omega⟩) hl hD hS h1 h2 h3 hA (by omega) (by omega) hmc (Or.inr ⟨v2, v3⟩) (fun v sh' m' hRr => ht _ _ _ _ _ _ hRr hK hR)
