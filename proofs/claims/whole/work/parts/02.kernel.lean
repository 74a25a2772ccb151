/-! An abstract machine over the kit's rows: places for addresses, one memory of ints, one shape; a method is a list of blocks, each a transformer; WP is the least predicate closed under them. -/
abbrev q_SC : Type := (Nat × List (Option Value)) ⊕ ((Nat × Nat) ⊕ List (Option Nat))
abbrev q_Sh : Type := List q_SC
abbrev q_Mm : Type := Nat → Nat → Int32
abbrev q_Lo : Type := List (Option Value)
abbrev q_KN : Type := Nat → q_Lo → List Value → q_Sh → q_Mm → Prop
abbrev q_KR : Type := Option Value → q_Sh → q_Mm → Prop
abbrev q_TT : Type := q_Lo → List Value → q_Sh → q_Mm → q_KN → q_KR → Prop
abbrev q_WT : Type := List Value → q_Sh → q_Mm → q_KR → Prop
def q_up (m : q_Mm) (k j : Nat) (x : Int32) : q_Mm := fun k' => if k' = k then upd (m k) j x else m k'
def q_zr (m : q_Mm) (k : Nat) : q_Mm := fun k' => if k' = k then (fun _ => 0) else m k'
def q_cv (ad sA : Nat → Nat) : Value → Value
  | .ref k => .ref (ad k)
  | .retAddr i => .ref (sA i)
  | v => v
/-- the places that a value names are below n -/
def q_vb (n : Nat) : Value → Prop
  | .ref k => k < n
  | _ => True
def q_fv (ad sA : Nat → Nat) (row : Nat → Int32) : Nat → List (Option Value) → List Value
  | _, [] => []
  | j, none :: r => .int (row j) :: q_fv ad sA row (j + 1) r
  | j, some v :: r => q_cv ad sA v :: q_fv ad sA row (j + 1) r
def q_ce (cs : ClassId × ClassId × ClassId) (ad sA : Nat → Nat) (c : q_SC) (row : Nat → Int32) : va_E := match c with
  | .inl (ci, fs) => .inr (ci, q_fv ad sA row 0 fs)
  | .inr (.inl (k, n)) => .inl (if k = 0 then cs.1 else cs.2.1, n, .inl row)
  | .inr (.inr l) => .inl (cs.2.2, l.length, .inr (.inr (.inr (.inr (fun j => (l.getD j none).map ad)))))
def q_sc0 : q_SC := .inr (.inr [])
def q_ws (cs : ClassId × ClassId × ClassId) (ad sA : Nat → Nat) (sh : q_Sh) (m : q_Mm) : va_W := (List.range sh.length).map fun k => (ad k, q_ce cs ad sA (sh.getD k q_sc0) (m k))
def q_tys (cs : ClassId × ClassId × ClassId) : List (ClassId × FieldType) := [(cs.1, .int), (cs.2.1, .boolean), (cs.2.2, .object RX1)]
theorem q_ws_get {cs : ClassId × ClassId × ClassId} {ad sA : Nat → Nat} {sh : q_Sh} {m : q_Mm} {k : Nat} {c : q_SC} (h : sh[k]? = some c) : (q_ws cs ad sA sh m)[k]? = some (ad k, q_ce cs ad sA c (m k)) := by
  obtain ⟨hk, rfl⟩ := List.getElem?_eq_some_iff.mp h
  simp [q_ws, hk]
theorem q_ws_inv {cs : ClassId × ClassId × ClassId} {ad sA : Nat → Nat} {sh : q_Sh} {m : q_Mm} {k : Nat} {q : Nat × va_E} (h : (q_ws cs ad sA sh m)[k]? = some q) : k < sh.length ∧ q.1 = ad k := by
  simp only [q_ws, List.getElem?_map, Option.map_eq_some_iff] at h
  obtain ⟨a, h1, h2⟩ := h
  obtain ⟨h3, h4⟩ := List.getElem?_eq_some_iff.mp h1
  simp at h3 h4
  subst h4
  exact ⟨h3, by rw [← h2]⟩
theorem q_fv_get {ad sA : Nat → Nat} {row : Nat → Int32} : ∀ {fs : List (Option Value)} {i j : Nat} {o : Option Value}, fs[j]? = some o → (q_fv ad sA row i fs)[j]? = some (match o with | none => Value.int (row (i + j)) | some v => q_cv ad sA v)
  | [], i, j, o, h => by simp at h
  | a :: r, i, 0, o, h => by
    simp at h; subst h
    cases a <;> rfl
  | a :: r, i, j + 1, o, h => by
    simp at h
    have := q_fv_get (ad := ad) (sA := sA) (row := row) (i := i + 1) h
    rw [show i + 1 + j = i + (j + 1) by omega] at this
    cases a <;> simpa [q_fv] using this
theorem q_fv_len {ad sA : Nat → Nat} {row : Nat → Int32} : ∀ (fs : List (Option Value)) (i : Nat), (q_fv ad sA row i fs).length = fs.length
  | [], _ => rfl
  | none :: r, i => by simp [q_fv, q_fv_len r]
  | some v :: r, i => by simp [q_fv, q_fv_len r]
theorem q_fv_off {ad sA : Nat → Nat} {row : Nat → Int32} {x : Int32} : ∀ (fs : List (Option Value)) (i j : Nat), j < i → q_fv ad sA (upd row j x) i fs = q_fv ad sA row i fs
  | [], _, _, _ => rfl
  | none :: r, i, j, h => by
    simp only [q_fv, q_fv_off r (i + 1) j (by omega)]
    simp [upd, show ¬ i = j by omega]
  | some v :: r, i, j, h => by simp only [q_fv, q_fv_off r (i + 1) j (by omega)]
theorem q_fv_int {ad sA : Nat → Nat} {row : Nat → Int32} {x : Int32} : ∀ {fs : List (Option Value)} {i j : Nat}, fs[j]? = some none → q_fv ad sA (upd row (i + j) x) i fs = (q_fv ad sA row i fs).set j (.int x)
  | [], _, _, h => by simp at h
  | a :: r, i, 0, h => by
    simp at h; subst h
    simp only [q_fv, Nat.add_zero, List.set_cons_zero, q_fv_off r (i + 1) i (by omega)]
    simp [upd]
  | none :: r, i, j + 1, h => by
    simp at h
    have := q_fv_int (ad := ad) (sA := sA) (row := row) (x := x) (i := i + 1) h
    rw [show i + 1 + j = i + (j + 1) by omega] at this
    simp only [q_fv, List.set_cons_succ, this]
    simp [upd]
  | some v :: r, i, j + 1, h => by
    simp at h
    have := q_fv_int (ad := ad) (sA := sA) (row := row) (x := x) (i := i + 1) h
    rw [show i + 1 + j = i + (j + 1) by omega] at this
    simp only [q_fv, List.set_cons_succ, this]
theorem q_fv_ref {ad sA : Nat → Nat} {row : Nat → Int32} {v0 v : Value} : ∀ {fs : List (Option Value)} {i j : Nat}, fs[j]? = some (some v0) → q_fv ad sA row i (fs.set j (some v)) = (q_fv ad sA row i fs).set j (q_cv ad sA v)
  | [], _, _, h => by simp at h
  | a :: r, i, 0, h => by
    simp at h; subst h
    simp only [List.set_cons_zero, q_fv]
  | none :: r, i, j + 1, h => by
    simp at h
    simp only [q_fv, List.set_cons_succ, q_fv_ref (i := i + 1) h]
  | some w :: r, i, j + 1, h => by
    simp at h
    simp only [q_fv, List.set_cons_succ, q_fv_ref (i := i + 1) h]
/-- one cell's row changes -/
theorem q_ws_row {cs : ClassId × ClassId × ClassId} {ad sA : Nat → Nat} {sh : q_Sh} {m : q_Mm} {k : Nat} {c : q_SC} (row : Nat → Int32) (h : sh[k]? = some c) :
    (q_ws cs ad sA sh m).set k (ad k, q_ce cs ad sA c row) = q_ws cs ad sA sh (fun k' => if k' = k then row else m k') := by
  have hk : k < sh.length := (List.getElem?_eq_some_iff.mp h).1
  apply List.ext_getElem?
  intro i
  by_cases hi : i < sh.length
  · have hc : sh[i]? = some sh[i] := List.getElem?_eq_getElem hi
    rw [q_ws_get (m := fun k' => if k' = k then row else m k') hc]
    by_cases hik : i = k
    · subst hik
      rw [hc] at h; cases h
      rw [List.getElem?_set_self (by simpa [q_ws] using hi)]
      simp
    · rw [List.getElem?_set_ne (Ne.symm hik), q_ws_get hc, if_neg hik]
  · have h1 : ((q_ws cs ad sA sh m).set k (ad k, q_ce cs ad sA c row)).length ≤ i := by simp [q_ws]; omega
    have h2 : (q_ws cs ad sA sh (fun k' => if k' = k then row else m k')).length ≤ i := by simp [q_ws]; omega
    rw [List.getElem?_eq_none h1, List.getElem?_eq_none h2]
/-- one cell's shape changes -/
theorem q_ws_shape {cs : ClassId × ClassId × ClassId} {ad sA : Nat → Nat} {sh : q_Sh} {m : q_Mm} {k : Nat} (c : q_SC) (h : k < sh.length) :
    (q_ws cs ad sA sh m).set k (ad k, q_ce cs ad sA c (m k)) = q_ws cs ad sA (sh.set k c) m := by
  apply List.ext_getElem?
  intro i
  by_cases hi : i < sh.length
  · by_cases hik : i = k
    · subst hik
      rw [List.getElem?_set_self (by simpa [q_ws] using hi), q_ws_get (sh := sh.set i c) (c := c) (by simp [hi])]
    · have hc : sh[i]? = some sh[i] := List.getElem?_eq_getElem hi
      rw [List.getElem?_set_ne (Ne.symm hik), q_ws_get hc, q_ws_get (sh := sh.set k c) (c := sh[i]) (by rw [List.getElem?_set_ne (Ne.symm hik)]; exact hc)]
  · have h1 : ((q_ws cs ad sA sh m).set k (ad k, q_ce cs ad sA c (m k))).length ≤ i := by simp [q_ws]; omega
    have h2 : (q_ws cs ad sA (sh.set k c) m).length ≤ i := by simp [q_ws]; omega
    rw [List.getElem?_eq_none h1, List.getElem?_eq_none h2]
