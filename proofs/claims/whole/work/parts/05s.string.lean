/-! String's members that the class calls, on the constants: i the constant's text, 10 + i its row of bytes, 5 what makes the message. -/
def o_gsc (t : q_TT) : q_TT := fun L st sh m K R => t L (.int 1 :: st) sh m K R
theorem k_gsc {X : q_CX} {y : MethodName} {cc : ByteArray} {nL : Nat} {ret : Option FieldType} {rm : Room} {Ts : List Cond} (h : q_OK X y cc nL ret rm Ts) {pc : Nat} {t : q_TT} {idx : Nat} (hlk : Cond.fieldLink y.cls idx RJ0 "COMPACT_STRINGS" "Z" ∈ Ts) (hd : decode cc pc = .ok (.getstatic idx, 3)) (ht : q_SK X nL (pc + 3) t) : q_SK X nL pc (o_gsc t) := by
  intro L st sh m K R hT hK hR
  obtain ⟨p, l, e, Rm, s, mi, args, below, meth, c, D, cs, ad0, sA, sV, A, nz, mcs, Qc, Q⟩ := X
  obtain ⟨hx, hb, hml, hown, hts, hr, hlks, hRm, hKK, hA, hE, hmc, hnm⟩ := h
  intro ad H locs ls hl hP hD hS h1 h2 h3
  exact va_gets hx hb hE.2.2.2.2.1 hS hown (hts _ hlk) (fun _ h9 => h9) hd (ht _ _ _ _ _ _ hT hK hR ad H locs ls hl hP hD hS h1 h2 h3)
def o_gsf (t : q_TT) : q_TT := fun L st sh m K R => t L (.null :: st) sh m K R ∧ t L (.retAddr 5 :: st) sh m K R
theorem k_gsf {X : q_CX} {y : MethodName} {cc : ByteArray} {nL : Nat} {ret : Option FieldType} {rm : Room} {Ts : List Cond} (h : q_OK X y cc nL ret rm Ts) {pc : Nat} {t : q_TT} {idx : Nat} (hlk : Cond.fieldLink y.cls idx RJ3 "SIOOBE_FORMATTER" "Ljava/util/function/BiFunction;" ∈ Ts) (hd : decode cc pc = .ok (.getstatic idx, 3)) (ht : q_SK X nL (pc + 3) t) : q_SK X nL pc (o_gsf t) := by
  intro L st sh m K R hT hK hR
  obtain ⟨p, l, e, Rm, s, mi, args, below, meth, c, D, cs, ad0, sA, sV, A, nz, mcs, Qc, Q⟩ := X
  obtain ⟨hx, hb, hml, hown, hts, hr, hlks, hRm, hKK, hA, hE, hmc, hnm⟩ := h
  intro ad H locs ls hl hP hD hS h1 h2 h3
  rcases hE.2.2.2.2.2.1 with hZ | hZ
  · exact va_gets hx hb hZ hS hown (hts _ hlk) (fun _ h9 => h9) hd (ht _ _ _ _ _ _ hT.1 hK hR ad H locs ls hl hP hD hS h1 h2 h3)
  · exact va_gets hx hb hZ hS hown (hts _ hlk) (fun _ h9 => h9) hd (ht _ _ _ _ _ _ hT.2 hK hR ad H locs ls hl hP hD hS h1 h2 h3)
def o_sval (t : q_TT) : q_TT := fun L st sh m K R => match st with
  | .retAddr i :: st => i < 4 ∧ t L (.retAddr (10 + i) :: st) sh m K R
  | _ => False
theorem k_sval {X : q_CX} {y : MethodName} {cc : ByteArray} {nL : Nat} {ret : Option FieldType} {rm : Room} {Ts : List Cond} (h : q_OK X y cc nL ret rm Ts) {pc : Nat} {t : q_TT} {idx : Nat} (hlk : Cond.fieldLink y.cls idx "java/lang/String" "value" "[B" ∈ Ts) (hd : decode cc pc = .ok (.getfield idx, 3)) (ht : q_SK X nL (pc + 3) t) : q_SK X nL pc (o_sval t) := by
  intro L st sh m K R hT hK hR
  obtain ⟨p, l, e, Rm, s, mi, args, below, meth, c, D, cs, ad0, sA, sV, A, nz, mcs, Qc, Q⟩ := X
  obtain ⟨hx, hb, hml, hown, hts, hr, hlks, hRm, hKK, hA, hE, hmc, hnm⟩ := h
  unfold o_sval at hT
  split at hT
  · rename_i i st
    intro ad H locs ls hl hP hD hS h1 h2 h3
    have hk := ht _ _ _ _ _ _ hT.2 hK hR ad H locs ls hl hP hD hS h1 h2 h3
    have e : q_cv ad sA (.retAddr (10 + i)) = .ref (sV i) := by show Value.ref (sA (10 + i)) = _; rw [hE.2.2.2.2.2.2 i hT.1]
    rw [List.map_cons, e] at hk
    exact vk_getf hx hb (hE.2.1.1 i hT.1).2.2.1 hS hown (hts _ hlk) (fun _ h9 => h9) hd hk
  · exact hT.elim
def o_scod (t : q_TT) : q_TT := fun L st sh m K R => match st with
  | .retAddr i :: st => i < 4 ∧ t L (.int 0 :: st) sh m K R
  | _ => False
theorem k_scod {X : q_CX} {y : MethodName} {cc : ByteArray} {nL : Nat} {ret : Option FieldType} {rm : Room} {Ts : List Cond} (h : q_OK X y cc nL ret rm Ts) {pc : Nat} {t : q_TT} {idx : Nat} (hlk : Cond.fieldLink y.cls idx "java/lang/String" "coder" "B" ∈ Ts) (hd : decode cc pc = .ok (.getfield idx, 3)) (ht : q_SK X nL (pc + 3) t) : q_SK X nL pc (o_scod t) := by
  intro L st sh m K R hT hK hR
  obtain ⟨p, l, e, Rm, s, mi, args, below, meth, c, D, cs, ad0, sA, sV, A, nz, mcs, Qc, Q⟩ := X
  obtain ⟨hx, hb, hml, hown, hts, hr, hlks, hRm, hKK, hA, hE, hmc, hnm⟩ := h
  unfold o_scod at hT
  split at hT
  · rename_i i st
    intro ad H locs ls hl hP hD hS h1 h2 h3
    exact vk_getf hx hb (hE.2.1.1 i hT.1).2.1 hS hown (hts _ hlk) (fun _ h9 => h9) hd (ht _ _ _ _ _ _ hT.2 hK hR ad H locs ls hl hP hD hS h1 h2 h3)
  · exact hT.elim
def o_salen (t : q_TT) : q_TT := fun L st sh m K R => match st with
  | .retAddr i :: st => (10 ≤ i ∧ i < 14) ∧ t L (.int (nI (q_slen.getD (i - 10) 0)) :: st) sh m K R
  | _ => False
theorem k_salen {X : q_CX} {y : MethodName} {cc : ByteArray} {nL : Nat} {ret : Option FieldType} {rm : Room} {Ts : List Cond} (h : q_OK X y cc nL ret rm Ts) {pc : Nat} {t : q_TT} (hd : decode cc pc = .ok (.arraylength, 1)) (ht : q_SK X nL (pc + 1) t) : q_SK X nL pc (o_salen t) := by
  intro L st sh m K R hT hK hR
  obtain ⟨p, l, e, Rm, s, mi, args, below, meth, c, D, cs, ad0, sA, sV, A, nz, mcs, Qc, Q⟩ := X
  obtain ⟨hx, hb, hml, hown, hts, hr, hlks, hRm, hKK, hA, hE, hmc, hnm⟩ := h
  unfold o_salen at hT
  split at hT
  · rename_i i st
    intro ad H locs ls hl hP hD hS h1 h2 h3
    have e : q_cv ad sA (.retAddr i) = .ref (sV (i - 10)) := by
      show Value.ref (sA i) = _
      rw [← hE.2.2.2.2.2.2 (i - 10) (by omega), show 10 + (i - 10) = i by omega]
    rw [List.map_cons, e]
    exact va_tlen hx hb (hE.2.1.1 (i - 10) (by omega)).2.2.2 hS rfl hd (ht _ _ _ _ _ _ hT.2 hK hR ad H locs ls hl hP hD hS h1 h2 h3)
  · exact hT.elim
def o_sbald (t : q_TT) : q_TT := fun L st sh m K R => match st with
  | .int k :: .retAddr i :: st => (10 ≤ i ∧ i < 14) ∧ vp_in k (q_slen.getD (i - 10) 0) ∧ t L (.int ((q_sbyt.getD (i - 10) []).getD k.toNatClampNeg 0) :: st) sh m K R
  | _ => False
theorem k_sbald {X : q_CX} {y : MethodName} {cc : ByteArray} {nL : Nat} {ret : Option FieldType} {rm : Room} {Ts : List Cond} (h : q_OK X y cc nL ret rm Ts) {pc : Nat} {t : q_TT} (hd : decode cc pc = .ok (.baload, 1)) (ht : q_SK X nL (pc + 1) t) : q_SK X nL pc (o_sbald t) := by
  intro L st sh m K R hT hK hR
  obtain ⟨p, l, e, Rm, s, mi, args, below, meth, c, D, cs, ad0, sA, sV, A, nz, mcs, Qc, Q⟩ := X
  obtain ⟨hx, hb, hml, hown, hts, hr, hlks, hRm, hKK, hA, hE, hmc, hnm⟩ := h
  unfold o_sbald at hT
  split at hT
  · rename_i k i st
    intro ad H locs ls hl hP hD hS h1 h2 h3
    have e : q_cv ad sA (.retAddr i) = .ref (sV (i - 10)) := by
      show Value.ref (sA i) = _
      rw [← hE.2.2.2.2.2.2 (i - 10) (by omega), show 10 + (i - 10) = i by omega]
    rw [List.map_cons, List.map_cons, e]
    exact va_tb hx hb (hE.2.1.1 (i - 10) (by omega)).2.2.2 hS hT.2.1 rfl hd (ht _ _ _ _ _ _ hT.2.2 hK hR ad H locs ls hl hP hD hS h1 h2 h3)
  · exact hT.elim
def o_i2c (t : q_TT) : q_TT := fun L st sh m K R => match st with
  | .int x :: st => t L (.int ((x.toUInt32 % 65536).toInt32) :: st) sh m K R
  | _ => False
theorem k_i2c {X : q_CX} {y : MethodName} {cc : ByteArray} {nL : Nat} {ret : Option FieldType} {rm : Room} {Ts : List Cond} (h : q_OK X y cc nL ret rm Ts) {pc : Nat} {t : q_TT} (hd : decode cc pc = .ok (.i2c, 1)) (ht : q_SK X nL (pc + 1) t) : q_SK X nL pc (o_i2c t) := by
  intro L st sh m K R hT hK hR
  obtain ⟨p, l, e, Rm, s, mi, args, below, meth, c, D, cs, ad0, sA, sV, A, nz, mcs, Qc, Q⟩ := X
  obtain ⟨hx, hb, hml, hown, hts, hr, hlks, hRm, hKK, hA, hE, hmc, hnm⟩ := h
  unfold o_i2c at hT
  split at hT
  · intro ad H locs ls hl hP hD hS h1 h2 h3
    exact lv_i2c hx hb hd rfl (ht _ _ _ _ _ _ hT hK hR ad H locs ls hl hP hD hS h1 h2 h3)
  · exact hT.elim
def o_pop (t : q_TT) : q_TT := fun L st sh m K R => match st with
  | .int _ :: st => t L st sh m K R
  | _ => False
theorem k_pop {X : q_CX} {y : MethodName} {cc : ByteArray} {nL : Nat} {ret : Option FieldType} {rm : Room} {Ts : List Cond} (h : q_OK X y cc nL ret rm Ts) {pc : Nat} {t : q_TT} (hd : decode cc pc = .ok (.pop, 1)) (ht : q_SK X nL (pc + 1) t) : q_SK X nL pc (o_pop t) := by
  intro L st sh m K R hT hK hR
  obtain ⟨p, l, e, Rm, s, mi, args, below, meth, c, D, cs, ad0, sA, sV, A, nz, mcs, Qc, Q⟩ := X
  obtain ⟨hx, hb, hml, hown, hts, hr, hlks, hRm, hKK, hA, hE, hmc, hnm⟩ := h
  unfold o_pop at hT
  split at hT
  · intro ad H locs ls hl hP hD hS h1 h2 h3
    exact lv_pop hx hb hd rfl (ht _ _ _ _ _ _ hT hK hR ad H locs ls hl hP hD hS h1 h2 h3)
  · exact hT.elim
def o_nret (ty : FieldType) : q_TT := fun _ st sh m _ R => match st with
  | [.int x] => narrow ty (.int x) = .int x ∧ R (some (.int x)) sh m
  | _ => False
theorem k_nret {X : q_CX} {y : MethodName} {cc : ByteArray} {nL : Nat} {ty : FieldType} {rm : Room} {Ts : List Cond} (h : q_OK X y cc nL (some ty) rm Ts) {pc : Nat} (hQ : q_QM X) (hd : decode cc pc = .ok (.ireturn, 1)) : q_SK X nL pc (o_nret ty) := by
  intro L st sh m K R hT hK hR
  obtain ⟨p, l, e, Rm, s, mi, args, below, meth, c, D, cs, ad0, sA, sV, A, nz, mcs, Qc, Q⟩ := X
  obtain ⟨hx, hb, hml, hown, hts, hr, hlks, hRm, hKK, hA, hE, hmc, hnm⟩ := h
  have hQ : Q = MQ below Qc args s mcs.1 mcs.2 A := hQ
  unfold o_nret at hT
  split at hT
  · intro ad H locs ls hl hP hD hS h1 h2 h3
    obtain ⟨r1, r2, r3⟩ := hR _ _ _ hT.2
    rw [hQ, show sh.length - nz.1 = mcs.1 by omega, show q_sl sh - nz.2 = mcs.2 by omega]
    exact W.zret hx hb hr hT.1 (fun t ht hW => r3 ad H locs t hP hD hS h1 ht hW) hS.2.2 hd hlks
  · exact hT.elim
def q_isT : Value → Prop
  | .retAddr i => i < 4
  | _ => False
theorem q_isT_get {v : Value} (h : q_isT v) : ∃ b, b < 4 ∧ v = .retAddr b := by
  cases v <;> first | exact ⟨_, h, rfl⟩ | exact h.elim
def o_callT (n : Nat) (wp : q_WT) (t : q_TT) : q_TT := fun L st sh m K R => n < st.length ∧ q_isT (st.getD n .null) ∧ q_cat (st.drop (n + 1)) ∧ wp (st.take (n + 1)).reverse sh m (fun v sh' m' => t L (v.toList ++ st.drop (n + 1)) sh' m' K R)
theorem k_callT {X : q_CX} {y : MethodName} {cc : ByteArray} {nL : Nat} {ret : Option FieldType} {rm : Room} {Ts : List Cond} (h : q_OK X y cc nL ret rm Ts) {pc : Nat} {t : q_TT} {wp : q_WT} {l' : Launch} (hl' : X.2.1 = l') {y' : MethodName} {cc' : ByteArray} {nL' : Nat} {ret' : Option FieldType} {rm' : Room} {ws' : List Cond} (hcon : ∀ as sh m Rr, wp as sh m Rr → q_AM l' y' (Cond.code y' cc' nL' ret' :: ws') rm' as sh m Rr) (hno : rm'.cells = 0 ∧ rm'.slots = 0) {n idx : Nat} (hy9 : y'.cls = "java/lang/String" ∧ y'.cls ≠ "java/lang/invoke/MethodHandle" ∧ y'.cls ≠ "java/lang/invoke/VarHandle" ∧ (parseMethodDescriptor y'.desc).map (fun d => d.parameters.length) = some n) (hG : GoodIn Ts (wsV y.cls idx "java/lang/String" y' (Cond.code y' cc' nL' ret' :: ws'))) (hR9 : rm'.frames + 1 ≤ rm.frames ∧ 8 + (nL' + 11) + rm'.locals ≤ rm.locals) (hd : decode cc pc = .ok (.invokevirtual idx, 3)) (ht : q_SK X nL (pc + 3) t) : q_SK X nL pc (o_callT n wp t) := by
  intro L st sh m K R hT hK hR
  obtain ⟨p, l, e, Rm, s, mi, args, below, meth, c, D, cs, ad0, sA, sV, A, nz, mcs, Qc, Q⟩ := X
  obtain ⟨hx, hb, hml, hown, hts, hr, hlks, hRm, hKK, hA, hE, hmc, hnm⟩ := h
  obtain ⟨hnl, hcl, hcat, hwp⟩ := hT
  have hl9 : l = l' := hl'
  subst hl9
  obtain ⟨b, hb4, hb9⟩ := q_isT_get hcl
  obtain ⟨As, rest, hAs, hst9⟩ : ∃ As rest : List Value, As.length = n ∧ st = As.reverse ++ Value.retAddr b :: rest := by
    refine ⟨(st.take n).reverse, st.drop (n + 1), by simp; omega, ?_⟩
    rw [List.reverse_reverse]
    have g1 : st[n]? = some (.retAddr b) := by
      rw [List.getD_eq_getElem?_getD, List.getElem?_eq_getElem hnl] at hb9
      rw [List.getElem?_eq_getElem hnl]; simpa using hb9
    have g2 : st.drop n = .retAddr b :: st.drop (n + 1) := by
      rw [List.drop_eq_getElem_cons hnl]
      rw [List.getElem?_eq_getElem hnl] at g1
      rw [Option.some.inj g1]
    rw [← g2, List.take_append_drop]
  have e1 : (st.take (n + 1)).reverse = .retAddr b :: As := by
    rw [hst9]
    rw [show n + 1 = (As.reverse ++ [Value.retAddr b]).length by simp [hAs], show As.reverse ++ Value.retAddr b :: rest = (As.reverse ++ [Value.retAddr b]) ++ rest by simp, List.take_left']
    · simp
    · rfl
  have e2 : st.drop (n + 1) = rest := by
    rw [hst9]
    rw [show n + 1 = (As.reverse ++ [Value.retAddr b]).length by simp [hAs], show As.reverse ++ Value.retAddr b :: rest = (As.reverse ++ [Value.retAddr b]) ++ rest by simp, List.drop_left']
    rfl
  rw [e1, e2] at hwp
  rw [e2] at hcat
  subst hRm
  intro ad H locs ls hl hP hD hS h1 h2 h3
  have hcat : ((rest.map (q_cv ad sA)).map fun v => v.category).sum ≤ 8 := by
    rw [List.map_map, show ((fun v : Value => v.category) ∘ q_cv ad sA) = fun v => v.category from funext fun v => q_cv_cat v]
    exact hcat
  exact q_after (va_runV (As := As.map (q_cv ad sA)) (rest := rest.map (q_cv ad sA)) (g := F0 mi pc ls (st.map (q_cv ad sA))) ⟨hx, hb, hml, hown, hts⟩ (hcon _ _ _ _ hwp D cs ad sA sV H.size) (cwV n hts hG rfl rfl rfl hy9 hR9) ⟨q_Pre.blind, vk_recv hE.2.1 hb4 hS, fun U hU hW => ⟨rfl, by rw [hU], by rw [hU]; exact hP, va_K.moved hW.alike hKK, hD.weaken (fun _ _ _ _ => trivial), by rw [hU]; exact hE.warm hW hS.2.1 (fun q hq => by rcases hq with ⟨k9, x9, hx9⟩ | hq; exact hD.2 k9 _ hx9; exact hA q (Nat.le_trans hS.1 hq))⟩⟩ rfl (by rw [List.length_map]; exact hAs) hl.2.1 (by show List.map _ st = _; rw [hst9]; simp [q_cv]) (lv_room hcat) hd ⟨by rw [hno.1]; omega, by rw [hno.2]; omega⟩) hl hD hS h1 h2 h3 hA (by rw [hno.1]; omega) (by rw [hno.2]; omega) hmc (Or.inl hno.1) (fun v sh' m' hRr => ht _ _ _ _ _ _ hRr hK hR)
