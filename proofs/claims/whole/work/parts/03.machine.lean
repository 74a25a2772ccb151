/-! The walk's predicate, over the kit's W; the contract; WP and its soundness. -/
def q_sz : q_SC → Nat
  | .inl (_, fs) => fs.length
  | .inr (.inl (_, n)) => n
  | .inr (.inr l) => l.length
def q_sl (sh : q_Sh) : Nat := (sh.map q_sz).sum
abbrev q_CX : Type := Program × Launch × Env × Room × State × MethodId × Array Value × List Frame × Method × Code × va_G × (ClassId × ClassId × ClassId) × (Nat → Nat) × (Nat → Nat) × (Nat → Nat) × (Nat → Prop) × (Nat × Nat) × (Nat × Nat) × (Array Value → State → Outcome → State → Prop) × (State → Prop)
def q_nest : List (String × Nat × MethodName) := [(RX8, 9, yX7_init), (RX8, 27, yX1_init), (RX8, 49, yX5_init), (RX8, 56, yX2_init), (RX8, 63, yX0_init), (RX0, 19, yX8_put), (RX0, 23, yX8_at), (RX1, 44, yX8_leftOver), (RX1, 77, yX8_memberAt), (RX2, 35, yX8_at), (RX2, 39, yX8_put), (RX4, 55, yX8_put), (RX4, 83, yX8_leftOver), (RX4, 90, yX8_at), (RX4, 94, yX8_bit), (RX5, 24, yX8_put), (RX5, 42, yX8_bit), (RX5, 54, yX8_at), (RX6, 40, yX8_put), (RX6, 44, yX8_at), (RX7, 21, yX8_put), (RX7, 29, yX8_inside)]
def q_sty : List (Nat × String) := [(50, "turn"), (66, "place"), (74, "way"), (82, "push")]
def q_slen : List Nat := [4, 5, 3, 4]
def q_sbyt : List (List Int32) := [[116, 117, 114, 110], [112, 108, 97, 99, 101], [119, 97, 121], [112, 117, 115, 104]]
/-- what no step changes: nest mates' links, the String constants, the class of arrays of Farm -/
def q_env (sA sV : Nat → Nat) (A : Nat → Prop) (U : State) (H : Heap) : Prop :=
  (∀ w ∈ q_nest, va_Nw (.methodLinkNest w.1 w.2.1 w.2.2 RX8) U) ∧ vk_S 4 q_slen q_sbyt sA sV A U H ∧ (∀ i : Nat, i < 4 → vk_R RX3 (q_sty.getD i (0, "")).1 (q_sty.getD i (0, "")).2 (sA i) U) ∧ va_AO RX1 U ∧ va_Z RJ0 "COMPACT_STRINGS" "Z" (.int 1) A U H ∧ (va_Z RJ3 "SIOOBE_FORMATTER" "Ljava/util/function/BiFunction;" .null A U H ∨ va_Z RJ3 "SIOOBE_FORMATTER" "Ljava/util/function/BiFunction;" (.ref (sA 5)) A U H) ∧ ∀ i : Nat, i < 4 → sA (10 + i) = sV i
theorem q_env.warm {sA sV : Nat → Nat} {A B : Nat → Prop} {s U : State} {H H1 : Heap} (hW : s.WarmedH U.vm) (h : q_env sA sV A s H) (hk : ∀ a : Nat, a < H.size → ¬ A a → H1[a]? = H[a]?) (hAB : ∀ q, B q → A q) : q_env sA sV B U H1 :=
  ⟨fun w hw => (h.1 w hw).warmM hW, ((h.2.1.kept hk).moved hW.alike).narrow hAB, fun i hi => (h.2.2.1 i hi).warm hW, h.2.2.2.1.moved hW.alike, ((h.2.2.2.2.1.kept hk).moved hW.alike).narrow hAB, h.2.2.2.2.2.1.imp (fun z => ((z.kept hk).moved hW.alike).narrow hAB) (fun z => ((z.kept hk).moved hW.alike).narrow hAB), h.2.2.2.2.2.2⟩
theorem q_env.calling {sA sV : Nat → Nat} {A : Nat → Prop} {U : State} {H : Heap} (g : JFrame) (mk : MethodId) (a : Array Value) (h : q_env sA sV A U H) : q_env sA sV A (U.calling g mk a) H :=
  ⟨fun w hw => va_Nw.same (w := .methodLinkNest w.1 w.2.1 w.2.2 RX8) rfl (u := U) (U := U.calling g mk a) rfl (h.1 w hw), h.2.1.moved (u := U) (U := U.calling g mk a) (Vm.Alike.refl U.vm), fun i hi => vk_R.same (u := U) (U := U.calling g mk a) rfl (h.2.2.1 i hi), h.2.2.2.1.moved (u := U) (U := U.calling g mk a) (Vm.Alike.refl U.vm), h.2.2.2.2.1.moved (u := U) (U := U.calling g mk a) (Vm.Alike.refl U.vm), h.2.2.2.2.2.1.imp (fun z => z.moved (u := U) (U := U.calling g mk a) (Vm.Alike.refl U.vm)) (fun z => z.moved (u := U) (U := U.calling g mk a) (Vm.Alike.refl U.vm)), h.2.2.2.2.2.2⟩
def q_lh (ad sA : Nat → Nat) (L : q_Lo) (ls : Array Slot) (nL : Nat) : Prop := L.length = nL ∧ ls.size = nL ∧ lv_wf ls ∧ ∀ (i : Nat) (v : Value), L[i]? = some (some v) → ls[i]? = some (.val (q_cv ad sA v))
def q_asc (ad sA : Nat → Nat) (L : q_Lo) : List (Nat × Value) := (List.range L.length).filterMap fun i => (L.getD i none).map fun v => (i, q_cv ad sA v)
theorem q_asc_in {ad sA : Nat → Nat} {L : q_Lo} {q : Nat × Value} : q ∈ q_asc ad sA L ↔ ∃ v, L[q.1]? = some (some v) ∧ q.2 = q_cv ad sA v := by
  unfold q_asc
  rw [List.mem_filterMap]
  constructor
  · rintro ⟨i, h1, h2⟩
    rw [Option.map_eq_some_iff] at h2
    obtain ⟨v, h3, h4⟩ := h2
    have hi : i < L.length := by simpa using h1
    refine ⟨v, ?_, by rw [← h4]⟩
    rw [← h4]
    rw [List.getD_eq_getElem?_getD, List.getElem?_eq_getElem hi] at h3
    simp at h3
    rw [List.getElem?_eq_getElem hi, h3]
  · rintro ⟨v, h1, h2⟩
    have hi : q.1 < L.length := (List.getElem?_eq_some_iff.mp h1).1
    refine ⟨q.1, by simpa using hi, ?_⟩
    rw [List.getD_eq_getElem?_getD, h1]
    simp [← h2]
theorem q_lh.has {ad sA : Nat → Nat} {L : q_Lo} {ls : Array Slot} {nL : Nat} (h : q_lh ad sA L ls nL) : lv_has ls nL (q_asc ad sA L) := by
  refine ⟨h.2.1, h.2.2.1, fun q hq => ?_⟩
  obtain ⟨v, h1, h2⟩ := q_asc_in.mp hq
  rw [h2]
  exact h.2.2.2 _ _ h1
theorem q_lh.at {ad sA : Nat → Nat} {L : q_Lo} {ls : Array Slot} {nL i : Nat} {v : Value} (h : q_lh ad sA L ls nL) (hv : L[i]? = some (some v)) : ls[i]? = some (.val (q_cv ad sA v)) := h.2.2.2 _ _ hv
/-- no long stands at the place ahead of i -/
def q_nl : Option (Option Value) → Prop
  | some (some (.long _)) => False
  | some (some (.double _)) => False
  | _ => True
theorem q_nl_cat {v : Value} (h : q_nl (some (some v))) : v.category = 1 := by cases v <;> first | rfl | exact absurd h id
theorem q_cv_cat {ad sA : Nat → Nat} (v : Value) : (q_cv ad sA v).category = v.category := by cases v <;> rfl
theorem q_lh.set {ad sA : Nat → Nat} {L : q_Lo} {ls ls' : Array Slot} {nL i : Nat} {v : Value} {ex : List (Nat × Value)} (h : q_lh ad sA L ls nL) (hn : q_nl L[i - 1]?) (h' : lv_has ls' nL ((i, q_cv ad sA v) :: (ex ++ q_asc ad sA L).filter (fun q => !(q.1 == i) && !(q.1 + 1 == i && q.2.category == 2)))) : q_lh ad sA (L.set i (some v)) ls' nL := by
  refine ⟨by simpa using h.1, h'.1, h'.2.1, fun j w hj => ?_⟩
  by_cases hji : j = i
  · subst hji
    have hi : j < L.length := by simpa using (List.getElem?_eq_some_iff.mp hj).1
    rw [List.getElem?_set_self hi] at hj
    cases hj
    exact h'.2.2 (j, _) List.mem_cons_self
  · rw [List.getElem?_set_ne (Ne.symm hji)] at hj
    refine h'.2.2 (j, _) (List.mem_cons_of_mem _ (List.mem_filter.mpr ⟨List.mem_append_right _ (q_asc_in.mpr ⟨w, hj, rfl⟩), ?_⟩))
    simp only [Bool.and_eq_true, Bool.not_eq_true', beq_eq_false_iff_ne, ne_eq, Bool.and_eq_false_iff]
    refine ⟨hji, ?_⟩
    by_cases hq : j + 1 = i
    · right
      show ¬ (q_cv ad sA w).category = 2
      rw [q_cv_cat, q_nl_cat (v := w) (by rw [← hj, show j = i - 1 by omega]; exact hn)]
      decide
    · left; exact hq
def q_AW (X : q_CX) (nL : Nat) : q_KN := match X with
  | (p, l, e, R, s, mi, args, below, meth, c, D, cs, ad0, sA, _, A, nz, mcs, _, Q) => fun pc L st sh m =>
    ∀ (ad : Nat → Nat) (H : Heap) (locs : List Loc) (ls : Array Slot), q_lh ad sA L ls nL → va_P D vwCl (q_ws cs ad sA sh m) H → va_D A (q_ws cs ad sA sh m) → va_S A s.heap H locs → ((∀ k : Nat, k < nz.1 → ad k = ad0 k) ∧ (mcs.1 = 0 → ad = ad0)) → (nz.1 ≤ sh.length ∧ sh.length ≤ nz.1 + R.cells) → (nz.2 ≤ q_sl sh ∧ q_sl sh ≤ nz.2 + R.slots) →
      W p l e R s mi args below meth c H locs (sh.length - nz.1) (q_sl sh - nz.2) Q (F0 mi pc ls (st.map (q_cv ad sA)))
def q_OK (X : q_CX) (y : MethodName) (cc : ByteArray) (nL : Nat) (ret : Option FieldType) (rm : Room) (Ts : List Cond) : Prop := match X with
  | (p, _, _, R, s, mi, args, _, meth, c, D, cs, _, sA, sV, A, _, mcs, _, _) =>
    p.tables.exec = Jvm.exec ∧ c.code = cc ∧ c.maxLocals = nL ∧ s.vm.findClass y.cls = some mi.cls ∧ (∀ w ∈ Ts, w.before args s = true) ∧ meth.sig.returnType = ret ∧ meth.locks = false ∧ R = rm ∧ va_K D vwCl (q_tys cs) s ∧ (∀ q : Nat, s.heap.size ≤ q → A q) ∧ q_env sA sV A s s.heap ∧ mcs.1 = rm.cells ∧ meth.name = y.name
/-- the end is a contract's -/
def q_QM (X : q_CX) : Prop := match X with
  | (_, _, _, _, s, _, args, below, _, _, _, _, _, _, _, A, _, mcs, Qc, Q) => Q = MQ below Qc args s mcs.1 mcs.2 A
/-- how far new cells may go -/
def q_cap (X : q_CX) (rm : Room) (cap : Nat × Nat) : Prop := match X with
  | (_, _, _, _, _, _, _, _, _, _, _, _, _, _, _, _, nz, _, _, _) => cap.1 ≤ nz.1 + rm.cells ∧ cap.2 ≤ nz.2 + rm.slots
/-- what must hold at a method's end -/
def q_RT (X : q_CX) : q_KR := match X with
  | (_, _, _, _, s, _, args, _, _, _, D, cs, ad0, sA, _, A, nz, mcs, Qc, _) => fun v sh m =>
    sh.length = nz.1 + mcs.1 ∧ q_sl sh = nz.2 + mcs.2 ∧ ∀ (ad : Nat → Nat) (H : Heap) (locs : List Loc) (t : State), va_P D vwCl (q_ws cs ad sA sh m) H → va_D A (q_ws cs ad sA sh m) → va_S A s.heap H locs → ((∀ k : Nat, k < nz.1 → ad k = ad0 k) ∧ (mcs.1 = 0 → ad = ad0)) → t.heap = H → s.WarmedH t.vm → Qc args s (.returned (v.map (q_cv ad sA))) t
def q_SK (X : q_CX) (nL pc : Nat) (t : q_TT) : Prop := ∀ (L : q_Lo) (st : List Value) (sh : q_Sh) (m : q_Mm) (K : q_KN) (R : q_KR), t L st sh m K R → (∀ pc L st sh m, K pc L st sh m → q_AW X nL pc L st sh m) → (∀ v sh m, R v sh m → q_RT X v sh m) → q_AW X nL pc L st sh m
/-- the least predicate closed under the steps -/
def q_WP (code : Nat → q_TT) (pc : Nat) (L : q_Lo) (st : List Value) (sh : q_Sh) (m : q_Mm) (R : q_KR) : Prop := ∀ P : q_KN, (∀ (pc : Nat) (L : q_Lo) (st : List Value) (sh : q_Sh) (m : q_Mm) (K : q_KN), (∀ pc L st sh m, K pc L st sh m → P pc L st sh m) → code pc L st sh m K R → P pc L st sh m) → P pc L st sh m
theorem q_go {code : Nat → q_TT} {pc : Nat} {L : q_Lo} {st : List Value} {sh : q_Sh} {m : q_Mm} {R : q_KR} (h : code pc L st sh m (fun pc L st sh m => q_WP code pc L st sh m R) R) : q_WP code pc L st sh m R :=
  fun P hP => hP pc L st sh m _ (fun _ _ _ _ _ h' => h' P hP) h
def o_no : q_TT := fun _ _ _ _ _ _ => False
theorem k_no {X : q_CX} {nL pc : Nat} : q_SK X nL pc o_no := fun _ _ _ _ _ _ h => h.elim
theorem k_at {X : q_CX} {nL pc a : Nat} {t u : q_TT} (h1 : q_SK X nL a t) (h2 : q_SK X nL pc u) : q_SK X nL pc (if pc = a then t else u) := by
  by_cases h : pc = a
  · subst h; rw [if_pos rfl]; exact h1
  · rw [if_neg h]; exact h2
/-- a jump to a place of its own -/
def o_cut (pc : Nat) : q_TT := fun L st sh m K _ => K pc L st sh m
theorem k_cut {X : q_CX} {nL pc : Nat} : q_SK X nL pc (o_cut pc) := fun L st sh m K R h hK _ => hK _ _ _ _ _ h
def q_loA : List Value → q_Lo
  | [] => []
  | v :: r => if v.category = 2 then some v :: none :: q_loA r else some v :: q_loA r
def q_lo (nL : Nat) (as : List Value) : q_Lo := q_loA as ++ List.replicate (nL - (q_loA as).length) none
theorem q_loA_len {ad sA : Nat → Nat} : ∀ as : List Value, (lg_sl (as.map (q_cv ad sA))).length = (q_loA as).length
  | [] => rfl
  | v :: r => by
    have := q_loA_len (ad := ad) (sA := sA) r
    simp only [lg_sl, List.map_cons, List.flatMap_cons, List.length_append, q_loA] at this ⊢
    rw [this, q_cv_cat]
    by_cases h : v.category = 2 <;> simp [h] <;> omega
theorem q_loA_in {ad sA : Nat → Nat} : ∀ (as : List Value) (o i : Nat) (v : Value), (q_loA as)[i]? = some (some v) → (o + i, q_cv ad sA v) ∈ lv_args o (as.map (q_cv ad sA))
  | [], _, _, _, h => by simp [q_loA] at h
  | w :: r, o, i, v, h => by
    rw [q_loA] at h
    show _ ∈ (o, q_cv ad sA w) :: lv_args (if (q_cv ad sA w).category = 2 then o + 2 else o + 1) (r.map (q_cv ad sA))
    rw [q_cv_cat]
    by_cases hw : w.category = 2
    · rw [if_pos hw] at h ⊢
      match i, h with
      | 0, h => simp at h; subst h; exact List.mem_cons_self
      | 1, h => simp at h
      | i + 2, h =>
        simp at h
        have := q_loA_in (ad := ad) (sA := sA) r (o + 2) i v h
        rw [show o + 2 + i = o + (i + 2) by omega] at this
        exact List.mem_cons_of_mem _ this
    · rw [if_neg hw] at h ⊢
      match i, h with
      | 0, h => simp at h; subst h; exact List.mem_cons_self
      | i + 1, h =>
        simp at h
        have := q_loA_in (ad := ad) (sA := sA) r (o + 1) i v h
        rw [show o + 1 + i = o + (i + 1) by omega] at this
        exact List.mem_cons_of_mem _ this
theorem q_lh.entry {ad sA : Nat → Nat} {as : List Value} {nL : Nat} {ls : Array Slot} (hn : (q_loA as).length ≤ nL) (h : lv_has ls nL (lv_args 0 (as.map (q_cv ad sA)))) : q_lh ad sA (q_lo nL as) ls nL := by
  refine ⟨by simp [q_lo]; omega, h.1, h.2.1, fun i v hi => ?_⟩
  have : (q_loA as)[i]? = some (some v) := by
    unfold q_lo at hi
    by_cases hl : i < (q_loA as).length
    · rwa [List.getElem?_append_left hl] at hi
    · rw [List.getElem?_append_right (by omega)] at hi
      rw [List.getElem?_replicate] at hi
      split at hi <;> simp at hi
  have := q_loA_in (ad := ad) (sA := sA) as 0 i v this
  rw [Nat.zero_add] at this
  exact h.2.2 (i, _) this
/-- the contract: from the world (sh, m) and the arguments as, to an answer and a world that Rr takes -/
def q_Pre (D : va_G) (cs : ClassId × ClassId × ClassId) (ad sA sV : Nat → Nat) (sz : Nat) (sh : q_Sh) (m : q_Mm) (U : State) : Prop :=
  U.heap.size = sz ∧ va_P D vwCl (q_ws cs ad sA sh m) U.heap ∧ va_K D vwCl (q_tys cs) U ∧ va_D (fun _ => True) (q_ws cs ad sA sh m) ∧ q_env sA sV (va_A (q_ws cs ad sA sh m) sz) U U.heap
def q_QQ (D : va_G) (cs : ClassId × ClassId × ClassId) (ad sA : Nat → Nat) (sz : Nat) (sh : q_Sh) (m : q_Mm) (rm : Room) (Rr : q_KR) : Array Value → State → Outcome → State → Prop := fun _ st oc t =>
  (∃ v sh' m' ad', oc = .returned (Option.map (q_cv ad' sA) v) ∧ Rr v sh' m' ∧ sh'.length = sh.length + rm.cells ∧ q_sl sh' = q_sl sh + rm.slots ∧ va_P D vwCl (q_ws cs ad' sA sh' m') t.heap ∧ va_D (va_A (q_ws cs ad sA sh m) sz) (q_ws cs ad' sA sh' m') ∧ (∀ k : Nat, k < sh.length → ad' k = ad k) ∧ (rm.cells = 0 → ad' = ad)) ∧ va_F (va_A (q_ws cs ad sA sh m) sz) st t
def q_AM (l : Launch) (y : MethodName) (ws : List Cond) (rm : Room) (as : List Value) (sh : q_Sh) (m : q_Mm) (Rr : q_KR) : Prop :=
  ∀ (D : va_G) (cs : ClassId × ClassId × ClassId) (ad sA sV : Nat → Nat) (sz : Nat),
    Met l y ws rm (va_Pc (as.map (q_cv ad sA)) (q_Pre D cs ad sA sV sz sh m)) (q_QQ D cs ad sA sz sh m rm Rr) rm.cells rm.slots (va_A (q_ws cs ad sA sh m) sz)
theorem q_Pre.blind {D : va_G} {cs : ClassId × ClassId × ClassId} {ad sA sV : Nat → Nat} {sz : Nat} {sh : q_Sh} {m : q_Mm} {av : List Value} : FrameBlind (va_Pc av (q_Pre D cs ad sA sV sz sh m)) :=
  fun a U g mk q => ⟨q.1, q.2.1, q.2.2.1, va_K.moved (u := U) (U := U.calling g mk a) (Vm.Alike.refl U.vm) q.2.2.2.1, q.2.2.2.2.1, q.2.2.2.2.2.calling g mk a⟩
def q_R0 (sh : q_Sh) (rm : Room) (Rr : q_KR) : q_KR := fun v sh' m' => sh'.length = sh.length + rm.cells ∧ q_sl sh' = q_sl sh + rm.slots ∧ Rr v sh' m'
theorem q_met {l : Launch} {y : MethodName} {ws' : List Cond} {cc : ByteArray} {nL : Nat} {ret : Option FieldType} {rm : Room} {code : Nat → q_TT} {as : List Value} {sh : q_Sh} {m : q_Mm} {Rr : q_KR} (hy : plainName y.cls = true)
    (hall : ∀ X : q_CX, X.2.1 = l → q_QM X → q_cap X rm (sh.length + rm.cells, q_sl sh + rm.slots) → q_OK X y cc nL ret rm (Cond.code y cc nL ret :: ws') → ∀ pc, q_SK X nL pc (code pc))
    (hn : (q_loA as).length ≤ nL) (h : q_WP code 0 (q_lo nL as) [] sh m (q_R0 sh rm Rr)) : q_AM l y (Cond.code y cc nL ret :: ws') rm as sh m Rr := by
  intro D cs ad sA sV sz
  refine Met.ofW (cc := cc) (maxL := nL) (ret := ret) hy rfl ?_
  intro p e s mi args below meth c s₁ B hml hv
  obtain ⟨rfl, hsz, hP, hK, hD0, hE⟩ := hv
  subst hsz
  have hl := lv_entry (as.map (q_cv ad sA)) (n := nL) (by rw [q_loA_len]; exact hn)
  rw [lg_entry_eq]
  generalize (lg_sl (as.map (q_cv ad sA)) ++ List.replicate (nL - (lg_sl (as.map (q_cv ad sA))).length) Slot.unset).toArray = ls at hl ⊢
  have hD := hD0.self (sz := s.heap.size)
  let X : q_CX := (p, l, e, rm, s, mi, (as.map (q_cv ad sA)).toArray, below, meth, c, D, cs, ad, sA, sV, va_A (q_ws cs ad sA sh m) s.heap.size, (sh.length, q_sl sh), (rm.cells, rm.slots), q_QQ D cs ad sA s.heap.size sh m rm Rr, MQ below (q_QQ D cs ad sA s.heap.size sh m rm Rr) (as.map (q_cv ad sA)).toArray s rm.cells rm.slots (va_A (q_ws cs ad sA sh m) s.heap.size))
  have hX : q_OK X y cc nL ret rm (Cond.code y cc nL ret :: ws') :=
    ⟨B.exec, B.bytes, hml, findClass_of_methodNamed B.named, atoms_spec (ws := Cond.code y cc nL ret :: ws') B.pre, B.returns, B.notSynchronized, rfl, hK, fun q h => Or.inr h, hE, rfl, (name_of_methodNamed B.named B.method).1⟩
  have hA := h (q_AW X nL) (fun pc L st sh' m' K hK' hc => hall X rfl rfl ⟨Nat.le_refl _, Nat.le_refl _⟩ hX pc L st sh' m' K _ hc hK' (fun v sh2 m2 hR => by
    obtain ⟨r1, r2, r3⟩ := hR
    refine ⟨r1, r2, fun ad' H locs t hP2 hD2 hS2 hz2 ht hW => ?_⟩
    subst ht
    exact ⟨⟨v, sh2, m2, ad', rfl, r3, r1, r2, hP2, hD2, hz2.1, hz2.2⟩, hS2.F rfl⟩))
  have hfin := hA ad s.heap [] ls (q_lh.entry hn hl) hP hD va_S.rf ⟨fun _ _ => rfl, fun _ => rfl⟩ ⟨Nat.le_refl _, Nat.le_add_right _ _⟩ ⟨Nat.le_refl _, Nat.le_add_right _ _⟩
  have h9 := hfin
  simp only [X, q_AW, Nat.sub_self] at h9
  exact h9
