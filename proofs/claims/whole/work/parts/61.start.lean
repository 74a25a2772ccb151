/-! The claim out of one walk of the law: the skeleton's rows, and whole_start. -/
def R_law : String := "TumblingRockLaw"
def lw_P (b : Addr) (xs : List Int32) (args : Array Value) (s : State) : Prop := args = #[.ref b] ∧ s.IntsAt b xs ∧ xs.length ≤ 320 ∧ (Jvm.Cond.and given_1 narrow_1).before args s = true
def lw_Q (_ : Array Value) (s : State) (o : Outcome) (t : State) : Prop := o = .returned (some (.int 1)) ∧ Framed s o t [] 600000 7302250
def lw_Z (below : List Frame) (a : Array Value) (s : State) : State → Prop := fun t => ∃ o, t.status = .running ∧ Ended t below o ∧ lw_Q a s o t
/-- the law's own end, with 1 on the stack, nothing written that was there before, its room as the claim has it -/
theorem lw_ret {p : Program} {l : Launch} {e : Env} {s : State} {m : MethodId} {below : List Frame} {meth : Method} {c : Code} {b : Nat} (hx : p.tables.exec = Jvm.exec) (hb : c.code = code) (hr : meth.sig.returnType = ret) (hlocks : meth.locks = false) {pc : Nat} {H : Heap} {ls : Array Slot} (hdg : decode code pc = .ok (.ireturn, 1)) : W p l e room_1 s m #[Value.ref b] below meth c H [] 600000 7302250 (lw_Z below #[Value.ref b] s) (F0 m pc ls [.int 1]) := by
  intro T hT X
  obtain ⟨fs, hret, hrun, hended, hW, hframe⟩ := X.leave (v := some (.int 1)) (hlocks := hlocks) (fun h => by rw [hr] at h; cases h)
  have hmeth' : T.vm.method? m = some meth := X.method'
  refine ⟨T.setFrames fs, ?_, .returned (some (.int 1)), hrun, hended, rfl, ⟨_, rfl⟩, hW, hframe⟩
  jvm_step X.here [X.here.top, hx, hb, hdg, hmeth', hr, ret, narrow_b1]
  (try refine ⟨rfl, ?_⟩); (try refine ⟨rfl, ?_⟩)
  first | (intro acts; rw [hret _ acts rfl rfl rfl]) | rw [hret _ _ rfl rfl rfl]
  exact Steps.refl _
/-- what holds at the law's entry: the machine, the code, the tables' words (any of lw_tbl by 'hts w (by decide +kernel)'), the script of L ints xs at the cell b, what the Statement gives of the start (any of its parts by flat_of_before) -/
def lw_At (p : Program) (s : State) (m : MethodId) (meth : Method) (c : Code) (b L : Nat) (xs : Nat → Int32) : Prop :=
  p.tables.exec = Jvm.exec ∧ c.code = code ∧ meth.sig.returnType = ret ∧ c.maxLocals = 4 ∧ s.vm.findClass R_law = some m.cls ∧ (∀ w ∈ lw_tbl, w.before #[Value.ref b] s = true) ∧ va_X b L xs s s.heap ∧ b < s.heap.size ∧ meth.locks = false ∧ (Jvm.Cond.and given_1 narrow_1).before #[Value.ref b] s = true
set_option maxHeartbeats 4000000 in
/-- the law, from its entry, over the machine itself -/
theorem whole_start {p : Program} {e : Env} {s : State} {m : MethodId} {below : List Frame} {meth : Method} {c : Code} (l : Launch) {b L : Nat} {xs : Nat → Int32} (hL : L ≤ 320) (C0 : lw_At p s m meth c b L xs) (hnm : meth.name = x.name) (hcode : (Cond.code x code maxLocals ret).before #[Value.ref b] s = true) : W p l e room_1 s m #[Value.ref b] below meth c s.heap [] 0 0 (lw_Z below #[Value.ref b] s) (entryFrame m ([Value.ref b] : List Value).toArray 4) := by
  obtain ⟨hx, hb, hr, hml, hown, hts, hX, hbl, hlocks, hgv⟩ := C0
  have hG : ∀ w ∈ q_G, w.before #[Value.ref b] s = true := fun w hw => hts w (List.mem_filter.mp hw).1
  obtain ⟨D, cs, hK⟩ := st_K hG (hts _ (q_t1 _ (List.mem_of_getElem? (i := 89) (by decide +kernel))))
  have hA : ∀ a : Nat, a < s.heap.size → ¬ (fun q : Nat => s.heap.size ≤ q) a := fun a h => Nat.not_le.mpr h
  obtain ⟨sA, sV, hsb, hE⟩ := st_env (A := fun q : Nat => s.heap.size ≤ q) b hts hgv hA
  subst hsb
  have hl := lv_entry ([.ref (sA 4)]) (n := 4) (Nat.le_of_ble_eq_true rfl)
  rw [lg_entry_eq]
  generalize (lg_sl ([.ref (sA 4)]) ++ List.replicate (4 - (lg_sl ([.ref (sA 4)])).length) Slot.unset).toArray = ls at hl ⊢
  let X : q_CX := (p, l, e, room_1, s, m, #[Value.ref (sA 4)], below, meth, c, D, cs, (fun _ => 0), sA, sV, (fun q : Nat => s.heap.size ≤ q), (0, 0), (600000, 7302250), (fun _ _ _ _ => True), lw_Z below #[Value.ref (sA 4)] s)
  have hOK : q_OK X yL_law cL_law 4 (some .boolean) room_1 (Cond.code yL_law cL_law 4 (some .boolean) :: q_G) :=
    ⟨hx, hb, hml, hown, List.forall_mem_cons.mpr ⟨hcode, hG⟩, hr, hlocks, rfl, hK, fun q h => h, hE, rfl, hnm⟩
  have hQ : q_LQ X := ⟨rfl, rfl, fun q h => h, fun H pc ls hd => lw_ret hx hb hr hlocks hd⟩
  have hz : q_scr X L xs := ⟨hX, hbl, Nat.not_le.mpr hbl⟩
  have hcap : q_cap X room_1 L_cap := ⟨Nat.le_of_ble_eq_true rfl, Nat.le_of_ble_eq_true rfl⟩
  have hW := L_start (xs := xs) (RR := fun _ _ _ => False) hL (fun _ _ => 0) (q_AW X 4) (fun pc L' st sh' m' K hK' hc => sL_law (l := l) rfl hQ hcap hz hOK pc L' st sh' m' K _ hc hK' (fun _ _ _ h => h.elim))
  have h9 := hW (fun _ => 0) s.heap [] ls (q_lh.entry (by decide) hl) (fun k q h => by simp [q_ws] at h) ⟨fun i j p q h => by simp [q_ws] at h, fun k q h => by simp [q_ws] at h⟩ va_S.rf ⟨fun _ _ => rfl, fun _ => rfl⟩ ⟨Nat.le_refl _, Nat.zero_le _⟩ ⟨Nat.zero_le _, Nat.zero_le _⟩
  simp only [X] at h9
  exact h9
