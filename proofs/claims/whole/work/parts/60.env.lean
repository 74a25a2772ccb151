/-! What the start gives: the classes, the String constants, the links between nest mates. -/
section ST0
variable {args : Array Value} {s : State}
theorem st_aI (h : (Cond.arrayClass .int).before args s = true) : ∃ c, ArrOfT s c .int ∧ va_RA s c .int := by
  obtain ⟨c, k, comp, h1, h2, h3⟩ := Cond.arrayClass_spec h
  exact ⟨c, fun n z => ⟨fun k h => (by cases h), k, h2, comp, h3⟩, h1⟩
theorem st_aZ (h : (Cond.arrayClass .boolean).before args s = true) : ∃ c, ArrOfT s c .boolean ∧ va_RA s c .boolean := by
  obtain ⟨c, k, comp, h1, h2, h3⟩ := Cond.arrayClass_spec h
  exact ⟨c, fun n z => ⟨fun k h => (by cases h), k, h2, comp, h3⟩, h1⟩
theorem st_aO {C : String} (h : (Cond.arrayOver (.object C)).before args s = true) : ∃ c, ArrOfT s c (.object C) ∧ va_RA s c (.object C) := by
  obtain ⟨comp, c, k, h1, h2, h3, h4, h5⟩ := Cond.arrayOver_spec h
  exact ⟨c, fun n z => ⟨fun k h => (by cases h), k, h3, comp, h4⟩, k, comp, h3, h4, h1, h5⟩
theorem st_K (hts : ∀ w ∈ q_G, w.before args s = true) (hao : (Cond.arrayOver (.object RX1)).before args s = true) : ∃ (D : va_G) (cs : ClassId × ClassId × ClassId), va_K D vwCl (q_tys cs) s := by
  obtain ⟨c0, i0, h0⟩ := u_known (C := RX0) (T := TX0) (N := 2) (n := 2) hts q_inX0 (hts _ gw62)
  obtain ⟨c1, i1, h1⟩ := u_known (C := RX1) (T := TX1) (N := 5) (n := 5) hts q_inX1 (hts _ gw23)
  obtain ⟨c2, i2, h2⟩ := u_known (C := RX2) (T := TX2) (N := 3) (n := 3) hts q_inX2 (hts _ gw53)
  obtain ⟨c3, i3, h3⟩ := u_known (C := RX3) (T := TX3) (N := 4) (n := 4) hts q_inX3 (hts _ gw13)
  obtain ⟨c4, i4, h4⟩ := u_known (C := RX4) (T := TX4) (N := 14) (n := 14) hts q_inX4 (hts _ gw70)
  obtain ⟨c5, i5, h5⟩ := u_known (C := RX5) (T := TX5) (N := 2) (n := 2) hts q_inX5 (hts _ gw44)
  obtain ⟨c6, i6, h6⟩ := u_known (C := RX6) (T := TX6) (N := 8) (n := 8) hts q_inX6 (hts _ gw33)
  obtain ⟨c7, i7, h7⟩ := u_known (C := RX7) (T := TX7) (N := 2) (n := 2) hts q_inX7 (hts _ gw4)
  obtain ⟨c8, i8, h8⟩ := u_known (C := RX8) (T := TX8) (N := 11) (n := 11) hts q_inX8 (hts _ gw783)
  obtain ⟨c9, i9, h9⟩ := u_known (C := RX9) (T := TX9) (N := 33) (n := 33) hts q_inX9 (hts _ gw788)
  obtain ⟨aI, hI⟩ := st_aI (hts _ gw7)
  obtain ⟨aZ, hZ⟩ := st_aZ (hts _ gw30)
  obtain ⟨aO, hO⟩ := st_aO hao
  refine ⟨(fun k => if k = 0 then c0 else if k = 1 then c1 else if k = 2 then c2 else if k = 3 then c3 else if k = 4 then c4 else if k = 5 then c5 else if k = 6 then c6 else if k = 7 then c7 else if k = 8 then c8 else c9, fun k => if k = 0 then i0 else if k = 1 then i1 else if k = 2 then i2 else if k = 3 then i3 else if k = 4 then i4 else if k = 5 then i5 else if k = 6 then i6 else if k = 7 then i7 else if k = 8 then i8 else i9), (aI, aZ, aO), fun k q hq => ?_, fun k q hq => ?_⟩
  · match k, hq with
    | 0, hq => cases hq; exact h0
    | 1, hq => cases hq; exact h1
    | 2, hq => cases hq; exact h2
    | 3, hq => cases hq; exact h3
    | 4, hq => cases hq; exact h4
    | 5, hq => cases hq; exact h5
    | 6, hq => cases hq; exact h6
    | 7, hq => cases hq; exact h7
    | 8, hq => cases hq; exact h8
    | 9, hq => cases hq; exact h9
    | k + 10, hq => simp [vwCl] at hq
  · match k, hq with
    | 0, hq => cases hq; exact hI
    | 1, hq => cases hq; exact hZ
    | 2, hq => cases hq; exact hO
    | k + 3, hq => simp [q_tys] at hq
theorem st_nest (hts : ∀ w ∈ lw_tbl, w.before args s = true) : ∀ w ∈ q_nest, va_Nw (.methodLinkNest w.1 w.2.1 w.2.2 RX8) s := by
  unfold q_nest
  exact List.forall_mem_cons.mpr ⟨va_Nw.of rfl (hts _ (q_t1 _ (List.mem_of_getElem? (i := 27) (by decide +kernel)))), List.forall_mem_cons.mpr ⟨va_Nw.of rfl (hts _ (q_t1 _ (List.mem_of_getElem? (i := 64) (by decide +kernel)))), List.forall_mem_cons.mpr ⟨va_Nw.of rfl (hts _ (q_t1 _ (List.mem_of_getElem? (i := 129) (by decide +kernel)))), List.forall_mem_cons.mpr ⟨va_Nw.of rfl (hts _ (q_t1 _ (List.mem_of_getElem? (i := 142) (by decide +kernel)))), List.forall_mem_cons.mpr ⟨va_Nw.of rfl (hts _ (q_t1 _ (List.mem_of_getElem? (i := 158) (by decide +kernel)))), List.forall_mem_cons.mpr ⟨va_Nw.of rfl (hts _ (q_t4 _ (List.mem_of_getElem? (i := 110) (by decide +kernel)))), List.forall_mem_cons.mpr ⟨va_Nw.of rfl (hts _ (q_t4 _ (List.mem_of_getElem? (i := 123) (by decide +kernel)))), List.forall_mem_cons.mpr ⟨va_Nw.of rfl (hts _ (q_t3 _ (List.mem_of_getElem? (i := 149) (by decide +kernel)))), List.forall_mem_cons.mpr ⟨va_Nw.of rfl (hts _ (q_t3 _ (List.mem_of_getElem? (i := 163) (by decide +kernel)))), List.forall_mem_cons.mpr ⟨va_Nw.of rfl (hts _ (q_t4 _ (List.mem_of_getElem? (i := 83) (by decide +kernel)))), List.forall_mem_cons.mpr ⟨va_Nw.of rfl (hts _ (q_t4 _ (List.mem_of_getElem? (i := 84) (by decide +kernel)))), List.forall_mem_cons.mpr ⟨va_Nw.of rfl (hts _ (q_t2 _ (List.mem_of_getElem? (i := 187) (by decide +kernel)))), List.forall_mem_cons.mpr ⟨va_Nw.of rfl (hts _ (q_t1 _ (List.mem_of_getElem? (i := 188) (by decide +kernel)))), List.forall_mem_cons.mpr ⟨va_Nw.of rfl (hts _ (q_t1 _ (List.mem_of_getElem? (i := 203) (by decide +kernel)))), List.forall_mem_cons.mpr ⟨va_Nw.of rfl (hts _ (q_t2 _ (List.mem_of_getElem? (i := 230) (by decide +kernel)))), List.forall_mem_cons.mpr ⟨va_Nw.of rfl (hts _ (q_t3 _ (List.mem_of_getElem? (i := 217) (by decide +kernel)))), List.forall_mem_cons.mpr ⟨va_Nw.of rfl (hts _ (q_t3 _ (List.mem_of_getElem? (i := 224) (by decide +kernel)))), List.forall_mem_cons.mpr ⟨va_Nw.of rfl (hts _ (q_t3 _ (List.mem_of_getElem? (i := 229) (by decide +kernel)))), List.forall_mem_cons.mpr ⟨va_Nw.of rfl (hts _ (q_t3 _ (List.mem_of_getElem? (i := 22) (by decide +kernel)))), List.forall_mem_cons.mpr ⟨va_Nw.of rfl (hts _ (q_t4 _ (List.mem_of_getElem? (i := 40) (by decide +kernel)))), List.forall_mem_cons.mpr ⟨va_Nw.of rfl (hts _ (q_t2 _ (List.mem_of_getElem? (i := 87) (by decide +kernel)))), List.forall_mem_cons.mpr ⟨va_Nw.of rfl (hts _ (q_t2 _ (List.mem_of_getElem? (i := 117) (by decide +kernel)))), fun _ h => absurd h List.not_mem_nil⟩⟩⟩⟩⟩⟩⟩⟩⟩⟩⟩⟩⟩⟩⟩⟩⟩⟩⟩⟩⟩⟩
theorem st_str {A : Nat → Prop} (hgv : (Jvm.Cond.and given_1 narrow_1).before args s = true) (hA : ∀ a : Nat, a < s.heap.size → ¬ A a) : ∃ adK adV : Nat → Nat, vk_S 4 q_slen q_sbyt adK adV A s s.heap ∧ ∀ i : Nat, i < 4 → (Term.string RX3 (q_sty.getD i (0, "")).1).eval args s none [] s = some (.ref (adK i)) := by
  have hs := flat_of_before _ hgv
  have c4 : ∀ i : Nat, i < 4 → i = 0 ∨ i = 1 ∨ i = 2 ∨ i = 3 := fun i h => by omega
  refine vk_Sof (tm := fun i => Term.string RX3 (q_sty.getD i (0, "")).1) (fun i hi => ?_) (fun i hi => ?_) (fun i hi => ?_) (fun i hi => ?_) (fun i hi => ?_) (fun i hi j hj => ?_) (fun i j hi hj hij => ?_) hA
  · rcases c4 i hi with rfl | rfl | rfl | rfl <;> decide
  · rcases c4 i hi with rfl | rfl | rfl | rfl <;> exact hs _ (by decide +kernel)
  · rcases c4 i hi with rfl | rfl | rfl | rfl <;> exact hs _ (by decide +kernel)
  · rcases c4 i hi with rfl | rfl | rfl | rfl <;> exact hs _ (by decide +kernel)
  · rcases c4 i hi with rfl | rfl | rfl | rfl <;> exact hs _ (by decide +kernel)
  · rcases c4 i hi with rfl | rfl | rfl | rfl
    · have hj : j < 4 := hj
      rcases (show j = 0 ∨ j = 1 ∨ j = 2 ∨ j = 3 by omega) with rfl | rfl | rfl | rfl <;> exact hs _ (by decide +kernel)
    · have hj : j < 5 := hj
      rcases (show j = 0 ∨ j = 1 ∨ j = 2 ∨ j = 3 ∨ j = 4 by omega) with rfl | rfl | rfl | rfl | rfl <;> exact hs _ (by decide +kernel)
    · have hj : j < 3 := hj
      rcases (show j = 0 ∨ j = 1 ∨ j = 2 by omega) with rfl | rfl | rfl <;> exact hs _ (by decide +kernel)
    · have hj : j < 4 := hj
      rcases (show j = 0 ∨ j = 1 ∨ j = 2 ∨ j = 3 by omega) with rfl | rfl | rfl | rfl <;> exact hs _ (by decide +kernel)
  · rcases c4 i hi with rfl | rfl | rfl | rfl <;> rcases c4 j hj with rfl | rfl | rfl | rfl <;> first | exact absurd rfl hij | exact Or.inl (hs _ (by decide +kernel)) | exact Or.inr (hs _ (by decide +kernel))
theorem st_ref (hts : ∀ w ∈ lw_tbl, w.before args s = true) {sA : Nat → Nat} (h : ∀ i : Nat, i < 4 → (Term.string RX3 (q_sty.getD i (0, "")).1).eval args s none [] s = some (.ref (sA i))) : ∀ i : Nat, i < 4 → vk_R RX3 (q_sty.getD i (0, "")).1 (q_sty.getD i (0, "")).2 (sA i) s := fun i hi => by
  have h := h i hi
  rcases (show i = 0 ∨ i = 1 ∨ i = 2 ∨ i = 3 by omega) with rfl | rfl | rfl | rfl
  · exact vk_R.of (hts _ (q_t2 _ (List.mem_of_getElem? (i := 118) (by decide +kernel)))) h
  · exact vk_R.of (hts _ (q_t2 _ (List.mem_of_getElem? (i := 204) (by decide +kernel)))) h
  · exact vk_R.of (hts _ (q_t2 _ (List.mem_of_getElem? (i := 217) (by decide +kernel)))) h
  · exact vk_R.of (hts _ (q_t2 _ (List.mem_of_getElem? (i := 237) (by decide +kernel)))) h
theorem st_env {A : Nat → Prop} (b : Nat) (hts : ∀ w ∈ lw_tbl, w.before args s = true) (hgv : (Jvm.Cond.and given_1 narrow_1).before args s = true) (hA : ∀ a : Nat, a < s.heap.size → ¬ A a) : ∃ sA sV : Nat → Nat, sA 4 = b ∧ q_env sA sV A s s.heap := by
  have hs := flat_of_before _ hgv
  obtain ⟨adK, adV, hS, hR⟩ := st_str hgv hA
  have hC : va_Z RJ0 "COMPACT_STRINGS" "Z" (.int 1) A s s.heap := va_Zof (hts _ (q_t2 _ (List.mem_of_getElem? (i := 132) (by decide +kernel)))) (hts _ (q_t1 _ (List.mem_of_getElem? (i := 11) (by decide +kernel)))) (va_eqi (hs _ (by decide +kernel))) hA
  have hF : va_Zq RJ3 "SIOOBE_FORMATTER" "Ljava/util/function/BiFunction;" A s s.heap := va_Zqof (hts _ (q_t2 _ (List.mem_of_getElem? (i := 148) (by decide +kernel)))) (hts _ (q_t1 _ (List.mem_of_getElem? (i := 13) (by decide +kernel)))) (hs _ (by decide +kernel)) hA
  obtain ⟨z, hz⟩ : ∃ z : Nat, va_Z RJ3 "SIOOBE_FORMATTER" "Ljava/util/function/BiFunction;" .null A s s.heap ∨ va_Z RJ3 "SIOOBE_FORMATTER" "Ljava/util/function/BiFunction;" (.ref z) A s s.heap := by
    rcases hF with h | ⟨t, h⟩
    · exact ⟨0, Or.inl h⟩
    · exact ⟨t, Or.inr h⟩
  have e4 : ∀ i : Nat, i < 4 → (if i < 4 then adK i else if i = 4 then b else if i = 5 then z else adV (i - 10)) = adK i := fun i hi => if_pos hi
  refine ⟨fun i => if i < 4 then adK i else if i = 4 then b else if i = 5 then z else adV (i - 10), adV, rfl, st_nest hts, ⟨fun i hi => ?_, fun i j hi hj h => hS.2 i j hi hj ?_⟩, fun i hi => ?_, va_AO.of (hts _ (q_t1 _ (List.mem_of_getElem? (i := 89) (by decide +kernel)))), hC, hz, fun i hi => ?_⟩
  · have := hS.1 i hi
    dsimp only
    rw [e4 i hi]
    exact this
  · dsimp only at h
    rwa [e4 i hi, e4 j hj] at h
  · have := st_ref hts hR i hi
    dsimp only
    rw [e4 i hi]
    exact this
  · dsimp only
    rw [if_neg (by omega), if_neg (by omega), if_neg (by omega), Nat.add_sub_cancel_left]
end ST0
