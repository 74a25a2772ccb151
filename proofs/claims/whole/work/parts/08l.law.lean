/-! The law as a transformer: its blocks, their soundness. -/
abbrev yL_law : MethodName := x
abbrev cL_law : ByteArray := code
def L_cap : Nat × Nat := (600000, 7302250)
def q_scr (X : q_CX) (Ln : Nat) (xs : Nat → Int32) : Prop := match X with
  | (_, _, _, _, s, _, _, _, _, _, _, _, _, sA, _, A, _, _, _, _) => va_X (sA 4) Ln xs s s.heap ∧ sA 4 < s.heap.size ∧ ¬ A (sA 4)
def q_LQ (X : q_CX) : Prop := match X with
  | (p, l, e, R, s, mi, args, below, meth, c, _, _, _, _, _, A, nz, _, _, Q) => R = room_1 ∧ nz = (0, 0) ∧ (∀ q : Nat, A q → s.heap.size ≤ q) ∧ ∀ (H : Heap) (pc : Nat) (ls : Array Slot), decode code pc = .ok (.ireturn, 1) → W p l e R s mi args below meth c H [] 600000 7302250 Q (F0 mi pc ls [.int 1])
def o_sld (Ln : Nat) (xs : Nat → Int32) (t : q_TT) : q_TT := fun L st sh m K R => match st with
  | .int i :: .retAddr a :: st => a = 4 ∧ vp_in i Ln ∧ t L (.int (xs i.toNatClampNeg) :: st) sh m K R
  | _ => False
theorem k_sld {X : q_CX} {y : MethodName} {cc : ByteArray} {nL : Nat} {ret : Option FieldType} {rm : Room} {Ts : List Cond} (h : q_OK X y cc nL ret rm Ts) {Ln : Nat} {xs : Nat → Int32} (hz : q_scr X Ln xs) {pc : Nat} {t : q_TT} (hd : decode cc pc = .ok (.iaload, 1)) (ht : q_SK X nL (pc + 1) t) : q_SK X nL pc (o_sld Ln xs t) := by
  intro L st sh m K R hT hK hR
  obtain ⟨p, l, e, Rm, s, mi, args, below, meth, c, D, cs, ad0, sA, sV, A, nz, mcs, Qc, Q⟩ := X
  obtain ⟨hx, hb, hml, hown, hts, hr, hlks, hRm, hKK, hA, hE, hmc, hnm⟩ := h
  unfold o_sld at hT
  split at hT
  · obtain ⟨h4, hin, hT⟩ := hT
    subst h4
    intro ad H locs ls hl hP hD hS h1 h2 h3
    exact va_sld hx hb hz.1 hz.2.1 hz.2.2 hS hin hd (ht _ _ _ _ _ _ hT hK hR ad H locs ls hl hP hD hS h1 h2 h3)
  · exact hT.elim
def o_sln (Ln : Nat) (t : q_TT) : q_TT := fun L st sh m K R => match st with
  | .retAddr a :: st => a = 4 ∧ t L (.int (nI Ln) :: st) sh m K R
  | _ => False
theorem k_sln {X : q_CX} {y : MethodName} {cc : ByteArray} {nL : Nat} {ret : Option FieldType} {rm : Room} {Ts : List Cond} (h : q_OK X y cc nL ret rm Ts) {Ln : Nat} {xs : Nat → Int32} (hz : q_scr X Ln xs) {pc : Nat} {t : q_TT} (hd : decode cc pc = .ok (.arraylength, 1)) (ht : q_SK X nL (pc + 1) t) : q_SK X nL pc (o_sln Ln t) := by
  intro L st sh m K R hT hK hR
  obtain ⟨p, l, e, Rm, s, mi, args, below, meth, c, D, cs, ad0, sA, sV, A, nz, mcs, Qc, Q⟩ := X
  obtain ⟨hx, hb, hml, hown, hts, hr, hlks, hRm, hKK, hA, hE, hmc, hnm⟩ := h
  unfold o_sln at hT
  split at hT
  · obtain ⟨h4, hT⟩ := hT
    subst h4
    intro ad H locs ls hl hP hD hS h1 h2 h3
    exact va_slen hx hb hz.1 hz.2.1 hz.2.2 hS hd (ht _ _ _ _ _ _ hT hK hR ad H locs ls hl hP hD hS h1 h2 h3)
  · exact hT.elim
def o_lret : q_TT := fun _ st _ _ _ _ => st = [.int 1]
theorem k_lret {X : q_CX} {y : MethodName} {nL : Nat} {ret : Option FieldType} {rm : Room} {Ts : List Cond} (h : q_OK X y code nL ret rm Ts) (hQ : q_LQ X) {pc : Nat} (hd : decode code pc = .ok (.ireturn, 1)) : q_SK X nL pc o_lret := by
  intro L st sh m K R hT hK hR
  obtain ⟨p, l, e, Rm, s, mi, args, below, meth, c, D, cs, ad0, sA, sV, A, nz, mcs, Qc, Q⟩ := X
  obtain ⟨q1, q2, q3, q4⟩ := hQ
  subst q1 q2
  have hT : st = [.int 1] := hT
  subst hT
  intro ad H locs ls hl hP hD hS h1 h2 h3
  have c1 : room_1.cells = 600000 := rfl
  have c2 : room_1.slots = 7302250 := rfl
  exact va_forget (fun q hq => q3 _ (hS.2.2 q hq)) (W.widen (by show sh.length - 0 ≤ 600000; have := h2.2; dsimp only at this; omega) (by show q_sl sh - 0 ≤ 7302250; have := h3.2; dsimp only at this; omega) (q4 H pc ls hd))
def BL_law_0 (Ln : Nat) (xs : Nat → Int32) : q_TT := o_new 8 [some .null, some .null, some .null, some .null, some .null, some .null, some .null, some .null, some .null, some .null, some .null] L_cap (o_dup (o_callI 8 0 (rmX8_init.cells, rmX8_init.slots) L_cap wX8_init (o_as 1 (o_new 9 [some .null, some .null, some .null, some .null, some .null, some .null, some .null, none, none, none, none, none, none, none, none, some .null, none, none, none, none, none, none, none, some .null, some .null, some .null, some .null, some .null, none, some .null, some .null, some .null, none] L_cap (o_dup (o_callI 9 0 (rmX9_init.cells, rmX9_init.slots) L_cap wX9_init (o_as 2 (o_ic 0 (o_is 3 ((o_cut 18)))))))))))
def BL_law_1083 (Ln : Nat) (xs : Nat → Int32) : q_TT := o_ic 1 (o_lret)
def BL_law_26 (Ln : Nat) (xs : Nat → Int32) : q_TT := o_al 0 (o_il 3 (o_sld Ln xs (o_ic 31 (o_iand (o_sw 0 [(o_cut 164), (o_cut 227), (o_cut 240), (o_cut 253), (o_cut 276), (o_cut 309), (o_cut 342), (o_cut 375), (o_cut 398), (o_cut 421), (o_cut 454), (o_cut 477), (o_cut 500), (o_cut 543), (o_cut 576), (o_cut 629), (o_cut 682), (o_cut 725), (o_cut 768), (o_cut 781), (o_cut 840), (o_cut 873), (o_cut 896), (o_cut 949), (o_cut 972), (o_cut 985), (o_cut 1008), (o_cut 1031), (o_cut 1054)] (o_cut 1077))))))
def BL_law_18 (Ln : Nat) (xs : Nat → Int32) : q_TT := o_il 3 (o_al 0 (o_sln Ln (o_ic 5 (o_isub (o_icgt (BL_law_1083 Ln xs) (BL_law_26 Ln xs))))))
def BL_law_225 (Ln : Nat) (xs : Nat → Int32) : q_TT := o_ic 0 (o_lret)
def BL_law_164 (Ln : Nat) (xs : Nat → Int32) : q_TT := o_al 1 (o_al 0 (o_il 3 (o_ic 1 (o_iadd (o_sld Ln xs (o_al 0 (o_il 3 (o_ic 2 (o_iadd (o_sld Ln xs (o_i2l (o_ic 32 (o_lshl (o_al 0 (o_il 3 (o_ic 3 (o_iadd (o_sld Ln xs (o_i2l (o_lc 4294967295 (o_land (o_lor (o_callV 8 2 wX8_feed (o_al 2 (o_al 0 (o_il 3 (o_ic 1 (o_iadd (o_sld Ln xs (o_al 0 (o_il 3 (o_ic 2 (o_iadd (o_sld Ln xs (o_i2l (o_ic 32 (o_lshl (o_al 0 (o_il 3 (o_ic 3 (o_iadd (o_sld Ln xs (o_i2l (o_lc 4294967295 (o_land (o_lor (o_callV 9 2 wX9_feed (o_iceq (o_cut 1077) (BL_law_225 Ln xs)))))))))))))))))))))))))))))))))))))))))))))))))
def BL_law_238 (Ln : Nat) (xs : Nat → Int32) : q_TT := o_ic 0 (o_lret)
def BL_law_227 (Ln : Nat) (xs : Nat → Int32) : q_TT := o_al 1 (o_callV 8 0 wX8_rock (o_al 2 (o_callV 9 0 wX9_rock (o_iceq (o_cut 1077) (BL_law_238 Ln xs)))))
def BL_law_251 (Ln : Nat) (xs : Nat → Int32) : q_TT := o_ic 0 (o_lret)
def BL_law_240 (Ln : Nat) (xs : Nat → Int32) : q_TT := o_al 1 (o_callV 8 0 wX8_fault (o_al 2 (o_callV 9 0 wX9_fault (o_iceq (o_cut 1077) (BL_law_251 Ln xs)))))
def BL_law_274 (Ln : Nat) (xs : Nat → Int32) : q_TT := o_ic 0 (o_lret)
def BL_law_253 (Ln : Nat) (xs : Nat → Int32) : q_TT := o_al 1 (o_al 0 (o_il 3 (o_ic 1 (o_iadd (o_sld Ln xs (o_callV 8 1 wX8_told (o_al 2 (o_al 0 (o_il 3 (o_ic 1 (o_iadd (o_sld Ln xs (o_callV 9 1 wX9_told (o_iceq (o_cut 1077) (BL_law_274 Ln xs)))))))))))))))
def BL_law_307 (Ln : Nat) (xs : Nat → Int32) : q_TT := o_ic 0 (o_lret)
def BL_law_276 (Ln : Nat) (xs : Nat → Int32) : q_TT := o_al 1 (o_al 0 (o_il 3 (o_ic 1 (o_iadd (o_sld Ln xs (o_al 0 (o_il 3 (o_ic 2 (o_iadd (o_sld Ln xs (o_callV 8 2 wX8_turning (o_al 2 (o_al 0 (o_il 3 (o_ic 1 (o_iadd (o_sld Ln xs (o_al 0 (o_il 3 (o_ic 2 (o_iadd (o_sld Ln xs (o_callV 9 2 wX9_turning (o_iceq (o_cut 1077) (BL_law_307 Ln xs)))))))))))))))))))))))))
def BL_law_340 (Ln : Nat) (xs : Nat → Int32) : q_TT := o_ic 0 (o_lret)
def BL_law_309 (Ln : Nat) (xs : Nat → Int32) : q_TT := o_al 1 (o_al 0 (o_il 3 (o_ic 1 (o_iadd (o_sld Ln xs (o_al 0 (o_il 3 (o_ic 2 (o_iadd (o_sld Ln xs (o_callV 8 2 wX8_place (o_al 2 (o_al 0 (o_il 3 (o_ic 1 (o_iadd (o_sld Ln xs (o_al 0 (o_il 3 (o_ic 2 (o_iadd (o_sld Ln xs (o_callV 9 2 wX9_place (o_iceq (o_cut 1077) (BL_law_340 Ln xs)))))))))))))))))))))))))
def BL_law_373 (Ln : Nat) (xs : Nat → Int32) : q_TT := o_ic 0 (o_lret)
def BL_law_342 (Ln : Nat) (xs : Nat → Int32) : q_TT := o_al 1 (o_al 0 (o_il 3 (o_ic 1 (o_iadd (o_sld Ln xs (o_al 0 (o_il 3 (o_ic 2 (o_iadd (o_sld Ln xs (o_callV 8 2 wX8_height (o_al 2 (o_al 0 (o_il 3 (o_ic 1 (o_iadd (o_sld Ln xs (o_al 0 (o_il 3 (o_ic 2 (o_iadd (o_sld Ln xs (o_callV 9 2 wX9_height (o_iceq (o_cut 1077) (BL_law_373 Ln xs)))))))))))))))))))))))))
def BL_law_396 (Ln : Nat) (xs : Nat → Int32) : q_TT := o_ic 0 (o_lret)
def BL_law_375 (Ln : Nat) (xs : Nat → Int32) : q_TT := o_al 1 (o_al 0 (o_il 3 (o_ic 1 (o_iadd (o_sld Ln xs (o_callV 8 1 wX8_stay (o_al 2 (o_al 0 (o_il 3 (o_ic 1 (o_iadd (o_sld Ln xs (o_callV 9 1 wX9_stay (o_iceq (o_cut 1077) (BL_law_396 Ln xs)))))))))))))))
def BL_law_419 (Ln : Nat) (xs : Nat → Int32) : q_TT := o_ic 0 (o_lret)
def BL_law_398 (Ln : Nat) (xs : Nat → Int32) : q_TT := o_al 1 (o_al 0 (o_il 3 (o_ic 1 (o_iadd (o_sld Ln xs (o_callV 8 1 wX8_go (o_al 2 (o_al 0 (o_il 3 (o_ic 1 (o_iadd (o_sld Ln xs (o_callV 9 1 wX9_go (o_iceq (o_cut 1077) (BL_law_419 Ln xs)))))))))))))))
def BL_law_452 (Ln : Nat) (xs : Nat → Int32) : q_TT := o_ic 0 (o_lret)
def BL_law_421 (Ln : Nat) (xs : Nat → Int32) : q_TT := o_al 1 (o_al 0 (o_il 3 (o_ic 1 (o_iadd (o_sld Ln xs (o_al 0 (o_il 3 (o_ic 2 (o_iadd (o_sld Ln xs (o_callV 8 2 wX8_knock (o_al 2 (o_al 0 (o_il 3 (o_ic 1 (o_iadd (o_sld Ln xs (o_al 0 (o_il 3 (o_ic 2 (o_iadd (o_sld Ln xs (o_callV 9 2 wX9_knock (o_iceq (o_cut 1077) (BL_law_452 Ln xs)))))))))))))))))))))))))
def BL_law_475 (Ln : Nat) (xs : Nat → Int32) : q_TT := o_ic 0 (o_lret)
def BL_law_454 (Ln : Nat) (xs : Nat → Int32) : q_TT := o_al 1 (o_al 0 (o_il 3 (o_ic 1 (o_iadd (o_sld Ln xs (o_callV 8 1 wX8_push (o_al 2 (o_al 0 (o_il 3 (o_ic 1 (o_iadd (o_sld Ln xs (o_callV 9 1 wX9_push (o_iceq (o_cut 1077) (BL_law_475 Ln xs)))))))))))))))
def BL_law_498 (Ln : Nat) (xs : Nat → Int32) : q_TT := o_ic 0 (o_lret)
def BL_law_477 (Ln : Nat) (xs : Nat → Int32) : q_TT := o_al 1 (o_al 0 (o_il 3 (o_ic 1 (o_iadd (o_sld Ln xs (o_callV 8 1 wX8_drift (o_al 2 (o_al 0 (o_il 3 (o_ic 1 (o_iadd (o_sld Ln xs (o_callV 9 1 wX9_drift (o_iceq (o_cut 1077) (BL_law_498 Ln xs)))))))))))))))
def BL_law_541 (Ln : Nat) (xs : Nat → Int32) : q_TT := o_ic 0 (o_lret)
def BL_law_500 (Ln : Nat) (xs : Nat → Int32) : q_TT := o_al 1 (o_al 0 (o_il 3 (o_ic 1 (o_iadd (o_sld Ln xs (o_al 0 (o_il 3 (o_ic 2 (o_iadd (o_sld Ln xs (o_al 0 (o_il 3 (o_ic 3 (o_iadd (o_sld Ln xs (o_callV 8 3 wX8_next (o_al 2 (o_al 0 (o_il 3 (o_ic 1 (o_iadd (o_sld Ln xs (o_al 0 (o_il 3 (o_ic 2 (o_iadd (o_sld Ln xs (o_al 0 (o_il 3 (o_ic 3 (o_iadd (o_sld Ln xs (o_callV 9 3 wX9_next (o_iceq (o_cut 1077) (BL_law_541 Ln xs)))))))))))))))))))))))))))))))))))
def BL_law_574 (Ln : Nat) (xs : Nat → Int32) : q_TT := o_ic 0 (o_lret)
def BL_law_543 (Ln : Nat) (xs : Nat → Int32) : q_TT := o_al 1 (o_al 0 (o_il 3 (o_ic 1 (o_iadd (o_sld Ln xs (o_al 0 (o_il 3 (o_ic 2 (o_iadd (o_sld Ln xs (o_callV 8 2 wX8_share (o_al 2 (o_al 0 (o_il 3 (o_ic 1 (o_iadd (o_sld Ln xs (o_al 0 (o_il 3 (o_ic 2 (o_iadd (o_sld Ln xs (o_callV 9 2 wX9_share (o_iceq (o_cut 1077) (BL_law_574 Ln xs)))))))))))))))))))))))))
def BL_law_627 (Ln : Nat) (xs : Nat → Int32) : q_TT := o_ic 0 (o_lret)
def BL_law_576 (Ln : Nat) (xs : Nat → Int32) : q_TT := o_al 1 (o_al 0 (o_il 3 (o_ic 1 (o_iadd (o_sld Ln xs (o_al 0 (o_il 3 (o_ic 2 (o_iadd (o_sld Ln xs (o_al 0 (o_il 3 (o_ic 3 (o_iadd (o_sld Ln xs (o_al 0 (o_il 3 (o_ic 4 (o_iadd (o_sld Ln xs (o_callV 8 4 wX8_stand (o_al 2 (o_al 0 (o_il 3 (o_ic 1 (o_iadd (o_sld Ln xs (o_al 0 (o_il 3 (o_ic 2 (o_iadd (o_sld Ln xs (o_al 0 (o_il 3 (o_ic 3 (o_iadd (o_sld Ln xs (o_al 0 (o_il 3 (o_ic 4 (o_iadd (o_sld Ln xs (o_callV 9 4 wX9_stand (o_iceq (o_cut 1077) (BL_law_627 Ln xs)))))))))))))))))))))))))))))))))))))))))))))
def BL_law_680 (Ln : Nat) (xs : Nat → Int32) : q_TT := o_ic 0 (o_lret)
def BL_law_629 (Ln : Nat) (xs : Nat → Int32) : q_TT := o_al 1 (o_al 0 (o_il 3 (o_ic 1 (o_iadd (o_sld Ln xs (o_al 0 (o_il 3 (o_ic 2 (o_iadd (o_sld Ln xs (o_al 0 (o_il 3 (o_ic 3 (o_iadd (o_sld Ln xs (o_al 0 (o_il 3 (o_ic 4 (o_iadd (o_sld Ln xs (o_callV 8 4 wX8_way (o_al 2 (o_al 0 (o_il 3 (o_ic 1 (o_iadd (o_sld Ln xs (o_al 0 (o_il 3 (o_ic 2 (o_iadd (o_sld Ln xs (o_al 0 (o_il 3 (o_ic 3 (o_iadd (o_sld Ln xs (o_al 0 (o_il 3 (o_ic 4 (o_iadd (o_sld Ln xs (o_callV 9 4 wX9_way (o_iceq (o_cut 1077) (BL_law_680 Ln xs)))))))))))))))))))))))))))))))))))))))))))))
def BL_law_723 (Ln : Nat) (xs : Nat → Int32) : q_TT := o_ic 0 (o_lret)
def BL_law_682 (Ln : Nat) (xs : Nat → Int32) : q_TT := o_al 1 (o_al 0 (o_il 3 (o_ic 1 (o_iadd (o_sld Ln xs (o_al 0 (o_il 3 (o_ic 2 (o_iadd (o_sld Ln xs (o_al 0 (o_il 3 (o_ic 3 (o_iadd (o_sld Ln xs (o_callV 8 3 wX8_mail (o_al 2 (o_al 0 (o_il 3 (o_ic 1 (o_iadd (o_sld Ln xs (o_al 0 (o_il 3 (o_ic 2 (o_iadd (o_sld Ln xs (o_al 0 (o_il 3 (o_ic 3 (o_iadd (o_sld Ln xs (o_callV 9 3 wX9_mail (o_iceq (o_cut 1077) (BL_law_723 Ln xs)))))))))))))))))))))))))))))))))))
def BL_law_766 (Ln : Nat) (xs : Nat → Int32) : q_TT := o_ic 0 (o_lret)
def BL_law_725 (Ln : Nat) (xs : Nat → Int32) : q_TT := o_al 1 (o_al 0 (o_il 3 (o_ic 1 (o_iadd (o_sld Ln xs (o_al 0 (o_il 3 (o_ic 2 (o_iadd (o_sld Ln xs (o_al 0 (o_il 3 (o_ic 3 (o_iadd (o_sld Ln xs (o_callV 8 3 wX8_cross (o_al 2 (o_al 0 (o_il 3 (o_ic 1 (o_iadd (o_sld Ln xs (o_al 0 (o_il 3 (o_ic 2 (o_iadd (o_sld Ln xs (o_al 0 (o_il 3 (o_ic 3 (o_iadd (o_sld Ln xs (o_callV 9 3 wX9_cross (o_iceq (o_cut 1077) (BL_law_766 Ln xs)))))))))))))))))))))))))))))))))))
def BL_law_779 (Ln : Nat) (xs : Nat → Int32) : q_TT := o_ic 0 (o_lret)
def BL_law_768 (Ln : Nat) (xs : Nat → Int32) : q_TT := o_al 1 (o_callV 8 0 wX8_store (o_al 2 (o_callV 9 0 wX9_store (o_iceq (o_cut 1077) (BL_law_779 Ln xs)))))
def BL_law_804 (Ln : Nat) (xs : Nat → Int32) : q_TT := o_ic 0 ((o_cut 805))
def BL_law_800 (Ln : Nat) (xs : Nat → Int32) : q_TT := o_ic 1 ((o_cut 805))
def BL_law_781 (Ln : Nat) (xs : Nat → Int32) : q_TT := o_al 1 (o_al 0 (o_il 3 (o_ic 1 (o_iadd (o_sld Ln xs (o_al 0 (o_il 3 (o_ic 2 (o_iadd (o_sld Ln xs (o_al 0 (o_il 3 (o_ic 3 (o_iadd (o_sld Ln xs (o_ifeq (BL_law_804 Ln xs) (BL_law_800 Ln xs)))))))))))))))))
def BL_law_838 (Ln : Nat) (xs : Nat → Int32) : q_TT := o_ic 0 (o_lret)
def BL_law_832 (Ln : Nat) (xs : Nat → Int32) : q_TT := o_callV 9 3 wX9_see (o_iceq (o_cut 1077) (BL_law_838 Ln xs))
def BL_law_831 (Ln : Nat) (xs : Nat → Int32) : q_TT := o_ic 0 ((BL_law_832 Ln xs))
def BL_law_827 (Ln : Nat) (xs : Nat → Int32) : q_TT := o_ic 1 ((BL_law_832 Ln xs))
def BL_law_805 (Ln : Nat) (xs : Nat → Int32) : q_TT := o_callV 8 3 wX8_see (o_al 2 (o_al 0 (o_il 3 (o_ic 1 (o_iadd (o_sld Ln xs (o_al 0 (o_il 3 (o_ic 2 (o_iadd (o_sld Ln xs (o_al 0 (o_il 3 (o_ic 3 (o_iadd (o_sld Ln xs (o_ifeq (BL_law_831 Ln xs) (BL_law_827 Ln xs))))))))))))))))))
def BL_law_871 (Ln : Nat) (xs : Nat → Int32) : q_TT := o_ic 0 (o_lret)
def BL_law_840 (Ln : Nat) (xs : Nat → Int32) : q_TT := o_al 1 (o_al 0 (o_il 3 (o_ic 1 (o_iadd (o_sld Ln xs (o_al 0 (o_il 3 (o_ic 2 (o_iadd (o_sld Ln xs (o_callV 8 2 wX8_fits (o_al 2 (o_al 0 (o_il 3 (o_ic 1 (o_iadd (o_sld Ln xs (o_al 0 (o_il 3 (o_ic 2 (o_iadd (o_sld Ln xs (o_callV 9 2 wX9_fits (o_iceq (o_cut 1077) (BL_law_871 Ln xs)))))))))))))))))))))))))
def BL_law_894 (Ln : Nat) (xs : Nat → Int32) : q_TT := o_ic 0 (o_lret)
def BL_law_873 (Ln : Nat) (xs : Nat → Int32) : q_TT := o_al 1 (o_al 0 (o_il 3 (o_ic 1 (o_iadd (o_sld Ln xs (o_callV 8 1 wX8_look (o_al 2 (o_al 0 (o_il 3 (o_ic 1 (o_iadd (o_sld Ln xs (o_callV 9 1 wX9_look (o_iceq (o_cut 1077) (BL_law_894 Ln xs)))))))))))))))
def BL_law_947 (Ln : Nat) (xs : Nat → Int32) : q_TT := o_ic 0 (o_lret)
def BL_law_896 (Ln : Nat) (xs : Nat → Int32) : q_TT := o_al 1 (o_al 0 (o_il 3 (o_ic 1 (o_iadd (o_sld Ln xs (o_al 0 (o_il 3 (o_ic 2 (o_iadd (o_sld Ln xs (o_al 0 (o_il 3 (o_ic 3 (o_iadd (o_sld Ln xs (o_al 0 (o_il 3 (o_ic 4 (o_iadd (o_sld Ln xs (o_callV 8 4 wX8_mend (o_al 2 (o_al 0 (o_il 3 (o_ic 1 (o_iadd (o_sld Ln xs (o_al 0 (o_il 3 (o_ic 2 (o_iadd (o_sld Ln xs (o_al 0 (o_il 3 (o_ic 3 (o_iadd (o_sld Ln xs (o_al 0 (o_il 3 (o_ic 4 (o_iadd (o_sld Ln xs (o_callV 9 4 wX9_mend (o_iceq (o_cut 1077) (BL_law_947 Ln xs)))))))))))))))))))))))))))))))))))))))))))))
def BL_law_970 (Ln : Nat) (xs : Nat → Int32) : q_TT := o_ic 0 (o_lret)
def BL_law_949 (Ln : Nat) (xs : Nat → Int32) : q_TT := o_al 1 (o_al 0 (o_il 3 (o_ic 1 (o_iadd (o_sld Ln xs (o_callV 8 1 wX8_write (o_al 2 (o_al 0 (o_il 3 (o_ic 1 (o_iadd (o_sld Ln xs (o_callV 9 1 wX9_write (o_iceq (o_cut 1077) (BL_law_970 Ln xs)))))))))))))))
def BL_law_983 (Ln : Nat) (xs : Nat → Int32) : q_TT := o_ic 0 (o_lret)
def BL_law_972 (Ln : Nat) (xs : Nat → Int32) : q_TT := o_al 1 (o_callV 8 0 wX8_tear (o_al 2 (o_callV 9 0 wX9_tear (o_iceq (o_cut 1077) (BL_law_983 Ln xs)))))
def BL_law_1006 (Ln : Nat) (xs : Nat → Int32) : q_TT := o_ic 0 (o_lret)
def BL_law_985 (Ln : Nat) (xs : Nat → Int32) : q_TT := o_al 1 (o_al 0 (o_il 3 (o_ic 1 (o_iadd (o_sld Ln xs (o_callV 8 1 wX8_judge (o_al 2 (o_al 0 (o_il 3 (o_ic 1 (o_iadd (o_sld Ln xs (o_callV 9 1 wX9_judge (o_iceq (o_cut 1077) (BL_law_1006 Ln xs)))))))))))))))
def BL_law_1029 (Ln : Nat) (xs : Nat → Int32) : q_TT := o_ic 0 (o_lret)
def BL_law_1008 (Ln : Nat) (xs : Nat → Int32) : q_TT := o_al 1 (o_al 0 (o_il 3 (o_ic 1 (o_iadd (o_sld Ln xs (o_callV 8 1 wX8_seed (o_al 2 (o_al 0 (o_il 3 (o_ic 1 (o_iadd (o_sld Ln xs (o_callV 9 1 wX9_seed (o_iceq (o_cut 1077) (BL_law_1029 Ln xs)))))))))))))))
def BL_law_1052 (Ln : Nat) (xs : Nat → Int32) : q_TT := o_ic 0 (o_lret)
def BL_law_1031 (Ln : Nat) (xs : Nat → Int32) : q_TT := o_al 1 (o_al 0 (o_il 3 (o_ic 1 (o_iadd (o_sld Ln xs (o_callV 8 1 wX8_keep (o_al 2 (o_al 0 (o_il 3 (o_ic 1 (o_iadd (o_sld Ln xs (o_callV 9 1 wX9_keep (o_iceq (o_cut 1077) (BL_law_1052 Ln xs)))))))))))))))
def BL_law_1075 (Ln : Nat) (xs : Nat → Int32) : q_TT := o_ic 0 (o_lret)
def BL_law_1054 (Ln : Nat) (xs : Nat → Int32) : q_TT := o_al 1 (o_al 0 (o_il 3 (o_ic 1 (o_iadd (o_sld Ln xs (o_callV 8 1 wX8_goBack (o_al 2 (o_al 0 (o_il 3 (o_ic 1 (o_iadd (o_sld Ln xs (o_callV 9 1 wX9_goBack (o_iceq (o_cut 1077) (BL_law_1075 Ln xs)))))))))))))))
def BL_law_1077 (Ln : Nat) (xs : Nat → Int32) : q_TT := o_inc 3 5 ((o_cut 18))
def TL_law (Ln : Nat) (xs : Nat → Int32) : Nat → q_TT := fun pc => if pc = 0 then BL_law_0 Ln xs else if pc = 18 then BL_law_18 Ln xs else if pc = 164 then BL_law_164 Ln xs else if pc = 227 then BL_law_227 Ln xs else if pc = 240 then BL_law_240 Ln xs else if pc = 253 then BL_law_253 Ln xs else if pc = 276 then BL_law_276 Ln xs else if pc = 309 then BL_law_309 Ln xs else if pc = 342 then BL_law_342 Ln xs else if pc = 375 then BL_law_375 Ln xs else if pc = 398 then BL_law_398 Ln xs else if pc = 421 then BL_law_421 Ln xs else if pc = 454 then BL_law_454 Ln xs else if pc = 477 then BL_law_477 Ln xs else if pc = 500 then BL_law_500 Ln xs else if pc = 543 then BL_law_543 Ln xs else if pc = 576 then BL_law_576 Ln xs else if pc = 629 then BL_law_629 Ln xs else if pc = 682 then BL_law_682 Ln xs else if pc = 725 then BL_law_725 Ln xs else if pc = 768 then BL_law_768 Ln xs else if pc = 781 then BL_law_781 Ln xs else if pc = 805 then BL_law_805 Ln xs else if pc = 840 then BL_law_840 Ln xs else if pc = 873 then BL_law_873 Ln xs else if pc = 896 then BL_law_896 Ln xs else if pc = 949 then BL_law_949 Ln xs else if pc = 972 then BL_law_972 Ln xs else if pc = 985 then BL_law_985 Ln xs else if pc = 1008 then BL_law_1008 Ln xs else if pc = 1031 then BL_law_1031 Ln xs else if pc = 1054 then BL_law_1054 Ln xs else if pc = 1077 then BL_law_1077 Ln xs else o_no
abbrev dlL_law : List (Nat × (Instr × Nat)) := [(0, .new 7, 3), (3, .dup, 1), (4, .invokespecial 9, 3), (7, .astore_n 1, 1), (8, .new 10, 3), (11, .dup, 1), (12, .invokespecial 12, 3), (15, .astore_n 2, 1), (16, .iconst 0, 1), (17, .istore_n 3, 1), (18, .iload_n 3, 1), (19, .aload_n 0, 1), (20, .arraylength, 1), (21, .iconst 5, 1), (22, .isub, 1), (23, .if_icmp .gt 1060, 3), (26, .aload_n 0, 1), (27, .iload_n 3, 1), (28, .iaload, 1), (29, .bipush 31, 2), (31, .iand, 1), (164, .aload_n 1, 1), (165, .aload_n 0, 1), (166, .iload_n 3, 1), (167, .iconst 1, 1), (168, .iadd, 1), (169, .iaload, 1), (170, .aload_n 0, 1), (171, .iload_n 3, 1), (172, .iconst 2, 1), (173, .iadd, 1), (174, .iaload, 1), (175, .i2l, 1), (176, .bipush 32, 2), (178, .lshl, 1), (179, .aload_n 0, 1), (180, .iload_n 3, 1), (181, .iconst 3, 1), (182, .iadd, 1), (183, .iaload, 1), (184, .i2l, 1), (185, .ldc2_w 13, 3), (188, .land, 1), (189, .lor, 1), (190, .invokevirtual 15, 3), (193, .aload_n 2, 1), (194, .aload_n 0, 1), (195, .iload_n 3, 1), (196, .iconst 1, 1), (197, .iadd, 1), (198, .iaload, 1), (199, .aload_n 0, 1), (200, .iload_n 3, 1), (201, .iconst 2, 1), (202, .iadd, 1), (203, .iaload, 1), (204, .i2l, 1), (205, .bipush 32, 2), (207, .lshl, 1), (208, .aload_n 0, 1), (209, .iload_n 3, 1), (210, .iconst 3, 1), (211, .iadd, 1), (212, .iaload, 1), (213, .i2l, 1), (214, .ldc2_w 13, 3), (217, .land, 1), (218, .lor, 1), (219, .invokevirtual 19, 3), (222, .if_icmp .eq 855, 3), (225, .iconst 0, 1), (226, .ireturn, 1), (227, .aload_n 1, 1), (228, .invokevirtual 20, 3), (231, .aload_n 2, 1), (232, .invokevirtual 24, 3), (235, .if_icmp .eq 842, 3), (238, .iconst 0, 1), (239, .ireturn, 1), (240, .aload_n 1, 1), (241, .invokevirtual 25, 3), (244, .aload_n 2, 1), (245, .invokevirtual 28, 3), (248, .if_icmp .eq 829, 3), (251, .iconst 0, 1), (252, .ireturn, 1), (253, .aload_n 1, 1), (254, .aload_n 0, 1), (255, .iload_n 3, 1), (256, .iconst 1, 1), (257, .iadd, 1), (258, .iaload, 1), (259, .invokevirtual 29, 3), (262, .aload_n 2, 1), (263, .aload_n 0, 1), (264, .iload_n 3, 1), (265, .iconst 1, 1), (266, .iadd, 1), (267, .iaload, 1), (268, .invokevirtual 33, 3), (271, .if_icmp .eq 806, 3), (274, .iconst 0, 1), (275, .ireturn, 1), (276, .aload_n 1, 1), (277, .aload_n 0, 1), (278, .iload_n 3, 1), (279, .iconst 1, 1), (280, .iadd, 1), (281, .iaload, 1), (282, .aload_n 0, 1), (283, .iload_n 3, 1), (284, .iconst 2, 1), (285, .iadd, 1), (286, .iaload, 1), (287, .invokevirtual 34, 3), (290, .aload_n 2, 1), (291, .aload_n 0, 1), (292, .iload_n 3, 1), (293, .iconst 1, 1), (294, .iadd, 1), (295, .iaload, 1), (296, .aload_n 0, 1), (297, .iload_n 3, 1), (298, .iconst 2, 1), (299, .iadd, 1), (300, .iaload, 1), (301, .invokevirtual 38, 3), (304, .if_icmp .eq 773, 3), (307, .iconst 0, 1), (308, .ireturn, 1), (309, .aload_n 1, 1), (310, .aload_n 0, 1), (311, .iload_n 3, 1), (312, .iconst 1, 1), (313, .iadd, 1), (314, .iaload, 1), (315, .aload_n 0, 1), (316, .iload_n 3, 1), (317, .iconst 2, 1), (318, .iadd, 1), (319, .iaload, 1), (320, .invokevirtual 39, 3), (323, .aload_n 2, 1), (324, .aload_n 0, 1), (325, .iload_n 3, 1), (326, .iconst 1, 1), (327, .iadd, 1), (328, .iaload, 1), (329, .aload_n 0, 1), (330, .iload_n 3, 1), (331, .iconst 2, 1), (332, .iadd, 1), (333, .iaload, 1), (334, .invokevirtual 42, 3), (337, .if_icmp .eq 740, 3), (340, .iconst 0, 1), (341, .ireturn, 1), (342, .aload_n 1, 1), (343, .aload_n 0, 1), (344, .iload_n 3, 1), (345, .iconst 1, 1), (346, .iadd, 1), (347, .iaload, 1), (348, .aload_n 0, 1), (349, .iload_n 3, 1), (350, .iconst 2, 1), (351, .iadd, 1), (352, .iaload, 1), (353, .invokevirtual 43, 3), (356, .aload_n 2, 1), (357, .aload_n 0, 1), (358, .iload_n 3, 1), (359, .iconst 1, 1), (360, .iadd, 1), (361, .iaload, 1), (362, .aload_n 0, 1), (363, .iload_n 3, 1), (364, .iconst 2, 1), (365, .iadd, 1), (366, .iaload, 1), (367, .invokevirtual 46, 3), (370, .if_icmp .eq 707, 3), (373, .iconst 0, 1), (374, .ireturn, 1), (375, .aload_n 1, 1), (376, .aload_n 0, 1), (377, .iload_n 3, 1), (378, .iconst 1, 1), (379, .iadd, 1), (380, .iaload, 1), (381, .invokevirtual 47, 3), (384, .aload_n 2, 1), (385, .aload_n 0, 1), (386, .iload_n 3, 1), (387, .iconst 1, 1), (388, .iadd, 1), (389, .iaload, 1), (390, .invokevirtual 50, 3), (393, .if_icmp .eq 684, 3), (396, .iconst 0, 1), (397, .ireturn, 1), (398, .aload_n 1, 1), (399, .aload_n 0, 1), (400, .iload_n 3, 1), (401, .iconst 1, 1), (402, .iadd, 1), (403, .iaload, 1), (404, .invokevirtual 51, 3), (407, .aload_n 2, 1), (408, .aload_n 0, 1), (409, .iload_n 3, 1), (410, .iconst 1, 1), (411, .iadd, 1), (412, .iaload, 1), (413, .invokevirtual 54, 3), (416, .if_icmp .eq 661, 3), (419, .iconst 0, 1), (420, .ireturn, 1), (421, .aload_n 1, 1), (422, .aload_n 0, 1), (423, .iload_n 3, 1), (424, .iconst 1, 1), (425, .iadd, 1), (426, .iaload, 1), (427, .aload_n 0, 1), (428, .iload_n 3, 1), (429, .iconst 2, 1), (430, .iadd, 1), (431, .iaload, 1), (432, .invokevirtual 55, 3), (435, .aload_n 2, 1), (436, .aload_n 0, 1), (437, .iload_n 3, 1), (438, .iconst 1, 1), (439, .iadd, 1), (440, .iaload, 1), (441, .aload_n 0, 1), (442, .iload_n 3, 1), (443, .iconst 2, 1), (444, .iadd, 1), (445, .iaload, 1), (446, .invokevirtual 58, 3), (449, .if_icmp .eq 628, 3), (452, .iconst 0, 1), (453, .ireturn, 1), (454, .aload_n 1, 1), (455, .aload_n 0, 1), (456, .iload_n 3, 1), (457, .iconst 1, 1), (458, .iadd, 1), (459, .iaload, 1), (460, .invokevirtual 59, 3), (463, .aload_n 2, 1), (464, .aload_n 0, 1), (465, .iload_n 3, 1), (466, .iconst 1, 1), (467, .iadd, 1), (468, .iaload, 1), (469, .invokevirtual 62, 3), (472, .if_icmp .eq 605, 3), (475, .iconst 0, 1), (476, .ireturn, 1), (477, .aload_n 1, 1), (478, .aload_n 0, 1), (479, .iload_n 3, 1), (480, .iconst 1, 1), (481, .iadd, 1), (482, .iaload, 1), (483, .invokevirtual 63, 3), (486, .aload_n 2, 1), (487, .aload_n 0, 1), (488, .iload_n 3, 1), (489, .iconst 1, 1), (490, .iadd, 1), (491, .iaload, 1), (492, .invokevirtual 66, 3), (495, .if_icmp .eq 582, 3), (498, .iconst 0, 1), (499, .ireturn, 1), (500, .aload_n 1, 1), (501, .aload_n 0, 1), (502, .iload_n 3, 1), (503, .iconst 1, 1), (504, .iadd, 1), (505, .iaload, 1), (506, .aload_n 0, 1), (507, .iload_n 3, 1), (508, .iconst 2, 1), (509, .iadd, 1), (510, .iaload, 1), (511, .aload_n 0, 1), (512, .iload_n 3, 1), (513, .iconst 3, 1), (514, .iadd, 1), (515, .iaload, 1), (516, .invokevirtual 67, 3), (519, .aload_n 2, 1), (520, .aload_n 0, 1), (521, .iload_n 3, 1), (522, .iconst 1, 1), (523, .iadd, 1), (524, .iaload, 1), (525, .aload_n 0, 1), (526, .iload_n 3, 1), (527, .iconst 2, 1), (528, .iadd, 1), (529, .iaload, 1), (530, .aload_n 0, 1), (531, .iload_n 3, 1), (532, .iconst 3, 1), (533, .iadd, 1), (534, .iaload, 1), (535, .invokevirtual 71, 3), (538, .if_icmp .eq 539, 3), (541, .iconst 0, 1), (542, .ireturn, 1), (543, .aload_n 1, 1), (544, .aload_n 0, 1), (545, .iload_n 3, 1), (546, .iconst 1, 1), (547, .iadd, 1), (548, .iaload, 1), (549, .aload_n 0, 1), (550, .iload_n 3, 1), (551, .iconst 2, 1), (552, .iadd, 1), (553, .iaload, 1), (554, .invokevirtual 72, 3), (557, .aload_n 2, 1), (558, .aload_n 0, 1), (559, .iload_n 3, 1), (560, .iconst 1, 1), (561, .iadd, 1), (562, .iaload, 1), (563, .aload_n 0, 1), (564, .iload_n 3, 1), (565, .iconst 2, 1), (566, .iadd, 1), (567, .iaload, 1), (568, .invokevirtual 75, 3), (571, .if_icmp .eq 506, 3), (574, .iconst 0, 1), (575, .ireturn, 1), (576, .aload_n 1, 1), (577, .aload_n 0, 1), (578, .iload_n 3, 1), (579, .iconst 1, 1), (580, .iadd, 1), (581, .iaload, 1), (582, .aload_n 0, 1), (583, .iload_n 3, 1), (584, .iconst 2, 1), (585, .iadd, 1), (586, .iaload, 1), (587, .aload_n 0, 1), (588, .iload_n 3, 1), (589, .iconst 3, 1), (590, .iadd, 1), (591, .iaload, 1), (592, .aload_n 0, 1), (593, .iload_n 3, 1), (594, .iconst 4, 1), (595, .iadd, 1), (596, .iaload, 1), (597, .invokevirtual 76, 3), (600, .aload_n 2, 1), (601, .aload_n 0, 1), (602, .iload_n 3, 1), (603, .iconst 1, 1), (604, .iadd, 1), (605, .iaload, 1), (606, .aload_n 0, 1), (607, .iload_n 3, 1), (608, .iconst 2, 1), (609, .iadd, 1), (610, .iaload, 1), (611, .aload_n 0, 1), (612, .iload_n 3, 1), (613, .iconst 3, 1), (614, .iadd, 1), (615, .iaload, 1), (616, .aload_n 0, 1), (617, .iload_n 3, 1), (618, .iconst 4, 1), (619, .iadd, 1), (620, .iaload, 1), (621, .invokevirtual 80, 3), (624, .if_icmp .eq 453, 3), (627, .iconst 0, 1), (628, .ireturn, 1), (629, .aload_n 1, 1), (630, .aload_n 0, 1), (631, .iload_n 3, 1), (632, .iconst 1, 1), (633, .iadd, 1), (634, .iaload, 1), (635, .aload_n 0, 1), (636, .iload_n 3, 1), (637, .iconst 2, 1), (638, .iadd, 1), (639, .iaload, 1), (640, .aload_n 0, 1), (641, .iload_n 3, 1), (642, .iconst 3, 1), (643, .iadd, 1), (644, .iaload, 1), (645, .aload_n 0, 1), (646, .iload_n 3, 1), (647, .iconst 4, 1), (648, .iadd, 1), (649, .iaload, 1), (650, .invokevirtual 81, 3), (653, .aload_n 2, 1), (654, .aload_n 0, 1), (655, .iload_n 3, 1), (656, .iconst 1, 1), (657, .iadd, 1), (658, .iaload, 1), (659, .aload_n 0, 1), (660, .iload_n 3, 1), (661, .iconst 2, 1), (662, .iadd, 1), (663, .iaload, 1), (664, .aload_n 0, 1), (665, .iload_n 3, 1), (666, .iconst 3, 1), (667, .iadd, 1), (668, .iaload, 1), (669, .aload_n 0, 1), (670, .iload_n 3, 1), (671, .iconst 4, 1), (672, .iadd, 1), (673, .iaload, 1), (674, .invokevirtual 84, 3), (677, .if_icmp .eq 400, 3), (680, .iconst 0, 1), (681, .ireturn, 1), (682, .aload_n 1, 1), (683, .aload_n 0, 1), (684, .iload_n 3, 1), (685, .iconst 1, 1), (686, .iadd, 1), (687, .iaload, 1), (688, .aload_n 0, 1), (689, .iload_n 3, 1), (690, .iconst 2, 1), (691, .iadd, 1), (692, .iaload, 1), (693, .aload_n 0, 1), (694, .iload_n 3, 1), (695, .iconst 3, 1), (696, .iadd, 1), (697, .iaload, 1), (698, .invokevirtual 85, 3), (701, .aload_n 2, 1), (702, .aload_n 0, 1), (703, .iload_n 3, 1), (704, .iconst 1, 1), (705, .iadd, 1), (706, .iaload, 1), (707, .aload_n 0, 1), (708, .iload_n 3, 1), (709, .iconst 2, 1), (710, .iadd, 1), (711, .iaload, 1), (712, .aload_n 0, 1), (713, .iload_n 3, 1), (714, .iconst 3, 1), (715, .iadd, 1), (716, .iaload, 1), (717, .invokevirtual 88, 3), (720, .if_icmp .eq 357, 3), (723, .iconst 0, 1), (724, .ireturn, 1), (725, .aload_n 1, 1), (726, .aload_n 0, 1), (727, .iload_n 3, 1), (728, .iconst 1, 1), (729, .iadd, 1), (730, .iaload, 1), (731, .aload_n 0, 1), (732, .iload_n 3, 1), (733, .iconst 2, 1), (734, .iadd, 1), (735, .iaload, 1), (736, .aload_n 0, 1), (737, .iload_n 3, 1), (738, .iconst 3, 1), (739, .iadd, 1), (740, .iaload, 1), (741, .invokevirtual 89, 3), (744, .aload_n 2, 1), (745, .aload_n 0, 1), (746, .iload_n 3, 1), (747, .iconst 1, 1), (748, .iadd, 1), (749, .iaload, 1), (750, .aload_n 0, 1), (751, .iload_n 3, 1), (752, .iconst 2, 1), (753, .iadd, 1), (754, .iaload, 1), (755, .aload_n 0, 1), (756, .iload_n 3, 1), (757, .iconst 3, 1), (758, .iadd, 1), (759, .iaload, 1), (760, .invokevirtual 92, 3), (763, .if_icmp .eq 314, 3), (766, .iconst 0, 1), (767, .ireturn, 1), (768, .aload_n 1, 1), (769, .invokevirtual 93, 3), (772, .aload_n 2, 1), (773, .invokevirtual 96, 3), (776, .if_icmp .eq 301, 3), (779, .iconst 0, 1), (780, .ireturn, 1), (781, .aload_n 1, 1), (782, .aload_n 0, 1), (783, .iload_n 3, 1), (784, .iconst 1, 1), (785, .iadd, 1), (786, .iaload, 1), (787, .aload_n 0, 1), (788, .iload_n 3, 1), (789, .iconst 2, 1), (790, .iadd, 1), (791, .iaload, 1), (792, .aload_n 0, 1), (793, .iload_n 3, 1), (794, .iconst 3, 1), (795, .iadd, 1), (796, .iaload, 1), (797, .ifCond .eq 7, 3), (800, .iconst 1, 1), (801, .goto 4, 3), (804, .iconst 0, 1), (805, .invokevirtual 97, 3), (808, .aload_n 2, 1), (809, .aload_n 0, 1), (810, .iload_n 3, 1), (811, .iconst 1, 1), (812, .iadd, 1), (813, .iaload, 1), (814, .aload_n 0, 1), (815, .iload_n 3, 1), (816, .iconst 2, 1), (817, .iadd, 1), (818, .iaload, 1), (819, .aload_n 0, 1), (820, .iload_n 3, 1), (821, .iconst 3, 1), (822, .iadd, 1), (823, .iaload, 1), (824, .ifCond .eq 7, 3), (827, .iconst 1, 1), (828, .goto 4, 3), (831, .iconst 0, 1), (832, .invokevirtual 101, 3), (835, .if_icmp .eq 242, 3), (838, .iconst 0, 1), (839, .ireturn, 1), (840, .aload_n 1, 1), (841, .aload_n 0, 1), (842, .iload_n 3, 1), (843, .iconst 1, 1), (844, .iadd, 1), (845, .iaload, 1), (846, .aload_n 0, 1), (847, .iload_n 3, 1), (848, .iconst 2, 1), (849, .iadd, 1), (850, .iaload, 1), (851, .invokevirtual 102, 3), (854, .aload_n 2, 1), (855, .aload_n 0, 1), (856, .iload_n 3, 1), (857, .iconst 1, 1), (858, .iadd, 1), (859, .iaload, 1), (860, .aload_n 0, 1), (861, .iload_n 3, 1), (862, .iconst 2, 1), (863, .iadd, 1), (864, .iaload, 1), (865, .invokevirtual 105, 3), (868, .if_icmp .eq 209, 3), (871, .iconst 0, 1), (872, .ireturn, 1), (873, .aload_n 1, 1), (874, .aload_n 0, 1), (875, .iload_n 3, 1), (876, .iconst 1, 1), (877, .iadd, 1), (878, .iaload, 1), (879, .invokevirtual 106, 3), (882, .aload_n 2, 1), (883, .aload_n 0, 1), (884, .iload_n 3, 1), (885, .iconst 1, 1), (886, .iadd, 1), (887, .iaload, 1), (888, .invokevirtual 109, 3), (891, .if_icmp .eq 186, 3), (894, .iconst 0, 1), (895, .ireturn, 1), (896, .aload_n 1, 1), (897, .aload_n 0, 1), (898, .iload_n 3, 1), (899, .iconst 1, 1), (900, .iadd, 1), (901, .iaload, 1), (902, .aload_n 0, 1), (903, .iload_n 3, 1), (904, .iconst 2, 1), (905, .iadd, 1), (906, .iaload, 1), (907, .aload_n 0, 1), (908, .iload_n 3, 1), (909, .iconst 3, 1), (910, .iadd, 1), (911, .iaload, 1), (912, .aload_n 0, 1), (913, .iload_n 3, 1), (914, .iconst 4, 1), (915, .iadd, 1), (916, .iaload, 1), (917, .invokevirtual 110, 3), (920, .aload_n 2, 1), (921, .aload_n 0, 1), (922, .iload_n 3, 1), (923, .iconst 1, 1), (924, .iadd, 1), (925, .iaload, 1), (926, .aload_n 0, 1), (927, .iload_n 3, 1), (928, .iconst 2, 1), (929, .iadd, 1), (930, .iaload, 1), (931, .aload_n 0, 1), (932, .iload_n 3, 1), (933, .iconst 3, 1), (934, .iadd, 1), (935, .iaload, 1), (936, .aload_n 0, 1), (937, .iload_n 3, 1), (938, .iconst 4, 1), (939, .iadd, 1), (940, .iaload, 1), (941, .invokevirtual 113, 3), (944, .if_icmp .eq 133, 3), (947, .iconst 0, 1), (948, .ireturn, 1), (949, .aload_n 1, 1), (950, .aload_n 0, 1), (951, .iload_n 3, 1), (952, .iconst 1, 1), (953, .iadd, 1), (954, .iaload, 1), (955, .invokevirtual 114, 3), (958, .aload_n 2, 1), (959, .aload_n 0, 1), (960, .iload_n 3, 1), (961, .iconst 1, 1), (962, .iadd, 1), (963, .iaload, 1), (964, .invokevirtual 117, 3), (967, .if_icmp .eq 110, 3), (970, .iconst 0, 1), (971, .ireturn, 1), (972, .aload_n 1, 1), (973, .invokevirtual 118, 3), (976, .aload_n 2, 1), (977, .invokevirtual 121, 3), (980, .if_icmp .eq 97, 3), (983, .iconst 0, 1), (984, .ireturn, 1), (985, .aload_n 1, 1), (986, .aload_n 0, 1), (987, .iload_n 3, 1), (988, .iconst 1, 1), (989, .iadd, 1), (990, .iaload, 1), (991, .invokevirtual 122, 3), (994, .aload_n 2, 1), (995, .aload_n 0, 1), (996, .iload_n 3, 1), (997, .iconst 1, 1), (998, .iadd, 1), (999, .iaload, 1), (1000, .invokevirtual 125, 3), (1003, .if_icmp .eq 74, 3), (1006, .iconst 0, 1), (1007, .ireturn, 1), (1008, .aload_n 1, 1), (1009, .aload_n 0, 1), (1010, .iload_n 3, 1), (1011, .iconst 1, 1), (1012, .iadd, 1), (1013, .iaload, 1), (1014, .invokevirtual 126, 3), (1017, .aload_n 2, 1), (1018, .aload_n 0, 1), (1019, .iload_n 3, 1), (1020, .iconst 1, 1), (1021, .iadd, 1), (1022, .iaload, 1), (1023, .invokevirtual 129, 3), (1026, .if_icmp .eq 51, 3), (1029, .iconst 0, 1), (1030, .ireturn, 1), (1031, .aload_n 1, 1), (1032, .aload_n 0, 1), (1033, .iload_n 3, 1), (1034, .iconst 1, 1), (1035, .iadd, 1), (1036, .iaload, 1), (1037, .invokevirtual 130, 3), (1040, .aload_n 2, 1), (1041, .aload_n 0, 1), (1042, .iload_n 3, 1), (1043, .iconst 1, 1), (1044, .iadd, 1), (1045, .iaload, 1), (1046, .invokevirtual 133, 3), (1049, .if_icmp .eq 28, 3), (1052, .iconst 0, 1), (1053, .ireturn, 1), (1054, .aload_n 1, 1), (1055, .aload_n 0, 1), (1056, .iload_n 3, 1), (1057, .iconst 1, 1), (1058, .iadd, 1), (1059, .iaload, 1), (1060, .invokevirtual 134, 3), (1063, .aload_n 2, 1), (1064, .aload_n 0, 1), (1065, .iload_n 3, 1), (1066, .iconst 1, 1), (1067, .iadd, 1), (1068, .iaload, 1), (1069, .invokevirtual 137, 3), (1072, .if_icmp .eq 5, 3), (1075, .iconst 0, 1), (1076, .ireturn, 1), (1077, .iinc 3 5, 3), (1080, .goto (-1062), 3), (1083, .iconst 1, 1), (1084, .ireturn, 1)]
theorem ddL_law : ∀ q ∈ dlL_law, decode cL_law q.1 = .ok q.2 := by decide +kernel
theorem sL_law_0 {l : Launch} {X : q_CX} {Ln : Nat} {xs : Nat → Int32} (hl : X.2.1 = l) (hQ : q_LQ X) (hcap : q_cap X room_1 L_cap) (hz : q_scr X Ln xs) (h : q_OK X yL_law cL_law 4 (some .boolean) room_1 (Cond.code yL_law cL_law 4 (some .boolean) :: q_G)) : q_SK X 4 0 (BL_law_0 Ln xs) := by
  refine k_new h hcap (ci := 8) (N := 11) (C := RX8) (T := TX8) rfl (fun w hw => List.mem_cons_of_mem _ (q_inX8 w hw)) (List.mem_cons_of_mem _ gw782) (List.mem_cons_of_mem _ gw783) (List.mem_cons_of_mem _ gw91) tyX8 tyX8_ok (by decide +kernel) rfl rfl (ddL_law (0, .new 7, 3) (List.mem_of_getElem? (i := 0) rfl)) ?_
  refine k_dup h (ddL_law (3, .dup, 1) (List.mem_of_getElem? (i := 1) rfl)) ?_
  refine k_callI h hl (aX8_init l) (ci := 8) (C := RX8) (T := TX8) (N := 11) rfl hcap (n := 0) rfl (by decide +kernel) (q_gN gw784) (List.mem_cons_of_mem _ gw786) (List.mem_cons_of_mem _ gw91) (List.mem_cons_of_mem _ gw785) rfl ⟨by decide, by decide⟩ (ddL_law (4, .invokespecial 9, 3) (List.mem_of_getElem? (i := 2) rfl)) ?_
  refine k_astore_n (i := 1) h (ddL_law (7, .astore_n 1, 1) (List.mem_of_getElem? (i := 3) rfl)) rfl (by decide) ?_
  refine k_new h hcap (ci := 9) (N := 33) (C := RX9) (T := TX9) rfl (fun w hw => List.mem_cons_of_mem _ (q_inX9 w hw)) (List.mem_cons_of_mem _ gw787) (List.mem_cons_of_mem _ gw788) (List.mem_cons_of_mem _ gw606) tyX9 tyX9_ok (by decide +kernel) rfl rfl (ddL_law (8, .new 10, 3) (List.mem_of_getElem? (i := 4) rfl)) ?_
  refine k_dup h (ddL_law (11, .dup, 1) (List.mem_of_getElem? (i := 5) rfl)) ?_
  refine k_callI h hl (aX9_init l) (ci := 9) (C := RX9) (T := TX9) (N := 33) rfl hcap (n := 0) rfl (by decide +kernel) (q_gN gw789) (List.mem_cons_of_mem _ gw791) (List.mem_cons_of_mem _ gw606) (List.mem_cons_of_mem _ gw790) rfl ⟨by decide, by decide⟩ (ddL_law (12, .invokespecial 12, 3) (List.mem_of_getElem? (i := 6) rfl)) ?_
  refine k_astore_n (i := 2) h (ddL_law (15, .astore_n 2, 1) (List.mem_of_getElem? (i := 7) rfl)) rfl (by decide) ?_
  refine k_iconst (v := 0) h (ddL_law (16, .iconst 0, 1) (List.mem_of_getElem? (i := 8) rfl)) (by decide) ?_
  refine k_istore_n (i := 3) h (ddL_law (17, .istore_n 3, 1) (List.mem_of_getElem? (i := 9) rfl)) rfl (by decide) ?_
  exact k_cut
theorem sL_law_1083 {l : Launch} {X : q_CX} {Ln : Nat} {xs : Nat → Int32} (hl : X.2.1 = l) (hQ : q_LQ X) (hcap : q_cap X room_1 L_cap) (hz : q_scr X Ln xs) (h : q_OK X yL_law cL_law 4 (some .boolean) room_1 (Cond.code yL_law cL_law 4 (some .boolean) :: q_G)) : q_SK X 4 1083 (BL_law_1083 Ln xs) := by
  refine k_iconst (v := 1) h (ddL_law (1083, .iconst 1, 1) (List.mem_of_getElem? (i := 748) rfl)) (by decide) ?_
  exact k_lret h hQ (ddL_law (1084, .ireturn, 1) (List.mem_of_getElem? (i := 749) rfl))
theorem sL_law_26 {l : Launch} {X : q_CX} {Ln : Nat} {xs : Nat → Int32} (hl : X.2.1 = l) (hQ : q_LQ X) (hcap : q_cap X room_1 L_cap) (hz : q_scr X Ln xs) (h : q_OK X yL_law cL_law 4 (some .boolean) room_1 (Cond.code yL_law cL_law 4 (some .boolean) :: q_G)) : q_SK X 4 26 (BL_law_26 Ln xs) := by
  refine k_aload_n (i := 0) h (ddL_law (26, .aload_n 0, 1) (List.mem_of_getElem? (i := 16) rfl)) rfl ?_
  refine k_iload_n (i := 3) h (ddL_law (27, .iload_n 3, 1) (List.mem_of_getElem? (i := 17) rfl)) rfl ?_
  refine k_sld h hz (ddL_law (28, .iaload, 1) (List.mem_of_getElem? (i := 18) rfl)) ?_
  refine k_bipush (v := 31) h (ddL_law (29, .bipush 31, 2) (List.mem_of_getElem? (i := 19) rfl)) (by decide) ?_
  refine k_iand h (ddL_law (31, .iand, 1) (List.mem_of_getElem? (i := 20) rfl)) ?_
  refine k_sw h (dflt := 1045) (hi := 28) (offs := #[132, 195, 208, 221, 244, 277, 310, 343, 366, 389, 422, 445, 468, 511, 544, 597, 650, 693, 736, 749, 808, 841, 864, 917, 940, 953, 976, 999, 1022]) (len := 132) (tgt := 1077) (by decide +kernel) (by decide) (by decide) ⟨⟨132, 164, rfl, by decide, by exact k_cut⟩, ⟨⟨195, 227, rfl, by decide, by exact k_cut⟩, ⟨⟨208, 240, rfl, by decide, by exact k_cut⟩, ⟨⟨221, 253, rfl, by decide, by exact k_cut⟩, ⟨⟨244, 276, rfl, by decide, by exact k_cut⟩, ⟨⟨277, 309, rfl, by decide, by exact k_cut⟩, ⟨⟨310, 342, rfl, by decide, by exact k_cut⟩, ⟨⟨343, 375, rfl, by decide, by exact k_cut⟩, ⟨⟨366, 398, rfl, by decide, by exact k_cut⟩, ⟨⟨389, 421, rfl, by decide, by exact k_cut⟩, ⟨⟨422, 454, rfl, by decide, by exact k_cut⟩, ⟨⟨445, 477, rfl, by decide, by exact k_cut⟩, ⟨⟨468, 500, rfl, by decide, by exact k_cut⟩, ⟨⟨511, 543, rfl, by decide, by exact k_cut⟩, ⟨⟨544, 576, rfl, by decide, by exact k_cut⟩, ⟨⟨597, 629, rfl, by decide, by exact k_cut⟩, ⟨⟨650, 682, rfl, by decide, by exact k_cut⟩, ⟨⟨693, 725, rfl, by decide, by exact k_cut⟩, ⟨⟨736, 768, rfl, by decide, by exact k_cut⟩, ⟨⟨749, 781, rfl, by decide, by exact k_cut⟩, ⟨⟨808, 840, rfl, by decide, by exact k_cut⟩, ⟨⟨841, 873, rfl, by decide, by exact k_cut⟩, ⟨⟨864, 896, rfl, by decide, by exact k_cut⟩, ⟨⟨917, 949, rfl, by decide, by exact k_cut⟩, ⟨⟨940, 972, rfl, by decide, by exact k_cut⟩, ⟨⟨953, 985, rfl, by decide, by exact k_cut⟩, ⟨⟨976, 1008, rfl, by decide, by exact k_cut⟩, ⟨⟨999, 1031, rfl, by decide, by exact k_cut⟩, ⟨⟨1022, 1054, rfl, by decide, by exact k_cut⟩, trivial⟩⟩⟩⟩⟩⟩⟩⟩⟩⟩⟩⟩⟩⟩⟩⟩⟩⟩⟩⟩⟩⟩⟩⟩⟩⟩⟩⟩⟩ (by decide) ?_
  exact k_cut
theorem sL_law_18 {l : Launch} {X : q_CX} {Ln : Nat} {xs : Nat → Int32} (hl : X.2.1 = l) (hQ : q_LQ X) (hcap : q_cap X room_1 L_cap) (hz : q_scr X Ln xs) (h : q_OK X yL_law cL_law 4 (some .boolean) room_1 (Cond.code yL_law cL_law 4 (some .boolean) :: q_G)) : q_SK X 4 18 (BL_law_18 Ln xs) := by
  refine k_iload_n (i := 3) h (ddL_law (18, .iload_n 3, 1) (List.mem_of_getElem? (i := 10) rfl)) rfl ?_
  refine k_aload_n (i := 0) h (ddL_law (19, .aload_n 0, 1) (List.mem_of_getElem? (i := 11) rfl)) rfl ?_
  refine k_sln h hz (ddL_law (20, .arraylength, 1) (List.mem_of_getElem? (i := 12) rfl)) ?_
  refine k_iconst (v := 5) h (ddL_law (21, .iconst 5, 1) (List.mem_of_getElem? (i := 13) rfl)) (by decide) ?_
  refine k_isub h (ddL_law (22, .isub, 1) (List.mem_of_getElem? (i := 14) rfl)) ?_
  refine k_icgt h (ddL_law (23, .if_icmp .gt 1060, 3) (List.mem_of_getElem? (i := 15) rfl)) (tgt := 1083) (by decide) ?_ ?_
  · exact sL_law_1083 hl hQ hcap hz h
  · exact sL_law_26 hl hQ hcap hz h
theorem sL_law_225 {l : Launch} {X : q_CX} {Ln : Nat} {xs : Nat → Int32} (hl : X.2.1 = l) (hQ : q_LQ X) (hcap : q_cap X room_1 L_cap) (hz : q_scr X Ln xs) (h : q_OK X yL_law cL_law 4 (some .boolean) room_1 (Cond.code yL_law cL_law 4 (some .boolean) :: q_G)) : q_SK X 4 225 (BL_law_225 Ln xs) := by
  refine k_iconst (v := 0) h (ddL_law (225, .iconst 0, 1) (List.mem_of_getElem? (i := 70) rfl)) (by decide) ?_
  exact k_lret h hQ (ddL_law (226, .ireturn, 1) (List.mem_of_getElem? (i := 71) rfl))
theorem sL_law_164 {l : Launch} {X : q_CX} {Ln : Nat} {xs : Nat → Int32} (hl : X.2.1 = l) (hQ : q_LQ X) (hcap : q_cap X room_1 L_cap) (hz : q_scr X Ln xs) (h : q_OK X yL_law cL_law 4 (some .boolean) room_1 (Cond.code yL_law cL_law 4 (some .boolean) :: q_G)) : q_SK X 4 164 (BL_law_164 Ln xs) := by
  refine k_aload_n (i := 1) h (ddL_law (164, .aload_n 1, 1) (List.mem_of_getElem? (i := 21) rfl)) rfl ?_
  refine k_aload_n (i := 0) h (ddL_law (165, .aload_n 0, 1) (List.mem_of_getElem? (i := 22) rfl)) rfl ?_
  refine k_iload_n (i := 3) h (ddL_law (166, .iload_n 3, 1) (List.mem_of_getElem? (i := 23) rfl)) rfl ?_
  refine k_iconst (v := 1) h (ddL_law (167, .iconst 1, 1) (List.mem_of_getElem? (i := 24) rfl)) (by decide) ?_
  refine k_iadd h (ddL_law (168, .iadd, 1) (List.mem_of_getElem? (i := 25) rfl)) ?_
  refine k_sld h hz (ddL_law (169, .iaload, 1) (List.mem_of_getElem? (i := 26) rfl)) ?_
  refine k_aload_n (i := 0) h (ddL_law (170, .aload_n 0, 1) (List.mem_of_getElem? (i := 27) rfl)) rfl ?_
  refine k_iload_n (i := 3) h (ddL_law (171, .iload_n 3, 1) (List.mem_of_getElem? (i := 28) rfl)) rfl ?_
  refine k_iconst (v := 2) h (ddL_law (172, .iconst 2, 1) (List.mem_of_getElem? (i := 29) rfl)) (by decide) ?_
  refine k_iadd h (ddL_law (173, .iadd, 1) (List.mem_of_getElem? (i := 30) rfl)) ?_
  refine k_sld h hz (ddL_law (174, .iaload, 1) (List.mem_of_getElem? (i := 31) rfl)) ?_
  refine k_i2l h (ddL_law (175, .i2l, 1) (List.mem_of_getElem? (i := 32) rfl)) ?_
  refine k_bipush (v := 32) h (ddL_law (176, .bipush 32, 2) (List.mem_of_getElem? (i := 33) rfl)) (by decide) ?_
  refine k_lshl h (ddL_law (178, .lshl, 1) (List.mem_of_getElem? (i := 34) rfl)) ?_
  refine k_aload_n (i := 0) h (ddL_law (179, .aload_n 0, 1) (List.mem_of_getElem? (i := 35) rfl)) rfl ?_
  refine k_iload_n (i := 3) h (ddL_law (180, .iload_n 3, 1) (List.mem_of_getElem? (i := 36) rfl)) rfl ?_
  refine k_iconst (v := 3) h (ddL_law (181, .iconst 3, 1) (List.mem_of_getElem? (i := 37) rfl)) (by decide) ?_
  refine k_iadd h (ddL_law (182, .iadd, 1) (List.mem_of_getElem? (i := 38) rfl)) ?_
  refine k_sld h hz (ddL_law (183, .iaload, 1) (List.mem_of_getElem? (i := 39) rfl)) ?_
  refine k_i2l h (ddL_law (184, .i2l, 1) (List.mem_of_getElem? (i := 40) rfl)) ?_
  refine k_ldc2 (v := 4294967295) h (ddL_law (185, .ldc2_w 13, 3) (List.mem_of_getElem? (i := 41) rfl)) (List.mem_cons_of_mem _ gw792) ?_
  refine k_land h (ddL_law (188, .land, 1) (List.mem_of_getElem? (i := 42) rfl)) ?_
  refine k_lor h (ddL_law (189, .lor, 1) (List.mem_of_getElem? (i := 43) rfl)) ?_
  refine k_callV h hl (aX8_feed l) (ci := 8) (C := RX8) (T := TX8) (N := 11) rfl ⟨rfl, rfl⟩ (n := 2) (by decide +kernel) (q_gV gw794 gw795 gw796 gw91 gw793) ⟨by decide, by decide⟩ (ddL_law (190, .invokevirtual 15, 3) (List.mem_of_getElem? (i := 44) rfl)) ?_
  refine k_aload_n (i := 2) h (ddL_law (193, .aload_n 2, 1) (List.mem_of_getElem? (i := 45) rfl)) rfl ?_
  refine k_aload_n (i := 0) h (ddL_law (194, .aload_n 0, 1) (List.mem_of_getElem? (i := 46) rfl)) rfl ?_
  refine k_iload_n (i := 3) h (ddL_law (195, .iload_n 3, 1) (List.mem_of_getElem? (i := 47) rfl)) rfl ?_
  refine k_iconst (v := 1) h (ddL_law (196, .iconst 1, 1) (List.mem_of_getElem? (i := 48) rfl)) (by decide) ?_
  refine k_iadd h (ddL_law (197, .iadd, 1) (List.mem_of_getElem? (i := 49) rfl)) ?_
  refine k_sld h hz (ddL_law (198, .iaload, 1) (List.mem_of_getElem? (i := 50) rfl)) ?_
  refine k_aload_n (i := 0) h (ddL_law (199, .aload_n 0, 1) (List.mem_of_getElem? (i := 51) rfl)) rfl ?_
  refine k_iload_n (i := 3) h (ddL_law (200, .iload_n 3, 1) (List.mem_of_getElem? (i := 52) rfl)) rfl ?_
  refine k_iconst (v := 2) h (ddL_law (201, .iconst 2, 1) (List.mem_of_getElem? (i := 53) rfl)) (by decide) ?_
  refine k_iadd h (ddL_law (202, .iadd, 1) (List.mem_of_getElem? (i := 54) rfl)) ?_
  refine k_sld h hz (ddL_law (203, .iaload, 1) (List.mem_of_getElem? (i := 55) rfl)) ?_
  refine k_i2l h (ddL_law (204, .i2l, 1) (List.mem_of_getElem? (i := 56) rfl)) ?_
  refine k_bipush (v := 32) h (ddL_law (205, .bipush 32, 2) (List.mem_of_getElem? (i := 57) rfl)) (by decide) ?_
  refine k_lshl h (ddL_law (207, .lshl, 1) (List.mem_of_getElem? (i := 58) rfl)) ?_
  refine k_aload_n (i := 0) h (ddL_law (208, .aload_n 0, 1) (List.mem_of_getElem? (i := 59) rfl)) rfl ?_
  refine k_iload_n (i := 3) h (ddL_law (209, .iload_n 3, 1) (List.mem_of_getElem? (i := 60) rfl)) rfl ?_
  refine k_iconst (v := 3) h (ddL_law (210, .iconst 3, 1) (List.mem_of_getElem? (i := 61) rfl)) (by decide) ?_
  refine k_iadd h (ddL_law (211, .iadd, 1) (List.mem_of_getElem? (i := 62) rfl)) ?_
  refine k_sld h hz (ddL_law (212, .iaload, 1) (List.mem_of_getElem? (i := 63) rfl)) ?_
  refine k_i2l h (ddL_law (213, .i2l, 1) (List.mem_of_getElem? (i := 64) rfl)) ?_
  refine k_ldc2 (v := 4294967295) h (ddL_law (214, .ldc2_w 13, 3) (List.mem_of_getElem? (i := 65) rfl)) (List.mem_cons_of_mem _ gw792) ?_
  refine k_land h (ddL_law (217, .land, 1) (List.mem_of_getElem? (i := 66) rfl)) ?_
  refine k_lor h (ddL_law (218, .lor, 1) (List.mem_of_getElem? (i := 67) rfl)) ?_
  refine k_callV h hl (aX9_feed l) (ci := 9) (C := RX9) (T := TX9) (N := 33) rfl ⟨rfl, rfl⟩ (n := 2) (by decide +kernel) (q_gV gw798 gw799 gw800 gw606 gw797) ⟨by decide, by decide⟩ (ddL_law (219, .invokevirtual 19, 3) (List.mem_of_getElem? (i := 68) rfl)) ?_
  refine k_iceq h (ddL_law (222, .if_icmp .eq 855, 3) (List.mem_of_getElem? (i := 69) rfl)) (tgt := 1077) (by decide) ?_ ?_
  · exact k_cut
  · exact sL_law_225 hl hQ hcap hz h
theorem sL_law_238 {l : Launch} {X : q_CX} {Ln : Nat} {xs : Nat → Int32} (hl : X.2.1 = l) (hQ : q_LQ X) (hcap : q_cap X room_1 L_cap) (hz : q_scr X Ln xs) (h : q_OK X yL_law cL_law 4 (some .boolean) room_1 (Cond.code yL_law cL_law 4 (some .boolean) :: q_G)) : q_SK X 4 238 (BL_law_238 Ln xs) := by
  refine k_iconst (v := 0) h (ddL_law (238, .iconst 0, 1) (List.mem_of_getElem? (i := 77) rfl)) (by decide) ?_
  exact k_lret h hQ (ddL_law (239, .ireturn, 1) (List.mem_of_getElem? (i := 78) rfl))
theorem sL_law_227 {l : Launch} {X : q_CX} {Ln : Nat} {xs : Nat → Int32} (hl : X.2.1 = l) (hQ : q_LQ X) (hcap : q_cap X room_1 L_cap) (hz : q_scr X Ln xs) (h : q_OK X yL_law cL_law 4 (some .boolean) room_1 (Cond.code yL_law cL_law 4 (some .boolean) :: q_G)) : q_SK X 4 227 (BL_law_227 Ln xs) := by
  refine k_aload_n (i := 1) h (ddL_law (227, .aload_n 1, 1) (List.mem_of_getElem? (i := 72) rfl)) rfl ?_
  refine k_callV h hl (aX8_rock l) (ci := 8) (C := RX8) (T := TX8) (N := 11) rfl ⟨rfl, rfl⟩ (n := 0) (by decide +kernel) (q_gV gw802 gw803 gw804 gw91 gw801) ⟨by decide, by decide⟩ (ddL_law (228, .invokevirtual 20, 3) (List.mem_of_getElem? (i := 73) rfl)) ?_
  refine k_aload_n (i := 2) h (ddL_law (231, .aload_n 2, 1) (List.mem_of_getElem? (i := 74) rfl)) rfl ?_
  refine k_callV h hl (aX9_rock l) (ci := 9) (C := RX9) (T := TX9) (N := 33) rfl ⟨rfl, rfl⟩ (n := 0) (by decide +kernel) (q_gV gw806 gw807 gw808 gw606 gw805) ⟨by decide, by decide⟩ (ddL_law (232, .invokevirtual 24, 3) (List.mem_of_getElem? (i := 75) rfl)) ?_
  refine k_iceq h (ddL_law (235, .if_icmp .eq 842, 3) (List.mem_of_getElem? (i := 76) rfl)) (tgt := 1077) (by decide) ?_ ?_
  · exact k_cut
  · exact sL_law_238 hl hQ hcap hz h
theorem sL_law_251 {l : Launch} {X : q_CX} {Ln : Nat} {xs : Nat → Int32} (hl : X.2.1 = l) (hQ : q_LQ X) (hcap : q_cap X room_1 L_cap) (hz : q_scr X Ln xs) (h : q_OK X yL_law cL_law 4 (some .boolean) room_1 (Cond.code yL_law cL_law 4 (some .boolean) :: q_G)) : q_SK X 4 251 (BL_law_251 Ln xs) := by
  refine k_iconst (v := 0) h (ddL_law (251, .iconst 0, 1) (List.mem_of_getElem? (i := 84) rfl)) (by decide) ?_
  exact k_lret h hQ (ddL_law (252, .ireturn, 1) (List.mem_of_getElem? (i := 85) rfl))
theorem sL_law_240 {l : Launch} {X : q_CX} {Ln : Nat} {xs : Nat → Int32} (hl : X.2.1 = l) (hQ : q_LQ X) (hcap : q_cap X room_1 L_cap) (hz : q_scr X Ln xs) (h : q_OK X yL_law cL_law 4 (some .boolean) room_1 (Cond.code yL_law cL_law 4 (some .boolean) :: q_G)) : q_SK X 4 240 (BL_law_240 Ln xs) := by
  refine k_aload_n (i := 1) h (ddL_law (240, .aload_n 1, 1) (List.mem_of_getElem? (i := 79) rfl)) rfl ?_
  refine k_callV h hl (aX8_fault l) (ci := 8) (C := RX8) (T := TX8) (N := 11) rfl ⟨rfl, rfl⟩ (n := 0) (by decide +kernel) (q_gV gw810 gw811 gw812 gw91 gw809) ⟨by decide, by decide⟩ (ddL_law (241, .invokevirtual 25, 3) (List.mem_of_getElem? (i := 80) rfl)) ?_
  refine k_aload_n (i := 2) h (ddL_law (244, .aload_n 2, 1) (List.mem_of_getElem? (i := 81) rfl)) rfl ?_
  refine k_callV h hl (aX9_fault l) (ci := 9) (C := RX9) (T := TX9) (N := 33) rfl ⟨rfl, rfl⟩ (n := 0) (by decide +kernel) (q_gV gw814 gw815 gw816 gw606 gw813) ⟨by decide, by decide⟩ (ddL_law (245, .invokevirtual 28, 3) (List.mem_of_getElem? (i := 82) rfl)) ?_
  refine k_iceq h (ddL_law (248, .if_icmp .eq 829, 3) (List.mem_of_getElem? (i := 83) rfl)) (tgt := 1077) (by decide) ?_ ?_
  · exact k_cut
  · exact sL_law_251 hl hQ hcap hz h
theorem sL_law_274 {l : Launch} {X : q_CX} {Ln : Nat} {xs : Nat → Int32} (hl : X.2.1 = l) (hQ : q_LQ X) (hcap : q_cap X room_1 L_cap) (hz : q_scr X Ln xs) (h : q_OK X yL_law cL_law 4 (some .boolean) room_1 (Cond.code yL_law cL_law 4 (some .boolean) :: q_G)) : q_SK X 4 274 (BL_law_274 Ln xs) := by
  refine k_iconst (v := 0) h (ddL_law (274, .iconst 0, 1) (List.mem_of_getElem? (i := 101) rfl)) (by decide) ?_
  exact k_lret h hQ (ddL_law (275, .ireturn, 1) (List.mem_of_getElem? (i := 102) rfl))
theorem sL_law_253 {l : Launch} {X : q_CX} {Ln : Nat} {xs : Nat → Int32} (hl : X.2.1 = l) (hQ : q_LQ X) (hcap : q_cap X room_1 L_cap) (hz : q_scr X Ln xs) (h : q_OK X yL_law cL_law 4 (some .boolean) room_1 (Cond.code yL_law cL_law 4 (some .boolean) :: q_G)) : q_SK X 4 253 (BL_law_253 Ln xs) := by
  refine k_aload_n (i := 1) h (ddL_law (253, .aload_n 1, 1) (List.mem_of_getElem? (i := 86) rfl)) rfl ?_
  refine k_aload_n (i := 0) h (ddL_law (254, .aload_n 0, 1) (List.mem_of_getElem? (i := 87) rfl)) rfl ?_
  refine k_iload_n (i := 3) h (ddL_law (255, .iload_n 3, 1) (List.mem_of_getElem? (i := 88) rfl)) rfl ?_
  refine k_iconst (v := 1) h (ddL_law (256, .iconst 1, 1) (List.mem_of_getElem? (i := 89) rfl)) (by decide) ?_
  refine k_iadd h (ddL_law (257, .iadd, 1) (List.mem_of_getElem? (i := 90) rfl)) ?_
  refine k_sld h hz (ddL_law (258, .iaload, 1) (List.mem_of_getElem? (i := 91) rfl)) ?_
  refine k_callV h hl (aX8_told l) (ci := 8) (C := RX8) (T := TX8) (N := 11) rfl ⟨rfl, rfl⟩ (n := 1) (by decide +kernel) (q_gV gw818 gw819 gw820 gw91 gw817) ⟨by decide, by decide⟩ (ddL_law (259, .invokevirtual 29, 3) (List.mem_of_getElem? (i := 92) rfl)) ?_
  refine k_aload_n (i := 2) h (ddL_law (262, .aload_n 2, 1) (List.mem_of_getElem? (i := 93) rfl)) rfl ?_
  refine k_aload_n (i := 0) h (ddL_law (263, .aload_n 0, 1) (List.mem_of_getElem? (i := 94) rfl)) rfl ?_
  refine k_iload_n (i := 3) h (ddL_law (264, .iload_n 3, 1) (List.mem_of_getElem? (i := 95) rfl)) rfl ?_
  refine k_iconst (v := 1) h (ddL_law (265, .iconst 1, 1) (List.mem_of_getElem? (i := 96) rfl)) (by decide) ?_
  refine k_iadd h (ddL_law (266, .iadd, 1) (List.mem_of_getElem? (i := 97) rfl)) ?_
  refine k_sld h hz (ddL_law (267, .iaload, 1) (List.mem_of_getElem? (i := 98) rfl)) ?_
  refine k_callV h hl (aX9_told l) (ci := 9) (C := RX9) (T := TX9) (N := 33) rfl ⟨rfl, rfl⟩ (n := 1) (by decide +kernel) (q_gV gw822 gw823 gw824 gw606 gw821) ⟨by decide, by decide⟩ (ddL_law (268, .invokevirtual 33, 3) (List.mem_of_getElem? (i := 99) rfl)) ?_
  refine k_iceq h (ddL_law (271, .if_icmp .eq 806, 3) (List.mem_of_getElem? (i := 100) rfl)) (tgt := 1077) (by decide) ?_ ?_
  · exact k_cut
  · exact sL_law_274 hl hQ hcap hz h
theorem sL_law_307 {l : Launch} {X : q_CX} {Ln : Nat} {xs : Nat → Int32} (hl : X.2.1 = l) (hQ : q_LQ X) (hcap : q_cap X room_1 L_cap) (hz : q_scr X Ln xs) (h : q_OK X yL_law cL_law 4 (some .boolean) room_1 (Cond.code yL_law cL_law 4 (some .boolean) :: q_G)) : q_SK X 4 307 (BL_law_307 Ln xs) := by
  refine k_iconst (v := 0) h (ddL_law (307, .iconst 0, 1) (List.mem_of_getElem? (i := 128) rfl)) (by decide) ?_
  exact k_lret h hQ (ddL_law (308, .ireturn, 1) (List.mem_of_getElem? (i := 129) rfl))
theorem sL_law_276 {l : Launch} {X : q_CX} {Ln : Nat} {xs : Nat → Int32} (hl : X.2.1 = l) (hQ : q_LQ X) (hcap : q_cap X room_1 L_cap) (hz : q_scr X Ln xs) (h : q_OK X yL_law cL_law 4 (some .boolean) room_1 (Cond.code yL_law cL_law 4 (some .boolean) :: q_G)) : q_SK X 4 276 (BL_law_276 Ln xs) := by
  refine k_aload_n (i := 1) h (ddL_law (276, .aload_n 1, 1) (List.mem_of_getElem? (i := 103) rfl)) rfl ?_
  refine k_aload_n (i := 0) h (ddL_law (277, .aload_n 0, 1) (List.mem_of_getElem? (i := 104) rfl)) rfl ?_
  refine k_iload_n (i := 3) h (ddL_law (278, .iload_n 3, 1) (List.mem_of_getElem? (i := 105) rfl)) rfl ?_
  refine k_iconst (v := 1) h (ddL_law (279, .iconst 1, 1) (List.mem_of_getElem? (i := 106) rfl)) (by decide) ?_
  refine k_iadd h (ddL_law (280, .iadd, 1) (List.mem_of_getElem? (i := 107) rfl)) ?_
  refine k_sld h hz (ddL_law (281, .iaload, 1) (List.mem_of_getElem? (i := 108) rfl)) ?_
  refine k_aload_n (i := 0) h (ddL_law (282, .aload_n 0, 1) (List.mem_of_getElem? (i := 109) rfl)) rfl ?_
  refine k_iload_n (i := 3) h (ddL_law (283, .iload_n 3, 1) (List.mem_of_getElem? (i := 110) rfl)) rfl ?_
  refine k_iconst (v := 2) h (ddL_law (284, .iconst 2, 1) (List.mem_of_getElem? (i := 111) rfl)) (by decide) ?_
  refine k_iadd h (ddL_law (285, .iadd, 1) (List.mem_of_getElem? (i := 112) rfl)) ?_
  refine k_sld h hz (ddL_law (286, .iaload, 1) (List.mem_of_getElem? (i := 113) rfl)) ?_
  refine k_callV h hl (aX8_turning l) (ci := 8) (C := RX8) (T := TX8) (N := 11) rfl ⟨rfl, rfl⟩ (n := 2) (by decide +kernel) (q_gV gw826 gw827 gw828 gw91 gw825) ⟨by decide, by decide⟩ (ddL_law (287, .invokevirtual 34, 3) (List.mem_of_getElem? (i := 114) rfl)) ?_
  refine k_aload_n (i := 2) h (ddL_law (290, .aload_n 2, 1) (List.mem_of_getElem? (i := 115) rfl)) rfl ?_
  refine k_aload_n (i := 0) h (ddL_law (291, .aload_n 0, 1) (List.mem_of_getElem? (i := 116) rfl)) rfl ?_
  refine k_iload_n (i := 3) h (ddL_law (292, .iload_n 3, 1) (List.mem_of_getElem? (i := 117) rfl)) rfl ?_
  refine k_iconst (v := 1) h (ddL_law (293, .iconst 1, 1) (List.mem_of_getElem? (i := 118) rfl)) (by decide) ?_
  refine k_iadd h (ddL_law (294, .iadd, 1) (List.mem_of_getElem? (i := 119) rfl)) ?_
  refine k_sld h hz (ddL_law (295, .iaload, 1) (List.mem_of_getElem? (i := 120) rfl)) ?_
  refine k_aload_n (i := 0) h (ddL_law (296, .aload_n 0, 1) (List.mem_of_getElem? (i := 121) rfl)) rfl ?_
  refine k_iload_n (i := 3) h (ddL_law (297, .iload_n 3, 1) (List.mem_of_getElem? (i := 122) rfl)) rfl ?_
  refine k_iconst (v := 2) h (ddL_law (298, .iconst 2, 1) (List.mem_of_getElem? (i := 123) rfl)) (by decide) ?_
  refine k_iadd h (ddL_law (299, .iadd, 1) (List.mem_of_getElem? (i := 124) rfl)) ?_
  refine k_sld h hz (ddL_law (300, .iaload, 1) (List.mem_of_getElem? (i := 125) rfl)) ?_
  refine k_callV h hl (aX9_turning l) (ci := 9) (C := RX9) (T := TX9) (N := 33) rfl ⟨rfl, rfl⟩ (n := 2) (by decide +kernel) (q_gV gw830 gw831 gw832 gw606 gw829) ⟨by decide, by decide⟩ (ddL_law (301, .invokevirtual 38, 3) (List.mem_of_getElem? (i := 126) rfl)) ?_
  refine k_iceq h (ddL_law (304, .if_icmp .eq 773, 3) (List.mem_of_getElem? (i := 127) rfl)) (tgt := 1077) (by decide) ?_ ?_
  · exact k_cut
  · exact sL_law_307 hl hQ hcap hz h
theorem sL_law_340 {l : Launch} {X : q_CX} {Ln : Nat} {xs : Nat → Int32} (hl : X.2.1 = l) (hQ : q_LQ X) (hcap : q_cap X room_1 L_cap) (hz : q_scr X Ln xs) (h : q_OK X yL_law cL_law 4 (some .boolean) room_1 (Cond.code yL_law cL_law 4 (some .boolean) :: q_G)) : q_SK X 4 340 (BL_law_340 Ln xs) := by
  refine k_iconst (v := 0) h (ddL_law (340, .iconst 0, 1) (List.mem_of_getElem? (i := 155) rfl)) (by decide) ?_
  exact k_lret h hQ (ddL_law (341, .ireturn, 1) (List.mem_of_getElem? (i := 156) rfl))
theorem sL_law_309 {l : Launch} {X : q_CX} {Ln : Nat} {xs : Nat → Int32} (hl : X.2.1 = l) (hQ : q_LQ X) (hcap : q_cap X room_1 L_cap) (hz : q_scr X Ln xs) (h : q_OK X yL_law cL_law 4 (some .boolean) room_1 (Cond.code yL_law cL_law 4 (some .boolean) :: q_G)) : q_SK X 4 309 (BL_law_309 Ln xs) := by
  refine k_aload_n (i := 1) h (ddL_law (309, .aload_n 1, 1) (List.mem_of_getElem? (i := 130) rfl)) rfl ?_
  refine k_aload_n (i := 0) h (ddL_law (310, .aload_n 0, 1) (List.mem_of_getElem? (i := 131) rfl)) rfl ?_
  refine k_iload_n (i := 3) h (ddL_law (311, .iload_n 3, 1) (List.mem_of_getElem? (i := 132) rfl)) rfl ?_
  refine k_iconst (v := 1) h (ddL_law (312, .iconst 1, 1) (List.mem_of_getElem? (i := 133) rfl)) (by decide) ?_
  refine k_iadd h (ddL_law (313, .iadd, 1) (List.mem_of_getElem? (i := 134) rfl)) ?_
  refine k_sld h hz (ddL_law (314, .iaload, 1) (List.mem_of_getElem? (i := 135) rfl)) ?_
  refine k_aload_n (i := 0) h (ddL_law (315, .aload_n 0, 1) (List.mem_of_getElem? (i := 136) rfl)) rfl ?_
  refine k_iload_n (i := 3) h (ddL_law (316, .iload_n 3, 1) (List.mem_of_getElem? (i := 137) rfl)) rfl ?_
  refine k_iconst (v := 2) h (ddL_law (317, .iconst 2, 1) (List.mem_of_getElem? (i := 138) rfl)) (by decide) ?_
  refine k_iadd h (ddL_law (318, .iadd, 1) (List.mem_of_getElem? (i := 139) rfl)) ?_
  refine k_sld h hz (ddL_law (319, .iaload, 1) (List.mem_of_getElem? (i := 140) rfl)) ?_
  refine k_callV h hl (aX8_place l) (ci := 8) (C := RX8) (T := TX8) (N := 11) rfl ⟨rfl, rfl⟩ (n := 2) (by decide +kernel) (q_gV gw834 gw835 gw836 gw91 gw833) ⟨by decide, by decide⟩ (ddL_law (320, .invokevirtual 39, 3) (List.mem_of_getElem? (i := 141) rfl)) ?_
  refine k_aload_n (i := 2) h (ddL_law (323, .aload_n 2, 1) (List.mem_of_getElem? (i := 142) rfl)) rfl ?_
  refine k_aload_n (i := 0) h (ddL_law (324, .aload_n 0, 1) (List.mem_of_getElem? (i := 143) rfl)) rfl ?_
  refine k_iload_n (i := 3) h (ddL_law (325, .iload_n 3, 1) (List.mem_of_getElem? (i := 144) rfl)) rfl ?_
  refine k_iconst (v := 1) h (ddL_law (326, .iconst 1, 1) (List.mem_of_getElem? (i := 145) rfl)) (by decide) ?_
  refine k_iadd h (ddL_law (327, .iadd, 1) (List.mem_of_getElem? (i := 146) rfl)) ?_
  refine k_sld h hz (ddL_law (328, .iaload, 1) (List.mem_of_getElem? (i := 147) rfl)) ?_
  refine k_aload_n (i := 0) h (ddL_law (329, .aload_n 0, 1) (List.mem_of_getElem? (i := 148) rfl)) rfl ?_
  refine k_iload_n (i := 3) h (ddL_law (330, .iload_n 3, 1) (List.mem_of_getElem? (i := 149) rfl)) rfl ?_
  refine k_iconst (v := 2) h (ddL_law (331, .iconst 2, 1) (List.mem_of_getElem? (i := 150) rfl)) (by decide) ?_
  refine k_iadd h (ddL_law (332, .iadd, 1) (List.mem_of_getElem? (i := 151) rfl)) ?_
  refine k_sld h hz (ddL_law (333, .iaload, 1) (List.mem_of_getElem? (i := 152) rfl)) ?_
  refine k_callV h hl (aX9_place l) (ci := 9) (C := RX9) (T := TX9) (N := 33) rfl ⟨rfl, rfl⟩ (n := 2) (by decide +kernel) (q_gV gw838 gw839 gw840 gw606 gw837) ⟨by decide, by decide⟩ (ddL_law (334, .invokevirtual 42, 3) (List.mem_of_getElem? (i := 153) rfl)) ?_
  refine k_iceq h (ddL_law (337, .if_icmp .eq 740, 3) (List.mem_of_getElem? (i := 154) rfl)) (tgt := 1077) (by decide) ?_ ?_
  · exact k_cut
  · exact sL_law_340 hl hQ hcap hz h
theorem sL_law_373 {l : Launch} {X : q_CX} {Ln : Nat} {xs : Nat → Int32} (hl : X.2.1 = l) (hQ : q_LQ X) (hcap : q_cap X room_1 L_cap) (hz : q_scr X Ln xs) (h : q_OK X yL_law cL_law 4 (some .boolean) room_1 (Cond.code yL_law cL_law 4 (some .boolean) :: q_G)) : q_SK X 4 373 (BL_law_373 Ln xs) := by
  refine k_iconst (v := 0) h (ddL_law (373, .iconst 0, 1) (List.mem_of_getElem? (i := 182) rfl)) (by decide) ?_
  exact k_lret h hQ (ddL_law (374, .ireturn, 1) (List.mem_of_getElem? (i := 183) rfl))
theorem sL_law_342 {l : Launch} {X : q_CX} {Ln : Nat} {xs : Nat → Int32} (hl : X.2.1 = l) (hQ : q_LQ X) (hcap : q_cap X room_1 L_cap) (hz : q_scr X Ln xs) (h : q_OK X yL_law cL_law 4 (some .boolean) room_1 (Cond.code yL_law cL_law 4 (some .boolean) :: q_G)) : q_SK X 4 342 (BL_law_342 Ln xs) := by
  refine k_aload_n (i := 1) h (ddL_law (342, .aload_n 1, 1) (List.mem_of_getElem? (i := 157) rfl)) rfl ?_
  refine k_aload_n (i := 0) h (ddL_law (343, .aload_n 0, 1) (List.mem_of_getElem? (i := 158) rfl)) rfl ?_
  refine k_iload_n (i := 3) h (ddL_law (344, .iload_n 3, 1) (List.mem_of_getElem? (i := 159) rfl)) rfl ?_
  refine k_iconst (v := 1) h (ddL_law (345, .iconst 1, 1) (List.mem_of_getElem? (i := 160) rfl)) (by decide) ?_
  refine k_iadd h (ddL_law (346, .iadd, 1) (List.mem_of_getElem? (i := 161) rfl)) ?_
  refine k_sld h hz (ddL_law (347, .iaload, 1) (List.mem_of_getElem? (i := 162) rfl)) ?_
  refine k_aload_n (i := 0) h (ddL_law (348, .aload_n 0, 1) (List.mem_of_getElem? (i := 163) rfl)) rfl ?_
  refine k_iload_n (i := 3) h (ddL_law (349, .iload_n 3, 1) (List.mem_of_getElem? (i := 164) rfl)) rfl ?_
  refine k_iconst (v := 2) h (ddL_law (350, .iconst 2, 1) (List.mem_of_getElem? (i := 165) rfl)) (by decide) ?_
  refine k_iadd h (ddL_law (351, .iadd, 1) (List.mem_of_getElem? (i := 166) rfl)) ?_
  refine k_sld h hz (ddL_law (352, .iaload, 1) (List.mem_of_getElem? (i := 167) rfl)) ?_
  refine k_callV h hl (aX8_height l) (ci := 8) (C := RX8) (T := TX8) (N := 11) rfl ⟨rfl, rfl⟩ (n := 2) (by decide +kernel) (q_gV gw842 gw843 gw844 gw91 gw841) ⟨by decide, by decide⟩ (ddL_law (353, .invokevirtual 43, 3) (List.mem_of_getElem? (i := 168) rfl)) ?_
  refine k_aload_n (i := 2) h (ddL_law (356, .aload_n 2, 1) (List.mem_of_getElem? (i := 169) rfl)) rfl ?_
  refine k_aload_n (i := 0) h (ddL_law (357, .aload_n 0, 1) (List.mem_of_getElem? (i := 170) rfl)) rfl ?_
  refine k_iload_n (i := 3) h (ddL_law (358, .iload_n 3, 1) (List.mem_of_getElem? (i := 171) rfl)) rfl ?_
  refine k_iconst (v := 1) h (ddL_law (359, .iconst 1, 1) (List.mem_of_getElem? (i := 172) rfl)) (by decide) ?_
  refine k_iadd h (ddL_law (360, .iadd, 1) (List.mem_of_getElem? (i := 173) rfl)) ?_
  refine k_sld h hz (ddL_law (361, .iaload, 1) (List.mem_of_getElem? (i := 174) rfl)) ?_
  refine k_aload_n (i := 0) h (ddL_law (362, .aload_n 0, 1) (List.mem_of_getElem? (i := 175) rfl)) rfl ?_
  refine k_iload_n (i := 3) h (ddL_law (363, .iload_n 3, 1) (List.mem_of_getElem? (i := 176) rfl)) rfl ?_
  refine k_iconst (v := 2) h (ddL_law (364, .iconst 2, 1) (List.mem_of_getElem? (i := 177) rfl)) (by decide) ?_
  refine k_iadd h (ddL_law (365, .iadd, 1) (List.mem_of_getElem? (i := 178) rfl)) ?_
  refine k_sld h hz (ddL_law (366, .iaload, 1) (List.mem_of_getElem? (i := 179) rfl)) ?_
  refine k_callV h hl (aX9_height l) (ci := 9) (C := RX9) (T := TX9) (N := 33) rfl ⟨rfl, rfl⟩ (n := 2) (by decide +kernel) (q_gV gw846 gw847 gw848 gw606 gw845) ⟨by decide, by decide⟩ (ddL_law (367, .invokevirtual 46, 3) (List.mem_of_getElem? (i := 180) rfl)) ?_
  refine k_iceq h (ddL_law (370, .if_icmp .eq 707, 3) (List.mem_of_getElem? (i := 181) rfl)) (tgt := 1077) (by decide) ?_ ?_
  · exact k_cut
  · exact sL_law_373 hl hQ hcap hz h
theorem sL_law_396 {l : Launch} {X : q_CX} {Ln : Nat} {xs : Nat → Int32} (hl : X.2.1 = l) (hQ : q_LQ X) (hcap : q_cap X room_1 L_cap) (hz : q_scr X Ln xs) (h : q_OK X yL_law cL_law 4 (some .boolean) room_1 (Cond.code yL_law cL_law 4 (some .boolean) :: q_G)) : q_SK X 4 396 (BL_law_396 Ln xs) := by
  refine k_iconst (v := 0) h (ddL_law (396, .iconst 0, 1) (List.mem_of_getElem? (i := 199) rfl)) (by decide) ?_
  exact k_lret h hQ (ddL_law (397, .ireturn, 1) (List.mem_of_getElem? (i := 200) rfl))
theorem sL_law_375 {l : Launch} {X : q_CX} {Ln : Nat} {xs : Nat → Int32} (hl : X.2.1 = l) (hQ : q_LQ X) (hcap : q_cap X room_1 L_cap) (hz : q_scr X Ln xs) (h : q_OK X yL_law cL_law 4 (some .boolean) room_1 (Cond.code yL_law cL_law 4 (some .boolean) :: q_G)) : q_SK X 4 375 (BL_law_375 Ln xs) := by
  refine k_aload_n (i := 1) h (ddL_law (375, .aload_n 1, 1) (List.mem_of_getElem? (i := 184) rfl)) rfl ?_
  refine k_aload_n (i := 0) h (ddL_law (376, .aload_n 0, 1) (List.mem_of_getElem? (i := 185) rfl)) rfl ?_
  refine k_iload_n (i := 3) h (ddL_law (377, .iload_n 3, 1) (List.mem_of_getElem? (i := 186) rfl)) rfl ?_
  refine k_iconst (v := 1) h (ddL_law (378, .iconst 1, 1) (List.mem_of_getElem? (i := 187) rfl)) (by decide) ?_
  refine k_iadd h (ddL_law (379, .iadd, 1) (List.mem_of_getElem? (i := 188) rfl)) ?_
  refine k_sld h hz (ddL_law (380, .iaload, 1) (List.mem_of_getElem? (i := 189) rfl)) ?_
  refine k_callV h hl (aX8_stay l) (ci := 8) (C := RX8) (T := TX8) (N := 11) rfl ⟨rfl, rfl⟩ (n := 1) (by decide +kernel) (q_gV gw850 gw851 gw852 gw91 gw849) ⟨by decide, by decide⟩ (ddL_law (381, .invokevirtual 47, 3) (List.mem_of_getElem? (i := 190) rfl)) ?_
  refine k_aload_n (i := 2) h (ddL_law (384, .aload_n 2, 1) (List.mem_of_getElem? (i := 191) rfl)) rfl ?_
  refine k_aload_n (i := 0) h (ddL_law (385, .aload_n 0, 1) (List.mem_of_getElem? (i := 192) rfl)) rfl ?_
  refine k_iload_n (i := 3) h (ddL_law (386, .iload_n 3, 1) (List.mem_of_getElem? (i := 193) rfl)) rfl ?_
  refine k_iconst (v := 1) h (ddL_law (387, .iconst 1, 1) (List.mem_of_getElem? (i := 194) rfl)) (by decide) ?_
  refine k_iadd h (ddL_law (388, .iadd, 1) (List.mem_of_getElem? (i := 195) rfl)) ?_
  refine k_sld h hz (ddL_law (389, .iaload, 1) (List.mem_of_getElem? (i := 196) rfl)) ?_
  refine k_callV h hl (aX9_stay l) (ci := 9) (C := RX9) (T := TX9) (N := 33) rfl ⟨rfl, rfl⟩ (n := 1) (by decide +kernel) (q_gV gw854 gw855 gw856 gw606 gw853) ⟨by decide, by decide⟩ (ddL_law (390, .invokevirtual 50, 3) (List.mem_of_getElem? (i := 197) rfl)) ?_
  refine k_iceq h (ddL_law (393, .if_icmp .eq 684, 3) (List.mem_of_getElem? (i := 198) rfl)) (tgt := 1077) (by decide) ?_ ?_
  · exact k_cut
  · exact sL_law_396 hl hQ hcap hz h
theorem sL_law_419 {l : Launch} {X : q_CX} {Ln : Nat} {xs : Nat → Int32} (hl : X.2.1 = l) (hQ : q_LQ X) (hcap : q_cap X room_1 L_cap) (hz : q_scr X Ln xs) (h : q_OK X yL_law cL_law 4 (some .boolean) room_1 (Cond.code yL_law cL_law 4 (some .boolean) :: q_G)) : q_SK X 4 419 (BL_law_419 Ln xs) := by
  refine k_iconst (v := 0) h (ddL_law (419, .iconst 0, 1) (List.mem_of_getElem? (i := 216) rfl)) (by decide) ?_
  exact k_lret h hQ (ddL_law (420, .ireturn, 1) (List.mem_of_getElem? (i := 217) rfl))
theorem sL_law_398 {l : Launch} {X : q_CX} {Ln : Nat} {xs : Nat → Int32} (hl : X.2.1 = l) (hQ : q_LQ X) (hcap : q_cap X room_1 L_cap) (hz : q_scr X Ln xs) (h : q_OK X yL_law cL_law 4 (some .boolean) room_1 (Cond.code yL_law cL_law 4 (some .boolean) :: q_G)) : q_SK X 4 398 (BL_law_398 Ln xs) := by
  refine k_aload_n (i := 1) h (ddL_law (398, .aload_n 1, 1) (List.mem_of_getElem? (i := 201) rfl)) rfl ?_
  refine k_aload_n (i := 0) h (ddL_law (399, .aload_n 0, 1) (List.mem_of_getElem? (i := 202) rfl)) rfl ?_
  refine k_iload_n (i := 3) h (ddL_law (400, .iload_n 3, 1) (List.mem_of_getElem? (i := 203) rfl)) rfl ?_
  refine k_iconst (v := 1) h (ddL_law (401, .iconst 1, 1) (List.mem_of_getElem? (i := 204) rfl)) (by decide) ?_
  refine k_iadd h (ddL_law (402, .iadd, 1) (List.mem_of_getElem? (i := 205) rfl)) ?_
  refine k_sld h hz (ddL_law (403, .iaload, 1) (List.mem_of_getElem? (i := 206) rfl)) ?_
  refine k_callV h hl (aX8_go l) (ci := 8) (C := RX8) (T := TX8) (N := 11) rfl ⟨rfl, rfl⟩ (n := 1) (by decide +kernel) (q_gV gw858 gw859 gw860 gw91 gw857) ⟨by decide, by decide⟩ (ddL_law (404, .invokevirtual 51, 3) (List.mem_of_getElem? (i := 207) rfl)) ?_
  refine k_aload_n (i := 2) h (ddL_law (407, .aload_n 2, 1) (List.mem_of_getElem? (i := 208) rfl)) rfl ?_
  refine k_aload_n (i := 0) h (ddL_law (408, .aload_n 0, 1) (List.mem_of_getElem? (i := 209) rfl)) rfl ?_
  refine k_iload_n (i := 3) h (ddL_law (409, .iload_n 3, 1) (List.mem_of_getElem? (i := 210) rfl)) rfl ?_
  refine k_iconst (v := 1) h (ddL_law (410, .iconst 1, 1) (List.mem_of_getElem? (i := 211) rfl)) (by decide) ?_
  refine k_iadd h (ddL_law (411, .iadd, 1) (List.mem_of_getElem? (i := 212) rfl)) ?_
  refine k_sld h hz (ddL_law (412, .iaload, 1) (List.mem_of_getElem? (i := 213) rfl)) ?_
  refine k_callV h hl (aX9_go l) (ci := 9) (C := RX9) (T := TX9) (N := 33) rfl ⟨rfl, rfl⟩ (n := 1) (by decide +kernel) (q_gV gw862 gw863 gw864 gw606 gw861) ⟨by decide, by decide⟩ (ddL_law (413, .invokevirtual 54, 3) (List.mem_of_getElem? (i := 214) rfl)) ?_
  refine k_iceq h (ddL_law (416, .if_icmp .eq 661, 3) (List.mem_of_getElem? (i := 215) rfl)) (tgt := 1077) (by decide) ?_ ?_
  · exact k_cut
  · exact sL_law_419 hl hQ hcap hz h
theorem sL_law_452 {l : Launch} {X : q_CX} {Ln : Nat} {xs : Nat → Int32} (hl : X.2.1 = l) (hQ : q_LQ X) (hcap : q_cap X room_1 L_cap) (hz : q_scr X Ln xs) (h : q_OK X yL_law cL_law 4 (some .boolean) room_1 (Cond.code yL_law cL_law 4 (some .boolean) :: q_G)) : q_SK X 4 452 (BL_law_452 Ln xs) := by
  refine k_iconst (v := 0) h (ddL_law (452, .iconst 0, 1) (List.mem_of_getElem? (i := 243) rfl)) (by decide) ?_
  exact k_lret h hQ (ddL_law (453, .ireturn, 1) (List.mem_of_getElem? (i := 244) rfl))
theorem sL_law_421 {l : Launch} {X : q_CX} {Ln : Nat} {xs : Nat → Int32} (hl : X.2.1 = l) (hQ : q_LQ X) (hcap : q_cap X room_1 L_cap) (hz : q_scr X Ln xs) (h : q_OK X yL_law cL_law 4 (some .boolean) room_1 (Cond.code yL_law cL_law 4 (some .boolean) :: q_G)) : q_SK X 4 421 (BL_law_421 Ln xs) := by
  refine k_aload_n (i := 1) h (ddL_law (421, .aload_n 1, 1) (List.mem_of_getElem? (i := 218) rfl)) rfl ?_
  refine k_aload_n (i := 0) h (ddL_law (422, .aload_n 0, 1) (List.mem_of_getElem? (i := 219) rfl)) rfl ?_
  refine k_iload_n (i := 3) h (ddL_law (423, .iload_n 3, 1) (List.mem_of_getElem? (i := 220) rfl)) rfl ?_
  refine k_iconst (v := 1) h (ddL_law (424, .iconst 1, 1) (List.mem_of_getElem? (i := 221) rfl)) (by decide) ?_
  refine k_iadd h (ddL_law (425, .iadd, 1) (List.mem_of_getElem? (i := 222) rfl)) ?_
  refine k_sld h hz (ddL_law (426, .iaload, 1) (List.mem_of_getElem? (i := 223) rfl)) ?_
  refine k_aload_n (i := 0) h (ddL_law (427, .aload_n 0, 1) (List.mem_of_getElem? (i := 224) rfl)) rfl ?_
  refine k_iload_n (i := 3) h (ddL_law (428, .iload_n 3, 1) (List.mem_of_getElem? (i := 225) rfl)) rfl ?_
  refine k_iconst (v := 2) h (ddL_law (429, .iconst 2, 1) (List.mem_of_getElem? (i := 226) rfl)) (by decide) ?_
  refine k_iadd h (ddL_law (430, .iadd, 1) (List.mem_of_getElem? (i := 227) rfl)) ?_
  refine k_sld h hz (ddL_law (431, .iaload, 1) (List.mem_of_getElem? (i := 228) rfl)) ?_
  refine k_callV h hl (aX8_knock l) (ci := 8) (C := RX8) (T := TX8) (N := 11) rfl ⟨rfl, rfl⟩ (n := 2) (by decide +kernel) (q_gV gw866 gw867 gw868 gw91 gw865) ⟨by decide, by decide⟩ (ddL_law (432, .invokevirtual 55, 3) (List.mem_of_getElem? (i := 229) rfl)) ?_
  refine k_aload_n (i := 2) h (ddL_law (435, .aload_n 2, 1) (List.mem_of_getElem? (i := 230) rfl)) rfl ?_
  refine k_aload_n (i := 0) h (ddL_law (436, .aload_n 0, 1) (List.mem_of_getElem? (i := 231) rfl)) rfl ?_
  refine k_iload_n (i := 3) h (ddL_law (437, .iload_n 3, 1) (List.mem_of_getElem? (i := 232) rfl)) rfl ?_
  refine k_iconst (v := 1) h (ddL_law (438, .iconst 1, 1) (List.mem_of_getElem? (i := 233) rfl)) (by decide) ?_
  refine k_iadd h (ddL_law (439, .iadd, 1) (List.mem_of_getElem? (i := 234) rfl)) ?_
  refine k_sld h hz (ddL_law (440, .iaload, 1) (List.mem_of_getElem? (i := 235) rfl)) ?_
  refine k_aload_n (i := 0) h (ddL_law (441, .aload_n 0, 1) (List.mem_of_getElem? (i := 236) rfl)) rfl ?_
  refine k_iload_n (i := 3) h (ddL_law (442, .iload_n 3, 1) (List.mem_of_getElem? (i := 237) rfl)) rfl ?_
  refine k_iconst (v := 2) h (ddL_law (443, .iconst 2, 1) (List.mem_of_getElem? (i := 238) rfl)) (by decide) ?_
  refine k_iadd h (ddL_law (444, .iadd, 1) (List.mem_of_getElem? (i := 239) rfl)) ?_
  refine k_sld h hz (ddL_law (445, .iaload, 1) (List.mem_of_getElem? (i := 240) rfl)) ?_
  refine k_callV h hl (aX9_knock l) (ci := 9) (C := RX9) (T := TX9) (N := 33) rfl ⟨rfl, rfl⟩ (n := 2) (by decide +kernel) (q_gV gw870 gw871 gw872 gw606 gw869) ⟨by decide, by decide⟩ (ddL_law (446, .invokevirtual 58, 3) (List.mem_of_getElem? (i := 241) rfl)) ?_
  refine k_iceq h (ddL_law (449, .if_icmp .eq 628, 3) (List.mem_of_getElem? (i := 242) rfl)) (tgt := 1077) (by decide) ?_ ?_
  · exact k_cut
  · exact sL_law_452 hl hQ hcap hz h
theorem sL_law_475 {l : Launch} {X : q_CX} {Ln : Nat} {xs : Nat → Int32} (hl : X.2.1 = l) (hQ : q_LQ X) (hcap : q_cap X room_1 L_cap) (hz : q_scr X Ln xs) (h : q_OK X yL_law cL_law 4 (some .boolean) room_1 (Cond.code yL_law cL_law 4 (some .boolean) :: q_G)) : q_SK X 4 475 (BL_law_475 Ln xs) := by
  refine k_iconst (v := 0) h (ddL_law (475, .iconst 0, 1) (List.mem_of_getElem? (i := 260) rfl)) (by decide) ?_
  exact k_lret h hQ (ddL_law (476, .ireturn, 1) (List.mem_of_getElem? (i := 261) rfl))
theorem sL_law_454 {l : Launch} {X : q_CX} {Ln : Nat} {xs : Nat → Int32} (hl : X.2.1 = l) (hQ : q_LQ X) (hcap : q_cap X room_1 L_cap) (hz : q_scr X Ln xs) (h : q_OK X yL_law cL_law 4 (some .boolean) room_1 (Cond.code yL_law cL_law 4 (some .boolean) :: q_G)) : q_SK X 4 454 (BL_law_454 Ln xs) := by
  refine k_aload_n (i := 1) h (ddL_law (454, .aload_n 1, 1) (List.mem_of_getElem? (i := 245) rfl)) rfl ?_
  refine k_aload_n (i := 0) h (ddL_law (455, .aload_n 0, 1) (List.mem_of_getElem? (i := 246) rfl)) rfl ?_
  refine k_iload_n (i := 3) h (ddL_law (456, .iload_n 3, 1) (List.mem_of_getElem? (i := 247) rfl)) rfl ?_
  refine k_iconst (v := 1) h (ddL_law (457, .iconst 1, 1) (List.mem_of_getElem? (i := 248) rfl)) (by decide) ?_
  refine k_iadd h (ddL_law (458, .iadd, 1) (List.mem_of_getElem? (i := 249) rfl)) ?_
  refine k_sld h hz (ddL_law (459, .iaload, 1) (List.mem_of_getElem? (i := 250) rfl)) ?_
  refine k_callV h hl (aX8_push l) (ci := 8) (C := RX8) (T := TX8) (N := 11) rfl ⟨rfl, rfl⟩ (n := 1) (by decide +kernel) (q_gV gw874 gw875 gw876 gw91 gw873) ⟨by decide, by decide⟩ (ddL_law (460, .invokevirtual 59, 3) (List.mem_of_getElem? (i := 251) rfl)) ?_
  refine k_aload_n (i := 2) h (ddL_law (463, .aload_n 2, 1) (List.mem_of_getElem? (i := 252) rfl)) rfl ?_
  refine k_aload_n (i := 0) h (ddL_law (464, .aload_n 0, 1) (List.mem_of_getElem? (i := 253) rfl)) rfl ?_
  refine k_iload_n (i := 3) h (ddL_law (465, .iload_n 3, 1) (List.mem_of_getElem? (i := 254) rfl)) rfl ?_
  refine k_iconst (v := 1) h (ddL_law (466, .iconst 1, 1) (List.mem_of_getElem? (i := 255) rfl)) (by decide) ?_
  refine k_iadd h (ddL_law (467, .iadd, 1) (List.mem_of_getElem? (i := 256) rfl)) ?_
  refine k_sld h hz (ddL_law (468, .iaload, 1) (List.mem_of_getElem? (i := 257) rfl)) ?_
  refine k_callV h hl (aX9_push l) (ci := 9) (C := RX9) (T := TX9) (N := 33) rfl ⟨rfl, rfl⟩ (n := 1) (by decide +kernel) (q_gV gw878 gw879 gw880 gw606 gw877) ⟨by decide, by decide⟩ (ddL_law (469, .invokevirtual 62, 3) (List.mem_of_getElem? (i := 258) rfl)) ?_
  refine k_iceq h (ddL_law (472, .if_icmp .eq 605, 3) (List.mem_of_getElem? (i := 259) rfl)) (tgt := 1077) (by decide) ?_ ?_
  · exact k_cut
  · exact sL_law_475 hl hQ hcap hz h
theorem sL_law_498 {l : Launch} {X : q_CX} {Ln : Nat} {xs : Nat → Int32} (hl : X.2.1 = l) (hQ : q_LQ X) (hcap : q_cap X room_1 L_cap) (hz : q_scr X Ln xs) (h : q_OK X yL_law cL_law 4 (some .boolean) room_1 (Cond.code yL_law cL_law 4 (some .boolean) :: q_G)) : q_SK X 4 498 (BL_law_498 Ln xs) := by
  refine k_iconst (v := 0) h (ddL_law (498, .iconst 0, 1) (List.mem_of_getElem? (i := 277) rfl)) (by decide) ?_
  exact k_lret h hQ (ddL_law (499, .ireturn, 1) (List.mem_of_getElem? (i := 278) rfl))
theorem sL_law_477 {l : Launch} {X : q_CX} {Ln : Nat} {xs : Nat → Int32} (hl : X.2.1 = l) (hQ : q_LQ X) (hcap : q_cap X room_1 L_cap) (hz : q_scr X Ln xs) (h : q_OK X yL_law cL_law 4 (some .boolean) room_1 (Cond.code yL_law cL_law 4 (some .boolean) :: q_G)) : q_SK X 4 477 (BL_law_477 Ln xs) := by
  refine k_aload_n (i := 1) h (ddL_law (477, .aload_n 1, 1) (List.mem_of_getElem? (i := 262) rfl)) rfl ?_
  refine k_aload_n (i := 0) h (ddL_law (478, .aload_n 0, 1) (List.mem_of_getElem? (i := 263) rfl)) rfl ?_
  refine k_iload_n (i := 3) h (ddL_law (479, .iload_n 3, 1) (List.mem_of_getElem? (i := 264) rfl)) rfl ?_
  refine k_iconst (v := 1) h (ddL_law (480, .iconst 1, 1) (List.mem_of_getElem? (i := 265) rfl)) (by decide) ?_
  refine k_iadd h (ddL_law (481, .iadd, 1) (List.mem_of_getElem? (i := 266) rfl)) ?_
  refine k_sld h hz (ddL_law (482, .iaload, 1) (List.mem_of_getElem? (i := 267) rfl)) ?_
  refine k_callV h hl (aX8_drift l) (ci := 8) (C := RX8) (T := TX8) (N := 11) rfl ⟨rfl, rfl⟩ (n := 1) (by decide +kernel) (q_gV gw882 gw883 gw884 gw91 gw881) ⟨by decide, by decide⟩ (ddL_law (483, .invokevirtual 63, 3) (List.mem_of_getElem? (i := 268) rfl)) ?_
  refine k_aload_n (i := 2) h (ddL_law (486, .aload_n 2, 1) (List.mem_of_getElem? (i := 269) rfl)) rfl ?_
  refine k_aload_n (i := 0) h (ddL_law (487, .aload_n 0, 1) (List.mem_of_getElem? (i := 270) rfl)) rfl ?_
  refine k_iload_n (i := 3) h (ddL_law (488, .iload_n 3, 1) (List.mem_of_getElem? (i := 271) rfl)) rfl ?_
  refine k_iconst (v := 1) h (ddL_law (489, .iconst 1, 1) (List.mem_of_getElem? (i := 272) rfl)) (by decide) ?_
  refine k_iadd h (ddL_law (490, .iadd, 1) (List.mem_of_getElem? (i := 273) rfl)) ?_
  refine k_sld h hz (ddL_law (491, .iaload, 1) (List.mem_of_getElem? (i := 274) rfl)) ?_
  refine k_callV h hl (aX9_drift l) (ci := 9) (C := RX9) (T := TX9) (N := 33) rfl ⟨rfl, rfl⟩ (n := 1) (by decide +kernel) (q_gV gw886 gw887 gw888 gw606 gw885) ⟨by decide, by decide⟩ (ddL_law (492, .invokevirtual 66, 3) (List.mem_of_getElem? (i := 275) rfl)) ?_
  refine k_iceq h (ddL_law (495, .if_icmp .eq 582, 3) (List.mem_of_getElem? (i := 276) rfl)) (tgt := 1077) (by decide) ?_ ?_
  · exact k_cut
  · exact sL_law_498 hl hQ hcap hz h
theorem sL_law_541 {l : Launch} {X : q_CX} {Ln : Nat} {xs : Nat → Int32} (hl : X.2.1 = l) (hQ : q_LQ X) (hcap : q_cap X room_1 L_cap) (hz : q_scr X Ln xs) (h : q_OK X yL_law cL_law 4 (some .boolean) room_1 (Cond.code yL_law cL_law 4 (some .boolean) :: q_G)) : q_SK X 4 541 (BL_law_541 Ln xs) := by
  refine k_iconst (v := 0) h (ddL_law (541, .iconst 0, 1) (List.mem_of_getElem? (i := 314) rfl)) (by decide) ?_
  exact k_lret h hQ (ddL_law (542, .ireturn, 1) (List.mem_of_getElem? (i := 315) rfl))
theorem sL_law_500 {l : Launch} {X : q_CX} {Ln : Nat} {xs : Nat → Int32} (hl : X.2.1 = l) (hQ : q_LQ X) (hcap : q_cap X room_1 L_cap) (hz : q_scr X Ln xs) (h : q_OK X yL_law cL_law 4 (some .boolean) room_1 (Cond.code yL_law cL_law 4 (some .boolean) :: q_G)) : q_SK X 4 500 (BL_law_500 Ln xs) := by
  refine k_aload_n (i := 1) h (ddL_law (500, .aload_n 1, 1) (List.mem_of_getElem? (i := 279) rfl)) rfl ?_
  refine k_aload_n (i := 0) h (ddL_law (501, .aload_n 0, 1) (List.mem_of_getElem? (i := 280) rfl)) rfl ?_
  refine k_iload_n (i := 3) h (ddL_law (502, .iload_n 3, 1) (List.mem_of_getElem? (i := 281) rfl)) rfl ?_
  refine k_iconst (v := 1) h (ddL_law (503, .iconst 1, 1) (List.mem_of_getElem? (i := 282) rfl)) (by decide) ?_
  refine k_iadd h (ddL_law (504, .iadd, 1) (List.mem_of_getElem? (i := 283) rfl)) ?_
  refine k_sld h hz (ddL_law (505, .iaload, 1) (List.mem_of_getElem? (i := 284) rfl)) ?_
  refine k_aload_n (i := 0) h (ddL_law (506, .aload_n 0, 1) (List.mem_of_getElem? (i := 285) rfl)) rfl ?_
  refine k_iload_n (i := 3) h (ddL_law (507, .iload_n 3, 1) (List.mem_of_getElem? (i := 286) rfl)) rfl ?_
  refine k_iconst (v := 2) h (ddL_law (508, .iconst 2, 1) (List.mem_of_getElem? (i := 287) rfl)) (by decide) ?_
  refine k_iadd h (ddL_law (509, .iadd, 1) (List.mem_of_getElem? (i := 288) rfl)) ?_
  refine k_sld h hz (ddL_law (510, .iaload, 1) (List.mem_of_getElem? (i := 289) rfl)) ?_
  refine k_aload_n (i := 0) h (ddL_law (511, .aload_n 0, 1) (List.mem_of_getElem? (i := 290) rfl)) rfl ?_
  refine k_iload_n (i := 3) h (ddL_law (512, .iload_n 3, 1) (List.mem_of_getElem? (i := 291) rfl)) rfl ?_
  refine k_iconst (v := 3) h (ddL_law (513, .iconst 3, 1) (List.mem_of_getElem? (i := 292) rfl)) (by decide) ?_
  refine k_iadd h (ddL_law (514, .iadd, 1) (List.mem_of_getElem? (i := 293) rfl)) ?_
  refine k_sld h hz (ddL_law (515, .iaload, 1) (List.mem_of_getElem? (i := 294) rfl)) ?_
  refine k_callV h hl (aX8_next l) (ci := 8) (C := RX8) (T := TX8) (N := 11) rfl ⟨rfl, rfl⟩ (n := 3) (by decide +kernel) (q_gV gw890 gw891 gw892 gw91 gw889) ⟨by decide, by decide⟩ (ddL_law (516, .invokevirtual 67, 3) (List.mem_of_getElem? (i := 295) rfl)) ?_
  refine k_aload_n (i := 2) h (ddL_law (519, .aload_n 2, 1) (List.mem_of_getElem? (i := 296) rfl)) rfl ?_
  refine k_aload_n (i := 0) h (ddL_law (520, .aload_n 0, 1) (List.mem_of_getElem? (i := 297) rfl)) rfl ?_
  refine k_iload_n (i := 3) h (ddL_law (521, .iload_n 3, 1) (List.mem_of_getElem? (i := 298) rfl)) rfl ?_
  refine k_iconst (v := 1) h (ddL_law (522, .iconst 1, 1) (List.mem_of_getElem? (i := 299) rfl)) (by decide) ?_
  refine k_iadd h (ddL_law (523, .iadd, 1) (List.mem_of_getElem? (i := 300) rfl)) ?_
  refine k_sld h hz (ddL_law (524, .iaload, 1) (List.mem_of_getElem? (i := 301) rfl)) ?_
  refine k_aload_n (i := 0) h (ddL_law (525, .aload_n 0, 1) (List.mem_of_getElem? (i := 302) rfl)) rfl ?_
  refine k_iload_n (i := 3) h (ddL_law (526, .iload_n 3, 1) (List.mem_of_getElem? (i := 303) rfl)) rfl ?_
  refine k_iconst (v := 2) h (ddL_law (527, .iconst 2, 1) (List.mem_of_getElem? (i := 304) rfl)) (by decide) ?_
  refine k_iadd h (ddL_law (528, .iadd, 1) (List.mem_of_getElem? (i := 305) rfl)) ?_
  refine k_sld h hz (ddL_law (529, .iaload, 1) (List.mem_of_getElem? (i := 306) rfl)) ?_
  refine k_aload_n (i := 0) h (ddL_law (530, .aload_n 0, 1) (List.mem_of_getElem? (i := 307) rfl)) rfl ?_
  refine k_iload_n (i := 3) h (ddL_law (531, .iload_n 3, 1) (List.mem_of_getElem? (i := 308) rfl)) rfl ?_
  refine k_iconst (v := 3) h (ddL_law (532, .iconst 3, 1) (List.mem_of_getElem? (i := 309) rfl)) (by decide) ?_
  refine k_iadd h (ddL_law (533, .iadd, 1) (List.mem_of_getElem? (i := 310) rfl)) ?_
  refine k_sld h hz (ddL_law (534, .iaload, 1) (List.mem_of_getElem? (i := 311) rfl)) ?_
  refine k_callV h hl (aX9_next l) (ci := 9) (C := RX9) (T := TX9) (N := 33) rfl ⟨rfl, rfl⟩ (n := 3) (by decide +kernel) (q_gV gw894 gw895 gw896 gw606 gw893) ⟨by decide, by decide⟩ (ddL_law (535, .invokevirtual 71, 3) (List.mem_of_getElem? (i := 312) rfl)) ?_
  refine k_iceq h (ddL_law (538, .if_icmp .eq 539, 3) (List.mem_of_getElem? (i := 313) rfl)) (tgt := 1077) (by decide) ?_ ?_
  · exact k_cut
  · exact sL_law_541 hl hQ hcap hz h
theorem sL_law_574 {l : Launch} {X : q_CX} {Ln : Nat} {xs : Nat → Int32} (hl : X.2.1 = l) (hQ : q_LQ X) (hcap : q_cap X room_1 L_cap) (hz : q_scr X Ln xs) (h : q_OK X yL_law cL_law 4 (some .boolean) room_1 (Cond.code yL_law cL_law 4 (some .boolean) :: q_G)) : q_SK X 4 574 (BL_law_574 Ln xs) := by
  refine k_iconst (v := 0) h (ddL_law (574, .iconst 0, 1) (List.mem_of_getElem? (i := 341) rfl)) (by decide) ?_
  exact k_lret h hQ (ddL_law (575, .ireturn, 1) (List.mem_of_getElem? (i := 342) rfl))
theorem sL_law_543 {l : Launch} {X : q_CX} {Ln : Nat} {xs : Nat → Int32} (hl : X.2.1 = l) (hQ : q_LQ X) (hcap : q_cap X room_1 L_cap) (hz : q_scr X Ln xs) (h : q_OK X yL_law cL_law 4 (some .boolean) room_1 (Cond.code yL_law cL_law 4 (some .boolean) :: q_G)) : q_SK X 4 543 (BL_law_543 Ln xs) := by
  refine k_aload_n (i := 1) h (ddL_law (543, .aload_n 1, 1) (List.mem_of_getElem? (i := 316) rfl)) rfl ?_
  refine k_aload_n (i := 0) h (ddL_law (544, .aload_n 0, 1) (List.mem_of_getElem? (i := 317) rfl)) rfl ?_
  refine k_iload_n (i := 3) h (ddL_law (545, .iload_n 3, 1) (List.mem_of_getElem? (i := 318) rfl)) rfl ?_
  refine k_iconst (v := 1) h (ddL_law (546, .iconst 1, 1) (List.mem_of_getElem? (i := 319) rfl)) (by decide) ?_
  refine k_iadd h (ddL_law (547, .iadd, 1) (List.mem_of_getElem? (i := 320) rfl)) ?_
  refine k_sld h hz (ddL_law (548, .iaload, 1) (List.mem_of_getElem? (i := 321) rfl)) ?_
  refine k_aload_n (i := 0) h (ddL_law (549, .aload_n 0, 1) (List.mem_of_getElem? (i := 322) rfl)) rfl ?_
  refine k_iload_n (i := 3) h (ddL_law (550, .iload_n 3, 1) (List.mem_of_getElem? (i := 323) rfl)) rfl ?_
  refine k_iconst (v := 2) h (ddL_law (551, .iconst 2, 1) (List.mem_of_getElem? (i := 324) rfl)) (by decide) ?_
  refine k_iadd h (ddL_law (552, .iadd, 1) (List.mem_of_getElem? (i := 325) rfl)) ?_
  refine k_sld h hz (ddL_law (553, .iaload, 1) (List.mem_of_getElem? (i := 326) rfl)) ?_
  refine k_callV h hl (aX8_share l) (ci := 8) (C := RX8) (T := TX8) (N := 11) rfl ⟨rfl, rfl⟩ (n := 2) (by decide +kernel) (q_gV gw898 gw899 gw900 gw91 gw897) ⟨by decide, by decide⟩ (ddL_law (554, .invokevirtual 72, 3) (List.mem_of_getElem? (i := 327) rfl)) ?_
  refine k_aload_n (i := 2) h (ddL_law (557, .aload_n 2, 1) (List.mem_of_getElem? (i := 328) rfl)) rfl ?_
  refine k_aload_n (i := 0) h (ddL_law (558, .aload_n 0, 1) (List.mem_of_getElem? (i := 329) rfl)) rfl ?_
  refine k_iload_n (i := 3) h (ddL_law (559, .iload_n 3, 1) (List.mem_of_getElem? (i := 330) rfl)) rfl ?_
  refine k_iconst (v := 1) h (ddL_law (560, .iconst 1, 1) (List.mem_of_getElem? (i := 331) rfl)) (by decide) ?_
  refine k_iadd h (ddL_law (561, .iadd, 1) (List.mem_of_getElem? (i := 332) rfl)) ?_
  refine k_sld h hz (ddL_law (562, .iaload, 1) (List.mem_of_getElem? (i := 333) rfl)) ?_
  refine k_aload_n (i := 0) h (ddL_law (563, .aload_n 0, 1) (List.mem_of_getElem? (i := 334) rfl)) rfl ?_
  refine k_iload_n (i := 3) h (ddL_law (564, .iload_n 3, 1) (List.mem_of_getElem? (i := 335) rfl)) rfl ?_
  refine k_iconst (v := 2) h (ddL_law (565, .iconst 2, 1) (List.mem_of_getElem? (i := 336) rfl)) (by decide) ?_
  refine k_iadd h (ddL_law (566, .iadd, 1) (List.mem_of_getElem? (i := 337) rfl)) ?_
  refine k_sld h hz (ddL_law (567, .iaload, 1) (List.mem_of_getElem? (i := 338) rfl)) ?_
  refine k_callV h hl (aX9_share l) (ci := 9) (C := RX9) (T := TX9) (N := 33) rfl ⟨rfl, rfl⟩ (n := 2) (by decide +kernel) (q_gV gw902 gw903 gw904 gw606 gw901) ⟨by decide, by decide⟩ (ddL_law (568, .invokevirtual 75, 3) (List.mem_of_getElem? (i := 339) rfl)) ?_
  refine k_iceq h (ddL_law (571, .if_icmp .eq 506, 3) (List.mem_of_getElem? (i := 340) rfl)) (tgt := 1077) (by decide) ?_ ?_
  · exact k_cut
  · exact sL_law_574 hl hQ hcap hz h
theorem sL_law_627 {l : Launch} {X : q_CX} {Ln : Nat} {xs : Nat → Int32} (hl : X.2.1 = l) (hQ : q_LQ X) (hcap : q_cap X room_1 L_cap) (hz : q_scr X Ln xs) (h : q_OK X yL_law cL_law 4 (some .boolean) room_1 (Cond.code yL_law cL_law 4 (some .boolean) :: q_G)) : q_SK X 4 627 (BL_law_627 Ln xs) := by
  refine k_iconst (v := 0) h (ddL_law (627, .iconst 0, 1) (List.mem_of_getElem? (i := 388) rfl)) (by decide) ?_
  exact k_lret h hQ (ddL_law (628, .ireturn, 1) (List.mem_of_getElem? (i := 389) rfl))
theorem sL_law_576 {l : Launch} {X : q_CX} {Ln : Nat} {xs : Nat → Int32} (hl : X.2.1 = l) (hQ : q_LQ X) (hcap : q_cap X room_1 L_cap) (hz : q_scr X Ln xs) (h : q_OK X yL_law cL_law 4 (some .boolean) room_1 (Cond.code yL_law cL_law 4 (some .boolean) :: q_G)) : q_SK X 4 576 (BL_law_576 Ln xs) := by
  refine k_aload_n (i := 1) h (ddL_law (576, .aload_n 1, 1) (List.mem_of_getElem? (i := 343) rfl)) rfl ?_
  refine k_aload_n (i := 0) h (ddL_law (577, .aload_n 0, 1) (List.mem_of_getElem? (i := 344) rfl)) rfl ?_
  refine k_iload_n (i := 3) h (ddL_law (578, .iload_n 3, 1) (List.mem_of_getElem? (i := 345) rfl)) rfl ?_
  refine k_iconst (v := 1) h (ddL_law (579, .iconst 1, 1) (List.mem_of_getElem? (i := 346) rfl)) (by decide) ?_
  refine k_iadd h (ddL_law (580, .iadd, 1) (List.mem_of_getElem? (i := 347) rfl)) ?_
  refine k_sld h hz (ddL_law (581, .iaload, 1) (List.mem_of_getElem? (i := 348) rfl)) ?_
  refine k_aload_n (i := 0) h (ddL_law (582, .aload_n 0, 1) (List.mem_of_getElem? (i := 349) rfl)) rfl ?_
  refine k_iload_n (i := 3) h (ddL_law (583, .iload_n 3, 1) (List.mem_of_getElem? (i := 350) rfl)) rfl ?_
  refine k_iconst (v := 2) h (ddL_law (584, .iconst 2, 1) (List.mem_of_getElem? (i := 351) rfl)) (by decide) ?_
  refine k_iadd h (ddL_law (585, .iadd, 1) (List.mem_of_getElem? (i := 352) rfl)) ?_
  refine k_sld h hz (ddL_law (586, .iaload, 1) (List.mem_of_getElem? (i := 353) rfl)) ?_
  refine k_aload_n (i := 0) h (ddL_law (587, .aload_n 0, 1) (List.mem_of_getElem? (i := 354) rfl)) rfl ?_
  refine k_iload_n (i := 3) h (ddL_law (588, .iload_n 3, 1) (List.mem_of_getElem? (i := 355) rfl)) rfl ?_
  refine k_iconst (v := 3) h (ddL_law (589, .iconst 3, 1) (List.mem_of_getElem? (i := 356) rfl)) (by decide) ?_
  refine k_iadd h (ddL_law (590, .iadd, 1) (List.mem_of_getElem? (i := 357) rfl)) ?_
  refine k_sld h hz (ddL_law (591, .iaload, 1) (List.mem_of_getElem? (i := 358) rfl)) ?_
  refine k_aload_n (i := 0) h (ddL_law (592, .aload_n 0, 1) (List.mem_of_getElem? (i := 359) rfl)) rfl ?_
  refine k_iload_n (i := 3) h (ddL_law (593, .iload_n 3, 1) (List.mem_of_getElem? (i := 360) rfl)) rfl ?_
  refine k_iconst (v := 4) h (ddL_law (594, .iconst 4, 1) (List.mem_of_getElem? (i := 361) rfl)) (by decide) ?_
  refine k_iadd h (ddL_law (595, .iadd, 1) (List.mem_of_getElem? (i := 362) rfl)) ?_
  refine k_sld h hz (ddL_law (596, .iaload, 1) (List.mem_of_getElem? (i := 363) rfl)) ?_
  refine k_callV h hl (aX8_stand l) (ci := 8) (C := RX8) (T := TX8) (N := 11) rfl ⟨rfl, rfl⟩ (n := 4) (by decide +kernel) (q_gV gw906 gw907 gw908 gw91 gw905) ⟨by decide, by decide⟩ (ddL_law (597, .invokevirtual 76, 3) (List.mem_of_getElem? (i := 364) rfl)) ?_
  refine k_aload_n (i := 2) h (ddL_law (600, .aload_n 2, 1) (List.mem_of_getElem? (i := 365) rfl)) rfl ?_
  refine k_aload_n (i := 0) h (ddL_law (601, .aload_n 0, 1) (List.mem_of_getElem? (i := 366) rfl)) rfl ?_
  refine k_iload_n (i := 3) h (ddL_law (602, .iload_n 3, 1) (List.mem_of_getElem? (i := 367) rfl)) rfl ?_
  refine k_iconst (v := 1) h (ddL_law (603, .iconst 1, 1) (List.mem_of_getElem? (i := 368) rfl)) (by decide) ?_
  refine k_iadd h (ddL_law (604, .iadd, 1) (List.mem_of_getElem? (i := 369) rfl)) ?_
  refine k_sld h hz (ddL_law (605, .iaload, 1) (List.mem_of_getElem? (i := 370) rfl)) ?_
  refine k_aload_n (i := 0) h (ddL_law (606, .aload_n 0, 1) (List.mem_of_getElem? (i := 371) rfl)) rfl ?_
  refine k_iload_n (i := 3) h (ddL_law (607, .iload_n 3, 1) (List.mem_of_getElem? (i := 372) rfl)) rfl ?_
  refine k_iconst (v := 2) h (ddL_law (608, .iconst 2, 1) (List.mem_of_getElem? (i := 373) rfl)) (by decide) ?_
  refine k_iadd h (ddL_law (609, .iadd, 1) (List.mem_of_getElem? (i := 374) rfl)) ?_
  refine k_sld h hz (ddL_law (610, .iaload, 1) (List.mem_of_getElem? (i := 375) rfl)) ?_
  refine k_aload_n (i := 0) h (ddL_law (611, .aload_n 0, 1) (List.mem_of_getElem? (i := 376) rfl)) rfl ?_
  refine k_iload_n (i := 3) h (ddL_law (612, .iload_n 3, 1) (List.mem_of_getElem? (i := 377) rfl)) rfl ?_
  refine k_iconst (v := 3) h (ddL_law (613, .iconst 3, 1) (List.mem_of_getElem? (i := 378) rfl)) (by decide) ?_
  refine k_iadd h (ddL_law (614, .iadd, 1) (List.mem_of_getElem? (i := 379) rfl)) ?_
  refine k_sld h hz (ddL_law (615, .iaload, 1) (List.mem_of_getElem? (i := 380) rfl)) ?_
  refine k_aload_n (i := 0) h (ddL_law (616, .aload_n 0, 1) (List.mem_of_getElem? (i := 381) rfl)) rfl ?_
  refine k_iload_n (i := 3) h (ddL_law (617, .iload_n 3, 1) (List.mem_of_getElem? (i := 382) rfl)) rfl ?_
  refine k_iconst (v := 4) h (ddL_law (618, .iconst 4, 1) (List.mem_of_getElem? (i := 383) rfl)) (by decide) ?_
  refine k_iadd h (ddL_law (619, .iadd, 1) (List.mem_of_getElem? (i := 384) rfl)) ?_
  refine k_sld h hz (ddL_law (620, .iaload, 1) (List.mem_of_getElem? (i := 385) rfl)) ?_
  refine k_callV h hl (aX9_stand l) (ci := 9) (C := RX9) (T := TX9) (N := 33) rfl ⟨rfl, rfl⟩ (n := 4) (by decide +kernel) (q_gV gw910 gw911 gw912 gw606 gw909) ⟨by decide, by decide⟩ (ddL_law (621, .invokevirtual 80, 3) (List.mem_of_getElem? (i := 386) rfl)) ?_
  refine k_iceq h (ddL_law (624, .if_icmp .eq 453, 3) (List.mem_of_getElem? (i := 387) rfl)) (tgt := 1077) (by decide) ?_ ?_
  · exact k_cut
  · exact sL_law_627 hl hQ hcap hz h
theorem sL_law_680 {l : Launch} {X : q_CX} {Ln : Nat} {xs : Nat → Int32} (hl : X.2.1 = l) (hQ : q_LQ X) (hcap : q_cap X room_1 L_cap) (hz : q_scr X Ln xs) (h : q_OK X yL_law cL_law 4 (some .boolean) room_1 (Cond.code yL_law cL_law 4 (some .boolean) :: q_G)) : q_SK X 4 680 (BL_law_680 Ln xs) := by
  refine k_iconst (v := 0) h (ddL_law (680, .iconst 0, 1) (List.mem_of_getElem? (i := 435) rfl)) (by decide) ?_
  exact k_lret h hQ (ddL_law (681, .ireturn, 1) (List.mem_of_getElem? (i := 436) rfl))
theorem sL_law_629 {l : Launch} {X : q_CX} {Ln : Nat} {xs : Nat → Int32} (hl : X.2.1 = l) (hQ : q_LQ X) (hcap : q_cap X room_1 L_cap) (hz : q_scr X Ln xs) (h : q_OK X yL_law cL_law 4 (some .boolean) room_1 (Cond.code yL_law cL_law 4 (some .boolean) :: q_G)) : q_SK X 4 629 (BL_law_629 Ln xs) := by
  refine k_aload_n (i := 1) h (ddL_law (629, .aload_n 1, 1) (List.mem_of_getElem? (i := 390) rfl)) rfl ?_
  refine k_aload_n (i := 0) h (ddL_law (630, .aload_n 0, 1) (List.mem_of_getElem? (i := 391) rfl)) rfl ?_
  refine k_iload_n (i := 3) h (ddL_law (631, .iload_n 3, 1) (List.mem_of_getElem? (i := 392) rfl)) rfl ?_
  refine k_iconst (v := 1) h (ddL_law (632, .iconst 1, 1) (List.mem_of_getElem? (i := 393) rfl)) (by decide) ?_
  refine k_iadd h (ddL_law (633, .iadd, 1) (List.mem_of_getElem? (i := 394) rfl)) ?_
  refine k_sld h hz (ddL_law (634, .iaload, 1) (List.mem_of_getElem? (i := 395) rfl)) ?_
  refine k_aload_n (i := 0) h (ddL_law (635, .aload_n 0, 1) (List.mem_of_getElem? (i := 396) rfl)) rfl ?_
  refine k_iload_n (i := 3) h (ddL_law (636, .iload_n 3, 1) (List.mem_of_getElem? (i := 397) rfl)) rfl ?_
  refine k_iconst (v := 2) h (ddL_law (637, .iconst 2, 1) (List.mem_of_getElem? (i := 398) rfl)) (by decide) ?_
  refine k_iadd h (ddL_law (638, .iadd, 1) (List.mem_of_getElem? (i := 399) rfl)) ?_
  refine k_sld h hz (ddL_law (639, .iaload, 1) (List.mem_of_getElem? (i := 400) rfl)) ?_
  refine k_aload_n (i := 0) h (ddL_law (640, .aload_n 0, 1) (List.mem_of_getElem? (i := 401) rfl)) rfl ?_
  refine k_iload_n (i := 3) h (ddL_law (641, .iload_n 3, 1) (List.mem_of_getElem? (i := 402) rfl)) rfl ?_
  refine k_iconst (v := 3) h (ddL_law (642, .iconst 3, 1) (List.mem_of_getElem? (i := 403) rfl)) (by decide) ?_
  refine k_iadd h (ddL_law (643, .iadd, 1) (List.mem_of_getElem? (i := 404) rfl)) ?_
  refine k_sld h hz (ddL_law (644, .iaload, 1) (List.mem_of_getElem? (i := 405) rfl)) ?_
  refine k_aload_n (i := 0) h (ddL_law (645, .aload_n 0, 1) (List.mem_of_getElem? (i := 406) rfl)) rfl ?_
  refine k_iload_n (i := 3) h (ddL_law (646, .iload_n 3, 1) (List.mem_of_getElem? (i := 407) rfl)) rfl ?_
  refine k_iconst (v := 4) h (ddL_law (647, .iconst 4, 1) (List.mem_of_getElem? (i := 408) rfl)) (by decide) ?_
  refine k_iadd h (ddL_law (648, .iadd, 1) (List.mem_of_getElem? (i := 409) rfl)) ?_
  refine k_sld h hz (ddL_law (649, .iaload, 1) (List.mem_of_getElem? (i := 410) rfl)) ?_
  refine k_callV h hl (aX8_way l) (ci := 8) (C := RX8) (T := TX8) (N := 11) rfl ⟨rfl, rfl⟩ (n := 4) (by decide +kernel) (q_gV gw914 gw915 gw916 gw91 gw913) ⟨by decide, by decide⟩ (ddL_law (650, .invokevirtual 81, 3) (List.mem_of_getElem? (i := 411) rfl)) ?_
  refine k_aload_n (i := 2) h (ddL_law (653, .aload_n 2, 1) (List.mem_of_getElem? (i := 412) rfl)) rfl ?_
  refine k_aload_n (i := 0) h (ddL_law (654, .aload_n 0, 1) (List.mem_of_getElem? (i := 413) rfl)) rfl ?_
  refine k_iload_n (i := 3) h (ddL_law (655, .iload_n 3, 1) (List.mem_of_getElem? (i := 414) rfl)) rfl ?_
  refine k_iconst (v := 1) h (ddL_law (656, .iconst 1, 1) (List.mem_of_getElem? (i := 415) rfl)) (by decide) ?_
  refine k_iadd h (ddL_law (657, .iadd, 1) (List.mem_of_getElem? (i := 416) rfl)) ?_
  refine k_sld h hz (ddL_law (658, .iaload, 1) (List.mem_of_getElem? (i := 417) rfl)) ?_
  refine k_aload_n (i := 0) h (ddL_law (659, .aload_n 0, 1) (List.mem_of_getElem? (i := 418) rfl)) rfl ?_
  refine k_iload_n (i := 3) h (ddL_law (660, .iload_n 3, 1) (List.mem_of_getElem? (i := 419) rfl)) rfl ?_
  refine k_iconst (v := 2) h (ddL_law (661, .iconst 2, 1) (List.mem_of_getElem? (i := 420) rfl)) (by decide) ?_
  refine k_iadd h (ddL_law (662, .iadd, 1) (List.mem_of_getElem? (i := 421) rfl)) ?_
  refine k_sld h hz (ddL_law (663, .iaload, 1) (List.mem_of_getElem? (i := 422) rfl)) ?_
  refine k_aload_n (i := 0) h (ddL_law (664, .aload_n 0, 1) (List.mem_of_getElem? (i := 423) rfl)) rfl ?_
  refine k_iload_n (i := 3) h (ddL_law (665, .iload_n 3, 1) (List.mem_of_getElem? (i := 424) rfl)) rfl ?_
  refine k_iconst (v := 3) h (ddL_law (666, .iconst 3, 1) (List.mem_of_getElem? (i := 425) rfl)) (by decide) ?_
  refine k_iadd h (ddL_law (667, .iadd, 1) (List.mem_of_getElem? (i := 426) rfl)) ?_
  refine k_sld h hz (ddL_law (668, .iaload, 1) (List.mem_of_getElem? (i := 427) rfl)) ?_
  refine k_aload_n (i := 0) h (ddL_law (669, .aload_n 0, 1) (List.mem_of_getElem? (i := 428) rfl)) rfl ?_
  refine k_iload_n (i := 3) h (ddL_law (670, .iload_n 3, 1) (List.mem_of_getElem? (i := 429) rfl)) rfl ?_
  refine k_iconst (v := 4) h (ddL_law (671, .iconst 4, 1) (List.mem_of_getElem? (i := 430) rfl)) (by decide) ?_
  refine k_iadd h (ddL_law (672, .iadd, 1) (List.mem_of_getElem? (i := 431) rfl)) ?_
  refine k_sld h hz (ddL_law (673, .iaload, 1) (List.mem_of_getElem? (i := 432) rfl)) ?_
  refine k_callV h hl (aX9_way l) (ci := 9) (C := RX9) (T := TX9) (N := 33) rfl ⟨rfl, rfl⟩ (n := 4) (by decide +kernel) (q_gV gw918 gw919 gw920 gw606 gw917) ⟨by decide, by decide⟩ (ddL_law (674, .invokevirtual 84, 3) (List.mem_of_getElem? (i := 433) rfl)) ?_
  refine k_iceq h (ddL_law (677, .if_icmp .eq 400, 3) (List.mem_of_getElem? (i := 434) rfl)) (tgt := 1077) (by decide) ?_ ?_
  · exact k_cut
  · exact sL_law_680 hl hQ hcap hz h
theorem sL_law_723 {l : Launch} {X : q_CX} {Ln : Nat} {xs : Nat → Int32} (hl : X.2.1 = l) (hQ : q_LQ X) (hcap : q_cap X room_1 L_cap) (hz : q_scr X Ln xs) (h : q_OK X yL_law cL_law 4 (some .boolean) room_1 (Cond.code yL_law cL_law 4 (some .boolean) :: q_G)) : q_SK X 4 723 (BL_law_723 Ln xs) := by
  refine k_iconst (v := 0) h (ddL_law (723, .iconst 0, 1) (List.mem_of_getElem? (i := 472) rfl)) (by decide) ?_
  exact k_lret h hQ (ddL_law (724, .ireturn, 1) (List.mem_of_getElem? (i := 473) rfl))
theorem sL_law_682 {l : Launch} {X : q_CX} {Ln : Nat} {xs : Nat → Int32} (hl : X.2.1 = l) (hQ : q_LQ X) (hcap : q_cap X room_1 L_cap) (hz : q_scr X Ln xs) (h : q_OK X yL_law cL_law 4 (some .boolean) room_1 (Cond.code yL_law cL_law 4 (some .boolean) :: q_G)) : q_SK X 4 682 (BL_law_682 Ln xs) := by
  refine k_aload_n (i := 1) h (ddL_law (682, .aload_n 1, 1) (List.mem_of_getElem? (i := 437) rfl)) rfl ?_
  refine k_aload_n (i := 0) h (ddL_law (683, .aload_n 0, 1) (List.mem_of_getElem? (i := 438) rfl)) rfl ?_
  refine k_iload_n (i := 3) h (ddL_law (684, .iload_n 3, 1) (List.mem_of_getElem? (i := 439) rfl)) rfl ?_
  refine k_iconst (v := 1) h (ddL_law (685, .iconst 1, 1) (List.mem_of_getElem? (i := 440) rfl)) (by decide) ?_
  refine k_iadd h (ddL_law (686, .iadd, 1) (List.mem_of_getElem? (i := 441) rfl)) ?_
  refine k_sld h hz (ddL_law (687, .iaload, 1) (List.mem_of_getElem? (i := 442) rfl)) ?_
  refine k_aload_n (i := 0) h (ddL_law (688, .aload_n 0, 1) (List.mem_of_getElem? (i := 443) rfl)) rfl ?_
  refine k_iload_n (i := 3) h (ddL_law (689, .iload_n 3, 1) (List.mem_of_getElem? (i := 444) rfl)) rfl ?_
  refine k_iconst (v := 2) h (ddL_law (690, .iconst 2, 1) (List.mem_of_getElem? (i := 445) rfl)) (by decide) ?_
  refine k_iadd h (ddL_law (691, .iadd, 1) (List.mem_of_getElem? (i := 446) rfl)) ?_
  refine k_sld h hz (ddL_law (692, .iaload, 1) (List.mem_of_getElem? (i := 447) rfl)) ?_
  refine k_aload_n (i := 0) h (ddL_law (693, .aload_n 0, 1) (List.mem_of_getElem? (i := 448) rfl)) rfl ?_
  refine k_iload_n (i := 3) h (ddL_law (694, .iload_n 3, 1) (List.mem_of_getElem? (i := 449) rfl)) rfl ?_
  refine k_iconst (v := 3) h (ddL_law (695, .iconst 3, 1) (List.mem_of_getElem? (i := 450) rfl)) (by decide) ?_
  refine k_iadd h (ddL_law (696, .iadd, 1) (List.mem_of_getElem? (i := 451) rfl)) ?_
  refine k_sld h hz (ddL_law (697, .iaload, 1) (List.mem_of_getElem? (i := 452) rfl)) ?_
  refine k_callV h hl (aX8_mail l) (ci := 8) (C := RX8) (T := TX8) (N := 11) rfl ⟨rfl, rfl⟩ (n := 3) (by decide +kernel) (q_gV gw922 gw923 gw924 gw91 gw921) ⟨by decide, by decide⟩ (ddL_law (698, .invokevirtual 85, 3) (List.mem_of_getElem? (i := 453) rfl)) ?_
  refine k_aload_n (i := 2) h (ddL_law (701, .aload_n 2, 1) (List.mem_of_getElem? (i := 454) rfl)) rfl ?_
  refine k_aload_n (i := 0) h (ddL_law (702, .aload_n 0, 1) (List.mem_of_getElem? (i := 455) rfl)) rfl ?_
  refine k_iload_n (i := 3) h (ddL_law (703, .iload_n 3, 1) (List.mem_of_getElem? (i := 456) rfl)) rfl ?_
  refine k_iconst (v := 1) h (ddL_law (704, .iconst 1, 1) (List.mem_of_getElem? (i := 457) rfl)) (by decide) ?_
  refine k_iadd h (ddL_law (705, .iadd, 1) (List.mem_of_getElem? (i := 458) rfl)) ?_
  refine k_sld h hz (ddL_law (706, .iaload, 1) (List.mem_of_getElem? (i := 459) rfl)) ?_
  refine k_aload_n (i := 0) h (ddL_law (707, .aload_n 0, 1) (List.mem_of_getElem? (i := 460) rfl)) rfl ?_
  refine k_iload_n (i := 3) h (ddL_law (708, .iload_n 3, 1) (List.mem_of_getElem? (i := 461) rfl)) rfl ?_
  refine k_iconst (v := 2) h (ddL_law (709, .iconst 2, 1) (List.mem_of_getElem? (i := 462) rfl)) (by decide) ?_
  refine k_iadd h (ddL_law (710, .iadd, 1) (List.mem_of_getElem? (i := 463) rfl)) ?_
  refine k_sld h hz (ddL_law (711, .iaload, 1) (List.mem_of_getElem? (i := 464) rfl)) ?_
  refine k_aload_n (i := 0) h (ddL_law (712, .aload_n 0, 1) (List.mem_of_getElem? (i := 465) rfl)) rfl ?_
  refine k_iload_n (i := 3) h (ddL_law (713, .iload_n 3, 1) (List.mem_of_getElem? (i := 466) rfl)) rfl ?_
  refine k_iconst (v := 3) h (ddL_law (714, .iconst 3, 1) (List.mem_of_getElem? (i := 467) rfl)) (by decide) ?_
  refine k_iadd h (ddL_law (715, .iadd, 1) (List.mem_of_getElem? (i := 468) rfl)) ?_
  refine k_sld h hz (ddL_law (716, .iaload, 1) (List.mem_of_getElem? (i := 469) rfl)) ?_
  refine k_callV h hl (aX9_mail l) (ci := 9) (C := RX9) (T := TX9) (N := 33) rfl ⟨rfl, rfl⟩ (n := 3) (by decide +kernel) (q_gV gw926 gw927 gw928 gw606 gw925) ⟨by decide, by decide⟩ (ddL_law (717, .invokevirtual 88, 3) (List.mem_of_getElem? (i := 470) rfl)) ?_
  refine k_iceq h (ddL_law (720, .if_icmp .eq 357, 3) (List.mem_of_getElem? (i := 471) rfl)) (tgt := 1077) (by decide) ?_ ?_
  · exact k_cut
  · exact sL_law_723 hl hQ hcap hz h
theorem sL_law_766 {l : Launch} {X : q_CX} {Ln : Nat} {xs : Nat → Int32} (hl : X.2.1 = l) (hQ : q_LQ X) (hcap : q_cap X room_1 L_cap) (hz : q_scr X Ln xs) (h : q_OK X yL_law cL_law 4 (some .boolean) room_1 (Cond.code yL_law cL_law 4 (some .boolean) :: q_G)) : q_SK X 4 766 (BL_law_766 Ln xs) := by
  refine k_iconst (v := 0) h (ddL_law (766, .iconst 0, 1) (List.mem_of_getElem? (i := 509) rfl)) (by decide) ?_
  exact k_lret h hQ (ddL_law (767, .ireturn, 1) (List.mem_of_getElem? (i := 510) rfl))
theorem sL_law_725 {l : Launch} {X : q_CX} {Ln : Nat} {xs : Nat → Int32} (hl : X.2.1 = l) (hQ : q_LQ X) (hcap : q_cap X room_1 L_cap) (hz : q_scr X Ln xs) (h : q_OK X yL_law cL_law 4 (some .boolean) room_1 (Cond.code yL_law cL_law 4 (some .boolean) :: q_G)) : q_SK X 4 725 (BL_law_725 Ln xs) := by
  refine k_aload_n (i := 1) h (ddL_law (725, .aload_n 1, 1) (List.mem_of_getElem? (i := 474) rfl)) rfl ?_
  refine k_aload_n (i := 0) h (ddL_law (726, .aload_n 0, 1) (List.mem_of_getElem? (i := 475) rfl)) rfl ?_
  refine k_iload_n (i := 3) h (ddL_law (727, .iload_n 3, 1) (List.mem_of_getElem? (i := 476) rfl)) rfl ?_
  refine k_iconst (v := 1) h (ddL_law (728, .iconst 1, 1) (List.mem_of_getElem? (i := 477) rfl)) (by decide) ?_
  refine k_iadd h (ddL_law (729, .iadd, 1) (List.mem_of_getElem? (i := 478) rfl)) ?_
  refine k_sld h hz (ddL_law (730, .iaload, 1) (List.mem_of_getElem? (i := 479) rfl)) ?_
  refine k_aload_n (i := 0) h (ddL_law (731, .aload_n 0, 1) (List.mem_of_getElem? (i := 480) rfl)) rfl ?_
  refine k_iload_n (i := 3) h (ddL_law (732, .iload_n 3, 1) (List.mem_of_getElem? (i := 481) rfl)) rfl ?_
  refine k_iconst (v := 2) h (ddL_law (733, .iconst 2, 1) (List.mem_of_getElem? (i := 482) rfl)) (by decide) ?_
  refine k_iadd h (ddL_law (734, .iadd, 1) (List.mem_of_getElem? (i := 483) rfl)) ?_
  refine k_sld h hz (ddL_law (735, .iaload, 1) (List.mem_of_getElem? (i := 484) rfl)) ?_
  refine k_aload_n (i := 0) h (ddL_law (736, .aload_n 0, 1) (List.mem_of_getElem? (i := 485) rfl)) rfl ?_
  refine k_iload_n (i := 3) h (ddL_law (737, .iload_n 3, 1) (List.mem_of_getElem? (i := 486) rfl)) rfl ?_
  refine k_iconst (v := 3) h (ddL_law (738, .iconst 3, 1) (List.mem_of_getElem? (i := 487) rfl)) (by decide) ?_
  refine k_iadd h (ddL_law (739, .iadd, 1) (List.mem_of_getElem? (i := 488) rfl)) ?_
  refine k_sld h hz (ddL_law (740, .iaload, 1) (List.mem_of_getElem? (i := 489) rfl)) ?_
  refine k_callV h hl (aX8_cross l) (ci := 8) (C := RX8) (T := TX8) (N := 11) rfl ⟨rfl, rfl⟩ (n := 3) (by decide +kernel) (q_gV gw930 gw931 gw932 gw91 gw929) ⟨by decide, by decide⟩ (ddL_law (741, .invokevirtual 89, 3) (List.mem_of_getElem? (i := 490) rfl)) ?_
  refine k_aload_n (i := 2) h (ddL_law (744, .aload_n 2, 1) (List.mem_of_getElem? (i := 491) rfl)) rfl ?_
  refine k_aload_n (i := 0) h (ddL_law (745, .aload_n 0, 1) (List.mem_of_getElem? (i := 492) rfl)) rfl ?_
  refine k_iload_n (i := 3) h (ddL_law (746, .iload_n 3, 1) (List.mem_of_getElem? (i := 493) rfl)) rfl ?_
  refine k_iconst (v := 1) h (ddL_law (747, .iconst 1, 1) (List.mem_of_getElem? (i := 494) rfl)) (by decide) ?_
  refine k_iadd h (ddL_law (748, .iadd, 1) (List.mem_of_getElem? (i := 495) rfl)) ?_
  refine k_sld h hz (ddL_law (749, .iaload, 1) (List.mem_of_getElem? (i := 496) rfl)) ?_
  refine k_aload_n (i := 0) h (ddL_law (750, .aload_n 0, 1) (List.mem_of_getElem? (i := 497) rfl)) rfl ?_
  refine k_iload_n (i := 3) h (ddL_law (751, .iload_n 3, 1) (List.mem_of_getElem? (i := 498) rfl)) rfl ?_
  refine k_iconst (v := 2) h (ddL_law (752, .iconst 2, 1) (List.mem_of_getElem? (i := 499) rfl)) (by decide) ?_
  refine k_iadd h (ddL_law (753, .iadd, 1) (List.mem_of_getElem? (i := 500) rfl)) ?_
  refine k_sld h hz (ddL_law (754, .iaload, 1) (List.mem_of_getElem? (i := 501) rfl)) ?_
  refine k_aload_n (i := 0) h (ddL_law (755, .aload_n 0, 1) (List.mem_of_getElem? (i := 502) rfl)) rfl ?_
  refine k_iload_n (i := 3) h (ddL_law (756, .iload_n 3, 1) (List.mem_of_getElem? (i := 503) rfl)) rfl ?_
  refine k_iconst (v := 3) h (ddL_law (757, .iconst 3, 1) (List.mem_of_getElem? (i := 504) rfl)) (by decide) ?_
  refine k_iadd h (ddL_law (758, .iadd, 1) (List.mem_of_getElem? (i := 505) rfl)) ?_
  refine k_sld h hz (ddL_law (759, .iaload, 1) (List.mem_of_getElem? (i := 506) rfl)) ?_
  refine k_callV h hl (aX9_cross l) (ci := 9) (C := RX9) (T := TX9) (N := 33) rfl ⟨rfl, rfl⟩ (n := 3) (by decide +kernel) (q_gV gw934 gw935 gw936 gw606 gw933) ⟨by decide, by decide⟩ (ddL_law (760, .invokevirtual 92, 3) (List.mem_of_getElem? (i := 507) rfl)) ?_
  refine k_iceq h (ddL_law (763, .if_icmp .eq 314, 3) (List.mem_of_getElem? (i := 508) rfl)) (tgt := 1077) (by decide) ?_ ?_
  · exact k_cut
  · exact sL_law_766 hl hQ hcap hz h
theorem sL_law_779 {l : Launch} {X : q_CX} {Ln : Nat} {xs : Nat → Int32} (hl : X.2.1 = l) (hQ : q_LQ X) (hcap : q_cap X room_1 L_cap) (hz : q_scr X Ln xs) (h : q_OK X yL_law cL_law 4 (some .boolean) room_1 (Cond.code yL_law cL_law 4 (some .boolean) :: q_G)) : q_SK X 4 779 (BL_law_779 Ln xs) := by
  refine k_iconst (v := 0) h (ddL_law (779, .iconst 0, 1) (List.mem_of_getElem? (i := 516) rfl)) (by decide) ?_
  exact k_lret h hQ (ddL_law (780, .ireturn, 1) (List.mem_of_getElem? (i := 517) rfl))
theorem sL_law_768 {l : Launch} {X : q_CX} {Ln : Nat} {xs : Nat → Int32} (hl : X.2.1 = l) (hQ : q_LQ X) (hcap : q_cap X room_1 L_cap) (hz : q_scr X Ln xs) (h : q_OK X yL_law cL_law 4 (some .boolean) room_1 (Cond.code yL_law cL_law 4 (some .boolean) :: q_G)) : q_SK X 4 768 (BL_law_768 Ln xs) := by
  refine k_aload_n (i := 1) h (ddL_law (768, .aload_n 1, 1) (List.mem_of_getElem? (i := 511) rfl)) rfl ?_
  refine k_callV h hl (aX8_store l) (ci := 8) (C := RX8) (T := TX8) (N := 11) rfl ⟨rfl, rfl⟩ (n := 0) (by decide +kernel) (q_gV gw938 gw939 gw940 gw91 gw937) ⟨by decide, by decide⟩ (ddL_law (769, .invokevirtual 93, 3) (List.mem_of_getElem? (i := 512) rfl)) ?_
  refine k_aload_n (i := 2) h (ddL_law (772, .aload_n 2, 1) (List.mem_of_getElem? (i := 513) rfl)) rfl ?_
  refine k_callV h hl (aX9_store l) (ci := 9) (C := RX9) (T := TX9) (N := 33) rfl ⟨rfl, rfl⟩ (n := 0) (by decide +kernel) (q_gV gw942 gw943 gw944 gw606 gw941) ⟨by decide, by decide⟩ (ddL_law (773, .invokevirtual 96, 3) (List.mem_of_getElem? (i := 514) rfl)) ?_
  refine k_iceq h (ddL_law (776, .if_icmp .eq 301, 3) (List.mem_of_getElem? (i := 515) rfl)) (tgt := 1077) (by decide) ?_ ?_
  · exact k_cut
  · exact sL_law_779 hl hQ hcap hz h
theorem sL_law_804 {l : Launch} {X : q_CX} {Ln : Nat} {xs : Nat → Int32} (hl : X.2.1 = l) (hQ : q_LQ X) (hcap : q_cap X room_1 L_cap) (hz : q_scr X Ln xs) (h : q_OK X yL_law cL_law 4 (some .boolean) room_1 (Cond.code yL_law cL_law 4 (some .boolean) :: q_G)) : q_SK X 4 804 (BL_law_804 Ln xs) := by
  refine k_iconst (v := 0) h (ddL_law (804, .iconst 0, 1) (List.mem_of_getElem? (i := 537) rfl)) (by decide) ?_
  exact k_cut
theorem sL_law_800 {l : Launch} {X : q_CX} {Ln : Nat} {xs : Nat → Int32} (hl : X.2.1 = l) (hQ : q_LQ X) (hcap : q_cap X room_1 L_cap) (hz : q_scr X Ln xs) (h : q_OK X yL_law cL_law 4 (some .boolean) room_1 (Cond.code yL_law cL_law 4 (some .boolean) :: q_G)) : q_SK X 4 800 (BL_law_800 Ln xs) := by
  refine k_iconst (v := 1) h (ddL_law (800, .iconst 1, 1) (List.mem_of_getElem? (i := 535) rfl)) (by decide) ?_
  refine k_goto h (ddL_law (801, .goto 4, 3) (List.mem_of_getElem? (i := 536) rfl)) (tgt := 805) (by decide) ?_
  exact k_cut
theorem sL_law_781 {l : Launch} {X : q_CX} {Ln : Nat} {xs : Nat → Int32} (hl : X.2.1 = l) (hQ : q_LQ X) (hcap : q_cap X room_1 L_cap) (hz : q_scr X Ln xs) (h : q_OK X yL_law cL_law 4 (some .boolean) room_1 (Cond.code yL_law cL_law 4 (some .boolean) :: q_G)) : q_SK X 4 781 (BL_law_781 Ln xs) := by
  refine k_aload_n (i := 1) h (ddL_law (781, .aload_n 1, 1) (List.mem_of_getElem? (i := 518) rfl)) rfl ?_
  refine k_aload_n (i := 0) h (ddL_law (782, .aload_n 0, 1) (List.mem_of_getElem? (i := 519) rfl)) rfl ?_
  refine k_iload_n (i := 3) h (ddL_law (783, .iload_n 3, 1) (List.mem_of_getElem? (i := 520) rfl)) rfl ?_
  refine k_iconst (v := 1) h (ddL_law (784, .iconst 1, 1) (List.mem_of_getElem? (i := 521) rfl)) (by decide) ?_
  refine k_iadd h (ddL_law (785, .iadd, 1) (List.mem_of_getElem? (i := 522) rfl)) ?_
  refine k_sld h hz (ddL_law (786, .iaload, 1) (List.mem_of_getElem? (i := 523) rfl)) ?_
  refine k_aload_n (i := 0) h (ddL_law (787, .aload_n 0, 1) (List.mem_of_getElem? (i := 524) rfl)) rfl ?_
  refine k_iload_n (i := 3) h (ddL_law (788, .iload_n 3, 1) (List.mem_of_getElem? (i := 525) rfl)) rfl ?_
  refine k_iconst (v := 2) h (ddL_law (789, .iconst 2, 1) (List.mem_of_getElem? (i := 526) rfl)) (by decide) ?_
  refine k_iadd h (ddL_law (790, .iadd, 1) (List.mem_of_getElem? (i := 527) rfl)) ?_
  refine k_sld h hz (ddL_law (791, .iaload, 1) (List.mem_of_getElem? (i := 528) rfl)) ?_
  refine k_aload_n (i := 0) h (ddL_law (792, .aload_n 0, 1) (List.mem_of_getElem? (i := 529) rfl)) rfl ?_
  refine k_iload_n (i := 3) h (ddL_law (793, .iload_n 3, 1) (List.mem_of_getElem? (i := 530) rfl)) rfl ?_
  refine k_iconst (v := 3) h (ddL_law (794, .iconst 3, 1) (List.mem_of_getElem? (i := 531) rfl)) (by decide) ?_
  refine k_iadd h (ddL_law (795, .iadd, 1) (List.mem_of_getElem? (i := 532) rfl)) ?_
  refine k_sld h hz (ddL_law (796, .iaload, 1) (List.mem_of_getElem? (i := 533) rfl)) ?_
  refine k_ifeq h (ddL_law (797, .ifCond .eq 7, 3) (List.mem_of_getElem? (i := 534) rfl)) (tgt := 804) (by decide) ?_ ?_
  · exact sL_law_804 hl hQ hcap hz h
  · exact sL_law_800 hl hQ hcap hz h
theorem sL_law_838 {l : Launch} {X : q_CX} {Ln : Nat} {xs : Nat → Int32} (hl : X.2.1 = l) (hQ : q_LQ X) (hcap : q_cap X room_1 L_cap) (hz : q_scr X Ln xs) (h : q_OK X yL_law cL_law 4 (some .boolean) room_1 (Cond.code yL_law cL_law 4 (some .boolean) :: q_G)) : q_SK X 4 838 (BL_law_838 Ln xs) := by
  refine k_iconst (v := 0) h (ddL_law (838, .iconst 0, 1) (List.mem_of_getElem? (i := 561) rfl)) (by decide) ?_
  exact k_lret h hQ (ddL_law (839, .ireturn, 1) (List.mem_of_getElem? (i := 562) rfl))
theorem sL_law_832 {l : Launch} {X : q_CX} {Ln : Nat} {xs : Nat → Int32} (hl : X.2.1 = l) (hQ : q_LQ X) (hcap : q_cap X room_1 L_cap) (hz : q_scr X Ln xs) (h : q_OK X yL_law cL_law 4 (some .boolean) room_1 (Cond.code yL_law cL_law 4 (some .boolean) :: q_G)) : q_SK X 4 832 (BL_law_832 Ln xs) := by
  refine k_callV h hl (aX9_see l) (ci := 9) (C := RX9) (T := TX9) (N := 33) rfl ⟨rfl, rfl⟩ (n := 3) (by decide +kernel) (q_gV gw950 gw951 gw952 gw606 gw949) ⟨by decide, by decide⟩ (ddL_law (832, .invokevirtual 101, 3) (List.mem_of_getElem? (i := 559) rfl)) ?_
  refine k_iceq h (ddL_law (835, .if_icmp .eq 242, 3) (List.mem_of_getElem? (i := 560) rfl)) (tgt := 1077) (by decide) ?_ ?_
  · exact k_cut
  · exact sL_law_838 hl hQ hcap hz h
theorem sL_law_831 {l : Launch} {X : q_CX} {Ln : Nat} {xs : Nat → Int32} (hl : X.2.1 = l) (hQ : q_LQ X) (hcap : q_cap X room_1 L_cap) (hz : q_scr X Ln xs) (h : q_OK X yL_law cL_law 4 (some .boolean) room_1 (Cond.code yL_law cL_law 4 (some .boolean) :: q_G)) : q_SK X 4 831 (BL_law_831 Ln xs) := by
  refine k_iconst (v := 0) h (ddL_law (831, .iconst 0, 1) (List.mem_of_getElem? (i := 558) rfl)) (by decide) ?_
  exact sL_law_832 hl hQ hcap hz h
theorem sL_law_827 {l : Launch} {X : q_CX} {Ln : Nat} {xs : Nat → Int32} (hl : X.2.1 = l) (hQ : q_LQ X) (hcap : q_cap X room_1 L_cap) (hz : q_scr X Ln xs) (h : q_OK X yL_law cL_law 4 (some .boolean) room_1 (Cond.code yL_law cL_law 4 (some .boolean) :: q_G)) : q_SK X 4 827 (BL_law_827 Ln xs) := by
  refine k_iconst (v := 1) h (ddL_law (827, .iconst 1, 1) (List.mem_of_getElem? (i := 556) rfl)) (by decide) ?_
  refine k_goto h (ddL_law (828, .goto 4, 3) (List.mem_of_getElem? (i := 557) rfl)) (tgt := 832) (by decide) ?_
  exact sL_law_832 hl hQ hcap hz h
theorem sL_law_805 {l : Launch} {X : q_CX} {Ln : Nat} {xs : Nat → Int32} (hl : X.2.1 = l) (hQ : q_LQ X) (hcap : q_cap X room_1 L_cap) (hz : q_scr X Ln xs) (h : q_OK X yL_law cL_law 4 (some .boolean) room_1 (Cond.code yL_law cL_law 4 (some .boolean) :: q_G)) : q_SK X 4 805 (BL_law_805 Ln xs) := by
  refine k_callV h hl (aX8_see l) (ci := 8) (C := RX8) (T := TX8) (N := 11) rfl ⟨rfl, rfl⟩ (n := 3) (by decide +kernel) (q_gV gw946 gw947 gw948 gw91 gw945) ⟨by decide, by decide⟩ (ddL_law (805, .invokevirtual 97, 3) (List.mem_of_getElem? (i := 538) rfl)) ?_
  refine k_aload_n (i := 2) h (ddL_law (808, .aload_n 2, 1) (List.mem_of_getElem? (i := 539) rfl)) rfl ?_
  refine k_aload_n (i := 0) h (ddL_law (809, .aload_n 0, 1) (List.mem_of_getElem? (i := 540) rfl)) rfl ?_
  refine k_iload_n (i := 3) h (ddL_law (810, .iload_n 3, 1) (List.mem_of_getElem? (i := 541) rfl)) rfl ?_
  refine k_iconst (v := 1) h (ddL_law (811, .iconst 1, 1) (List.mem_of_getElem? (i := 542) rfl)) (by decide) ?_
  refine k_iadd h (ddL_law (812, .iadd, 1) (List.mem_of_getElem? (i := 543) rfl)) ?_
  refine k_sld h hz (ddL_law (813, .iaload, 1) (List.mem_of_getElem? (i := 544) rfl)) ?_
  refine k_aload_n (i := 0) h (ddL_law (814, .aload_n 0, 1) (List.mem_of_getElem? (i := 545) rfl)) rfl ?_
  refine k_iload_n (i := 3) h (ddL_law (815, .iload_n 3, 1) (List.mem_of_getElem? (i := 546) rfl)) rfl ?_
  refine k_iconst (v := 2) h (ddL_law (816, .iconst 2, 1) (List.mem_of_getElem? (i := 547) rfl)) (by decide) ?_
  refine k_iadd h (ddL_law (817, .iadd, 1) (List.mem_of_getElem? (i := 548) rfl)) ?_
  refine k_sld h hz (ddL_law (818, .iaload, 1) (List.mem_of_getElem? (i := 549) rfl)) ?_
  refine k_aload_n (i := 0) h (ddL_law (819, .aload_n 0, 1) (List.mem_of_getElem? (i := 550) rfl)) rfl ?_
  refine k_iload_n (i := 3) h (ddL_law (820, .iload_n 3, 1) (List.mem_of_getElem? (i := 551) rfl)) rfl ?_
  refine k_iconst (v := 3) h (ddL_law (821, .iconst 3, 1) (List.mem_of_getElem? (i := 552) rfl)) (by decide) ?_
  refine k_iadd h (ddL_law (822, .iadd, 1) (List.mem_of_getElem? (i := 553) rfl)) ?_
  refine k_sld h hz (ddL_law (823, .iaload, 1) (List.mem_of_getElem? (i := 554) rfl)) ?_
  refine k_ifeq h (ddL_law (824, .ifCond .eq 7, 3) (List.mem_of_getElem? (i := 555) rfl)) (tgt := 831) (by decide) ?_ ?_
  · exact sL_law_831 hl hQ hcap hz h
  · exact sL_law_827 hl hQ hcap hz h
theorem sL_law_871 {l : Launch} {X : q_CX} {Ln : Nat} {xs : Nat → Int32} (hl : X.2.1 = l) (hQ : q_LQ X) (hcap : q_cap X room_1 L_cap) (hz : q_scr X Ln xs) (h : q_OK X yL_law cL_law 4 (some .boolean) room_1 (Cond.code yL_law cL_law 4 (some .boolean) :: q_G)) : q_SK X 4 871 (BL_law_871 Ln xs) := by
  refine k_iconst (v := 0) h (ddL_law (871, .iconst 0, 1) (List.mem_of_getElem? (i := 588) rfl)) (by decide) ?_
  exact k_lret h hQ (ddL_law (872, .ireturn, 1) (List.mem_of_getElem? (i := 589) rfl))
theorem sL_law_840 {l : Launch} {X : q_CX} {Ln : Nat} {xs : Nat → Int32} (hl : X.2.1 = l) (hQ : q_LQ X) (hcap : q_cap X room_1 L_cap) (hz : q_scr X Ln xs) (h : q_OK X yL_law cL_law 4 (some .boolean) room_1 (Cond.code yL_law cL_law 4 (some .boolean) :: q_G)) : q_SK X 4 840 (BL_law_840 Ln xs) := by
  refine k_aload_n (i := 1) h (ddL_law (840, .aload_n 1, 1) (List.mem_of_getElem? (i := 563) rfl)) rfl ?_
  refine k_aload_n (i := 0) h (ddL_law (841, .aload_n 0, 1) (List.mem_of_getElem? (i := 564) rfl)) rfl ?_
  refine k_iload_n (i := 3) h (ddL_law (842, .iload_n 3, 1) (List.mem_of_getElem? (i := 565) rfl)) rfl ?_
  refine k_iconst (v := 1) h (ddL_law (843, .iconst 1, 1) (List.mem_of_getElem? (i := 566) rfl)) (by decide) ?_
  refine k_iadd h (ddL_law (844, .iadd, 1) (List.mem_of_getElem? (i := 567) rfl)) ?_
  refine k_sld h hz (ddL_law (845, .iaload, 1) (List.mem_of_getElem? (i := 568) rfl)) ?_
  refine k_aload_n (i := 0) h (ddL_law (846, .aload_n 0, 1) (List.mem_of_getElem? (i := 569) rfl)) rfl ?_
  refine k_iload_n (i := 3) h (ddL_law (847, .iload_n 3, 1) (List.mem_of_getElem? (i := 570) rfl)) rfl ?_
  refine k_iconst (v := 2) h (ddL_law (848, .iconst 2, 1) (List.mem_of_getElem? (i := 571) rfl)) (by decide) ?_
  refine k_iadd h (ddL_law (849, .iadd, 1) (List.mem_of_getElem? (i := 572) rfl)) ?_
  refine k_sld h hz (ddL_law (850, .iaload, 1) (List.mem_of_getElem? (i := 573) rfl)) ?_
  refine k_callV h hl (aX8_fits l) (ci := 8) (C := RX8) (T := TX8) (N := 11) rfl ⟨rfl, rfl⟩ (n := 2) (by decide +kernel) (q_gV gw954 gw955 gw956 gw91 gw953) ⟨by decide, by decide⟩ (ddL_law (851, .invokevirtual 102, 3) (List.mem_of_getElem? (i := 574) rfl)) ?_
  refine k_aload_n (i := 2) h (ddL_law (854, .aload_n 2, 1) (List.mem_of_getElem? (i := 575) rfl)) rfl ?_
  refine k_aload_n (i := 0) h (ddL_law (855, .aload_n 0, 1) (List.mem_of_getElem? (i := 576) rfl)) rfl ?_
  refine k_iload_n (i := 3) h (ddL_law (856, .iload_n 3, 1) (List.mem_of_getElem? (i := 577) rfl)) rfl ?_
  refine k_iconst (v := 1) h (ddL_law (857, .iconst 1, 1) (List.mem_of_getElem? (i := 578) rfl)) (by decide) ?_
  refine k_iadd h (ddL_law (858, .iadd, 1) (List.mem_of_getElem? (i := 579) rfl)) ?_
  refine k_sld h hz (ddL_law (859, .iaload, 1) (List.mem_of_getElem? (i := 580) rfl)) ?_
  refine k_aload_n (i := 0) h (ddL_law (860, .aload_n 0, 1) (List.mem_of_getElem? (i := 581) rfl)) rfl ?_
  refine k_iload_n (i := 3) h (ddL_law (861, .iload_n 3, 1) (List.mem_of_getElem? (i := 582) rfl)) rfl ?_
  refine k_iconst (v := 2) h (ddL_law (862, .iconst 2, 1) (List.mem_of_getElem? (i := 583) rfl)) (by decide) ?_
  refine k_iadd h (ddL_law (863, .iadd, 1) (List.mem_of_getElem? (i := 584) rfl)) ?_
  refine k_sld h hz (ddL_law (864, .iaload, 1) (List.mem_of_getElem? (i := 585) rfl)) ?_
  refine k_callV h hl (aX9_fits l) (ci := 9) (C := RX9) (T := TX9) (N := 33) rfl ⟨rfl, rfl⟩ (n := 2) (by decide +kernel) (q_gV gw958 gw959 gw960 gw606 gw957) ⟨by decide, by decide⟩ (ddL_law (865, .invokevirtual 105, 3) (List.mem_of_getElem? (i := 586) rfl)) ?_
  refine k_iceq h (ddL_law (868, .if_icmp .eq 209, 3) (List.mem_of_getElem? (i := 587) rfl)) (tgt := 1077) (by decide) ?_ ?_
  · exact k_cut
  · exact sL_law_871 hl hQ hcap hz h
theorem sL_law_894 {l : Launch} {X : q_CX} {Ln : Nat} {xs : Nat → Int32} (hl : X.2.1 = l) (hQ : q_LQ X) (hcap : q_cap X room_1 L_cap) (hz : q_scr X Ln xs) (h : q_OK X yL_law cL_law 4 (some .boolean) room_1 (Cond.code yL_law cL_law 4 (some .boolean) :: q_G)) : q_SK X 4 894 (BL_law_894 Ln xs) := by
  refine k_iconst (v := 0) h (ddL_law (894, .iconst 0, 1) (List.mem_of_getElem? (i := 605) rfl)) (by decide) ?_
  exact k_lret h hQ (ddL_law (895, .ireturn, 1) (List.mem_of_getElem? (i := 606) rfl))
theorem sL_law_873 {l : Launch} {X : q_CX} {Ln : Nat} {xs : Nat → Int32} (hl : X.2.1 = l) (hQ : q_LQ X) (hcap : q_cap X room_1 L_cap) (hz : q_scr X Ln xs) (h : q_OK X yL_law cL_law 4 (some .boolean) room_1 (Cond.code yL_law cL_law 4 (some .boolean) :: q_G)) : q_SK X 4 873 (BL_law_873 Ln xs) := by
  refine k_aload_n (i := 1) h (ddL_law (873, .aload_n 1, 1) (List.mem_of_getElem? (i := 590) rfl)) rfl ?_
  refine k_aload_n (i := 0) h (ddL_law (874, .aload_n 0, 1) (List.mem_of_getElem? (i := 591) rfl)) rfl ?_
  refine k_iload_n (i := 3) h (ddL_law (875, .iload_n 3, 1) (List.mem_of_getElem? (i := 592) rfl)) rfl ?_
  refine k_iconst (v := 1) h (ddL_law (876, .iconst 1, 1) (List.mem_of_getElem? (i := 593) rfl)) (by decide) ?_
  refine k_iadd h (ddL_law (877, .iadd, 1) (List.mem_of_getElem? (i := 594) rfl)) ?_
  refine k_sld h hz (ddL_law (878, .iaload, 1) (List.mem_of_getElem? (i := 595) rfl)) ?_
  refine k_callV h hl (aX8_look l) (ci := 8) (C := RX8) (T := TX8) (N := 11) rfl ⟨rfl, rfl⟩ (n := 1) (by decide +kernel) (q_gV gw962 gw963 gw964 gw91 gw961) ⟨by decide, by decide⟩ (ddL_law (879, .invokevirtual 106, 3) (List.mem_of_getElem? (i := 596) rfl)) ?_
  refine k_aload_n (i := 2) h (ddL_law (882, .aload_n 2, 1) (List.mem_of_getElem? (i := 597) rfl)) rfl ?_
  refine k_aload_n (i := 0) h (ddL_law (883, .aload_n 0, 1) (List.mem_of_getElem? (i := 598) rfl)) rfl ?_
  refine k_iload_n (i := 3) h (ddL_law (884, .iload_n 3, 1) (List.mem_of_getElem? (i := 599) rfl)) rfl ?_
  refine k_iconst (v := 1) h (ddL_law (885, .iconst 1, 1) (List.mem_of_getElem? (i := 600) rfl)) (by decide) ?_
  refine k_iadd h (ddL_law (886, .iadd, 1) (List.mem_of_getElem? (i := 601) rfl)) ?_
  refine k_sld h hz (ddL_law (887, .iaload, 1) (List.mem_of_getElem? (i := 602) rfl)) ?_
  refine k_callV h hl (aX9_look l) (ci := 9) (C := RX9) (T := TX9) (N := 33) rfl ⟨rfl, rfl⟩ (n := 1) (by decide +kernel) (q_gV gw966 gw967 gw968 gw606 gw965) ⟨by decide, by decide⟩ (ddL_law (888, .invokevirtual 109, 3) (List.mem_of_getElem? (i := 603) rfl)) ?_
  refine k_iceq h (ddL_law (891, .if_icmp .eq 186, 3) (List.mem_of_getElem? (i := 604) rfl)) (tgt := 1077) (by decide) ?_ ?_
  · exact k_cut
  · exact sL_law_894 hl hQ hcap hz h
theorem sL_law_947 {l : Launch} {X : q_CX} {Ln : Nat} {xs : Nat → Int32} (hl : X.2.1 = l) (hQ : q_LQ X) (hcap : q_cap X room_1 L_cap) (hz : q_scr X Ln xs) (h : q_OK X yL_law cL_law 4 (some .boolean) room_1 (Cond.code yL_law cL_law 4 (some .boolean) :: q_G)) : q_SK X 4 947 (BL_law_947 Ln xs) := by
  refine k_iconst (v := 0) h (ddL_law (947, .iconst 0, 1) (List.mem_of_getElem? (i := 652) rfl)) (by decide) ?_
  exact k_lret h hQ (ddL_law (948, .ireturn, 1) (List.mem_of_getElem? (i := 653) rfl))
theorem sL_law_896 {l : Launch} {X : q_CX} {Ln : Nat} {xs : Nat → Int32} (hl : X.2.1 = l) (hQ : q_LQ X) (hcap : q_cap X room_1 L_cap) (hz : q_scr X Ln xs) (h : q_OK X yL_law cL_law 4 (some .boolean) room_1 (Cond.code yL_law cL_law 4 (some .boolean) :: q_G)) : q_SK X 4 896 (BL_law_896 Ln xs) := by
  refine k_aload_n (i := 1) h (ddL_law (896, .aload_n 1, 1) (List.mem_of_getElem? (i := 607) rfl)) rfl ?_
  refine k_aload_n (i := 0) h (ddL_law (897, .aload_n 0, 1) (List.mem_of_getElem? (i := 608) rfl)) rfl ?_
  refine k_iload_n (i := 3) h (ddL_law (898, .iload_n 3, 1) (List.mem_of_getElem? (i := 609) rfl)) rfl ?_
  refine k_iconst (v := 1) h (ddL_law (899, .iconst 1, 1) (List.mem_of_getElem? (i := 610) rfl)) (by decide) ?_
  refine k_iadd h (ddL_law (900, .iadd, 1) (List.mem_of_getElem? (i := 611) rfl)) ?_
  refine k_sld h hz (ddL_law (901, .iaload, 1) (List.mem_of_getElem? (i := 612) rfl)) ?_
  refine k_aload_n (i := 0) h (ddL_law (902, .aload_n 0, 1) (List.mem_of_getElem? (i := 613) rfl)) rfl ?_
  refine k_iload_n (i := 3) h (ddL_law (903, .iload_n 3, 1) (List.mem_of_getElem? (i := 614) rfl)) rfl ?_
  refine k_iconst (v := 2) h (ddL_law (904, .iconst 2, 1) (List.mem_of_getElem? (i := 615) rfl)) (by decide) ?_
  refine k_iadd h (ddL_law (905, .iadd, 1) (List.mem_of_getElem? (i := 616) rfl)) ?_
  refine k_sld h hz (ddL_law (906, .iaload, 1) (List.mem_of_getElem? (i := 617) rfl)) ?_
  refine k_aload_n (i := 0) h (ddL_law (907, .aload_n 0, 1) (List.mem_of_getElem? (i := 618) rfl)) rfl ?_
  refine k_iload_n (i := 3) h (ddL_law (908, .iload_n 3, 1) (List.mem_of_getElem? (i := 619) rfl)) rfl ?_
  refine k_iconst (v := 3) h (ddL_law (909, .iconst 3, 1) (List.mem_of_getElem? (i := 620) rfl)) (by decide) ?_
  refine k_iadd h (ddL_law (910, .iadd, 1) (List.mem_of_getElem? (i := 621) rfl)) ?_
  refine k_sld h hz (ddL_law (911, .iaload, 1) (List.mem_of_getElem? (i := 622) rfl)) ?_
  refine k_aload_n (i := 0) h (ddL_law (912, .aload_n 0, 1) (List.mem_of_getElem? (i := 623) rfl)) rfl ?_
  refine k_iload_n (i := 3) h (ddL_law (913, .iload_n 3, 1) (List.mem_of_getElem? (i := 624) rfl)) rfl ?_
  refine k_iconst (v := 4) h (ddL_law (914, .iconst 4, 1) (List.mem_of_getElem? (i := 625) rfl)) (by decide) ?_
  refine k_iadd h (ddL_law (915, .iadd, 1) (List.mem_of_getElem? (i := 626) rfl)) ?_
  refine k_sld h hz (ddL_law (916, .iaload, 1) (List.mem_of_getElem? (i := 627) rfl)) ?_
  refine k_callV h hl (aX8_mend l) (ci := 8) (C := RX8) (T := TX8) (N := 11) rfl ⟨rfl, rfl⟩ (n := 4) (by decide +kernel) (q_gV gw970 gw971 gw972 gw91 gw969) ⟨by decide, by decide⟩ (ddL_law (917, .invokevirtual 110, 3) (List.mem_of_getElem? (i := 628) rfl)) ?_
  refine k_aload_n (i := 2) h (ddL_law (920, .aload_n 2, 1) (List.mem_of_getElem? (i := 629) rfl)) rfl ?_
  refine k_aload_n (i := 0) h (ddL_law (921, .aload_n 0, 1) (List.mem_of_getElem? (i := 630) rfl)) rfl ?_
  refine k_iload_n (i := 3) h (ddL_law (922, .iload_n 3, 1) (List.mem_of_getElem? (i := 631) rfl)) rfl ?_
  refine k_iconst (v := 1) h (ddL_law (923, .iconst 1, 1) (List.mem_of_getElem? (i := 632) rfl)) (by decide) ?_
  refine k_iadd h (ddL_law (924, .iadd, 1) (List.mem_of_getElem? (i := 633) rfl)) ?_
  refine k_sld h hz (ddL_law (925, .iaload, 1) (List.mem_of_getElem? (i := 634) rfl)) ?_
  refine k_aload_n (i := 0) h (ddL_law (926, .aload_n 0, 1) (List.mem_of_getElem? (i := 635) rfl)) rfl ?_
  refine k_iload_n (i := 3) h (ddL_law (927, .iload_n 3, 1) (List.mem_of_getElem? (i := 636) rfl)) rfl ?_
  refine k_iconst (v := 2) h (ddL_law (928, .iconst 2, 1) (List.mem_of_getElem? (i := 637) rfl)) (by decide) ?_
  refine k_iadd h (ddL_law (929, .iadd, 1) (List.mem_of_getElem? (i := 638) rfl)) ?_
  refine k_sld h hz (ddL_law (930, .iaload, 1) (List.mem_of_getElem? (i := 639) rfl)) ?_
  refine k_aload_n (i := 0) h (ddL_law (931, .aload_n 0, 1) (List.mem_of_getElem? (i := 640) rfl)) rfl ?_
  refine k_iload_n (i := 3) h (ddL_law (932, .iload_n 3, 1) (List.mem_of_getElem? (i := 641) rfl)) rfl ?_
  refine k_iconst (v := 3) h (ddL_law (933, .iconst 3, 1) (List.mem_of_getElem? (i := 642) rfl)) (by decide) ?_
  refine k_iadd h (ddL_law (934, .iadd, 1) (List.mem_of_getElem? (i := 643) rfl)) ?_
  refine k_sld h hz (ddL_law (935, .iaload, 1) (List.mem_of_getElem? (i := 644) rfl)) ?_
  refine k_aload_n (i := 0) h (ddL_law (936, .aload_n 0, 1) (List.mem_of_getElem? (i := 645) rfl)) rfl ?_
  refine k_iload_n (i := 3) h (ddL_law (937, .iload_n 3, 1) (List.mem_of_getElem? (i := 646) rfl)) rfl ?_
  refine k_iconst (v := 4) h (ddL_law (938, .iconst 4, 1) (List.mem_of_getElem? (i := 647) rfl)) (by decide) ?_
  refine k_iadd h (ddL_law (939, .iadd, 1) (List.mem_of_getElem? (i := 648) rfl)) ?_
  refine k_sld h hz (ddL_law (940, .iaload, 1) (List.mem_of_getElem? (i := 649) rfl)) ?_
  refine k_callV h hl (aX9_mend l) (ci := 9) (C := RX9) (T := TX9) (N := 33) rfl ⟨rfl, rfl⟩ (n := 4) (by decide +kernel) (q_gV gw974 gw975 gw976 gw606 gw973) ⟨by decide, by decide⟩ (ddL_law (941, .invokevirtual 113, 3) (List.mem_of_getElem? (i := 650) rfl)) ?_
  refine k_iceq h (ddL_law (944, .if_icmp .eq 133, 3) (List.mem_of_getElem? (i := 651) rfl)) (tgt := 1077) (by decide) ?_ ?_
  · exact k_cut
  · exact sL_law_947 hl hQ hcap hz h
theorem sL_law_970 {l : Launch} {X : q_CX} {Ln : Nat} {xs : Nat → Int32} (hl : X.2.1 = l) (hQ : q_LQ X) (hcap : q_cap X room_1 L_cap) (hz : q_scr X Ln xs) (h : q_OK X yL_law cL_law 4 (some .boolean) room_1 (Cond.code yL_law cL_law 4 (some .boolean) :: q_G)) : q_SK X 4 970 (BL_law_970 Ln xs) := by
  refine k_iconst (v := 0) h (ddL_law (970, .iconst 0, 1) (List.mem_of_getElem? (i := 669) rfl)) (by decide) ?_
  exact k_lret h hQ (ddL_law (971, .ireturn, 1) (List.mem_of_getElem? (i := 670) rfl))
theorem sL_law_949 {l : Launch} {X : q_CX} {Ln : Nat} {xs : Nat → Int32} (hl : X.2.1 = l) (hQ : q_LQ X) (hcap : q_cap X room_1 L_cap) (hz : q_scr X Ln xs) (h : q_OK X yL_law cL_law 4 (some .boolean) room_1 (Cond.code yL_law cL_law 4 (some .boolean) :: q_G)) : q_SK X 4 949 (BL_law_949 Ln xs) := by
  refine k_aload_n (i := 1) h (ddL_law (949, .aload_n 1, 1) (List.mem_of_getElem? (i := 654) rfl)) rfl ?_
  refine k_aload_n (i := 0) h (ddL_law (950, .aload_n 0, 1) (List.mem_of_getElem? (i := 655) rfl)) rfl ?_
  refine k_iload_n (i := 3) h (ddL_law (951, .iload_n 3, 1) (List.mem_of_getElem? (i := 656) rfl)) rfl ?_
  refine k_iconst (v := 1) h (ddL_law (952, .iconst 1, 1) (List.mem_of_getElem? (i := 657) rfl)) (by decide) ?_
  refine k_iadd h (ddL_law (953, .iadd, 1) (List.mem_of_getElem? (i := 658) rfl)) ?_
  refine k_sld h hz (ddL_law (954, .iaload, 1) (List.mem_of_getElem? (i := 659) rfl)) ?_
  refine k_callV h hl (aX8_write l) (ci := 8) (C := RX8) (T := TX8) (N := 11) rfl ⟨rfl, rfl⟩ (n := 1) (by decide +kernel) (q_gV gw978 gw979 gw980 gw91 gw977) ⟨by decide, by decide⟩ (ddL_law (955, .invokevirtual 114, 3) (List.mem_of_getElem? (i := 660) rfl)) ?_
  refine k_aload_n (i := 2) h (ddL_law (958, .aload_n 2, 1) (List.mem_of_getElem? (i := 661) rfl)) rfl ?_
  refine k_aload_n (i := 0) h (ddL_law (959, .aload_n 0, 1) (List.mem_of_getElem? (i := 662) rfl)) rfl ?_
  refine k_iload_n (i := 3) h (ddL_law (960, .iload_n 3, 1) (List.mem_of_getElem? (i := 663) rfl)) rfl ?_
  refine k_iconst (v := 1) h (ddL_law (961, .iconst 1, 1) (List.mem_of_getElem? (i := 664) rfl)) (by decide) ?_
  refine k_iadd h (ddL_law (962, .iadd, 1) (List.mem_of_getElem? (i := 665) rfl)) ?_
  refine k_sld h hz (ddL_law (963, .iaload, 1) (List.mem_of_getElem? (i := 666) rfl)) ?_
  refine k_callV h hl (aX9_write l) (ci := 9) (C := RX9) (T := TX9) (N := 33) rfl ⟨rfl, rfl⟩ (n := 1) (by decide +kernel) (q_gV gw982 gw983 gw984 gw606 gw981) ⟨by decide, by decide⟩ (ddL_law (964, .invokevirtual 117, 3) (List.mem_of_getElem? (i := 667) rfl)) ?_
  refine k_iceq h (ddL_law (967, .if_icmp .eq 110, 3) (List.mem_of_getElem? (i := 668) rfl)) (tgt := 1077) (by decide) ?_ ?_
  · exact k_cut
  · exact sL_law_970 hl hQ hcap hz h
theorem sL_law_983 {l : Launch} {X : q_CX} {Ln : Nat} {xs : Nat → Int32} (hl : X.2.1 = l) (hQ : q_LQ X) (hcap : q_cap X room_1 L_cap) (hz : q_scr X Ln xs) (h : q_OK X yL_law cL_law 4 (some .boolean) room_1 (Cond.code yL_law cL_law 4 (some .boolean) :: q_G)) : q_SK X 4 983 (BL_law_983 Ln xs) := by
  refine k_iconst (v := 0) h (ddL_law (983, .iconst 0, 1) (List.mem_of_getElem? (i := 676) rfl)) (by decide) ?_
  exact k_lret h hQ (ddL_law (984, .ireturn, 1) (List.mem_of_getElem? (i := 677) rfl))
theorem sL_law_972 {l : Launch} {X : q_CX} {Ln : Nat} {xs : Nat → Int32} (hl : X.2.1 = l) (hQ : q_LQ X) (hcap : q_cap X room_1 L_cap) (hz : q_scr X Ln xs) (h : q_OK X yL_law cL_law 4 (some .boolean) room_1 (Cond.code yL_law cL_law 4 (some .boolean) :: q_G)) : q_SK X 4 972 (BL_law_972 Ln xs) := by
  refine k_aload_n (i := 1) h (ddL_law (972, .aload_n 1, 1) (List.mem_of_getElem? (i := 671) rfl)) rfl ?_
  refine k_callV h hl (aX8_tear l) (ci := 8) (C := RX8) (T := TX8) (N := 11) rfl ⟨rfl, rfl⟩ (n := 0) (by decide +kernel) (q_gV gw986 gw987 gw988 gw91 gw985) ⟨by decide, by decide⟩ (ddL_law (973, .invokevirtual 118, 3) (List.mem_of_getElem? (i := 672) rfl)) ?_
  refine k_aload_n (i := 2) h (ddL_law (976, .aload_n 2, 1) (List.mem_of_getElem? (i := 673) rfl)) rfl ?_
  refine k_callV h hl (aX9_tear l) (ci := 9) (C := RX9) (T := TX9) (N := 33) rfl ⟨rfl, rfl⟩ (n := 0) (by decide +kernel) (q_gV gw990 gw991 gw992 gw606 gw989) ⟨by decide, by decide⟩ (ddL_law (977, .invokevirtual 121, 3) (List.mem_of_getElem? (i := 674) rfl)) ?_
  refine k_iceq h (ddL_law (980, .if_icmp .eq 97, 3) (List.mem_of_getElem? (i := 675) rfl)) (tgt := 1077) (by decide) ?_ ?_
  · exact k_cut
  · exact sL_law_983 hl hQ hcap hz h
theorem sL_law_1006 {l : Launch} {X : q_CX} {Ln : Nat} {xs : Nat → Int32} (hl : X.2.1 = l) (hQ : q_LQ X) (hcap : q_cap X room_1 L_cap) (hz : q_scr X Ln xs) (h : q_OK X yL_law cL_law 4 (some .boolean) room_1 (Cond.code yL_law cL_law 4 (some .boolean) :: q_G)) : q_SK X 4 1006 (BL_law_1006 Ln xs) := by
  refine k_iconst (v := 0) h (ddL_law (1006, .iconst 0, 1) (List.mem_of_getElem? (i := 693) rfl)) (by decide) ?_
  exact k_lret h hQ (ddL_law (1007, .ireturn, 1) (List.mem_of_getElem? (i := 694) rfl))
theorem sL_law_985 {l : Launch} {X : q_CX} {Ln : Nat} {xs : Nat → Int32} (hl : X.2.1 = l) (hQ : q_LQ X) (hcap : q_cap X room_1 L_cap) (hz : q_scr X Ln xs) (h : q_OK X yL_law cL_law 4 (some .boolean) room_1 (Cond.code yL_law cL_law 4 (some .boolean) :: q_G)) : q_SK X 4 985 (BL_law_985 Ln xs) := by
  refine k_aload_n (i := 1) h (ddL_law (985, .aload_n 1, 1) (List.mem_of_getElem? (i := 678) rfl)) rfl ?_
  refine k_aload_n (i := 0) h (ddL_law (986, .aload_n 0, 1) (List.mem_of_getElem? (i := 679) rfl)) rfl ?_
  refine k_iload_n (i := 3) h (ddL_law (987, .iload_n 3, 1) (List.mem_of_getElem? (i := 680) rfl)) rfl ?_
  refine k_iconst (v := 1) h (ddL_law (988, .iconst 1, 1) (List.mem_of_getElem? (i := 681) rfl)) (by decide) ?_
  refine k_iadd h (ddL_law (989, .iadd, 1) (List.mem_of_getElem? (i := 682) rfl)) ?_
  refine k_sld h hz (ddL_law (990, .iaload, 1) (List.mem_of_getElem? (i := 683) rfl)) ?_
  refine k_callV h hl (aX8_judge l) (ci := 8) (C := RX8) (T := TX8) (N := 11) rfl ⟨rfl, rfl⟩ (n := 1) (by decide +kernel) (q_gV gw994 gw995 gw996 gw91 gw993) ⟨by decide, by decide⟩ (ddL_law (991, .invokevirtual 122, 3) (List.mem_of_getElem? (i := 684) rfl)) ?_
  refine k_aload_n (i := 2) h (ddL_law (994, .aload_n 2, 1) (List.mem_of_getElem? (i := 685) rfl)) rfl ?_
  refine k_aload_n (i := 0) h (ddL_law (995, .aload_n 0, 1) (List.mem_of_getElem? (i := 686) rfl)) rfl ?_
  refine k_iload_n (i := 3) h (ddL_law (996, .iload_n 3, 1) (List.mem_of_getElem? (i := 687) rfl)) rfl ?_
  refine k_iconst (v := 1) h (ddL_law (997, .iconst 1, 1) (List.mem_of_getElem? (i := 688) rfl)) (by decide) ?_
  refine k_iadd h (ddL_law (998, .iadd, 1) (List.mem_of_getElem? (i := 689) rfl)) ?_
  refine k_sld h hz (ddL_law (999, .iaload, 1) (List.mem_of_getElem? (i := 690) rfl)) ?_
  refine k_callV h hl (aX9_judge l) (ci := 9) (C := RX9) (T := TX9) (N := 33) rfl ⟨rfl, rfl⟩ (n := 1) (by decide +kernel) (q_gV gw998 gw999 gw1000 gw606 gw997) ⟨by decide, by decide⟩ (ddL_law (1000, .invokevirtual 125, 3) (List.mem_of_getElem? (i := 691) rfl)) ?_
  refine k_iceq h (ddL_law (1003, .if_icmp .eq 74, 3) (List.mem_of_getElem? (i := 692) rfl)) (tgt := 1077) (by decide) ?_ ?_
  · exact k_cut
  · exact sL_law_1006 hl hQ hcap hz h
theorem sL_law_1029 {l : Launch} {X : q_CX} {Ln : Nat} {xs : Nat → Int32} (hl : X.2.1 = l) (hQ : q_LQ X) (hcap : q_cap X room_1 L_cap) (hz : q_scr X Ln xs) (h : q_OK X yL_law cL_law 4 (some .boolean) room_1 (Cond.code yL_law cL_law 4 (some .boolean) :: q_G)) : q_SK X 4 1029 (BL_law_1029 Ln xs) := by
  refine k_iconst (v := 0) h (ddL_law (1029, .iconst 0, 1) (List.mem_of_getElem? (i := 710) rfl)) (by decide) ?_
  exact k_lret h hQ (ddL_law (1030, .ireturn, 1) (List.mem_of_getElem? (i := 711) rfl))
theorem sL_law_1008 {l : Launch} {X : q_CX} {Ln : Nat} {xs : Nat → Int32} (hl : X.2.1 = l) (hQ : q_LQ X) (hcap : q_cap X room_1 L_cap) (hz : q_scr X Ln xs) (h : q_OK X yL_law cL_law 4 (some .boolean) room_1 (Cond.code yL_law cL_law 4 (some .boolean) :: q_G)) : q_SK X 4 1008 (BL_law_1008 Ln xs) := by
  refine k_aload_n (i := 1) h (ddL_law (1008, .aload_n 1, 1) (List.mem_of_getElem? (i := 695) rfl)) rfl ?_
  refine k_aload_n (i := 0) h (ddL_law (1009, .aload_n 0, 1) (List.mem_of_getElem? (i := 696) rfl)) rfl ?_
  refine k_iload_n (i := 3) h (ddL_law (1010, .iload_n 3, 1) (List.mem_of_getElem? (i := 697) rfl)) rfl ?_
  refine k_iconst (v := 1) h (ddL_law (1011, .iconst 1, 1) (List.mem_of_getElem? (i := 698) rfl)) (by decide) ?_
  refine k_iadd h (ddL_law (1012, .iadd, 1) (List.mem_of_getElem? (i := 699) rfl)) ?_
  refine k_sld h hz (ddL_law (1013, .iaload, 1) (List.mem_of_getElem? (i := 700) rfl)) ?_
  refine k_callV h hl (aX8_seed l) (ci := 8) (C := RX8) (T := TX8) (N := 11) rfl ⟨rfl, rfl⟩ (n := 1) (by decide +kernel) (q_gV gw1002 gw1003 gw1004 gw91 gw1001) ⟨by decide, by decide⟩ (ddL_law (1014, .invokevirtual 126, 3) (List.mem_of_getElem? (i := 701) rfl)) ?_
  refine k_aload_n (i := 2) h (ddL_law (1017, .aload_n 2, 1) (List.mem_of_getElem? (i := 702) rfl)) rfl ?_
  refine k_aload_n (i := 0) h (ddL_law (1018, .aload_n 0, 1) (List.mem_of_getElem? (i := 703) rfl)) rfl ?_
  refine k_iload_n (i := 3) h (ddL_law (1019, .iload_n 3, 1) (List.mem_of_getElem? (i := 704) rfl)) rfl ?_
  refine k_iconst (v := 1) h (ddL_law (1020, .iconst 1, 1) (List.mem_of_getElem? (i := 705) rfl)) (by decide) ?_
  refine k_iadd h (ddL_law (1021, .iadd, 1) (List.mem_of_getElem? (i := 706) rfl)) ?_
  refine k_sld h hz (ddL_law (1022, .iaload, 1) (List.mem_of_getElem? (i := 707) rfl)) ?_
  refine k_callV h hl (aX9_seed l) (ci := 9) (C := RX9) (T := TX9) (N := 33) rfl ⟨rfl, rfl⟩ (n := 1) (by decide +kernel) (q_gV gw1006 gw1007 gw1008 gw606 gw1005) ⟨by decide, by decide⟩ (ddL_law (1023, .invokevirtual 129, 3) (List.mem_of_getElem? (i := 708) rfl)) ?_
  refine k_iceq h (ddL_law (1026, .if_icmp .eq 51, 3) (List.mem_of_getElem? (i := 709) rfl)) (tgt := 1077) (by decide) ?_ ?_
  · exact k_cut
  · exact sL_law_1029 hl hQ hcap hz h
theorem sL_law_1052 {l : Launch} {X : q_CX} {Ln : Nat} {xs : Nat → Int32} (hl : X.2.1 = l) (hQ : q_LQ X) (hcap : q_cap X room_1 L_cap) (hz : q_scr X Ln xs) (h : q_OK X yL_law cL_law 4 (some .boolean) room_1 (Cond.code yL_law cL_law 4 (some .boolean) :: q_G)) : q_SK X 4 1052 (BL_law_1052 Ln xs) := by
  refine k_iconst (v := 0) h (ddL_law (1052, .iconst 0, 1) (List.mem_of_getElem? (i := 727) rfl)) (by decide) ?_
  exact k_lret h hQ (ddL_law (1053, .ireturn, 1) (List.mem_of_getElem? (i := 728) rfl))
theorem sL_law_1031 {l : Launch} {X : q_CX} {Ln : Nat} {xs : Nat → Int32} (hl : X.2.1 = l) (hQ : q_LQ X) (hcap : q_cap X room_1 L_cap) (hz : q_scr X Ln xs) (h : q_OK X yL_law cL_law 4 (some .boolean) room_1 (Cond.code yL_law cL_law 4 (some .boolean) :: q_G)) : q_SK X 4 1031 (BL_law_1031 Ln xs) := by
  refine k_aload_n (i := 1) h (ddL_law (1031, .aload_n 1, 1) (List.mem_of_getElem? (i := 712) rfl)) rfl ?_
  refine k_aload_n (i := 0) h (ddL_law (1032, .aload_n 0, 1) (List.mem_of_getElem? (i := 713) rfl)) rfl ?_
  refine k_iload_n (i := 3) h (ddL_law (1033, .iload_n 3, 1) (List.mem_of_getElem? (i := 714) rfl)) rfl ?_
  refine k_iconst (v := 1) h (ddL_law (1034, .iconst 1, 1) (List.mem_of_getElem? (i := 715) rfl)) (by decide) ?_
  refine k_iadd h (ddL_law (1035, .iadd, 1) (List.mem_of_getElem? (i := 716) rfl)) ?_
  refine k_sld h hz (ddL_law (1036, .iaload, 1) (List.mem_of_getElem? (i := 717) rfl)) ?_
  refine k_callV h hl (aX8_keep l) (ci := 8) (C := RX8) (T := TX8) (N := 11) rfl ⟨rfl, rfl⟩ (n := 1) (by decide +kernel) (q_gV gw1010 gw1011 gw1012 gw91 gw1009) ⟨by decide, by decide⟩ (ddL_law (1037, .invokevirtual 130, 3) (List.mem_of_getElem? (i := 718) rfl)) ?_
  refine k_aload_n (i := 2) h (ddL_law (1040, .aload_n 2, 1) (List.mem_of_getElem? (i := 719) rfl)) rfl ?_
  refine k_aload_n (i := 0) h (ddL_law (1041, .aload_n 0, 1) (List.mem_of_getElem? (i := 720) rfl)) rfl ?_
  refine k_iload_n (i := 3) h (ddL_law (1042, .iload_n 3, 1) (List.mem_of_getElem? (i := 721) rfl)) rfl ?_
  refine k_iconst (v := 1) h (ddL_law (1043, .iconst 1, 1) (List.mem_of_getElem? (i := 722) rfl)) (by decide) ?_
  refine k_iadd h (ddL_law (1044, .iadd, 1) (List.mem_of_getElem? (i := 723) rfl)) ?_
  refine k_sld h hz (ddL_law (1045, .iaload, 1) (List.mem_of_getElem? (i := 724) rfl)) ?_
  refine k_callV h hl (aX9_keep l) (ci := 9) (C := RX9) (T := TX9) (N := 33) rfl ⟨rfl, rfl⟩ (n := 1) (by decide +kernel) (q_gV gw1014 gw1015 gw1016 gw606 gw1013) ⟨by decide, by decide⟩ (ddL_law (1046, .invokevirtual 133, 3) (List.mem_of_getElem? (i := 725) rfl)) ?_
  refine k_iceq h (ddL_law (1049, .if_icmp .eq 28, 3) (List.mem_of_getElem? (i := 726) rfl)) (tgt := 1077) (by decide) ?_ ?_
  · exact k_cut
  · exact sL_law_1052 hl hQ hcap hz h
theorem sL_law_1075 {l : Launch} {X : q_CX} {Ln : Nat} {xs : Nat → Int32} (hl : X.2.1 = l) (hQ : q_LQ X) (hcap : q_cap X room_1 L_cap) (hz : q_scr X Ln xs) (h : q_OK X yL_law cL_law 4 (some .boolean) room_1 (Cond.code yL_law cL_law 4 (some .boolean) :: q_G)) : q_SK X 4 1075 (BL_law_1075 Ln xs) := by
  refine k_iconst (v := 0) h (ddL_law (1075, .iconst 0, 1) (List.mem_of_getElem? (i := 744) rfl)) (by decide) ?_
  exact k_lret h hQ (ddL_law (1076, .ireturn, 1) (List.mem_of_getElem? (i := 745) rfl))
theorem sL_law_1054 {l : Launch} {X : q_CX} {Ln : Nat} {xs : Nat → Int32} (hl : X.2.1 = l) (hQ : q_LQ X) (hcap : q_cap X room_1 L_cap) (hz : q_scr X Ln xs) (h : q_OK X yL_law cL_law 4 (some .boolean) room_1 (Cond.code yL_law cL_law 4 (some .boolean) :: q_G)) : q_SK X 4 1054 (BL_law_1054 Ln xs) := by
  refine k_aload_n (i := 1) h (ddL_law (1054, .aload_n 1, 1) (List.mem_of_getElem? (i := 729) rfl)) rfl ?_
  refine k_aload_n (i := 0) h (ddL_law (1055, .aload_n 0, 1) (List.mem_of_getElem? (i := 730) rfl)) rfl ?_
  refine k_iload_n (i := 3) h (ddL_law (1056, .iload_n 3, 1) (List.mem_of_getElem? (i := 731) rfl)) rfl ?_
  refine k_iconst (v := 1) h (ddL_law (1057, .iconst 1, 1) (List.mem_of_getElem? (i := 732) rfl)) (by decide) ?_
  refine k_iadd h (ddL_law (1058, .iadd, 1) (List.mem_of_getElem? (i := 733) rfl)) ?_
  refine k_sld h hz (ddL_law (1059, .iaload, 1) (List.mem_of_getElem? (i := 734) rfl)) ?_
  refine k_callV h hl (aX8_goBack l) (ci := 8) (C := RX8) (T := TX8) (N := 11) rfl ⟨rfl, rfl⟩ (n := 1) (by decide +kernel) (q_gV gw1018 gw1019 gw1020 gw91 gw1017) ⟨by decide, by decide⟩ (ddL_law (1060, .invokevirtual 134, 3) (List.mem_of_getElem? (i := 735) rfl)) ?_
  refine k_aload_n (i := 2) h (ddL_law (1063, .aload_n 2, 1) (List.mem_of_getElem? (i := 736) rfl)) rfl ?_
  refine k_aload_n (i := 0) h (ddL_law (1064, .aload_n 0, 1) (List.mem_of_getElem? (i := 737) rfl)) rfl ?_
  refine k_iload_n (i := 3) h (ddL_law (1065, .iload_n 3, 1) (List.mem_of_getElem? (i := 738) rfl)) rfl ?_
  refine k_iconst (v := 1) h (ddL_law (1066, .iconst 1, 1) (List.mem_of_getElem? (i := 739) rfl)) (by decide) ?_
  refine k_iadd h (ddL_law (1067, .iadd, 1) (List.mem_of_getElem? (i := 740) rfl)) ?_
  refine k_sld h hz (ddL_law (1068, .iaload, 1) (List.mem_of_getElem? (i := 741) rfl)) ?_
  refine k_callV h hl (aX9_goBack l) (ci := 9) (C := RX9) (T := TX9) (N := 33) rfl ⟨rfl, rfl⟩ (n := 1) (by decide +kernel) (q_gV gw1022 gw1023 gw1024 gw606 gw1021) ⟨by decide, by decide⟩ (ddL_law (1069, .invokevirtual 137, 3) (List.mem_of_getElem? (i := 742) rfl)) ?_
  refine k_iceq h (ddL_law (1072, .if_icmp .eq 5, 3) (List.mem_of_getElem? (i := 743) rfl)) (tgt := 1077) (by decide) ?_ ?_
  · exact k_cut
  · exact sL_law_1075 hl hQ hcap hz h
theorem sL_law_1077 {l : Launch} {X : q_CX} {Ln : Nat} {xs : Nat → Int32} (hl : X.2.1 = l) (hQ : q_LQ X) (hcap : q_cap X room_1 L_cap) (hz : q_scr X Ln xs) (h : q_OK X yL_law cL_law 4 (some .boolean) room_1 (Cond.code yL_law cL_law 4 (some .boolean) :: q_G)) : q_SK X 4 1077 (BL_law_1077 Ln xs) := by
  refine k_iinc (d := 5) h (ddL_law (1077, .iinc 3 5, 3) (List.mem_of_getElem? (i := 746) rfl)) (by decide) (by decide) ?_
  refine k_goto h (ddL_law (1080, .goto (-1062), 3) (List.mem_of_getElem? (i := 747) rfl)) (tgt := 18) (by decide) ?_
  exact k_cut
theorem sL_law {l : Launch} {X : q_CX} {Ln : Nat} {xs : Nat → Int32} (hl : X.2.1 = l) (hQ : q_LQ X) (hcap : q_cap X room_1 L_cap) (hz : q_scr X Ln xs) (h : q_OK X yL_law cL_law 4 (some .boolean) room_1 (Cond.code yL_law cL_law 4 (some .boolean) :: q_G)) (pc : Nat) : q_SK X 4 pc (TL_law Ln xs pc) := by
  unfold TL_law
  exact k_at (sL_law_0 hl hQ hcap hz h) (k_at (sL_law_18 hl hQ hcap hz h) (k_at (sL_law_164 hl hQ hcap hz h) (k_at (sL_law_227 hl hQ hcap hz h) (k_at (sL_law_240 hl hQ hcap hz h) (k_at (sL_law_253 hl hQ hcap hz h) (k_at (sL_law_276 hl hQ hcap hz h) (k_at (sL_law_309 hl hQ hcap hz h) (k_at (sL_law_342 hl hQ hcap hz h) (k_at (sL_law_375 hl hQ hcap hz h) (k_at (sL_law_398 hl hQ hcap hz h) (k_at (sL_law_421 hl hQ hcap hz h) (k_at (sL_law_454 hl hQ hcap hz h) (k_at (sL_law_477 hl hQ hcap hz h) (k_at (sL_law_500 hl hQ hcap hz h) (k_at (sL_law_543 hl hQ hcap hz h) (k_at (sL_law_576 hl hQ hcap hz h) (k_at (sL_law_629 hl hQ hcap hz h) (k_at (sL_law_682 hl hQ hcap hz h) (k_at (sL_law_725 hl hQ hcap hz h) (k_at (sL_law_768 hl hQ hcap hz h) (k_at (sL_law_781 hl hQ hcap hz h) (k_at (sL_law_805 hl hQ hcap hz h) (k_at (sL_law_840 hl hQ hcap hz h) (k_at (sL_law_873 hl hQ hcap hz h) (k_at (sL_law_896 hl hQ hcap hz h) (k_at (sL_law_949 hl hQ hcap hz h) (k_at (sL_law_972 hl hQ hcap hz h) (k_at (sL_law_985 hl hQ hcap hz h) (k_at (sL_law_1008 hl hQ hcap hz h) (k_at (sL_law_1031 hl hQ hcap hz h) (k_at (sL_law_1054 hl hQ hcap hz h) (k_at (sL_law_1077 hl hQ hcap hz h) (k_no)))))))))))))))))))))))))))))))))
theorem uL_law_0 {Ln : Nat} {xs : Nat → Int32} {L : q_Lo} {st : List Value} {sh : q_Sh} {m : q_Mm} {R : q_KR} (h : BL_law_0 Ln xs L st sh m (fun pc L st sh m => q_WP (TL_law Ln xs) pc L st sh m R) R) : q_WP (TL_law Ln xs) 0 L st sh m R := q_go h
theorem uL_law_18 {Ln : Nat} {xs : Nat → Int32} {L : q_Lo} {st : List Value} {sh : q_Sh} {m : q_Mm} {R : q_KR} (h : BL_law_18 Ln xs L st sh m (fun pc L st sh m => q_WP (TL_law Ln xs) pc L st sh m R) R) : q_WP (TL_law Ln xs) 18 L st sh m R := q_go h
theorem uL_law_164 {Ln : Nat} {xs : Nat → Int32} {L : q_Lo} {st : List Value} {sh : q_Sh} {m : q_Mm} {R : q_KR} (h : BL_law_164 Ln xs L st sh m (fun pc L st sh m => q_WP (TL_law Ln xs) pc L st sh m R) R) : q_WP (TL_law Ln xs) 164 L st sh m R := q_go h
theorem uL_law_227 {Ln : Nat} {xs : Nat → Int32} {L : q_Lo} {st : List Value} {sh : q_Sh} {m : q_Mm} {R : q_KR} (h : BL_law_227 Ln xs L st sh m (fun pc L st sh m => q_WP (TL_law Ln xs) pc L st sh m R) R) : q_WP (TL_law Ln xs) 227 L st sh m R := q_go h
theorem uL_law_240 {Ln : Nat} {xs : Nat → Int32} {L : q_Lo} {st : List Value} {sh : q_Sh} {m : q_Mm} {R : q_KR} (h : BL_law_240 Ln xs L st sh m (fun pc L st sh m => q_WP (TL_law Ln xs) pc L st sh m R) R) : q_WP (TL_law Ln xs) 240 L st sh m R := q_go h
theorem uL_law_253 {Ln : Nat} {xs : Nat → Int32} {L : q_Lo} {st : List Value} {sh : q_Sh} {m : q_Mm} {R : q_KR} (h : BL_law_253 Ln xs L st sh m (fun pc L st sh m => q_WP (TL_law Ln xs) pc L st sh m R) R) : q_WP (TL_law Ln xs) 253 L st sh m R := q_go h
theorem uL_law_276 {Ln : Nat} {xs : Nat → Int32} {L : q_Lo} {st : List Value} {sh : q_Sh} {m : q_Mm} {R : q_KR} (h : BL_law_276 Ln xs L st sh m (fun pc L st sh m => q_WP (TL_law Ln xs) pc L st sh m R) R) : q_WP (TL_law Ln xs) 276 L st sh m R := q_go h
theorem uL_law_309 {Ln : Nat} {xs : Nat → Int32} {L : q_Lo} {st : List Value} {sh : q_Sh} {m : q_Mm} {R : q_KR} (h : BL_law_309 Ln xs L st sh m (fun pc L st sh m => q_WP (TL_law Ln xs) pc L st sh m R) R) : q_WP (TL_law Ln xs) 309 L st sh m R := q_go h
theorem uL_law_342 {Ln : Nat} {xs : Nat → Int32} {L : q_Lo} {st : List Value} {sh : q_Sh} {m : q_Mm} {R : q_KR} (h : BL_law_342 Ln xs L st sh m (fun pc L st sh m => q_WP (TL_law Ln xs) pc L st sh m R) R) : q_WP (TL_law Ln xs) 342 L st sh m R := q_go h
theorem uL_law_375 {Ln : Nat} {xs : Nat → Int32} {L : q_Lo} {st : List Value} {sh : q_Sh} {m : q_Mm} {R : q_KR} (h : BL_law_375 Ln xs L st sh m (fun pc L st sh m => q_WP (TL_law Ln xs) pc L st sh m R) R) : q_WP (TL_law Ln xs) 375 L st sh m R := q_go h
theorem uL_law_398 {Ln : Nat} {xs : Nat → Int32} {L : q_Lo} {st : List Value} {sh : q_Sh} {m : q_Mm} {R : q_KR} (h : BL_law_398 Ln xs L st sh m (fun pc L st sh m => q_WP (TL_law Ln xs) pc L st sh m R) R) : q_WP (TL_law Ln xs) 398 L st sh m R := q_go h
theorem uL_law_421 {Ln : Nat} {xs : Nat → Int32} {L : q_Lo} {st : List Value} {sh : q_Sh} {m : q_Mm} {R : q_KR} (h : BL_law_421 Ln xs L st sh m (fun pc L st sh m => q_WP (TL_law Ln xs) pc L st sh m R) R) : q_WP (TL_law Ln xs) 421 L st sh m R := q_go h
theorem uL_law_454 {Ln : Nat} {xs : Nat → Int32} {L : q_Lo} {st : List Value} {sh : q_Sh} {m : q_Mm} {R : q_KR} (h : BL_law_454 Ln xs L st sh m (fun pc L st sh m => q_WP (TL_law Ln xs) pc L st sh m R) R) : q_WP (TL_law Ln xs) 454 L st sh m R := q_go h
theorem uL_law_477 {Ln : Nat} {xs : Nat → Int32} {L : q_Lo} {st : List Value} {sh : q_Sh} {m : q_Mm} {R : q_KR} (h : BL_law_477 Ln xs L st sh m (fun pc L st sh m => q_WP (TL_law Ln xs) pc L st sh m R) R) : q_WP (TL_law Ln xs) 477 L st sh m R := q_go h
theorem uL_law_500 {Ln : Nat} {xs : Nat → Int32} {L : q_Lo} {st : List Value} {sh : q_Sh} {m : q_Mm} {R : q_KR} (h : BL_law_500 Ln xs L st sh m (fun pc L st sh m => q_WP (TL_law Ln xs) pc L st sh m R) R) : q_WP (TL_law Ln xs) 500 L st sh m R := q_go h
theorem uL_law_543 {Ln : Nat} {xs : Nat → Int32} {L : q_Lo} {st : List Value} {sh : q_Sh} {m : q_Mm} {R : q_KR} (h : BL_law_543 Ln xs L st sh m (fun pc L st sh m => q_WP (TL_law Ln xs) pc L st sh m R) R) : q_WP (TL_law Ln xs) 543 L st sh m R := q_go h
theorem uL_law_576 {Ln : Nat} {xs : Nat → Int32} {L : q_Lo} {st : List Value} {sh : q_Sh} {m : q_Mm} {R : q_KR} (h : BL_law_576 Ln xs L st sh m (fun pc L st sh m => q_WP (TL_law Ln xs) pc L st sh m R) R) : q_WP (TL_law Ln xs) 576 L st sh m R := q_go h
theorem uL_law_629 {Ln : Nat} {xs : Nat → Int32} {L : q_Lo} {st : List Value} {sh : q_Sh} {m : q_Mm} {R : q_KR} (h : BL_law_629 Ln xs L st sh m (fun pc L st sh m => q_WP (TL_law Ln xs) pc L st sh m R) R) : q_WP (TL_law Ln xs) 629 L st sh m R := q_go h
theorem uL_law_682 {Ln : Nat} {xs : Nat → Int32} {L : q_Lo} {st : List Value} {sh : q_Sh} {m : q_Mm} {R : q_KR} (h : BL_law_682 Ln xs L st sh m (fun pc L st sh m => q_WP (TL_law Ln xs) pc L st sh m R) R) : q_WP (TL_law Ln xs) 682 L st sh m R := q_go h
theorem uL_law_725 {Ln : Nat} {xs : Nat → Int32} {L : q_Lo} {st : List Value} {sh : q_Sh} {m : q_Mm} {R : q_KR} (h : BL_law_725 Ln xs L st sh m (fun pc L st sh m => q_WP (TL_law Ln xs) pc L st sh m R) R) : q_WP (TL_law Ln xs) 725 L st sh m R := q_go h
theorem uL_law_768 {Ln : Nat} {xs : Nat → Int32} {L : q_Lo} {st : List Value} {sh : q_Sh} {m : q_Mm} {R : q_KR} (h : BL_law_768 Ln xs L st sh m (fun pc L st sh m => q_WP (TL_law Ln xs) pc L st sh m R) R) : q_WP (TL_law Ln xs) 768 L st sh m R := q_go h
theorem uL_law_781 {Ln : Nat} {xs : Nat → Int32} {L : q_Lo} {st : List Value} {sh : q_Sh} {m : q_Mm} {R : q_KR} (h : BL_law_781 Ln xs L st sh m (fun pc L st sh m => q_WP (TL_law Ln xs) pc L st sh m R) R) : q_WP (TL_law Ln xs) 781 L st sh m R := q_go h
theorem uL_law_805 {Ln : Nat} {xs : Nat → Int32} {L : q_Lo} {st : List Value} {sh : q_Sh} {m : q_Mm} {R : q_KR} (h : BL_law_805 Ln xs L st sh m (fun pc L st sh m => q_WP (TL_law Ln xs) pc L st sh m R) R) : q_WP (TL_law Ln xs) 805 L st sh m R := q_go h
theorem uL_law_840 {Ln : Nat} {xs : Nat → Int32} {L : q_Lo} {st : List Value} {sh : q_Sh} {m : q_Mm} {R : q_KR} (h : BL_law_840 Ln xs L st sh m (fun pc L st sh m => q_WP (TL_law Ln xs) pc L st sh m R) R) : q_WP (TL_law Ln xs) 840 L st sh m R := q_go h
theorem uL_law_873 {Ln : Nat} {xs : Nat → Int32} {L : q_Lo} {st : List Value} {sh : q_Sh} {m : q_Mm} {R : q_KR} (h : BL_law_873 Ln xs L st sh m (fun pc L st sh m => q_WP (TL_law Ln xs) pc L st sh m R) R) : q_WP (TL_law Ln xs) 873 L st sh m R := q_go h
theorem uL_law_896 {Ln : Nat} {xs : Nat → Int32} {L : q_Lo} {st : List Value} {sh : q_Sh} {m : q_Mm} {R : q_KR} (h : BL_law_896 Ln xs L st sh m (fun pc L st sh m => q_WP (TL_law Ln xs) pc L st sh m R) R) : q_WP (TL_law Ln xs) 896 L st sh m R := q_go h
theorem uL_law_949 {Ln : Nat} {xs : Nat → Int32} {L : q_Lo} {st : List Value} {sh : q_Sh} {m : q_Mm} {R : q_KR} (h : BL_law_949 Ln xs L st sh m (fun pc L st sh m => q_WP (TL_law Ln xs) pc L st sh m R) R) : q_WP (TL_law Ln xs) 949 L st sh m R := q_go h
theorem uL_law_972 {Ln : Nat} {xs : Nat → Int32} {L : q_Lo} {st : List Value} {sh : q_Sh} {m : q_Mm} {R : q_KR} (h : BL_law_972 Ln xs L st sh m (fun pc L st sh m => q_WP (TL_law Ln xs) pc L st sh m R) R) : q_WP (TL_law Ln xs) 972 L st sh m R := q_go h
theorem uL_law_985 {Ln : Nat} {xs : Nat → Int32} {L : q_Lo} {st : List Value} {sh : q_Sh} {m : q_Mm} {R : q_KR} (h : BL_law_985 Ln xs L st sh m (fun pc L st sh m => q_WP (TL_law Ln xs) pc L st sh m R) R) : q_WP (TL_law Ln xs) 985 L st sh m R := q_go h
theorem uL_law_1008 {Ln : Nat} {xs : Nat → Int32} {L : q_Lo} {st : List Value} {sh : q_Sh} {m : q_Mm} {R : q_KR} (h : BL_law_1008 Ln xs L st sh m (fun pc L st sh m => q_WP (TL_law Ln xs) pc L st sh m R) R) : q_WP (TL_law Ln xs) 1008 L st sh m R := q_go h
theorem uL_law_1031 {Ln : Nat} {xs : Nat → Int32} {L : q_Lo} {st : List Value} {sh : q_Sh} {m : q_Mm} {R : q_KR} (h : BL_law_1031 Ln xs L st sh m (fun pc L st sh m => q_WP (TL_law Ln xs) pc L st sh m R) R) : q_WP (TL_law Ln xs) 1031 L st sh m R := q_go h
theorem uL_law_1054 {Ln : Nat} {xs : Nat → Int32} {L : q_Lo} {st : List Value} {sh : q_Sh} {m : q_Mm} {R : q_KR} (h : BL_law_1054 Ln xs L st sh m (fun pc L st sh m => q_WP (TL_law Ln xs) pc L st sh m R) R) : q_WP (TL_law Ln xs) 1054 L st sh m R := q_go h
theorem uL_law_1077 {Ln : Nat} {xs : Nat → Int32} {L : q_Lo} {st : List Value} {sh : q_Sh} {m : q_Mm} {R : q_KR} (h : BL_law_1077 Ln xs L st sh m (fun pc L st sh m => q_WP (TL_law Ln xs) pc L st sh m R) R) : q_WP (TL_law Ln xs) 1077 L st sh m R := q_go h
