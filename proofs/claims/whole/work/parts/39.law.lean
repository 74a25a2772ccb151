/-! The law as a transformer: its blocks, their soundness. -/
abbrev yL_law : MethodName := x
abbrev cL_law : ByteArray := code
def L_cap : Nat × Nat := (600000, 7302250)
def q_scr (X : q_CX) (Ln : Nat) (xs : Nat → Int32) : Prop := match X with
  | (_, _, _, _, s, _, _, _, _, _, _, _, _, sA, _, A, _, _, _, _) => va_X (sA 4) Ln xs s s.heap ∧ sA 4 < s.heap.size ∧ ¬ A (sA 4)
def q_LQ (X : q_CX) : Prop := match X with
  | (p, l, e, R, s, mi, args, below, meth, c, _, _, _, _, _, A, nz, _, _, Q) => R = room_1 ∧ nz = (0, 0) ∧ (∀ q : Nat, A q → s.heap.size ≤ q) ∧ ∀ (H : Heap) (pc : Nat) (ls : Array Slot), decode code pc = .ok (.ireturn, 1) → W p l e R s mi args below meth c H [] 600000 7302250 Q (F0 mi pc ls [.int 1])
def o_sld (Ln : Nat) (xs : Nat → Int32) (t : q_TT) : q_TT := fun L st sh m K R => match st with
  | .int i :: .retAddr a :: st => a = 4 ∧ vp_in i Ln ∧ t L (.int (xs i.toNatClampNeg) :: st) sh m K R
  | _ => False
theorem k_sld {X : q_CX} {y : MethodName} {cc : ByteArray} {nL : Nat} {ret : Option FieldType} {rm : Room} {Ts : List Cond} (h : q_OK X y cc nL ret rm Ts) {Ln : Nat} {xs : Nat → Int32} (hz : q_scr X Ln xs) {pc : Nat} {t : q_TT} (hd : decode cc pc = .ok (.iaload, 1)) (ht : q_SK X nL (pc + 1) t) : q_SK X nL pc (o_sld Ln xs t) := by
  intro L st sh m K R hT hK hR
  obtain ⟨p, l, e, Rm, s, mi, args, below, meth, c, D, cs, ad0, sA, sV, A, nz, mcs, Qc, Q⟩ := X
  obtain ⟨hx, hb, hml, hown, hts, hr, hlks, hRm, hKK, hA, hE, hmc, hnm⟩ := h
  unfold o_sld at hT
  split at hT
  · obtain ⟨h4, hin, hT⟩ := hT
    subst h4
    intro ad H locs ls hl hP hD hS h1 h2 h3
    exact va_sld hx hb hz.1 hz.2.1 hz.2.2 hS hin hd (ht _ _ _ _ _ _ hT hK hR ad H locs ls hl hP hD hS h1 h2 h3)
  · exact hT.elim
def o_sln (Ln : Nat) (t : q_TT) : q_TT := fun L st sh m K R => match st with
  | .retAddr a :: st => a = 4 ∧ t L (.int (nI Ln) :: st) sh m K R
  | _ => False
theorem k_sln {X : q_CX} {y : MethodName} {cc : ByteArray} {nL : Nat} {ret : Option FieldType} {rm : Room} {Ts : List Cond} (h : q_OK X y cc nL ret rm Ts) {Ln : Nat} {xs : Nat → Int32} (hz : q_scr X Ln xs) {pc : Nat} {t : q_TT} (hd : decode cc pc = .ok (.arraylength, 1)) (ht : q_SK X nL (pc + 1) t) : q_SK X nL pc (o_sln Ln t) := by
  intro L st sh m K R hT hK hR
  obtain ⟨p, l, e, Rm, s, mi, args, below, meth, c, D, cs, ad0, sA, sV, A, nz, mcs, Qc, Q⟩ := X
  obtain ⟨hx, hb, hml, hown, hts, hr, hlks, hRm, hKK, hA, hE, hmc, hnm⟩ := h
  unfold o_sln at hT
  split at hT
  · obtain ⟨h4, hT⟩ := hT
    subst h4
    intro ad H locs ls hl hP hD hS h1 h2 h3
    exact va_slen hx hb hz.1 hz.2.1 hz.2.2 hS hd (ht _ _ _ _ _ _ hT hK hR ad H locs ls hl hP hD hS h1 h2 h3)
  · exact hT.elim
def o_lret : q_TT := fun _ st _ _ _ _ => st = [.int 1]
theorem k_lret {X : q_CX} {y : MethodName} {nL : Nat} {ret : Option FieldType} {rm : Room} {Ts : List Cond} (h : q_OK X y code nL ret rm Ts) (hQ : q_LQ X) {pc : Nat} (hd : decode code pc = .ok (.ireturn, 1)) : q_SK X nL pc o_lret := by
  intro L st sh m K R hT hK hR
  obtain ⟨p, l, e, Rm, s, mi, args, below, meth, c, D, cs, ad0, sA, sV, A, nz, mcs, Qc, Q⟩ := X
  obtain ⟨q1, q2, q3, q4⟩ := hQ
  subst q1 q2
  have hT : st = [.int 1] := hT
  subst hT
  intro ad H locs ls hl hP hD hS h1 h2 h3
  have c1 : room_1.cells = 600000 := rfl
  have c2 : room_1.slots = 7302250 := rfl
  exact va_forget (fun q hq => q3 _ (hS.2.2 q hq)) (W.widen (by show sh.length - 0 ≤ 600000; have := h2.2; dsimp only at this; omega) (by show q_sl sh - 0 ≤ 7302250; have := h3.2; dsimp only at this; omega) (q4 H pc ls hd))
def BL_law_0 (Ln : Nat) (xs : Nat → Int32) : q_TT := o_new 8 [some .null, some .null, some .null, some .null, some .null, some .null, some .null, some .null, some .null, some .null, some .null] L_cap (o_dup (o_callI 8 0 (rmX8_init.cells, rmX8_init.slots) L_cap wX8_init (o_as 1 (o_new 9 [some .null, some .null, some .null, some .null, some .null, some .null, some .null, none, none, none, none, none, none, none, none, some .null, none, none, none, none, none, none, none, some .null, some .null, some .null, some .null, some .null, none, some .null, some .null, some .null, none] L_cap (o_dup (o_callI 9 0 (rmX9_init.cells, rmX9_init.slots) L_cap wX9_init (o_as 2 (o_ic 0 (o_is 3 ((o_cut 18)))))))))))
def BL_law_1083 (Ln : Nat) (xs : Nat → Int32) : q_TT := o_ic 1 (o_lret)
def BL_law_26 (Ln : Nat) (xs : Nat → Int32) : q_TT := o_al 0 (o_il 3 (o_sld Ln xs (o_ic 31 (o_iand (o_sw 0 [(o_cut 164), (o_cut 227), (o_cut 240), (o_cut 253), (o_cut 276), (o_cut 309), (o_cut 342), (o_cut 375), (o_cut 398), (o_cut 421), (o_cut 454), (o_cut 477), (o_cut 500), (o_cut 543), (o_cut 576), (o_cut 629), (o_cut 682), (o_cut 725), (o_cut 768), (o_cut 781), (o_cut 840), (o_cut 873), (o_cut 896), (o_cut 949), (o_cut 972), (o_cut 985), (o_cut 1008), (o_cut 1031), (o_cut 1054)] (o_cut 1077))))))
def BL_law_18 (Ln : Nat) (xs : Nat → Int32) : q_TT := o_il 3 (o_al 0 (o_sln Ln (o_ic 5 (o_isub (o_icgt (BL_law_1083 Ln xs) (BL_law_26 Ln xs))))))
def BL_law_225 (Ln : Nat) (xs : Nat → Int32) : q_TT := o_ic 0 (o_lret)
def BL_law_164 (Ln : Nat) (xs : Nat → Int32) : q_TT := o_al 1 (o_al 0 (o_il 3 (o_ic 1 (o_iadd (o_sld Ln xs (o_al 0 (o_il 3 (o_ic 2 (o_iadd (o_sld Ln xs (o_i2l (o_ic 32 (o_lshl (o_al 0 (o_il 3 (o_ic 3 (o_iadd (o_sld Ln xs (o_i2l (o_lc 4294967295 (o_land (o_lor (o_callV 8 2 wX8_feed (o_al 2 (o_al 0 (o_il 3 (o_ic 1 (o_iadd (o_sld Ln xs (o_al 0 (o_il 3 (o_ic 2 (o_iadd (o_sld Ln xs (o_i2l (o_ic 32 (o_lshl (o_al 0 (o_il 3 (o_ic 3 (o_iadd (o_sld Ln xs (o_i2l (o_lc 4294967295 (o_land (o_lor (o_callV 9 2 wX9_feed (o_iceq (o_cut 1077) (BL_law_225 Ln xs)))))))))))))))))))))))))))))))))))))))))))))))))
def BL_law_238 (Ln : Nat) (xs : Nat → Int32) : q_TT := o_ic 0 (o_lret)
def BL_law_227 (Ln : Nat) (xs : Nat → Int32) : q_TT := o_al 1 (o_callV 8 0 wX8_rock (o_al 2 (o_callV 9 0 wX9_rock (o_iceq (o_cut 1077) (BL_law_238 Ln xs)))))
def BL_law_251 (Ln : Nat) (xs : Nat → Int32) : q_TT := o_ic 0 (o_lret)
def BL_law_240 (Ln : Nat) (xs : Nat → Int32) : q_TT := o_al 1 (o_callV 8 0 wX8_fault (o_al 2 (o_callV 9 0 wX9_fault (o_iceq (o_cut 1077) (BL_law_251 Ln xs)))))
def BL_law_274 (Ln : Nat) (xs : Nat → Int32) : q_TT := o_ic 0 (o_lret)
def BL_law_253 (Ln : Nat) (xs : Nat → Int32) : q_TT := o_al 1 (o_al 0 (o_il 3 (o_ic 1 (o_iadd (o_sld Ln xs (o_callV 8 1 wX8_told (o_al 2 (o_al 0 (o_il 3 (o_ic 1 (o_iadd (o_sld Ln xs (o_callV 9 1 wX9_told (o_iceq (o_cut 1077) (BL_law_274 Ln xs)))))))))))))))
def BL_law_307 (Ln : Nat) (xs : Nat → Int32) : q_TT := o_ic 0 (o_lret)
def BL_law_276 (Ln : Nat) (xs : Nat → Int32) : q_TT := o_al 1 (o_al 0 (o_il 3 (o_ic 1 (o_iadd (o_sld Ln xs (o_al 0 (o_il 3 (o_ic 2 (o_iadd (o_sld Ln xs (o_callV 8 2 wX8_turning (o_al 2 (o_al 0 (o_il 3 (o_ic 1 (o_iadd (o_sld Ln xs (o_al 0 (o_il 3 (o_ic 2 (o_iadd (o_sld Ln xs (o_callV 9 2 wX9_turning (o_iceq (o_cut 1077) (BL_law_307 Ln xs)))))))))))))))))))))))))
def BL_law_340 (Ln : Nat) (xs : Nat → Int32) : q_TT := o_ic 0 (o_lret)
def BL_law_309 (Ln : Nat) (xs : Nat → Int32) : q_TT := o_al 1 (o_al 0 (o_il 3 (o_ic 1 (o_iadd (o_sld Ln xs (o_al 0 (o_il 3 (o_ic 2 (o_iadd (o_sld Ln xs (o_callV 8 2 wX8_place (o_al 2 (o_al 0 (o_il 3 (o_ic 1 (o_iadd (o_sld Ln xs (o_al 0 (o_il 3 (o_ic 2 (o_iadd (o_sld Ln xs (o_callV 9 2 wX9_place (o_iceq (o_cut 1077) (BL_law_340 Ln xs)))))))))))))))))))))))))
def BL_law_373 (Ln : Nat) (xs : Nat → Int32) : q_TT := o_ic 0 (o_lret)
def BL_law_342 (Ln : Nat) (xs : Nat → Int32) : q_TT := o_al 1 (o_al 0 (o_il 3 (o_ic 1 (o_iadd (o_sld Ln xs (o_al 0 (o_il 3 (o_ic 2 (o_iadd (o_sld Ln xs (o_callV 8 2 wX8_height (o_al 2 (o_al 0 (o_il 3 (o_ic 1 (o_iadd (o_sld Ln xs (o_al 0 (o_il 3 (o_ic 2 (o_iadd (o_sld Ln xs (o_callV 9 2 wX9_height (o_iceq (o_cut 1077) (BL_law_373 Ln xs)))))))))))))))))))))))))
def BL_law_396 (Ln : Nat) (xs : Nat → Int32) : q_TT := o_ic 0 (o_lret)
def BL_law_375 (Ln : Nat) (xs : Nat → Int32) : q_TT := o_al 1 (o_al 0 (o_il 3 (o_ic 1 (o_iadd (o_sld Ln xs (o_callV 8 1 wX8_stay (o_al 2 (o_al 0 (o_il 3 (o_ic 1 (o_iadd (o_sld Ln xs (o_callV 9 1 wX9_stay (o_iceq (o_cut 1077) (BL_law_396 Ln xs)))))))))))))))
def BL_law_419 (Ln : Nat) (xs : Nat → Int32) : q_TT := o_ic 0 (o_lret)
def BL_law_398 (Ln : Nat) (xs : Nat → Int32) : q_TT := o_al 1 (o_al 0 (o_il 3 (o_ic 1 (o_iadd (o_sld Ln xs (o_callV 8 1 wX8_go (o_al 2 (o_al 0 (o_il 3 (o_ic 1 (o_iadd (o_sld Ln xs (o_callV 9 1 wX9_go (o_iceq (o_cut 1077) (BL_law_419 Ln xs)))))))))))))))
def BL_law_452 (Ln : Nat) (xs : Nat → Int32) : q_TT := o_ic 0 (o_lret)
def BL_law_421 (Ln : Nat) (xs : Nat → Int32) : q_TT := o_al 1 (o_al 0 (o_il 3 (o_ic 1 (o_iadd (o_sld Ln xs (o_al 0 (o_il 3 (o_ic 2 (o_iadd (o_sld Ln xs (o_callV 8 2 wX8_knock (o_al 2 (o_al 0 (o_il 3 (o_ic 1 (o_iadd (o_sld Ln xs (o_al 0 (o_il 3 (o_ic 2 (o_iadd (o_sld Ln xs (o_callV 9 2 wX9_knock (o_iceq (o_cut 1077) (BL_law_452 Ln xs)))))))))))))))))))))))))
def BL_law_475 (Ln : Nat) (xs : Nat → Int32) : q_TT := o_ic 0 (o_lret)
def BL_law_454 (Ln : Nat) (xs : Nat → Int32) : q_TT := o_al 1 (o_al 0 (o_il 3 (o_ic 1 (o_iadd (o_sld Ln xs (o_callV 8 1 wX8_push (o_al 2 (o_al 0 (o_il 3 (o_ic 1 (o_iadd (o_sld Ln xs (o_callV 9 1 wX9_push (o_iceq (o_cut 1077) (BL_law_475 Ln xs)))))))))))))))
def BL_law_498 (Ln : Nat) (xs : Nat → Int32) : q_TT := o_ic 0 (o_lret)
def BL_law_477 (Ln : Nat) (xs : Nat → Int32) : q_TT := o_al 1 (o_al 0 (o_il 3 (o_ic 1 (o_iadd (o_sld Ln xs (o_callV 8 1 wX8_drift (o_al 2 (o_al 0 (o_il 3 (o_ic 1 (o_iadd (o_sld Ln xs (o_callV 9 1 wX9_drift (o_iceq (o_cut 1077) (BL_law_498 Ln xs)))))))))))))))
def BL_law_541 (Ln : Nat) (xs : Nat → Int32) : q_TT := o_ic 0 (o_lret)
def BL_law_500 (Ln : Nat) (xs : Nat → Int32) : q_TT := o_al 1 (o_al 0 (o_il 3 (o_ic 1 (o_iadd (o_sld Ln xs (o_al 0 (o_il 3 (o_ic 2 (o_iadd (o_sld Ln xs (o_al 0 (o_il 3 (o_ic 3 (o_iadd (o_sld Ln xs (o_callV 8 3 wX8_next (o_al 2 (o_al 0 (o_il 3 (o_ic 1 (o_iadd (o_sld Ln xs (o_al 0 (o_il 3 (o_ic 2 (o_iadd (o_sld Ln xs (o_al 0 (o_il 3 (o_ic 3 (o_iadd (o_sld Ln xs (o_callV 9 3 wX9_next (o_iceq (o_cut 1077) (BL_law_541 Ln xs)))))))))))))))))))))))))))))))))))
def BL_law_574 (Ln : Nat) (xs : Nat → Int32) : q_TT := o_ic 0 (o_lret)
def BL_law_543 (Ln : Nat) (xs : Nat → Int32) : q_TT := o_al 1 (o_al 0 (o_il 3 (o_ic 1 (o_iadd (o_sld Ln xs (o_al 0 (o_il 3 (o_ic 2 (o_iadd (o_sld Ln xs (o_callV 8 2 wX8_share (o_al 2 (o_al 0 (o_il 3 (o_ic 1 (o_iadd (o_sld Ln xs (o_al 0 (o_il 3 (o_ic 2 (o_iadd (o_sld Ln xs (o_callV 9 2 wX9_share (o_iceq (o_cut 1077) (BL_law_574 Ln xs)))))))))))))))))))))))))
def BL_law_627 (Ln : Nat) (xs : Nat → Int32) : q_TT := o_ic 0 (o_lret)
def BL_law_576 (Ln : Nat) (xs : Nat → Int32) : q_TT := o_al 1 (o_al 0 (o_il 3 (o_ic 1 (o_iadd (o_sld Ln xs (o_al 0 (o_il 3 (o_ic 2 (o_iadd (o_sld Ln xs (o_al 0 (o_il 3 (o_ic 3 (o_iadd (o_sld Ln xs (o_al 0 (o_il 3 (o_ic 4 (o_iadd (o_sld Ln xs (o_callV 8 4 wX8_stand (o_al 2 (o_al 0 (o_il 3 (o_ic 1 (o_iadd (o_sld Ln xs (o_al 0 (o_il 3 (o_ic 2 (o_iadd (o_sld Ln xs (o_al 0 (o_il 3 (o_ic 3 (o_iadd (o_sld Ln xs (o_al 0 (o_il 3 (o_ic 4 (o_iadd (o_sld Ln xs (o_callV 9 4 wX9_stand (o_iceq (o_cut 1077) (BL_law_627 Ln xs)))))))))))))))))))))))))))))))))))))))))))))
def BL_law_680 (Ln : Nat) (xs : Nat → Int32) : q_TT := o_ic 0 (o_lret)
def BL_law_629 (Ln : Nat) (xs : Nat → Int32) : q_TT := o_al 1 (o_al 0 (o_il 3 (o_ic 1 (o_iadd (o_sld Ln xs (o_al 0 (o_il 3 (o_ic 2 (o_iadd (o_sld Ln xs (o_al 0 (o_il 3 (o_ic 3 (o_iadd (o_sld Ln xs (o_al 0 (o_il 3 (o_ic 4 (o_iadd (o_sld Ln xs (o_callV 8 4 wX8_way (o_al 2 (o_al 0 (o_il 3 (o_ic 1 (o_iadd (o_sld Ln xs (o_al 0 (o_il 3 (o_ic 2 (o_iadd (o_sld Ln xs (o_al 0 (o_il 3 (o_ic 3 (o_iadd (o_sld Ln xs (o_al 0 (o_il 3 (o_ic 4 (o_iadd (o_sld Ln xs (o_callV 9 4 wX9_way (o_iceq (o_cut 1077) (BL_law_680 Ln xs)))))))))))))))))))))))))))))))))))))))))))))
def BL_law_723 (Ln : Nat) (xs : Nat → Int32) : q_TT := o_ic 0 (o_lret)
def BL_law_682 (Ln : Nat) (xs : Nat → Int32) : q_TT := o_al 1 (o_al 0 (o_il 3 (o_ic 1 (o_iadd (o_sld Ln xs (o_al 0 (o_il 3 (o_ic 2 (o_iadd (o_sld Ln xs (o_al 0 (o_il 3 (o_ic 3 (o_iadd (o_sld Ln xs (o_callV 8 3 wX8_mail (o_al 2 (o_al 0 (o_il 3 (o_ic 1 (o_iadd (o_sld Ln xs (o_al 0 (o_il 3 (o_ic 2 (o_iadd (o_sld Ln xs (o_al 0 (o_il 3 (o_ic 3 (o_iadd (o_sld Ln xs (o_callV 9 3 wX9_mail (o_iceq (o_cut 1077) (BL_law_723 Ln xs)))))))))))))))))))))))))))))))))))
def BL_law_766 (Ln : Nat) (xs : Nat → Int32) : q_TT := o_ic 0 (o_lret)
def BL_law_725 (Ln : Nat) (xs : Nat → Int32) : q_TT := o_al 1 (o_al 0 (o_il 3 (o_ic 1 (o_iadd (o_sld Ln xs (o_al 0 (o_il 3 (o_ic 2 (o_iadd (o_sld Ln xs (o_al 0 (o_il 3 (o_ic 3 (o_iadd (o_sld Ln xs (o_callV 8 3 wX8_cross (o_al 2 (o_al 0 (o_il 3 (o_ic 1 (o_iadd (o_sld Ln xs (o_al 0 (o_il 3 (o_ic 2 (o_iadd (o_sld Ln xs (o_al 0 (o_il 3 (o_ic 3 (o_iadd (o_sld Ln xs (o_callV 9 3 wX9_cross (o_iceq (o_cut 1077) (BL_law_766 Ln xs)))))))))))))))))))))))))))))))))))
def BL_law_779 (Ln : Nat) (xs : Nat → Int32) : q_TT := o_ic 0 (o_lret)
def BL_law_768 (Ln : Nat) (xs : Nat → Int32) : q_TT := o_al 1 (o_callV 8 0 wX8_store (o_al 2 (o_callV 9 0 wX9_store (o_iceq (o_cut 1077) (BL_law_779 Ln xs)))))
def BL_law_804 (Ln : Nat) (xs : Nat → Int32) : q_TT := o_ic 0 ((o_cut 805))
def BL_law_800 (Ln : Nat) (xs : Nat → Int32) : q_TT := o_ic 1 ((o_cut 805))
def BL_law_781 (Ln : Nat) (xs : Nat → Int32) : q_TT := o_al 1 (o_al 0 (o_il 3 (o_ic 1 (o_iadd (o_sld Ln xs (o_al 0 (o_il 3 (o_ic 2 (o_iadd (o_sld Ln xs (o_al 0 (o_il 3 (o_ic 3 (o_iadd (o_sld Ln xs (o_ifeq (BL_law_804 Ln xs) (BL_law_800 Ln xs)))))))))))))))))
def BL_law_838 (Ln : Nat) (xs : Nat → Int32) : q_TT := o_ic 0 (o_lret)
def BL_law_832 (Ln : Nat) (xs : Nat → Int32) : q_TT := o_callV 9 3 wX9_see (o_iceq (o_cut 1077) (BL_law_838 Ln xs))
def BL_law_831 (Ln : Nat) (xs : Nat → Int32) : q_TT := o_ic 0 ((BL_law_832 Ln xs))
def BL_law_827 (Ln : Nat) (xs : Nat → Int32) : q_TT := o_ic 1 ((BL_law_832 Ln xs))
def BL_law_805 (Ln : Nat) (xs : Nat → Int32) : q_TT := o_callV 8 3 wX8_see (o_al 2 (o_al 0 (o_il 3 (o_ic 1 (o_iadd (o_sld Ln xs (o_al 0 (o_il 3 (o_ic 2 (o_iadd (o_sld Ln xs (o_al 0 (o_il 3 (o_ic 3 (o_iadd (o_sld Ln xs (o_ifeq (BL_law_831 Ln xs) (BL_law_827 Ln xs))))))))))))))))))
def BL_law_871 (Ln : Nat) (xs : Nat → Int32) : q_TT := o_ic 0 (o_lret)
def BL_law_840 (Ln : Nat) (xs : Nat → Int32) : q_TT := o_al 1 (o_al 0 (o_il 3 (o_ic 1 (o_iadd (o_sld Ln xs (o_al 0 (o_il 3 (o_ic 2 (o_iadd (o_sld Ln xs (o_callV 8 2 wX8_fits (o_al 2 (o_al 0 (o_il 3 (o_ic 1 (o_iadd (o_sld Ln xs (o_al 0 (o_il 3 (o_ic 2 (o_iadd (o_sld Ln xs (o_callV 9 2 wX9_fits (o_iceq (o_cut 1077) (BL_law_871 Ln xs)))))))))))))))))))))))))
def BL_law_894 (Ln : Nat) (xs : Nat → Int32) : q_TT := o_ic 0 (o_lret)
def BL_law_873 (Ln : Nat) (xs : Nat → Int32) : q_TT := o_al 1 (o_al 0 (o_il 3 (o_ic 1 (o_iadd (o_sld Ln xs (o_callV 8 1 wX8_look (o_al 2 (o_al 0 (o_il 3 (o_ic 1 (o_iadd (o_sld Ln xs (o_callV 9 1 wX9_look (o_iceq (o_cut 1077) (BL_law_894 Ln xs)))))))))))))))
def BL_law_947 (Ln : Nat) (xs : Nat → Int32) : q_TT := o_ic 0 (o_lret)
def BL_law_896 (Ln : Nat) (xs : Nat → Int32) : q_TT := o_al 1 (o_al 0 (o_il 3 (o_ic 1 (o_iadd (o_sld Ln xs (o_al 0 (o_il 3 (o_ic 2 (o_iadd (o_sld Ln xs (o_al 0 (o_il 3 (o_ic 3 (o_iadd (o_sld Ln xs (o_al 0 (o_il 3 (o_ic 4 (o_iadd (o_sld Ln xs (o_callV 8 4 wX8_mend (o_al 2 (o_al 0 (o_il 3 (o_ic 1 (o_iadd (o_sld Ln xs (o_al 0 (o_il 3 (o_ic 2 (o_iadd (o_sld Ln xs (o_al 0 (o_il 3 (o_ic 3 (o_iadd (o_sld Ln xs (o_al 0 (o_il 3 (o_ic 4 (o_iadd (o_sld Ln xs (o_callV 9 4 wX9_mend (o_iceq (o_cut 1077) (BL_law_947 Ln xs)))))))))))))))))))))))))))))))))))))))))))))
def BL_law_970 (Ln : Nat) (xs : Nat → Int32) : q_TT := o_ic 0 (o_lret)
def BL_law_949 (Ln : Nat) (xs : Nat → Int32) : q_TT := o_al 1 (o_al 0 (o_il 3 (o_ic 1 (o_iadd (o_sld Ln xs (o_callV 8 1 wX8_write (o_al 2 (o_al 0 (o_il 3 (o_ic 1 (o_iadd (o_sld Ln xs (o_callV 9 1 wX9_write (o_iceq (o_cut 1077) (BL_law_970 Ln xs)))))))))))))))
def BL_law_983 (Ln : Nat) (xs : Nat → Int32) : q_TT := o_ic 0 (o_lret)
def BL_law_972 (Ln : Nat) (xs : Nat → Int32) : q_TT := o_al 1 (o_callV 8 0 wX8_tear (o_al 2 (o_callV 9 0 wX9_tear (o_iceq (o_cut 1077) (BL_law_983 Ln xs)))))
def BL_law_1006 (Ln : Nat) (xs : Nat → Int32) : q_TT := o_ic 0 (o_lret)
def BL_law_985 (Ln : Nat) (xs : Nat → Int32) : q_TT := o_al 1 (o_al 0 (o_il 3 (o_ic 1 (o_iadd (o_sld Ln xs (o_callV 8 1 wX8_judge (o_al 2 (o_al 0 (o_il 3 (o_ic 1 (o_iadd (o_sld Ln xs (o_callV 9 1 wX9_judge (o_iceq (o_cut 1077) (BL_law_1006 Ln xs)))))))))))))))
def BL_law_1029 (Ln : Nat) (xs : Nat → Int32) : q_TT := o_ic 0 (o_lret)
def BL_law_1008 (Ln : Nat) (xs : Nat → Int32) : q_TT := o_al 1 (o_al 0 (o_il 3 (o_ic 1 (o_iadd (o_sld Ln xs (o_callV 8 1 wX8_seed (o_al 2 (o_al 0 (o_il 3 (o_ic 1 (o_iadd (o_sld Ln xs (o_callV 9 1 wX9_seed (o_iceq (o_cut 1077) (BL_law_1029 Ln xs)))))))))))))))
def BL_law_1052 (Ln : Nat) (xs : Nat → Int32) : q_TT := o_ic 0 (o_lret)
def BL_law_1031 (Ln : Nat) (xs : Nat → Int32) : q_TT := o_al 1 (o_al 0 (o_il 3 (o_ic 1 (o_iadd (o_sld Ln xs (o_callV 8 1 wX8_keep (o_al 2 (o_al 0 (o_il 3 (o_ic 1 (o_iadd (o_sld Ln xs (o_callV 9 1 wX9_keep (o_iceq (o_cut 1077) (BL_law_1052 Ln xs)))))))))))))))
def BL_law_1075 (Ln : Nat) (xs : Nat → Int32) : q_TT := o_ic 0 (o_lret)
def BL_law_1054 (Ln : Nat) (xs : Nat → Int32) : q_TT := o_al 1 (o_al 0 (o_il 3 (o_ic 1 (o_iadd (o_sld Ln xs (o_callV 8 1 wX8_goBack (o_al 2 (o_al 0 (o_il 3 (o_ic 1 (o_iadd (o_sld Ln xs (o_callV 9 1 wX9_goBack (o_iceq (o_cut 1077) (BL_law_1075 Ln xs)))))))))))))))
def BL_law_1077 (Ln : Nat) (xs : Nat → Int32) : q_TT := o_inc 3 5 ((o_cut 18))
def TL_law (Ln : Nat) (xs : Nat → Int32) : Nat → q_TT := fun pc => if pc = 0 then BL_law_0 Ln xs else if pc = 18 then BL_law_18 Ln xs else if pc = 164 then BL_law_164 Ln xs else if pc = 227 then BL_law_227 Ln xs else if pc = 240 then BL_law_240 Ln xs else if pc = 253 then BL_law_253 Ln xs else if pc = 276 then BL_law_276 Ln xs else if pc = 309 then BL_law_309 Ln xs else if pc = 342 then BL_law_342 Ln xs else if pc = 375 then BL_law_375 Ln xs else if pc = 398 then BL_law_398 Ln xs else if pc = 421 then BL_law_421 Ln xs else if pc = 454 then BL_law_454 Ln xs else if pc = 477 then BL_law_477 Ln xs else if pc = 500 then BL_law_500 Ln xs else if pc = 543 then BL_law_543 Ln xs else if pc = 576 then BL_law_576 Ln xs else if pc = 629 then BL_law_629 Ln xs else if pc = 682 then BL_law_682 Ln xs else if pc = 725 then BL_law_725 Ln xs else if pc = 768 then BL_law_768 Ln xs else if pc = 781 then BL_law_781 Ln xs else if pc = 805 then BL_law_805 Ln xs else if pc = 840 then BL_law_840 Ln xs else if pc = 873 then BL_law_873 Ln xs else if pc = 896 then BL_law_896 Ln xs else if pc = 949 then BL_law_949 Ln xs else if pc = 972 then BL_law_972 Ln xs else if pc = 985 then BL_law_985 Ln xs else if pc = 1008 then BL_law_1008 Ln xs else if pc = 1031 then BL_law_1031 Ln xs else if pc = 1054 then BL_law_1054 Ln xs else if pc = 1077 then BL_law_1077 Ln xs else o_no
abbrev dlL_law0 : List (Nat × (Instr × Nat)) := [(0, .new 7, 3), (3, .dup, 1), (4, .invokespecial 9, 3), (7, .astore_n 1, 1), (8, .new 10, 3), (11, .dup, 1), (12, .invokespecial 12, 3), (15, .astore_n 2, 1), (16, .iconst 0, 1), (17, .istore_n 3, 1), (18, .iload_n 3, 1), (19, .aload_n 0, 1), (20, .arraylength, 1), (21, .iconst 5, 1), (22, .isub, 1), (23, .if_icmp .gt 1060, 3), (26, .aload_n 0, 1), (27, .iload_n 3, 1), (28, .iaload, 1), (29, .bipush 31, 2), (31, .iand, 1), (164, .aload_n 1, 1), (165, .aload_n 0, 1), (166, .iload_n 3, 1), (167, .iconst 1, 1), (168, .iadd, 1), (169, .iaload, 1), (170, .aload_n 0, 1), (171, .iload_n 3, 1), (172, .iconst 2, 1), (173, .iadd, 1), (174, .iaload, 1), (175, .i2l, 1), (176, .bipush 32, 2), (178, .lshl, 1), (179, .aload_n 0, 1), (180, .iload_n 3, 1), (181, .iconst 3, 1), (182, .iadd, 1), (183, .iaload, 1)]
theorem ddL_law0 : ∀ q ∈ dlL_law0, decode cL_law q.1 = .ok q.2 := by decide +kernel
abbrev dlL_law1 : List (Nat × (Instr × Nat)) := [(184, .i2l, 1), (185, .ldc2_w 13, 3), (188, .land, 1), (189, .lor, 1), (190, .invokevirtual 15, 3), (193, .aload_n 2, 1), (194, .aload_n 0, 1), (195, .iload_n 3, 1), (196, .iconst 1, 1), (197, .iadd, 1), (198, .iaload, 1), (199, .aload_n 0, 1), (200, .iload_n 3, 1), (201, .iconst 2, 1), (202, .iadd, 1), (203, .iaload, 1), (204, .i2l, 1), (205, .bipush 32, 2), (207, .lshl, 1), (208, .aload_n 0, 1), (209, .iload_n 3, 1), (210, .iconst 3, 1), (211, .iadd, 1), (212, .iaload, 1), (213, .i2l, 1), (214, .ldc2_w 13, 3), (217, .land, 1), (218, .lor, 1), (219, .invokevirtual 19, 3), (222, .if_icmp .eq 855, 3), (225, .iconst 0, 1), (226, .ireturn, 1), (227, .aload_n 1, 1), (228, .invokevirtual 20, 3), (231, .aload_n 2, 1), (232, .invokevirtual 24, 3), (235, .if_icmp .eq 842, 3), (238, .iconst 0, 1), (239, .ireturn, 1), (240, .aload_n 1, 1)]
theorem ddL_law1 : ∀ q ∈ dlL_law1, decode cL_law q.1 = .ok q.2 := by decide +kernel
abbrev dlL_law2 : List (Nat × (Instr × Nat)) := [(241, .invokevirtual 25, 3), (244, .aload_n 2, 1), (245, .invokevirtual 28, 3), (248, .if_icmp .eq 829, 3), (251, .iconst 0, 1), (252, .ireturn, 1), (253, .aload_n 1, 1), (254, .aload_n 0, 1), (255, .iload_n 3, 1), (256, .iconst 1, 1), (257, .iadd, 1), (258, .iaload, 1), (259, .invokevirtual 29, 3), (262, .aload_n 2, 1), (263, .aload_n 0, 1), (264, .iload_n 3, 1), (265, .iconst 1, 1), (266, .iadd, 1), (267, .iaload, 1), (268, .invokevirtual 33, 3), (271, .if_icmp .eq 806, 3), (274, .iconst 0, 1), (275, .ireturn, 1), (276, .aload_n 1, 1), (277, .aload_n 0, 1), (278, .iload_n 3, 1), (279, .iconst 1, 1), (280, .iadd, 1), (281, .iaload, 1), (282, .aload_n 0, 1), (283, .iload_n 3, 1), (284, .iconst 2, 1), (285, .iadd, 1), (286, .iaload, 1), (287, .invokevirtual 34, 3), (290, .aload_n 2, 1), (291, .aload_n 0, 1), (292, .iload_n 3, 1), (293, .iconst 1, 1), (294, .iadd, 1)]
theorem ddL_law2 : ∀ q ∈ dlL_law2, decode cL_law q.1 = .ok q.2 := by decide +kernel
abbrev dlL_law3 : List (Nat × (Instr × Nat)) := [(295, .iaload, 1), (296, .aload_n 0, 1), (297, .iload_n 3, 1), (298, .iconst 2, 1), (299, .iadd, 1), (300, .iaload, 1), (301, .invokevirtual 38, 3), (304, .if_icmp .eq 773, 3), (307, .iconst 0, 1), (308, .ireturn, 1), (309, .aload_n 1, 1), (310, .aload_n 0, 1), (311, .iload_n 3, 1), (312, .iconst 1, 1), (313, .iadd, 1), (314, .iaload, 1), (315, .aload_n 0, 1), (316, .iload_n 3, 1), (317, .iconst 2, 1), (318, .iadd, 1), (319, .iaload, 1), (320, .invokevirtual 39, 3), (323, .aload_n 2, 1), (324, .aload_n 0, 1), (325, .iload_n 3, 1), (326, .iconst 1, 1), (327, .iadd, 1), (328, .iaload, 1), (329, .aload_n 0, 1), (330, .iload_n 3, 1), (331, .iconst 2, 1), (332, .iadd, 1), (333, .iaload, 1), (334, .invokevirtual 42, 3), (337, .if_icmp .eq 740, 3), (340, .iconst 0, 1), (341, .ireturn, 1), (342, .aload_n 1, 1), (343, .aload_n 0, 1), (344, .iload_n 3, 1)]
theorem ddL_law3 : ∀ q ∈ dlL_law3, decode cL_law q.1 = .ok q.2 := by decide +kernel
abbrev dlL_law4 : List (Nat × (Instr × Nat)) := [(345, .iconst 1, 1), (346, .iadd, 1), (347, .iaload, 1), (348, .aload_n 0, 1), (349, .iload_n 3, 1), (350, .iconst 2, 1), (351, .iadd, 1), (352, .iaload, 1), (353, .invokevirtual 43, 3), (356, .aload_n 2, 1), (357, .aload_n 0, 1), (358, .iload_n 3, 1), (359, .iconst 1, 1), (360, .iadd, 1), (361, .iaload, 1), (362, .aload_n 0, 1), (363, .iload_n 3, 1), (364, .iconst 2, 1), (365, .iadd, 1), (366, .iaload, 1), (367, .invokevirtual 46, 3), (370, .if_icmp .eq 707, 3), (373, .iconst 0, 1), (374, .ireturn, 1), (375, .aload_n 1, 1), (376, .aload_n 0, 1), (377, .iload_n 3, 1), (378, .iconst 1, 1), (379, .iadd, 1), (380, .iaload, 1), (381, .invokevirtual 47, 3), (384, .aload_n 2, 1), (385, .aload_n 0, 1), (386, .iload_n 3, 1), (387, .iconst 1, 1), (388, .iadd, 1), (389, .iaload, 1), (390, .invokevirtual 50, 3), (393, .if_icmp .eq 684, 3), (396, .iconst 0, 1)]
theorem ddL_law4 : ∀ q ∈ dlL_law4, decode cL_law q.1 = .ok q.2 := by decide +kernel
abbrev dlL_law5 : List (Nat × (Instr × Nat)) := [(397, .ireturn, 1), (398, .aload_n 1, 1), (399, .aload_n 0, 1), (400, .iload_n 3, 1), (401, .iconst 1, 1), (402, .iadd, 1), (403, .iaload, 1), (404, .invokevirtual 51, 3), (407, .aload_n 2, 1), (408, .aload_n 0, 1), (409, .iload_n 3, 1), (410, .iconst 1, 1), (411, .iadd, 1), (412, .iaload, 1), (413, .invokevirtual 54, 3), (416, .if_icmp .eq 661, 3), (419, .iconst 0, 1), (420, .ireturn, 1), (421, .aload_n 1, 1), (422, .aload_n 0, 1), (423, .iload_n 3, 1), (424, .iconst 1, 1), (425, .iadd, 1), (426, .iaload, 1), (427, .aload_n 0, 1), (428, .iload_n 3, 1), (429, .iconst 2, 1), (430, .iadd, 1), (431, .iaload, 1), (432, .invokevirtual 55, 3), (435, .aload_n 2, 1), (436, .aload_n 0, 1), (437, .iload_n 3, 1), (438, .iconst 1, 1), (439, .iadd, 1), (440, .iaload, 1), (441, .aload_n 0, 1), (442, .iload_n 3, 1), (443, .iconst 2, 1), (444, .iadd, 1)]
theorem ddL_law5 : ∀ q ∈ dlL_law5, decode cL_law q.1 = .ok q.2 := by decide +kernel
abbrev dlL_law6 : List (Nat × (Instr × Nat)) := [(445, .iaload, 1), (446, .invokevirtual 58, 3), (449, .if_icmp .eq 628, 3), (452, .iconst 0, 1), (453, .ireturn, 1), (454, .aload_n 1, 1), (455, .aload_n 0, 1), (456, .iload_n 3, 1), (457, .iconst 1, 1), (458, .iadd, 1), (459, .iaload, 1), (460, .invokevirtual 59, 3), (463, .aload_n 2, 1), (464, .aload_n 0, 1), (465, .iload_n 3, 1), (466, .iconst 1, 1), (467, .iadd, 1), (468, .iaload, 1), (469, .invokevirtual 62, 3), (472, .if_icmp .eq 605, 3), (475, .iconst 0, 1), (476, .ireturn, 1), (477, .aload_n 1, 1), (478, .aload_n 0, 1), (479, .iload_n 3, 1), (480, .iconst 1, 1), (481, .iadd, 1), (482, .iaload, 1), (483, .invokevirtual 63, 3), (486, .aload_n 2, 1), (487, .aload_n 0, 1), (488, .iload_n 3, 1), (489, .iconst 1, 1), (490, .iadd, 1), (491, .iaload, 1), (492, .invokevirtual 66, 3), (495, .if_icmp .eq 582, 3), (498, .iconst 0, 1), (499, .ireturn, 1), (500, .aload_n 1, 1)]
theorem ddL_law6 : ∀ q ∈ dlL_law6, decode cL_law q.1 = .ok q.2 := by decide +kernel
abbrev dlL_law7 : List (Nat × (Instr × Nat)) := [(501, .aload_n 0, 1), (502, .iload_n 3, 1), (503, .iconst 1, 1), (504, .iadd, 1), (505, .iaload, 1), (506, .aload_n 0, 1), (507, .iload_n 3, 1), (508, .iconst 2, 1), (509, .iadd, 1), (510, .iaload, 1), (511, .aload_n 0, 1), (512, .iload_n 3, 1), (513, .iconst 3, 1), (514, .iadd, 1), (515, .iaload, 1), (516, .invokevirtual 67, 3), (519, .aload_n 2, 1), (520, .aload_n 0, 1), (521, .iload_n 3, 1), (522, .iconst 1, 1), (523, .iadd, 1), (524, .iaload, 1), (525, .aload_n 0, 1), (526, .iload_n 3, 1), (527, .iconst 2, 1), (528, .iadd, 1), (529, .iaload, 1), (530, .aload_n 0, 1), (531, .iload_n 3, 1), (532, .iconst 3, 1), (533, .iadd, 1), (534, .iaload, 1), (535, .invokevirtual 71, 3), (538, .if_icmp .eq 539, 3), (541, .iconst 0, 1), (542, .ireturn, 1), (543, .aload_n 1, 1), (544, .aload_n 0, 1), (545, .iload_n 3, 1), (546, .iconst 1, 1)]
theorem ddL_law7 : ∀ q ∈ dlL_law7, decode cL_law q.1 = .ok q.2 := by decide +kernel
abbrev dlL_law8 : List (Nat × (Instr × Nat)) := [(547, .iadd, 1), (548, .iaload, 1), (549, .aload_n 0, 1), (550, .iload_n 3, 1), (551, .iconst 2, 1), (552, .iadd, 1), (553, .iaload, 1), (554, .invokevirtual 72, 3), (557, .aload_n 2, 1), (558, .aload_n 0, 1), (559, .iload_n 3, 1), (560, .iconst 1, 1), (561, .iadd, 1), (562, .iaload, 1), (563, .aload_n 0, 1), (564, .iload_n 3, 1), (565, .iconst 2, 1), (566, .iadd, 1), (567, .iaload, 1), (568, .invokevirtual 75, 3), (571, .if_icmp .eq 506, 3), (574, .iconst 0, 1), (575, .ireturn, 1), (576, .aload_n 1, 1), (577, .aload_n 0, 1), (578, .iload_n 3, 1), (579, .iconst 1, 1), (580, .iadd, 1), (581, .iaload, 1), (582, .aload_n 0, 1), (583, .iload_n 3, 1), (584, .iconst 2, 1), (585, .iadd, 1), (586, .iaload, 1), (587, .aload_n 0, 1), (588, .iload_n 3, 1), (589, .iconst 3, 1), (590, .iadd, 1), (591, .iaload, 1), (592, .aload_n 0, 1)]
theorem ddL_law8 : ∀ q ∈ dlL_law8, decode cL_law q.1 = .ok q.2 := by decide +kernel
abbrev dlL_law9 : List (Nat × (Instr × Nat)) := [(593, .iload_n 3, 1), (594, .iconst 4, 1), (595, .iadd, 1), (596, .iaload, 1), (597, .invokevirtual 76, 3), (600, .aload_n 2, 1), (601, .aload_n 0, 1), (602, .iload_n 3, 1), (603, .iconst 1, 1), (604, .iadd, 1), (605, .iaload, 1), (606, .aload_n 0, 1), (607, .iload_n 3, 1), (608, .iconst 2, 1), (609, .iadd, 1), (610, .iaload, 1), (611, .aload_n 0, 1), (612, .iload_n 3, 1), (613, .iconst 3, 1), (614, .iadd, 1), (615, .iaload, 1), (616, .aload_n 0, 1), (617, .iload_n 3, 1), (618, .iconst 4, 1), (619, .iadd, 1), (620, .iaload, 1), (621, .invokevirtual 80, 3), (624, .if_icmp .eq 453, 3), (627, .iconst 0, 1), (628, .ireturn, 1), (629, .aload_n 1, 1), (630, .aload_n 0, 1), (631, .iload_n 3, 1), (632, .iconst 1, 1), (633, .iadd, 1), (634, .iaload, 1), (635, .aload_n 0, 1), (636, .iload_n 3, 1), (637, .iconst 2, 1), (638, .iadd, 1)]
theorem ddL_law9 : ∀ q ∈ dlL_law9, decode cL_law q.1 = .ok q.2 := by decide +kernel
abbrev dlL_law10 : List (Nat × (Instr × Nat)) := [(639, .iaload, 1), (640, .aload_n 0, 1), (641, .iload_n 3, 1), (642, .iconst 3, 1), (643, .iadd, 1), (644, .iaload, 1), (645, .aload_n 0, 1), (646, .iload_n 3, 1), (647, .iconst 4, 1), (648, .iadd, 1), (649, .iaload, 1), (650, .invokevirtual 81, 3), (653, .aload_n 2, 1), (654, .aload_n 0, 1), (655, .iload_n 3, 1), (656, .iconst 1, 1), (657, .iadd, 1), (658, .iaload, 1), (659, .aload_n 0, 1), (660, .iload_n 3, 1), (661, .iconst 2, 1), (662, .iadd, 1), (663, .iaload, 1), (664, .aload_n 0, 1), (665, .iload_n 3, 1), (666, .iconst 3, 1), (667, .iadd, 1), (668, .iaload, 1), (669, .aload_n 0, 1), (670, .iload_n 3, 1), (671, .iconst 4, 1), (672, .iadd, 1), (673, .iaload, 1), (674, .invokevirtual 84, 3), (677, .if_icmp .eq 400, 3), (680, .iconst 0, 1), (681, .ireturn, 1), (682, .aload_n 1, 1), (683, .aload_n 0, 1), (684, .iload_n 3, 1)]
theorem ddL_law10 : ∀ q ∈ dlL_law10, decode cL_law q.1 = .ok q.2 := by decide +kernel
abbrev dlL_law11 : List (Nat × (Instr × Nat)) := [(685, .iconst 1, 1), (686, .iadd, 1), (687, .iaload, 1), (688, .aload_n 0, 1), (689, .iload_n 3, 1), (690, .iconst 2, 1), (691, .iadd, 1), (692, .iaload, 1), (693, .aload_n 0, 1), (694, .iload_n 3, 1), (695, .iconst 3, 1), (696, .iadd, 1), (697, .iaload, 1), (698, .invokevirtual 85, 3), (701, .aload_n 2, 1), (702, .aload_n 0, 1), (703, .iload_n 3, 1), (704, .iconst 1, 1), (705, .iadd, 1), (706, .iaload, 1), (707, .aload_n 0, 1), (708, .iload_n 3, 1), (709, .iconst 2, 1), (710, .iadd, 1), (711, .iaload, 1), (712, .aload_n 0, 1), (713, .iload_n 3, 1), (714, .iconst 3, 1), (715, .iadd, 1), (716, .iaload, 1), (717, .invokevirtual 88, 3), (720, .if_icmp .eq 357, 3), (723, .iconst 0, 1), (724, .ireturn, 1), (725, .aload_n 1, 1), (726, .aload_n 0, 1), (727, .iload_n 3, 1), (728, .iconst 1, 1), (729, .iadd, 1), (730, .iaload, 1)]
theorem ddL_law11 : ∀ q ∈ dlL_law11, decode cL_law q.1 = .ok q.2 := by decide +kernel
abbrev dlL_law12 : List (Nat × (Instr × Nat)) := [(731, .aload_n 0, 1), (732, .iload_n 3, 1), (733, .iconst 2, 1), (734, .iadd, 1), (735, .iaload, 1), (736, .aload_n 0, 1), (737, .iload_n 3, 1), (738, .iconst 3, 1), (739, .iadd, 1), (740, .iaload, 1), (741, .invokevirtual 89, 3), (744, .aload_n 2, 1), (745, .aload_n 0, 1), (746, .iload_n 3, 1), (747, .iconst 1, 1), (748, .iadd, 1), (749, .iaload, 1), (750, .aload_n 0, 1), (751, .iload_n 3, 1), (752, .iconst 2, 1), (753, .iadd, 1), (754, .iaload, 1), (755, .aload_n 0, 1), (756, .iload_n 3, 1), (757, .iconst 3, 1), (758, .iadd, 1), (759, .iaload, 1), (760, .invokevirtual 92, 3), (763, .if_icmp .eq 314, 3), (766, .iconst 0, 1), (767, .ireturn, 1), (768, .aload_n 1, 1), (769, .invokevirtual 93, 3), (772, .aload_n 2, 1), (773, .invokevirtual 96, 3), (776, .if_icmp .eq 301, 3), (779, .iconst 0, 1), (780, .ireturn, 1), (781, .aload_n 1, 1), (782, .aload_n 0, 1)]
theorem ddL_law12 : ∀ q ∈ dlL_law12, decode cL_law q.1 = .ok q.2 := by decide +kernel
abbrev dlL_law13 : List (Nat × (Instr × Nat)) := [(783, .iload_n 3, 1), (784, .iconst 1, 1), (785, .iadd, 1), (786, .iaload, 1), (787, .aload_n 0, 1), (788, .iload_n 3, 1), (789, .iconst 2, 1), (790, .iadd, 1), (791, .iaload, 1), (792, .aload_n 0, 1), (793, .iload_n 3, 1), (794, .iconst 3, 1), (795, .iadd, 1), (796, .iaload, 1), (797, .ifCond .eq 7, 3), (800, .iconst 1, 1), (801, .goto 4, 3), (804, .iconst 0, 1), (805, .invokevirtual 97, 3), (808, .aload_n 2, 1), (809, .aload_n 0, 1), (810, .iload_n 3, 1), (811, .iconst 1, 1), (812, .iadd, 1), (813, .iaload, 1), (814, .aload_n 0, 1), (815, .iload_n 3, 1), (816, .iconst 2, 1), (817, .iadd, 1), (818, .iaload, 1), (819, .aload_n 0, 1), (820, .iload_n 3, 1), (821, .iconst 3, 1), (822, .iadd, 1), (823, .iaload, 1), (824, .ifCond .eq 7, 3), (827, .iconst 1, 1), (828, .goto 4, 3), (831, .iconst 0, 1), (832, .invokevirtual 101, 3)]
theorem ddL_law13 : ∀ q ∈ dlL_law13, decode cL_law q.1 = .ok q.2 := by decide +kernel
abbrev dlL_law14 : List (Nat × (Instr × Nat)) := [(835, .if_icmp .eq 242, 3), (838, .iconst 0, 1), (839, .ireturn, 1), (840, .aload_n 1, 1), (841, .aload_n 0, 1), (842, .iload_n 3, 1), (843, .iconst 1, 1), (844, .iadd, 1), (845, .iaload, 1), (846, .aload_n 0, 1), (847, .iload_n 3, 1), (848, .iconst 2, 1), (849, .iadd, 1), (850, .iaload, 1), (851, .invokevirtual 102, 3), (854, .aload_n 2, 1), (855, .aload_n 0, 1), (856, .iload_n 3, 1), (857, .iconst 1, 1), (858, .iadd, 1), (859, .iaload, 1), (860, .aload_n 0, 1), (861, .iload_n 3, 1), (862, .iconst 2, 1), (863, .iadd, 1), (864, .iaload, 1), (865, .invokevirtual 105, 3), (868, .if_icmp .eq 209, 3), (871, .iconst 0, 1), (872, .ireturn, 1), (873, .aload_n 1, 1), (874, .aload_n 0, 1), (875, .iload_n 3, 1), (876, .iconst 1, 1), (877, .iadd, 1), (878, .iaload, 1), (879, .invokevirtual 106, 3), (882, .aload_n 2, 1), (883, .aload_n 0, 1), (884, .iload_n 3, 1)]
theorem ddL_law14 : ∀ q ∈ dlL_law14, decode cL_law q.1 = .ok q.2 := by decide +kernel
abbrev dlL_law15 : List (Nat × (Instr × Nat)) := [(885, .iconst 1, 1), (886, .iadd, 1), (887, .iaload, 1), (888, .invokevirtual 109, 3), (891, .if_icmp .eq 186, 3), (894, .iconst 0, 1), (895, .ireturn, 1), (896, .aload_n 1, 1), (897, .aload_n 0, 1), (898, .iload_n 3, 1), (899, .iconst 1, 1), (900, .iadd, 1), (901, .iaload, 1), (902, .aload_n 0, 1), (903, .iload_n 3, 1), (904, .iconst 2, 1), (905, .iadd, 1), (906, .iaload, 1), (907, .aload_n 0, 1), (908, .iload_n 3, 1), (909, .iconst 3, 1), (910, .iadd, 1), (911, .iaload, 1), (912, .aload_n 0, 1), (913, .iload_n 3, 1), (914, .iconst 4, 1), (915, .iadd, 1), (916, .iaload, 1), (917, .invokevirtual 110, 3), (920, .aload_n 2, 1), (921, .aload_n 0, 1), (922, .iload_n 3, 1), (923, .iconst 1, 1), (924, .iadd, 1), (925, .iaload, 1), (926, .aload_n 0, 1), (927, .iload_n 3, 1), (928, .iconst 2, 1), (929, .iadd, 1), (930, .iaload, 1)]
theorem ddL_law15 : ∀ q ∈ dlL_law15, decode cL_law q.1 = .ok q.2 := by decide +kernel
abbrev dlL_law16 : List (Nat × (Instr × Nat)) := [(931, .aload_n 0, 1), (932, .iload_n 3, 1), (933, .iconst 3, 1), (934, .iadd, 1), (935, .iaload, 1), (936, .aload_n 0, 1), (937, .iload_n 3, 1), (938, .iconst 4, 1), (939, .iadd, 1), (940, .iaload, 1), (941, .invokevirtual 113, 3), (944, .if_icmp .eq 133, 3), (947, .iconst 0, 1), (948, .ireturn, 1), (949, .aload_n 1, 1), (950, .aload_n 0, 1), (951, .iload_n 3, 1), (952, .iconst 1, 1), (953, .iadd, 1), (954, .iaload, 1), (955, .invokevirtual 114, 3), (958, .aload_n 2, 1), (959, .aload_n 0, 1), (960, .iload_n 3, 1), (961, .iconst 1, 1), (962, .iadd, 1), (963, .iaload, 1), (964, .invokevirtual 117, 3), (967, .if_icmp .eq 110, 3), (970, .iconst 0, 1), (971, .ireturn, 1), (972, .aload_n 1, 1), (973, .invokevirtual 118, 3), (976, .aload_n 2, 1), (977, .invokevirtual 121, 3), (980, .if_icmp .eq 97, 3), (983, .iconst 0, 1), (984, .ireturn, 1), (985, .aload_n 1, 1), (986, .aload_n 0, 1)]
theorem ddL_law16 : ∀ q ∈ dlL_law16, decode cL_law q.1 = .ok q.2 := by decide +kernel
abbrev dlL_law17 : List (Nat × (Instr × Nat)) := [(987, .iload_n 3, 1), (988, .iconst 1, 1), (989, .iadd, 1), (990, .iaload, 1), (991, .invokevirtual 122, 3), (994, .aload_n 2, 1), (995, .aload_n 0, 1), (996, .iload_n 3, 1), (997, .iconst 1, 1), (998, .iadd, 1), (999, .iaload, 1), (1000, .invokevirtual 125, 3), (1003, .if_icmp .eq 74, 3), (1006, .iconst 0, 1), (1007, .ireturn, 1), (1008, .aload_n 1, 1), (1009, .aload_n 0, 1), (1010, .iload_n 3, 1), (1011, .iconst 1, 1), (1012, .iadd, 1), (1013, .iaload, 1), (1014, .invokevirtual 126, 3), (1017, .aload_n 2, 1), (1018, .aload_n 0, 1), (1019, .iload_n 3, 1), (1020, .iconst 1, 1), (1021, .iadd, 1), (1022, .iaload, 1), (1023, .invokevirtual 129, 3), (1026, .if_icmp .eq 51, 3), (1029, .iconst 0, 1), (1030, .ireturn, 1), (1031, .aload_n 1, 1), (1032, .aload_n 0, 1), (1033, .iload_n 3, 1), (1034, .iconst 1, 1), (1035, .iadd, 1), (1036, .iaload, 1), (1037, .invokevirtual 130, 3), (1040, .aload_n 2, 1)]
theorem ddL_law17 : ∀ q ∈ dlL_law17, decode cL_law q.1 = .ok q.2 := by decide +kernel
abbrev dlL_law18 : List (Nat × (Instr × Nat)) := [(1041, .aload_n 0, 1), (1042, .iload_n 3, 1), (1043, .iconst 1, 1), (1044, .iadd, 1), (1045, .iaload, 1), (1046, .invokevirtual 133, 3), (1049, .if_icmp .eq 28, 3), (1052, .iconst 0, 1), (1053, .ireturn, 1), (1054, .aload_n 1, 1), (1055, .aload_n 0, 1), (1056, .iload_n 3, 1), (1057, .iconst 1, 1), (1058, .iadd, 1), (1059, .iaload, 1), (1060, .invokevirtual 134, 3), (1063, .aload_n 2, 1), (1064, .aload_n 0, 1), (1065, .iload_n 3, 1), (1066, .iconst 1, 1), (1067, .iadd, 1), (1068, .iaload, 1), (1069, .invokevirtual 137, 3), (1072, .if_icmp .eq 5, 3), (1075, .iconst 0, 1), (1076, .ireturn, 1), (1077, .iinc 3 5, 3), (1080, .goto (-1062), 3), (1083, .iconst 1, 1), (1084, .ireturn, 1)]
theorem ddL_law18 : ∀ q ∈ dlL_law18, decode cL_law q.1 = .ok q.2 := by decide +kernel
theorem sL_law_0 {l : Launch} {X : q_CX} {Ln : Nat} {xs : Nat → Int32} (hl : X.2.1 = l) (hQ : q_LQ X) (hcap : q_cap X room_1 L_cap) (hz : q_scr X Ln xs) (h : q_OK X yL_law cL_law 4 (some .boolean) room_1 (Cond.code yL_law cL_law 4 (some .boolean) :: q_G)) : q_SK X 4 0 (BL_law_0 Ln xs) := by
  refine k_new h hcap (ci := 8) (N := 11) (C := RX8) (T := TX8) rfl (fun w hw => List.mem_cons_of_mem _ (q_inX8 w hw)) (List.mem_cons_of_mem _ gw782) (List.mem_cons_of_mem _ gw783) (List.mem_cons_of_mem _ gw91) tyX8 tyX8_ok (by decide +kernel) rfl rfl (ddL_law0 (0, .new 7, 3) (List.mem_of_getElem? (i := 0) rfl)) ?_
  refine k_dup h (ddL_law0 (3, .dup, 1) (List.mem_of_getElem? (i := 1) rfl)) ?_
  refine k_callI h hl (aX8_init l) (ci := 8) (C := RX8) (T := TX8) (N := 11) rfl hcap (n := 0) rfl (by decide +kernel) (q_gN gw784) (List.mem_cons_of_mem _ gw786) (List.mem_cons_of_mem _ gw91) (List.mem_cons_of_mem _ gw785) rfl ⟨by decide, by decide⟩ (ddL_law0 (4, .invokespecial 9, 3) (List.mem_of_getElem? (i := 2) rfl)) ?_
  refine k_astore_n (i := 1) h (ddL_law0 (7, .astore_n 1, 1) (List.mem_of_getElem? (i := 3) rfl)) rfl (by decide) ?_
  refine k_new h hcap (ci := 9) (N := 33) (C := RX9) (T := TX9) rfl (fun w hw => List.mem_cons_of_mem _ (q_inX9 w hw)) (List.mem_cons_of_mem _ gw787) (List.mem_cons_of_mem _ gw788) (List.mem_cons_of_mem _ gw606) tyX9 tyX9_ok (by decide +kernel) rfl rfl (ddL_law0 (8, .new 10, 3) (List.mem_of_getElem? (i := 4) rfl)) ?_
  refine k_dup h (ddL_law0 (11, .dup, 1) (List.mem_of_getElem? (i := 5) rfl)) ?_
  refine k_callI h hl (aX9_init l) (ci := 9) (C := RX9) (T := TX9) (N := 33) rfl hcap (n := 0) rfl (by decide +kernel) (q_gN gw789) (List.mem_cons_of_mem _ gw791) (List.mem_cons_of_mem _ gw606) (List.mem_cons_of_mem _ gw790) rfl ⟨by decide, by decide⟩ (ddL_law0 (12, .invokespecial 12, 3) (List.mem_of_getElem? (i := 6) rfl)) ?_
  refine k_astore_n (i := 2) h (ddL_law0 (15, .astore_n 2, 1) (List.mem_of_getElem? (i := 7) rfl)) rfl (by decide) ?_
  refine k_iconst (v := 0) h (ddL_law0 (16, .iconst 0, 1) (List.mem_of_getElem? (i := 8) rfl)) (by decide) ?_
  refine k_istore_n (i := 3) h (ddL_law0 (17, .istore_n 3, 1) (List.mem_of_getElem? (i := 9) rfl)) rfl (by decide) ?_
  exact k_cut
theorem sL_law_1083 {l : Launch} {X : q_CX} {Ln : Nat} {xs : Nat → Int32} (hl : X.2.1 = l) (hQ : q_LQ X) (hcap : q_cap X room_1 L_cap) (hz : q_scr X Ln xs) (h : q_OK X yL_law cL_law 4 (some .boolean) room_1 (Cond.code yL_law cL_law 4 (some .boolean) :: q_G)) : q_SK X 4 1083 (BL_law_1083 Ln xs) := by
  refine k_iconst (v := 1) h (ddL_law18 (1083, .iconst 1, 1) (List.mem_of_getElem? (i := 28) rfl)) (by decide) ?_
  exact k_lret h hQ (ddL_law18 (1084, .ireturn, 1) (List.mem_of_getElem? (i := 29) rfl))
theorem sL_law_26 {l : Launch} {X : q_CX} {Ln : Nat} {xs : Nat → Int32} (hl : X.2.1 = l) (hQ : q_LQ X) (hcap : q_cap X room_1 L_cap) (hz : q_scr X Ln xs) (h : q_OK X yL_law cL_law 4 (some .boolean) room_1 (Cond.code yL_law cL_law 4 (some .boolean) :: q_G)) : q_SK X 4 26 (BL_law_26 Ln xs) := by
  refine k_aload_n (i := 0) h (ddL_law0 (26, .aload_n 0, 1) (List.mem_of_getElem? (i := 16) rfl)) rfl ?_
  refine k_iload_n (i := 3) h (ddL_law0 (27, .iload_n 3, 1) (List.mem_of_getElem? (i := 17) rfl)) rfl ?_
  refine k_sld h hz (ddL_law0 (28, .iaload, 1) (List.mem_of_getElem? (i := 18) rfl)) ?_
  refine k_bipush (v := 31) h (ddL_law0 (29, .bipush 31, 2) (List.mem_of_getElem? (i := 19) rfl)) (by decide) ?_
  refine k_iand h (ddL_law0 (31, .iand, 1) (List.mem_of_getElem? (i := 20) rfl)) ?_
  refine k_sw h (dflt := 1045) (hi := 28) (offs := #[132, 195, 208, 221, 244, 277, 310, 343, 366, 389, 422, 445, 468, 511, 544, 597, 650, 693, 736, 749, 808, 841, 864, 917, 940, 953, 976, 999, 1022]) (len := 132) (tgt := 1077) (by decide +kernel) (by decide) (by decide) ⟨⟨132, 164, rfl, by decide, by exact k_cut⟩, ⟨⟨195, 227, rfl, by decide, by exact k_cut⟩, ⟨⟨208, 240, rfl, by decide, by exact k_cut⟩, ⟨⟨221, 253, rfl, by decide, by exact k_cut⟩, ⟨⟨244, 276, rfl, by decide, by exact k_cut⟩, ⟨⟨277, 309, rfl, by decide, by exact k_cut⟩, ⟨⟨310, 342, rfl, by decide, by exact k_cut⟩, ⟨⟨343, 375, rfl, by decide, by exact k_cut⟩, ⟨⟨366, 398, rfl, by decide, by exact k_cut⟩, ⟨⟨389, 421, rfl, by decide, by exact k_cut⟩, ⟨⟨422, 454, rfl, by decide, by exact k_cut⟩, ⟨⟨445, 477, rfl, by decide, by exact k_cut⟩, ⟨⟨468, 500, rfl, by decide, by exact k_cut⟩, ⟨⟨511, 543, rfl, by decide, by exact k_cut⟩, ⟨⟨544, 576, rfl, by decide, by exact k_cut⟩, ⟨⟨597, 629, rfl, by decide, by exact k_cut⟩, ⟨⟨650, 682, rfl, by decide, by exact k_cut⟩, ⟨⟨693, 725, rfl, by decide, by exact k_cut⟩, ⟨⟨736, 768, rfl, by decide, by exact k_cut⟩, ⟨⟨749, 781, rfl, by decide, by exact k_cut⟩, ⟨⟨808, 840, rfl, by decide, by exact k_cut⟩, ⟨⟨841, 873, rfl, by decide, by exact k_cut⟩, ⟨⟨864, 896, rfl, by decide, by exact k_cut⟩, ⟨⟨917, 949, rfl, by decide, by exact k_cut⟩, ⟨⟨940, 972, rfl, by decide, by exact k_cut⟩, ⟨⟨953, 985, rfl, by decide, by exact k_cut⟩, ⟨⟨976, 1008, rfl, by decide, by exact k_cut⟩, ⟨⟨999, 1031, rfl, by decide, by exact k_cut⟩, ⟨⟨1022, 1054, rfl, by decide, by exact k_cut⟩, trivial⟩⟩⟩⟩⟩⟩⟩⟩⟩⟩⟩⟩⟩⟩⟩⟩⟩⟩⟩⟩⟩⟩⟩⟩⟩⟩⟩⟩⟩ (by decide) ?_
  exact k_cut
theorem sL_law_18 {l : Launch} {X : q_CX} {Ln : Nat} {xs : Nat → Int32} (hl : X.2.1 = l) (hQ : q_LQ X) (hcap : q_cap X room_1 L_cap) (hz : q_scr X Ln xs) (h : q_OK X yL_law cL_law 4 (some .boolean) room_1 (Cond.code yL_law cL_law 4 (some .boolean) :: q_G)) : q_SK X 4 18 (BL_law_18 Ln xs) := by
  refine k_iload_n (i := 3) h (ddL_law0 (18, .iload_n 3, 1) (List.mem_of_getElem? (i := 10) rfl)) rfl ?_
  refine k_aload_n (i := 0) h (ddL_law0 (19, .aload_n 0, 1) (List.mem_of_getElem? (i := 11) rfl)) rfl ?_
  refine k_sln h hz (ddL_law0 (20, .arraylength, 1) (List.mem_of_getElem? (i := 12) rfl)) ?_
  refine k_iconst (v := 5) h (ddL_law0 (21, .iconst 5, 1) (List.mem_of_getElem? (i := 13) rfl)) (by decide) ?_
  refine k_isub h (ddL_law0 (22, .isub, 1) (List.mem_of_getElem? (i := 14) rfl)) ?_
  refine k_icgt h (ddL_law0 (23, .if_icmp .gt 1060, 3) (List.mem_of_getElem? (i := 15) rfl)) (tgt := 1083) (by decide) ?_ ?_
  · exact sL_law_1083 hl hQ hcap hz h
  · exact sL_law_26 hl hQ hcap hz h
theorem sL_law_225 {l : Launch} {X : q_CX} {Ln : Nat} {xs : Nat → Int32} (hl : X.2.1 = l) (hQ : q_LQ X) (hcap : q_cap X room_1 L_cap) (hz : q_scr X Ln xs) (h : q_OK X yL_law cL_law 4 (some .boolean) room_1 (Cond.code yL_law cL_law 4 (some .boolean) :: q_G)) : q_SK X 4 225 (BL_law_225 Ln xs) := by
  refine k_iconst (v := 0) h (ddL_law1 (225, .iconst 0, 1) (List.mem_of_getElem? (i := 30) rfl)) (by decide) ?_
  exact k_lret h hQ (ddL_law1 (226, .ireturn, 1) (List.mem_of_getElem? (i := 31) rfl))
theorem sL_law_164 {l : Launch} {X : q_CX} {Ln : Nat} {xs : Nat → Int32} (hl : X.2.1 = l) (hQ : q_LQ X) (hcap : q_cap X room_1 L_cap) (hz : q_scr X Ln xs) (h : q_OK X yL_law cL_law 4 (some .boolean) room_1 (Cond.code yL_law cL_law 4 (some .boolean) :: q_G)) : q_SK X 4 164 (BL_law_164 Ln xs) := by
  refine k_aload_n (i := 1) h (ddL_law0 (164, .aload_n 1, 1) (List.mem_of_getElem? (i := 21) rfl)) rfl ?_
  refine k_aload_n (i := 0) h (ddL_law0 (165, .aload_n 0, 1) (List.mem_of_getElem? (i := 22) rfl)) rfl ?_
  refine k_iload_n (i := 3) h (ddL_law0 (166, .iload_n 3, 1) (List.mem_of_getElem? (i := 23) rfl)) rfl ?_
  refine k_iconst (v := 1) h (ddL_law0 (167, .iconst 1, 1) (List.mem_of_getElem? (i := 24) rfl)) (by decide) ?_
  refine k_iadd h (ddL_law0 (168, .iadd, 1) (List.mem_of_getElem? (i := 25) rfl)) ?_
  refine k_sld h hz (ddL_law0 (169, .iaload, 1) (List.mem_of_getElem? (i := 26) rfl)) ?_
  refine k_aload_n (i := 0) h (ddL_law0 (170, .aload_n 0, 1) (List.mem_of_getElem? (i := 27) rfl)) rfl ?_
  refine k_iload_n (i := 3) h (ddL_law0 (171, .iload_n 3, 1) (List.mem_of_getElem? (i := 28) rfl)) rfl ?_
  refine k_iconst (v := 2) h (ddL_law0 (172, .iconst 2, 1) (List.mem_of_getElem? (i := 29) rfl)) (by decide) ?_
  refine k_iadd h (ddL_law0 (173, .iadd, 1) (List.mem_of_getElem? (i := 30) rfl)) ?_
  refine k_sld h hz (ddL_law0 (174, .iaload, 1) (List.mem_of_getElem? (i := 31) rfl)) ?_
  refine k_i2l h (ddL_law0 (175, .i2l, 1) (List.mem_of_getElem? (i := 32) rfl)) ?_
  refine k_bipush (v := 32) h (ddL_law0 (176, .bipush 32, 2) (List.mem_of_getElem? (i := 33) rfl)) (by decide) ?_
  refine k_lshl h (ddL_law0 (178, .lshl, 1) (List.mem_of_getElem? (i := 34) rfl)) ?_
  refine k_aload_n (i := 0) h (ddL_law0 (179, .aload_n 0, 1) (List.mem_of_getElem? (i := 35) rfl)) rfl ?_
  refine k_iload_n (i := 3) h (ddL_law0 (180, .iload_n 3, 1) (List.mem_of_getElem? (i := 36) rfl)) rfl ?_
  refine k_iconst (v := 3) h (ddL_law0 (181, .iconst 3, 1) (List.mem_of_getElem? (i := 37) rfl)) (by decide) ?_
  refine k_iadd h (ddL_law0 (182, .iadd, 1) (List.mem_of_getElem? (i := 38) rfl)) ?_
  refine k_sld h hz (ddL_law0 (183, .iaload, 1) (List.mem_of_getElem? (i := 39) rfl)) ?_
  refine k_i2l h (ddL_law1 (184, .i2l, 1) (List.mem_of_getElem? (i := 0) rfl)) ?_
  refine k_ldc2 (v := 4294967295) h (ddL_law1 (185, .ldc2_w 13, 3) (List.mem_of_getElem? (i := 1) rfl)) (List.mem_cons_of_mem _ gw792) ?_
  refine k_land h (ddL_law1 (188, .land, 1) (List.mem_of_getElem? (i := 2) rfl)) ?_
  refine k_lor h (ddL_law1 (189, .lor, 1) (List.mem_of_getElem? (i := 3) rfl)) ?_
  refine k_callV h hl (aX8_feed l) (ci := 8) (C := RX8) (T := TX8) (N := 11) rfl ⟨rfl, rfl⟩ (n := 2) (by decide +kernel) (q_gV gw794 gw795 gw796 gw91 gw793) ⟨by decide, by decide⟩ (ddL_law1 (190, .invokevirtual 15, 3) (List.mem_of_getElem? (i := 4) rfl)) ?_
  refine k_aload_n (i := 2) h (ddL_law1 (193, .aload_n 2, 1) (List.mem_of_getElem? (i := 5) rfl)) rfl ?_
  refine k_aload_n (i := 0) h (ddL_law1 (194, .aload_n 0, 1) (List.mem_of_getElem? (i := 6) rfl)) rfl ?_
  refine k_iload_n (i := 3) h (ddL_law1 (195, .iload_n 3, 1) (List.mem_of_getElem? (i := 7) rfl)) rfl ?_
  refine k_iconst (v := 1) h (ddL_law1 (196, .iconst 1, 1) (List.mem_of_getElem? (i := 8) rfl)) (by decide) ?_
  refine k_iadd h (ddL_law1 (197, .iadd, 1) (List.mem_of_getElem? (i := 9) rfl)) ?_
  refine k_sld h hz (ddL_law1 (198, .iaload, 1) (List.mem_of_getElem? (i := 10) rfl)) ?_
  refine k_aload_n (i := 0) h (ddL_law1 (199, .aload_n 0, 1) (List.mem_of_getElem? (i := 11) rfl)) rfl ?_
  refine k_iload_n (i := 3) h (ddL_law1 (200, .iload_n 3, 1) (List.mem_of_getElem? (i := 12) rfl)) rfl ?_
  refine k_iconst (v := 2) h (ddL_law1 (201, .iconst 2, 1) (List.mem_of_getElem? (i := 13) rfl)) (by decide) ?_
  refine k_iadd h (ddL_law1 (202, .iadd, 1) (List.mem_of_getElem? (i := 14) rfl)) ?_
  refine k_sld h hz (ddL_law1 (203, .iaload, 1) (List.mem_of_getElem? (i := 15) rfl)) ?_
  refine k_i2l h (ddL_law1 (204, .i2l, 1) (List.mem_of_getElem? (i := 16) rfl)) ?_
  refine k_bipush (v := 32) h (ddL_law1 (205, .bipush 32, 2) (List.mem_of_getElem? (i := 17) rfl)) (by decide) ?_
  refine k_lshl h (ddL_law1 (207, .lshl, 1) (List.mem_of_getElem? (i := 18) rfl)) ?_
  refine k_aload_n (i := 0) h (ddL_law1 (208, .aload_n 0, 1) (List.mem_of_getElem? (i := 19) rfl)) rfl ?_
  refine k_iload_n (i := 3) h (ddL_law1 (209, .iload_n 3, 1) (List.mem_of_getElem? (i := 20) rfl)) rfl ?_
  refine k_iconst (v := 3) h (ddL_law1 (210, .iconst 3, 1) (List.mem_of_getElem? (i := 21) rfl)) (by decide) ?_
  refine k_iadd h (ddL_law1 (211, .iadd, 1) (List.mem_of_getElem? (i := 22) rfl)) ?_
  refine k_sld h hz (ddL_law1 (212, .iaload, 1) (List.mem_of_getElem? (i := 23) rfl)) ?_
  refine k_i2l h (ddL_law1 (213, .i2l, 1) (List.mem_of_getElem? (i := 24) rfl)) ?_
  refine k_ldc2 (v := 4294967295) h (ddL_law1 (214, .ldc2_w 13, 3) (List.mem_of_getElem? (i := 25) rfl)) (List.mem_cons_of_mem _ gw792) ?_
  refine k_land h (ddL_law1 (217, .land, 1) (List.mem_of_getElem? (i := 26) rfl)) ?_
  refine k_lor h (ddL_law1 (218, .lor, 1) (List.mem_of_getElem? (i := 27) rfl)) ?_
  refine k_callV h hl (aX9_feed l) (ci := 9) (C := RX9) (T := TX9) (N := 33) rfl ⟨rfl, rfl⟩ (n := 2) (by decide +kernel) (q_gV gw798 gw799 gw800 gw606 gw797) ⟨by decide, by decide⟩ (ddL_law1 (219, .invokevirtual 19, 3) (List.mem_of_getElem? (i := 28) rfl)) ?_
  refine k_iceq h (ddL_law1 (222, .if_icmp .eq 855, 3) (List.mem_of_getElem? (i := 29) rfl)) (tgt := 1077) (by decide) ?_ ?_
  · exact k_cut
  · exact sL_law_225 hl hQ hcap hz h
theorem sL_law_238 {l : Launch} {X : q_CX} {Ln : Nat} {xs : Nat → Int32} (hl : X.2.1 = l) (hQ : q_LQ X) (hcap : q_cap X room_1 L_cap) (hz : q_scr X Ln xs) (h : q_OK X yL_law cL_law 4 (some .boolean) room_1 (Cond.code yL_law cL_law 4 (some .boolean) :: q_G)) : q_SK X 4 238 (BL_law_238 Ln xs) := by
  refine k_iconst (v := 0) h (ddL_law1 (238, .iconst 0, 1) (List.mem_of_getElem? (i := 37) rfl)) (by decide) ?_
  exact k_lret h hQ (ddL_law1 (239, .ireturn, 1) (List.mem_of_getElem? (i := 38) rfl))
theorem sL_law_227 {l : Launch} {X : q_CX} {Ln : Nat} {xs : Nat → Int32} (hl : X.2.1 = l) (hQ : q_LQ X) (hcap : q_cap X room_1 L_cap) (hz : q_scr X Ln xs) (h : q_OK X yL_law cL_law 4 (some .boolean) room_1 (Cond.code yL_law cL_law 4 (some .boolean) :: q_G)) : q_SK X 4 227 (BL_law_227 Ln xs) := by
  refine k_aload_n (i := 1) h (ddL_law1 (227, .aload_n 1, 1) (List.mem_of_getElem? (i := 32) rfl)) rfl ?_
  refine k_callV h hl (aX8_rock l) (ci := 8) (C := RX8) (T := TX8) (N := 11) rfl ⟨rfl, rfl⟩ (n := 0) (by decide +kernel) (q_gV gw802 gw803 gw804 gw91 gw801) ⟨by decide, by decide⟩ (ddL_law1 (228, .invokevirtual 20, 3) (List.mem_of_getElem? (i := 33) rfl)) ?_
  refine k_aload_n (i := 2) h (ddL_law1 (231, .aload_n 2, 1) (List.mem_of_getElem? (i := 34) rfl)) rfl ?_
  refine k_callV h hl (aX9_rock l) (ci := 9) (C := RX9) (T := TX9) (N := 33) rfl ⟨rfl, rfl⟩ (n := 0) (by decide +kernel) (q_gV gw806 gw807 gw808 gw606 gw805) ⟨by decide, by decide⟩ (ddL_law1 (232, .invokevirtual 24, 3) (List.mem_of_getElem? (i := 35) rfl)) ?_
  refine k_iceq h (ddL_law1 (235, .if_icmp .eq 842, 3) (List.mem_of_getElem? (i := 36) rfl)) (tgt := 1077) (by decide) ?_ ?_
  · exact k_cut
  · exact sL_law_238 hl hQ hcap hz h
theorem sL_law_251 {l : Launch} {X : q_CX} {Ln : Nat} {xs : Nat → Int32} (hl : X.2.1 = l) (hQ : q_LQ X) (hcap : q_cap X room_1 L_cap) (hz : q_scr X Ln xs) (h : q_OK X yL_law cL_law 4 (some .boolean) room_1 (Cond.code yL_law cL_law 4 (some .boolean) :: q_G)) : q_SK X 4 251 (BL_law_251 Ln xs) := by
  refine k_iconst (v := 0) h (ddL_law2 (251, .iconst 0, 1) (List.mem_of_getElem? (i := 4) rfl)) (by decide) ?_
  exact k_lret h hQ (ddL_law2 (252, .ireturn, 1) (List.mem_of_getElem? (i := 5) rfl))
theorem sL_law_240 {l : Launch} {X : q_CX} {Ln : Nat} {xs : Nat → Int32} (hl : X.2.1 = l) (hQ : q_LQ X) (hcap : q_cap X room_1 L_cap) (hz : q_scr X Ln xs) (h : q_OK X yL_law cL_law 4 (some .boolean) room_1 (Cond.code yL_law cL_law 4 (some .boolean) :: q_G)) : q_SK X 4 240 (BL_law_240 Ln xs) := by
  refine k_aload_n (i := 1) h (ddL_law1 (240, .aload_n 1, 1) (List.mem_of_getElem? (i := 39) rfl)) rfl ?_
  refine k_callV h hl (aX8_fault l) (ci := 8) (C := RX8) (T := TX8) (N := 11) rfl ⟨rfl, rfl⟩ (n := 0) (by decide +kernel) (q_gV gw810 gw811 gw812 gw91 gw809) ⟨by decide, by decide⟩ (ddL_law2 (241, .invokevirtual 25, 3) (List.mem_of_getElem? (i := 0) rfl)) ?_
  refine k_aload_n (i := 2) h (ddL_law2 (244, .aload_n 2, 1) (List.mem_of_getElem? (i := 1) rfl)) rfl ?_
  refine k_callV h hl (aX9_fault l) (ci := 9) (C := RX9) (T := TX9) (N := 33) rfl ⟨rfl, rfl⟩ (n := 0) (by decide +kernel) (q_gV gw814 gw815 gw816 gw606 gw813) ⟨by decide, by decide⟩ (ddL_law2 (245, .invokevirtual 28, 3) (List.mem_of_getElem? (i := 2) rfl)) ?_
  refine k_iceq h (ddL_law2 (248, .if_icmp .eq 829, 3) (List.mem_of_getElem? (i := 3) rfl)) (tgt := 1077) (by decide) ?_ ?_
  · exact k_cut
  · exact sL_law_251 hl hQ hcap hz h
theorem sL_law_274 {l : Launch} {X : q_CX} {Ln : Nat} {xs : Nat → Int32} (hl : X.2.1 = l) (hQ : q_LQ X) (hcap : q_cap X room_1 L_cap) (hz : q_scr X Ln xs) (h : q_OK X yL_law cL_law 4 (some .boolean) room_1 (Cond.code yL_law cL_law 4 (some .boolean) :: q_G)) : q_SK X 4 274 (BL_law_274 Ln xs) := by
  refine k_iconst (v := 0) h (ddL_law2 (274, .iconst 0, 1) (List.mem_of_getElem? (i := 21) rfl)) (by decide) ?_
  exact k_lret h hQ (ddL_law2 (275, .ireturn, 1) (List.mem_of_getElem? (i := 22) rfl))
theorem sL_law_253 {l : Launch} {X : q_CX} {Ln : Nat} {xs : Nat → Int32} (hl : X.2.1 = l) (hQ : q_LQ X) (hcap : q_cap X room_1 L_cap) (hz : q_scr X Ln xs) (h : q_OK X yL_law cL_law 4 (some .boolean) room_1 (Cond.code yL_law cL_law 4 (some .boolean) :: q_G)) : q_SK X 4 253 (BL_law_253 Ln xs) := by
  refine k_aload_n (i := 1) h (ddL_law2 (253, .aload_n 1, 1) (List.mem_of_getElem? (i := 6) rfl)) rfl ?_
  refine k_aload_n (i := 0) h (ddL_law2 (254, .aload_n 0, 1) (List.mem_of_getElem? (i := 7) rfl)) rfl ?_
  refine k_iload_n (i := 3) h (ddL_law2 (255, .iload_n 3, 1) (List.mem_of_getElem? (i := 8) rfl)) rfl ?_
  refine k_iconst (v := 1) h (ddL_law2 (256, .iconst 1, 1) (List.mem_of_getElem? (i := 9) rfl)) (by decide) ?_
  refine k_iadd h (ddL_law2 (257, .iadd, 1) (List.mem_of_getElem? (i := 10) rfl)) ?_
  refine k_sld h hz (ddL_law2 (258, .iaload, 1) (List.mem_of_getElem? (i := 11) rfl)) ?_
  refine k_callV h hl (aX8_told l) (ci := 8) (C := RX8) (T := TX8) (N := 11) rfl ⟨rfl, rfl⟩ (n := 1) (by decide +kernel) (q_gV gw818 gw819 gw820 gw91 gw817) ⟨by decide, by decide⟩ (ddL_law2 (259, .invokevirtual 29, 3) (List.mem_of_getElem? (i := 12) rfl)) ?_
  refine k_aload_n (i := 2) h (ddL_law2 (262, .aload_n 2, 1) (List.mem_of_getElem? (i := 13) rfl)) rfl ?_
  refine k_aload_n (i := 0) h (ddL_law2 (263, .aload_n 0, 1) (List.mem_of_getElem? (i := 14) rfl)) rfl ?_
  refine k_iload_n (i := 3) h (ddL_law2 (264, .iload_n 3, 1) (List.mem_of_getElem? (i := 15) rfl)) rfl ?_
  refine k_iconst (v := 1) h (ddL_law2 (265, .iconst 1, 1) (List.mem_of_getElem? (i := 16) rfl)) (by decide) ?_
  refine k_iadd h (ddL_law2 (266, .iadd, 1) (List.mem_of_getElem? (i := 17) rfl)) ?_
  refine k_sld h hz (ddL_law2 (267, .iaload, 1) (List.mem_of_getElem? (i := 18) rfl)) ?_
  refine k_callV h hl (aX9_told l) (ci := 9) (C := RX9) (T := TX9) (N := 33) rfl ⟨rfl, rfl⟩ (n := 1) (by decide +kernel) (q_gV gw822 gw823 gw824 gw606 gw821) ⟨by decide, by decide⟩ (ddL_law2 (268, .invokevirtual 33, 3) (List.mem_of_getElem? (i := 19) rfl)) ?_
  refine k_iceq h (ddL_law2 (271, .if_icmp .eq 806, 3) (List.mem_of_getElem? (i := 20) rfl)) (tgt := 1077) (by decide) ?_ ?_
  · exact k_cut
  · exact sL_law_274 hl hQ hcap hz h
theorem sL_law_307 {l : Launch} {X : q_CX} {Ln : Nat} {xs : Nat → Int32} (hl : X.2.1 = l) (hQ : q_LQ X) (hcap : q_cap X room_1 L_cap) (hz : q_scr X Ln xs) (h : q_OK X yL_law cL_law 4 (some .boolean) room_1 (Cond.code yL_law cL_law 4 (some .boolean) :: q_G)) : q_SK X 4 307 (BL_law_307 Ln xs) := by
  refine k_iconst (v := 0) h (ddL_law3 (307, .iconst 0, 1) (List.mem_of_getElem? (i := 8) rfl)) (by decide) ?_
  exact k_lret h hQ (ddL_law3 (308, .ireturn, 1) (List.mem_of_getElem? (i := 9) rfl))
theorem sL_law_276 {l : Launch} {X : q_CX} {Ln : Nat} {xs : Nat → Int32} (hl : X.2.1 = l) (hQ : q_LQ X) (hcap : q_cap X room_1 L_cap) (hz : q_scr X Ln xs) (h : q_OK X yL_law cL_law 4 (some .boolean) room_1 (Cond.code yL_law cL_law 4 (some .boolean) :: q_G)) : q_SK X 4 276 (BL_law_276 Ln xs) := by
  refine k_aload_n (i := 1) h (ddL_law2 (276, .aload_n 1, 1) (List.mem_of_getElem? (i := 23) rfl)) rfl ?_
  refine k_aload_n (i := 0) h (ddL_law2 (277, .aload_n 0, 1) (List.mem_of_getElem? (i := 24) rfl)) rfl ?_
  refine k_iload_n (i := 3) h (ddL_law2 (278, .iload_n 3, 1) (List.mem_of_getElem? (i := 25) rfl)) rfl ?_
  refine k_iconst (v := 1) h (ddL_law2 (279, .iconst 1, 1) (List.mem_of_getElem? (i := 26) rfl)) (by decide) ?_
  refine k_iadd h (ddL_law2 (280, .iadd, 1) (List.mem_of_getElem? (i := 27) rfl)) ?_
  refine k_sld h hz (ddL_law2 (281, .iaload, 1) (List.mem_of_getElem? (i := 28) rfl)) ?_
  refine k_aload_n (i := 0) h (ddL_law2 (282, .aload_n 0, 1) (List.mem_of_getElem? (i := 29) rfl)) rfl ?_
  refine k_iload_n (i := 3) h (ddL_law2 (283, .iload_n 3, 1) (List.mem_of_getElem? (i := 30) rfl)) rfl ?_
  refine k_iconst (v := 2) h (ddL_law2 (284, .iconst 2, 1) (List.mem_of_getElem? (i := 31) rfl)) (by decide) ?_
  refine k_iadd h (ddL_law2 (285, .iadd, 1) (List.mem_of_getElem? (i := 32) rfl)) ?_
  refine k_sld h hz (ddL_law2 (286, .iaload, 1) (List.mem_of_getElem? (i := 33) rfl)) ?_
  refine k_callV h hl (aX8_turning l) (ci := 8) (C := RX8) (T := TX8) (N := 11) rfl ⟨rfl, rfl⟩ (n := 2) (by decide +kernel) (q_gV gw826 gw827 gw828 gw91 gw825) ⟨by decide, by decide⟩ (ddL_law2 (287, .invokevirtual 34, 3) (List.mem_of_getElem? (i := 34) rfl)) ?_
  refine k_aload_n (i := 2) h (ddL_law2 (290, .aload_n 2, 1) (List.mem_of_getElem? (i := 35) rfl)) rfl ?_
  refine k_aload_n (i := 0) h (ddL_law2 (291, .aload_n 0, 1) (List.mem_of_getElem? (i := 36) rfl)) rfl ?_
  refine k_iload_n (i := 3) h (ddL_law2 (292, .iload_n 3, 1) (List.mem_of_getElem? (i := 37) rfl)) rfl ?_
  refine k_iconst (v := 1) h (ddL_law2 (293, .iconst 1, 1) (List.mem_of_getElem? (i := 38) rfl)) (by decide) ?_
  refine k_iadd h (ddL_law2 (294, .iadd, 1) (List.mem_of_getElem? (i := 39) rfl)) ?_
  refine k_sld h hz (ddL_law3 (295, .iaload, 1) (List.mem_of_getElem? (i := 0) rfl)) ?_
  refine k_aload_n (i := 0) h (ddL_law3 (296, .aload_n 0, 1) (List.mem_of_getElem? (i := 1) rfl)) rfl ?_
  refine k_iload_n (i := 3) h (ddL_law3 (297, .iload_n 3, 1) (List.mem_of_getElem? (i := 2) rfl)) rfl ?_
  refine k_iconst (v := 2) h (ddL_law3 (298, .iconst 2, 1) (List.mem_of_getElem? (i := 3) rfl)) (by decide) ?_
  refine k_iadd h (ddL_law3 (299, .iadd, 1) (List.mem_of_getElem? (i := 4) rfl)) ?_
  refine k_sld h hz (ddL_law3 (300, .iaload, 1) (List.mem_of_getElem? (i := 5) rfl)) ?_
  refine k_callV h hl (aX9_turning l) (ci := 9) (C := RX9) (T := TX9) (N := 33) rfl ⟨rfl, rfl⟩ (n := 2) (by decide +kernel) (q_gV gw830 gw831 gw832 gw606 gw829) ⟨by decide, by decide⟩ (ddL_law3 (301, .invokevirtual 38, 3) (List.mem_of_getElem? (i := 6) rfl)) ?_
  refine k_iceq h (ddL_law3 (304, .if_icmp .eq 773, 3) (List.mem_of_getElem? (i := 7) rfl)) (tgt := 1077) (by decide) ?_ ?_
  · exact k_cut
  · exact sL_law_307 hl hQ hcap hz h
theorem sL_law_340 {l : Launch} {X : q_CX} {Ln : Nat} {xs : Nat → Int32} (hl : X.2.1 = l) (hQ : q_LQ X) (hcap : q_cap X room_1 L_cap) (hz : q_scr X Ln xs) (h : q_OK X yL_law cL_law 4 (some .boolean) room_1 (Cond.code yL_law cL_law 4 (some .boolean) :: q_G)) : q_SK X 4 340 (BL_law_340 Ln xs) := by
  refine k_iconst (v := 0) h (ddL_law3 (340, .iconst 0, 1) (List.mem_of_getElem? (i := 35) rfl)) (by decide) ?_
  exact k_lret h hQ (ddL_law3 (341, .ireturn, 1) (List.mem_of_getElem? (i := 36) rfl))
theorem sL_law_309 {l : Launch} {X : q_CX} {Ln : Nat} {xs : Nat → Int32} (hl : X.2.1 = l) (hQ : q_LQ X) (hcap : q_cap X room_1 L_cap) (hz : q_scr X Ln xs) (h : q_OK X yL_law cL_law 4 (some .boolean) room_1 (Cond.code yL_law cL_law 4 (some .boolean) :: q_G)) : q_SK X 4 309 (BL_law_309 Ln xs) := by
  refine k_aload_n (i := 1) h (ddL_law3 (309, .aload_n 1, 1) (List.mem_of_getElem? (i := 10) rfl)) rfl ?_
  refine k_aload_n (i := 0) h (ddL_law3 (310, .aload_n 0, 1) (List.mem_of_getElem? (i := 11) rfl)) rfl ?_
  refine k_iload_n (i := 3) h (ddL_law3 (311, .iload_n 3, 1) (List.mem_of_getElem? (i := 12) rfl)) rfl ?_
  refine k_iconst (v := 1) h (ddL_law3 (312, .iconst 1, 1) (List.mem_of_getElem? (i := 13) rfl)) (by decide) ?_
  refine k_iadd h (ddL_law3 (313, .iadd, 1) (List.mem_of_getElem? (i := 14) rfl)) ?_
  refine k_sld h hz (ddL_law3 (314, .iaload, 1) (List.mem_of_getElem? (i := 15) rfl)) ?_
  refine k_aload_n (i := 0) h (ddL_law3 (315, .aload_n 0, 1) (List.mem_of_getElem? (i := 16) rfl)) rfl ?_
  refine k_iload_n (i := 3) h (ddL_law3 (316, .iload_n 3, 1) (List.mem_of_getElem? (i := 17) rfl)) rfl ?_
  refine k_iconst (v := 2) h (ddL_law3 (317, .iconst 2, 1) (List.mem_of_getElem? (i := 18) rfl)) (by decide) ?_
  refine k_iadd h (ddL_law3 (318, .iadd, 1) (List.mem_of_getElem? (i := 19) rfl)) ?_
  refine k_sld h hz (ddL_law3 (319, .iaload, 1) (List.mem_of_getElem? (i := 20) rfl)) ?_
  refine k_callV h hl (aX8_place l) (ci := 8) (C := RX8) (T := TX8) (N := 11) rfl ⟨rfl, rfl⟩ (n := 2) (by decide +kernel) (q_gV gw834 gw835 gw836 gw91 gw833) ⟨by decide, by decide⟩ (ddL_law3 (320, .invokevirtual 39, 3) (List.mem_of_getElem? (i := 21) rfl)) ?_
  refine k_aload_n (i := 2) h (ddL_law3 (323, .aload_n 2, 1) (List.mem_of_getElem? (i := 22) rfl)) rfl ?_
  refine k_aload_n (i := 0) h (ddL_law3 (324, .aload_n 0, 1) (List.mem_of_getElem? (i := 23) rfl)) rfl ?_
  refine k_iload_n (i := 3) h (ddL_law3 (325, .iload_n 3, 1) (List.mem_of_getElem? (i := 24) rfl)) rfl ?_
  refine k_iconst (v := 1) h (ddL_law3 (326, .iconst 1, 1) (List.mem_of_getElem? (i := 25) rfl)) (by decide) ?_
  refine k_iadd h (ddL_law3 (327, .iadd, 1) (List.mem_of_getElem? (i := 26) rfl)) ?_
  refine k_sld h hz (ddL_law3 (328, .iaload, 1) (List.mem_of_getElem? (i := 27) rfl)) ?_
  refine k_aload_n (i := 0) h (ddL_law3 (329, .aload_n 0, 1) (List.mem_of_getElem? (i := 28) rfl)) rfl ?_
  refine k_iload_n (i := 3) h (ddL_law3 (330, .iload_n 3, 1) (List.mem_of_getElem? (i := 29) rfl)) rfl ?_
  refine k_iconst (v := 2) h (ddL_law3 (331, .iconst 2, 1) (List.mem_of_getElem? (i := 30) rfl)) (by decide) ?_
  refine k_iadd h (ddL_law3 (332, .iadd, 1) (List.mem_of_getElem? (i := 31) rfl)) ?_
  refine k_sld h hz (ddL_law3 (333, .iaload, 1) (List.mem_of_getElem? (i := 32) rfl)) ?_
  refine k_callV h hl (aX9_place l) (ci := 9) (C := RX9) (T := TX9) (N := 33) rfl ⟨rfl, rfl⟩ (n := 2) (by decide +kernel) (q_gV gw838 gw839 gw840 gw606 gw837) ⟨by decide, by decide⟩ (ddL_law3 (334, .invokevirtual 42, 3) (List.mem_of_getElem? (i := 33) rfl)) ?_
  refine k_iceq h (ddL_law3 (337, .if_icmp .eq 740, 3) (List.mem_of_getElem? (i := 34) rfl)) (tgt := 1077) (by decide) ?_ ?_
  · exact k_cut
  · exact sL_law_340 hl hQ hcap hz h
theorem sL_law_373 {l : Launch} {X : q_CX} {Ln : Nat} {xs : Nat → Int32} (hl : X.2.1 = l) (hQ : q_LQ X) (hcap : q_cap X room_1 L_cap) (hz : q_scr X Ln xs) (h : q_OK X yL_law cL_law 4 (some .boolean) room_1 (Cond.code yL_law cL_law 4 (some .boolean) :: q_G)) : q_SK X 4 373 (BL_law_373 Ln xs) := by
  refine k_iconst (v := 0) h (ddL_law4 (373, .iconst 0, 1) (List.mem_of_getElem? (i := 22) rfl)) (by decide) ?_
  exact k_lret h hQ (ddL_law4 (374, .ireturn, 1) (List.mem_of_getElem? (i := 23) rfl))
theorem sL_law_342 {l : Launch} {X : q_CX} {Ln : Nat} {xs : Nat → Int32} (hl : X.2.1 = l) (hQ : q_LQ X) (hcap : q_cap X room_1 L_cap) (hz : q_scr X Ln xs) (h : q_OK X yL_law cL_law 4 (some .boolean) room_1 (Cond.code yL_law cL_law 4 (some .boolean) :: q_G)) : q_SK X 4 342 (BL_law_342 Ln xs) := by
  refine k_aload_n (i := 1) h (ddL_law3 (342, .aload_n 1, 1) (List.mem_of_getElem? (i := 37) rfl)) rfl ?_
  refine k_aload_n (i := 0) h (ddL_law3 (343, .aload_n 0, 1) (List.mem_of_getElem? (i := 38) rfl)) rfl ?_
  refine k_iload_n (i := 3) h (ddL_law3 (344, .iload_n 3, 1) (List.mem_of_getElem? (i := 39) rfl)) rfl ?_
  refine k_iconst (v := 1) h (ddL_law4 (345, .iconst 1, 1) (List.mem_of_getElem? (i := 0) rfl)) (by decide) ?_
  refine k_iadd h (ddL_law4 (346, .iadd, 1) (List.mem_of_getElem? (i := 1) rfl)) ?_
  refine k_sld h hz (ddL_law4 (347, .iaload, 1) (List.mem_of_getElem? (i := 2) rfl)) ?_
  refine k_aload_n (i := 0) h (ddL_law4 (348, .aload_n 0, 1) (List.mem_of_getElem? (i := 3) rfl)) rfl ?_
  refine k_iload_n (i := 3) h (ddL_law4 (349, .iload_n 3, 1) (List.mem_of_getElem? (i := 4) rfl)) rfl ?_
  refine k_iconst (v := 2) h (ddL_law4 (350, .iconst 2, 1) (List.mem_of_getElem? (i := 5) rfl)) (by decide) ?_
  refine k_iadd h (ddL_law4 (351, .iadd, 1) (List.mem_of_getElem? (i := 6) rfl)) ?_
  refine k_sld h hz (ddL_law4 (352, .iaload, 1) (List.mem_of_getElem? (i := 7) rfl)) ?_
  refine k_callV h hl (aX8_height l) (ci := 8) (C := RX8) (T := TX8) (N := 11) rfl ⟨rfl, rfl⟩ (n := 2) (by decide +kernel) (q_gV gw842 gw843 gw844 gw91 gw841) ⟨by decide, by decide⟩ (ddL_law4 (353, .invokevirtual 43, 3) (List.mem_of_getElem? (i := 8) rfl)) ?_
  refine k_aload_n (i := 2) h (ddL_law4 (356, .aload_n 2, 1) (List.mem_of_getElem? (i := 9) rfl)) rfl ?_
  refine k_aload_n (i := 0) h (ddL_law4 (357, .aload_n 0, 1) (List.mem_of_getElem? (i := 10) rfl)) rfl ?_
  refine k_iload_n (i := 3) h (ddL_law4 (358, .iload_n 3, 1) (List.mem_of_getElem? (i := 11) rfl)) rfl ?_
  refine k_iconst (v := 1) h (ddL_law4 (359, .iconst 1, 1) (List.mem_of_getElem? (i := 12) rfl)) (by decide) ?_
  refine k_iadd h (ddL_law4 (360, .iadd, 1) (List.mem_of_getElem? (i := 13) rfl)) ?_
  refine k_sld h hz (ddL_law4 (361, .iaload, 1) (List.mem_of_getElem? (i := 14) rfl)) ?_
  refine k_aload_n (i := 0) h (ddL_law4 (362, .aload_n 0, 1) (List.mem_of_getElem? (i := 15) rfl)) rfl ?_
  refine k_iload_n (i := 3) h (ddL_law4 (363, .iload_n 3, 1) (List.mem_of_getElem? (i := 16) rfl)) rfl ?_
  refine k_iconst (v := 2) h (ddL_law4 (364, .iconst 2, 1) (List.mem_of_getElem? (i := 17) rfl)) (by decide) ?_
  refine k_iadd h (ddL_law4 (365, .iadd, 1) (List.mem_of_getElem? (i := 18) rfl)) ?_
  refine k_sld h hz (ddL_law4 (366, .iaload, 1) (List.mem_of_getElem? (i := 19) rfl)) ?_
  refine k_callV h hl (aX9_height l) (ci := 9) (C := RX9) (T := TX9) (N := 33) rfl ⟨rfl, rfl⟩ (n := 2) (by decide +kernel) (q_gV gw846 gw847 gw848 gw606 gw845) ⟨by decide, by decide⟩ (ddL_law4 (367, .invokevirtual 46, 3) (List.mem_of_getElem? (i := 20) rfl)) ?_
  refine k_iceq h (ddL_law4 (370, .if_icmp .eq 707, 3) (List.mem_of_getElem? (i := 21) rfl)) (tgt := 1077) (by decide) ?_ ?_
  · exact k_cut
  · exact sL_law_373 hl hQ hcap hz h
theorem sL_law_396 {l : Launch} {X : q_CX} {Ln : Nat} {xs : Nat → Int32} (hl : X.2.1 = l) (hQ : q_LQ X) (hcap : q_cap X room_1 L_cap) (hz : q_scr X Ln xs) (h : q_OK X yL_law cL_law 4 (some .boolean) room_1 (Cond.code yL_law cL_law 4 (some .boolean) :: q_G)) : q_SK X 4 396 (BL_law_396 Ln xs) := by
  refine k_iconst (v := 0) h (ddL_law4 (396, .iconst 0, 1) (List.mem_of_getElem? (i := 39) rfl)) (by decide) ?_
  exact k_lret h hQ (ddL_law5 (397, .ireturn, 1) (List.mem_of_getElem? (i := 0) rfl))
theorem sL_law_375 {l : Launch} {X : q_CX} {Ln : Nat} {xs : Nat → Int32} (hl : X.2.1 = l) (hQ : q_LQ X) (hcap : q_cap X room_1 L_cap) (hz : q_scr X Ln xs) (h : q_OK X yL_law cL_law 4 (some .boolean) room_1 (Cond.code yL_law cL_law 4 (some .boolean) :: q_G)) : q_SK X 4 375 (BL_law_375 Ln xs) := by
  refine k_aload_n (i := 1) h (ddL_law4 (375, .aload_n 1, 1) (List.mem_of_getElem? (i := 24) rfl)) rfl ?_
  refine k_aload_n (i := 0) h (ddL_law4 (376, .aload_n 0, 1) (List.mem_of_getElem? (i := 25) rfl)) rfl ?_
  refine k_iload_n (i := 3) h (ddL_law4 (377, .iload_n 3, 1) (List.mem_of_getElem? (i := 26) rfl)) rfl ?_
  refine k_iconst (v := 1) h (ddL_law4 (378, .iconst 1, 1) (List.mem_of_getElem? (i := 27) rfl)) (by decide) ?_
  refine k_iadd h (ddL_law4 (379, .iadd, 1) (List.mem_of_getElem? (i := 28) rfl)) ?_
  refine k_sld h hz (ddL_law4 (380, .iaload, 1) (List.mem_of_getElem? (i := 29) rfl)) ?_
  refine k_callV h hl (aX8_stay l) (ci := 8) (C := RX8) (T := TX8) (N := 11) rfl ⟨rfl, rfl⟩ (n := 1) (by decide +kernel) (q_gV gw850 gw851 gw852 gw91 gw849) ⟨by decide, by decide⟩ (ddL_law4 (381, .invokevirtual 47, 3) (List.mem_of_getElem? (i := 30) rfl)) ?_
  refine k_aload_n (i := 2) h (ddL_law4 (384, .aload_n 2, 1) (List.mem_of_getElem? (i := 31) rfl)) rfl ?_
  refine k_aload_n (i := 0) h (ddL_law4 (385, .aload_n 0, 1) (List.mem_of_getElem? (i := 32) rfl)) rfl ?_
  refine k_iload_n (i := 3) h (ddL_law4 (386, .iload_n 3, 1) (List.mem_of_getElem? (i := 33) rfl)) rfl ?_
  refine k_iconst (v := 1) h (ddL_law4 (387, .iconst 1, 1) (List.mem_of_getElem? (i := 34) rfl)) (by decide) ?_
  refine k_iadd h (ddL_law4 (388, .iadd, 1) (List.mem_of_getElem? (i := 35) rfl)) ?_
  refine k_sld h hz (ddL_law4 (389, .iaload, 1) (List.mem_of_getElem? (i := 36) rfl)) ?_
  refine k_callV h hl (aX9_stay l) (ci := 9) (C := RX9) (T := TX9) (N := 33) rfl ⟨rfl, rfl⟩ (n := 1) (by decide +kernel) (q_gV gw854 gw855 gw856 gw606 gw853) ⟨by decide, by decide⟩ (ddL_law4 (390, .invokevirtual 50, 3) (List.mem_of_getElem? (i := 37) rfl)) ?_
  refine k_iceq h (ddL_law4 (393, .if_icmp .eq 684, 3) (List.mem_of_getElem? (i := 38) rfl)) (tgt := 1077) (by decide) ?_ ?_
  · exact k_cut
  · exact sL_law_396 hl hQ hcap hz h
theorem sL_law_419 {l : Launch} {X : q_CX} {Ln : Nat} {xs : Nat → Int32} (hl : X.2.1 = l) (hQ : q_LQ X) (hcap : q_cap X room_1 L_cap) (hz : q_scr X Ln xs) (h : q_OK X yL_law cL_law 4 (some .boolean) room_1 (Cond.code yL_law cL_law 4 (some .boolean) :: q_G)) : q_SK X 4 419 (BL_law_419 Ln xs) := by
  refine k_iconst (v := 0) h (ddL_law5 (419, .iconst 0, 1) (List.mem_of_getElem? (i := 16) rfl)) (by decide) ?_
  exact k_lret h hQ (ddL_law5 (420, .ireturn, 1) (List.mem_of_getElem? (i := 17) rfl))
theorem sL_law_398 {l : Launch} {X : q_CX} {Ln : Nat} {xs : Nat → Int32} (hl : X.2.1 = l) (hQ : q_LQ X) (hcap : q_cap X room_1 L_cap) (hz : q_scr X Ln xs) (h : q_OK X yL_law cL_law 4 (some .boolean) room_1 (Cond.code yL_law cL_law 4 (some .boolean) :: q_G)) : q_SK X 4 398 (BL_law_398 Ln xs) := by
  refine k_aload_n (i := 1) h (ddL_law5 (398, .aload_n 1, 1) (List.mem_of_getElem? (i := 1) rfl)) rfl ?_
  refine k_aload_n (i := 0) h (ddL_law5 (399, .aload_n 0, 1) (List.mem_of_getElem? (i := 2) rfl)) rfl ?_
  refine k_iload_n (i := 3) h (ddL_law5 (400, .iload_n 3, 1) (List.mem_of_getElem? (i := 3) rfl)) rfl ?_
  refine k_iconst (v := 1) h (ddL_law5 (401, .iconst 1, 1) (List.mem_of_getElem? (i := 4) rfl)) (by decide) ?_
  refine k_iadd h (ddL_law5 (402, .iadd, 1) (List.mem_of_getElem? (i := 5) rfl)) ?_
  refine k_sld h hz (ddL_law5 (403, .iaload, 1) (List.mem_of_getElem? (i := 6) rfl)) ?_
  refine k_callV h hl (aX8_go l) (ci := 8) (C := RX8) (T := TX8) (N := 11) rfl ⟨rfl, rfl⟩ (n := 1) (by decide +kernel) (q_gV gw858 gw859 gw860 gw91 gw857) ⟨by decide, by decide⟩ (ddL_law5 (404, .invokevirtual 51, 3) (List.mem_of_getElem? (i := 7) rfl)) ?_
  refine k_aload_n (i := 2) h (ddL_law5 (407, .aload_n 2, 1) (List.mem_of_getElem? (i := 8) rfl)) rfl ?_
  refine k_aload_n (i := 0) h (ddL_law5 (408, .aload_n 0, 1) (List.mem_of_getElem? (i := 9) rfl)) rfl ?_
  refine k_iload_n (i := 3) h (ddL_law5 (409, .iload_n 3, 1) (List.mem_of_getElem? (i := 10) rfl)) rfl ?_
  refine k_iconst (v := 1) h (ddL_law5 (410, .iconst 1, 1) (List.mem_of_getElem? (i := 11) rfl)) (by decide) ?_
  refine k_iadd h (ddL_law5 (411, .iadd, 1) (List.mem_of_getElem? (i := 12) rfl)) ?_
  refine k_sld h hz (ddL_law5 (412, .iaload, 1) (List.mem_of_getElem? (i := 13) rfl)) ?_
  refine k_callV h hl (aX9_go l) (ci := 9) (C := RX9) (T := TX9) (N := 33) rfl ⟨rfl, rfl⟩ (n := 1) (by decide +kernel) (q_gV gw862 gw863 gw864 gw606 gw861) ⟨by decide, by decide⟩ (ddL_law5 (413, .invokevirtual 54, 3) (List.mem_of_getElem? (i := 14) rfl)) ?_
  refine k_iceq h (ddL_law5 (416, .if_icmp .eq 661, 3) (List.mem_of_getElem? (i := 15) rfl)) (tgt := 1077) (by decide) ?_ ?_
  · exact k_cut
  · exact sL_law_419 hl hQ hcap hz h
theorem sL_law_452 {l : Launch} {X : q_CX} {Ln : Nat} {xs : Nat → Int32} (hl : X.2.1 = l) (hQ : q_LQ X) (hcap : q_cap X room_1 L_cap) (hz : q_scr X Ln xs) (h : q_OK X yL_law cL_law 4 (some .boolean) room_1 (Cond.code yL_law cL_law 4 (some .boolean) :: q_G)) : q_SK X 4 452 (BL_law_452 Ln xs) := by
  refine k_iconst (v := 0) h (ddL_law6 (452, .iconst 0, 1) (List.mem_of_getElem? (i := 3) rfl)) (by decide) ?_
  exact k_lret h hQ (ddL_law6 (453, .ireturn, 1) (List.mem_of_getElem? (i := 4) rfl))
theorem sL_law_421 {l : Launch} {X : q_CX} {Ln : Nat} {xs : Nat → Int32} (hl : X.2.1 = l) (hQ : q_LQ X) (hcap : q_cap X room_1 L_cap) (hz : q_scr X Ln xs) (h : q_OK X yL_law cL_law 4 (some .boolean) room_1 (Cond.code yL_law cL_law 4 (some .boolean) :: q_G)) : q_SK X 4 421 (BL_law_421 Ln xs) := by
  refine k_aload_n (i := 1) h (ddL_law5 (421, .aload_n 1, 1) (List.mem_of_getElem? (i := 18) rfl)) rfl ?_
  refine k_aload_n (i := 0) h (ddL_law5 (422, .aload_n 0, 1) (List.mem_of_getElem? (i := 19) rfl)) rfl ?_
  refine k_iload_n (i := 3) h (ddL_law5 (423, .iload_n 3, 1) (List.mem_of_getElem? (i := 20) rfl)) rfl ?_
  refine k_iconst (v := 1) h (ddL_law5 (424, .iconst 1, 1) (List.mem_of_getElem? (i := 21) rfl)) (by decide) ?_
  refine k_iadd h (ddL_law5 (425, .iadd, 1) (List.mem_of_getElem? (i := 22) rfl)) ?_
  refine k_sld h hz (ddL_law5 (426, .iaload, 1) (List.mem_of_getElem? (i := 23) rfl)) ?_
  refine k_aload_n (i := 0) h (ddL_law5 (427, .aload_n 0, 1) (List.mem_of_getElem? (i := 24) rfl)) rfl ?_
  refine k_iload_n (i := 3) h (ddL_law5 (428, .iload_n 3, 1) (List.mem_of_getElem? (i := 25) rfl)) rfl ?_
  refine k_iconst (v := 2) h (ddL_law5 (429, .iconst 2, 1) (List.mem_of_getElem? (i := 26) rfl)) (by decide) ?_
  refine k_iadd h (ddL_law5 (430, .iadd, 1) (List.mem_of_getElem? (i := 27) rfl)) ?_
  refine k_sld h hz (ddL_law5 (431, .iaload, 1) (List.mem_of_getElem? (i := 28) rfl)) ?_
  refine k_callV h hl (aX8_knock l) (ci := 8) (C := RX8) (T := TX8) (N := 11) rfl ⟨rfl, rfl⟩ (n := 2) (by decide +kernel) (q_gV gw866 gw867 gw868 gw91 gw865) ⟨by decide, by decide⟩ (ddL_law5 (432, .invokevirtual 55, 3) (List.mem_of_getElem? (i := 29) rfl)) ?_
  refine k_aload_n (i := 2) h (ddL_law5 (435, .aload_n 2, 1) (List.mem_of_getElem? (i := 30) rfl)) rfl ?_
  refine k_aload_n (i := 0) h (ddL_law5 (436, .aload_n 0, 1) (List.mem_of_getElem? (i := 31) rfl)) rfl ?_
  refine k_iload_n (i := 3) h (ddL_law5 (437, .iload_n 3, 1) (List.mem_of_getElem? (i := 32) rfl)) rfl ?_
  refine k_iconst (v := 1) h (ddL_law5 (438, .iconst 1, 1) (List.mem_of_getElem? (i := 33) rfl)) (by decide) ?_
  refine k_iadd h (ddL_law5 (439, .iadd, 1) (List.mem_of_getElem? (i := 34) rfl)) ?_
  refine k_sld h hz (ddL_law5 (440, .iaload, 1) (List.mem_of_getElem? (i := 35) rfl)) ?_
  refine k_aload_n (i := 0) h (ddL_law5 (441, .aload_n 0, 1) (List.mem_of_getElem? (i := 36) rfl)) rfl ?_
  refine k_iload_n (i := 3) h (ddL_law5 (442, .iload_n 3, 1) (List.mem_of_getElem? (i := 37) rfl)) rfl ?_
  refine k_iconst (v := 2) h (ddL_law5 (443, .iconst 2, 1) (List.mem_of_getElem? (i := 38) rfl)) (by decide) ?_
  refine k_iadd h (ddL_law5 (444, .iadd, 1) (List.mem_of_getElem? (i := 39) rfl)) ?_
  refine k_sld h hz (ddL_law6 (445, .iaload, 1) (List.mem_of_getElem? (i := 0) rfl)) ?_
  refine k_callV h hl (aX9_knock l) (ci := 9) (C := RX9) (T := TX9) (N := 33) rfl ⟨rfl, rfl⟩ (n := 2) (by decide +kernel) (q_gV gw870 gw871 gw872 gw606 gw869) ⟨by decide, by decide⟩ (ddL_law6 (446, .invokevirtual 58, 3) (List.mem_of_getElem? (i := 1) rfl)) ?_
  refine k_iceq h (ddL_law6 (449, .if_icmp .eq 628, 3) (List.mem_of_getElem? (i := 2) rfl)) (tgt := 1077) (by decide) ?_ ?_
  · exact k_cut
  · exact sL_law_452 hl hQ hcap hz h
theorem sL_law_475 {l : Launch} {X : q_CX} {Ln : Nat} {xs : Nat → Int32} (hl : X.2.1 = l) (hQ : q_LQ X) (hcap : q_cap X room_1 L_cap) (hz : q_scr X Ln xs) (h : q_OK X yL_law cL_law 4 (some .boolean) room_1 (Cond.code yL_law cL_law 4 (some .boolean) :: q_G)) : q_SK X 4 475 (BL_law_475 Ln xs) := by
  refine k_iconst (v := 0) h (ddL_law6 (475, .iconst 0, 1) (List.mem_of_getElem? (i := 20) rfl)) (by decide) ?_
  exact k_lret h hQ (ddL_law6 (476, .ireturn, 1) (List.mem_of_getElem? (i := 21) rfl))
theorem sL_law_454 {l : Launch} {X : q_CX} {Ln : Nat} {xs : Nat → Int32} (hl : X.2.1 = l) (hQ : q_LQ X) (hcap : q_cap X room_1 L_cap) (hz : q_scr X Ln xs) (h : q_OK X yL_law cL_law 4 (some .boolean) room_1 (Cond.code yL_law cL_law 4 (some .boolean) :: q_G)) : q_SK X 4 454 (BL_law_454 Ln xs) := by
  refine k_aload_n (i := 1) h (ddL_law6 (454, .aload_n 1, 1) (List.mem_of_getElem? (i := 5) rfl)) rfl ?_
  refine k_aload_n (i := 0) h (ddL_law6 (455, .aload_n 0, 1) (List.mem_of_getElem? (i := 6) rfl)) rfl ?_
  refine k_iload_n (i := 3) h (ddL_law6 (456, .iload_n 3, 1) (List.mem_of_getElem? (i := 7) rfl)) rfl ?_
  refine k_iconst (v := 1) h (ddL_law6 (457, .iconst 1, 1) (List.mem_of_getElem? (i := 8) rfl)) (by decide) ?_
  refine k_iadd h (ddL_law6 (458, .iadd, 1) (List.mem_of_getElem? (i := 9) rfl)) ?_
  refine k_sld h hz (ddL_law6 (459, .iaload, 1) (List.mem_of_getElem? (i := 10) rfl)) ?_
  refine k_callV h hl (aX8_push l) (ci := 8) (C := RX8) (T := TX8) (N := 11) rfl ⟨rfl, rfl⟩ (n := 1) (by decide +kernel) (q_gV gw874 gw875 gw876 gw91 gw873) ⟨by decide, by decide⟩ (ddL_law6 (460, .invokevirtual 59, 3) (List.mem_of_getElem? (i := 11) rfl)) ?_
  refine k_aload_n (i := 2) h (ddL_law6 (463, .aload_n 2, 1) (List.mem_of_getElem? (i := 12) rfl)) rfl ?_
  refine k_aload_n (i := 0) h (ddL_law6 (464, .aload_n 0, 1) (List.mem_of_getElem? (i := 13) rfl)) rfl ?_
  refine k_iload_n (i := 3) h (ddL_law6 (465, .iload_n 3, 1) (List.mem_of_getElem? (i := 14) rfl)) rfl ?_
  refine k_iconst (v := 1) h (ddL_law6 (466, .iconst 1, 1) (List.mem_of_getElem? (i := 15) rfl)) (by decide) ?_
  refine k_iadd h (ddL_law6 (467, .iadd, 1) (List.mem_of_getElem? (i := 16) rfl)) ?_
  refine k_sld h hz (ddL_law6 (468, .iaload, 1) (List.mem_of_getElem? (i := 17) rfl)) ?_
  refine k_callV h hl (aX9_push l) (ci := 9) (C := RX9) (T := TX9) (N := 33) rfl ⟨rfl, rfl⟩ (n := 1) (by decide +kernel) (q_gV gw878 gw879 gw880 gw606 gw877) ⟨by decide, by decide⟩ (ddL_law6 (469, .invokevirtual 62, 3) (List.mem_of_getElem? (i := 18) rfl)) ?_
  refine k_iceq h (ddL_law6 (472, .if_icmp .eq 605, 3) (List.mem_of_getElem? (i := 19) rfl)) (tgt := 1077) (by decide) ?_ ?_
  · exact k_cut
  · exact sL_law_475 hl hQ hcap hz h
theorem sL_law_498 {l : Launch} {X : q_CX} {Ln : Nat} {xs : Nat → Int32} (hl : X.2.1 = l) (hQ : q_LQ X) (hcap : q_cap X room_1 L_cap) (hz : q_scr X Ln xs) (h : q_OK X yL_law cL_law 4 (some .boolean) room_1 (Cond.code yL_law cL_law 4 (some .boolean) :: q_G)) : q_SK X 4 498 (BL_law_498 Ln xs) := by
  refine k_iconst (v := 0) h (ddL_law6 (498, .iconst 0, 1) (List.mem_of_getElem? (i := 37) rfl)) (by decide) ?_
  exact k_lret h hQ (ddL_law6 (499, .ireturn, 1) (List.mem_of_getElem? (i := 38) rfl))
theorem sL_law_477 {l : Launch} {X : q_CX} {Ln : Nat} {xs : Nat → Int32} (hl : X.2.1 = l) (hQ : q_LQ X) (hcap : q_cap X room_1 L_cap) (hz : q_scr X Ln xs) (h : q_OK X yL_law cL_law 4 (some .boolean) room_1 (Cond.code yL_law cL_law 4 (some .boolean) :: q_G)) : q_SK X 4 477 (BL_law_477 Ln xs) := by
  refine k_aload_n (i := 1) h (ddL_law6 (477, .aload_n 1, 1) (List.mem_of_getElem? (i := 22) rfl)) rfl ?_
  refine k_aload_n (i := 0) h (ddL_law6 (478, .aload_n 0, 1) (List.mem_of_getElem? (i := 23) rfl)) rfl ?_
  refine k_iload_n (i := 3) h (ddL_law6 (479, .iload_n 3, 1) (List.mem_of_getElem? (i := 24) rfl)) rfl ?_
  refine k_iconst (v := 1) h (ddL_law6 (480, .iconst 1, 1) (List.mem_of_getElem? (i := 25) rfl)) (by decide) ?_
  refine k_iadd h (ddL_law6 (481, .iadd, 1) (List.mem_of_getElem? (i := 26) rfl)) ?_
  refine k_sld h hz (ddL_law6 (482, .iaload, 1) (List.mem_of_getElem? (i := 27) rfl)) ?_
  refine k_callV h hl (aX8_drift l) (ci := 8) (C := RX8) (T := TX8) (N := 11) rfl ⟨rfl, rfl⟩ (n := 1) (by decide +kernel) (q_gV gw882 gw883 gw884 gw91 gw881) ⟨by decide, by decide⟩ (ddL_law6 (483, .invokevirtual 63, 3) (List.mem_of_getElem? (i := 28) rfl)) ?_
  refine k_aload_n (i := 2) h (ddL_law6 (486, .aload_n 2, 1) (List.mem_of_getElem? (i := 29) rfl)) rfl ?_
  refine k_aload_n (i := 0) h (ddL_law6 (487, .aload_n 0, 1) (List.mem_of_getElem? (i := 30) rfl)) rfl ?_
  refine k_iload_n (i := 3) h (ddL_law6 (488, .iload_n 3, 1) (List.mem_of_getElem? (i := 31) rfl)) rfl ?_
  refine k_iconst (v := 1) h (ddL_law6 (489, .iconst 1, 1) (List.mem_of_getElem? (i := 32) rfl)) (by decide) ?_
  refine k_iadd h (ddL_law6 (490, .iadd, 1) (List.mem_of_getElem? (i := 33) rfl)) ?_
  refine k_sld h hz (ddL_law6 (491, .iaload, 1) (List.mem_of_getElem? (i := 34) rfl)) ?_
  refine k_callV h hl (aX9_drift l) (ci := 9) (C := RX9) (T := TX9) (N := 33) rfl ⟨rfl, rfl⟩ (n := 1) (by decide +kernel) (q_gV gw886 gw887 gw888 gw606 gw885) ⟨by decide, by decide⟩ (ddL_law6 (492, .invokevirtual 66, 3) (List.mem_of_getElem? (i := 35) rfl)) ?_
  refine k_iceq h (ddL_law6 (495, .if_icmp .eq 582, 3) (List.mem_of_getElem? (i := 36) rfl)) (tgt := 1077) (by decide) ?_ ?_
  · exact k_cut
  · exact sL_law_498 hl hQ hcap hz h
theorem sL_law_541 {l : Launch} {X : q_CX} {Ln : Nat} {xs : Nat → Int32} (hl : X.2.1 = l) (hQ : q_LQ X) (hcap : q_cap X room_1 L_cap) (hz : q_scr X Ln xs) (h : q_OK X yL_law cL_law 4 (some .boolean) room_1 (Cond.code yL_law cL_law 4 (some .boolean) :: q_G)) : q_SK X 4 541 (BL_law_541 Ln xs) := by
  refine k_iconst (v := 0) h (ddL_law7 (541, .iconst 0, 1) (List.mem_of_getElem? (i := 34) rfl)) (by decide) ?_
  exact k_lret h hQ (ddL_law7 (542, .ireturn, 1) (List.mem_of_getElem? (i := 35) rfl))
theorem sL_law_500 {l : Launch} {X : q_CX} {Ln : Nat} {xs : Nat → Int32} (hl : X.2.1 = l) (hQ : q_LQ X) (hcap : q_cap X room_1 L_cap) (hz : q_scr X Ln xs) (h : q_OK X yL_law cL_law 4 (some .boolean) room_1 (Cond.code yL_law cL_law 4 (some .boolean) :: q_G)) : q_SK X 4 500 (BL_law_500 Ln xs) := by
  refine k_aload_n (i := 1) h (ddL_law6 (500, .aload_n 1, 1) (List.mem_of_getElem? (i := 39) rfl)) rfl ?_
  refine k_aload_n (i := 0) h (ddL_law7 (501, .aload_n 0, 1) (List.mem_of_getElem? (i := 0) rfl)) rfl ?_
  refine k_iload_n (i := 3) h (ddL_law7 (502, .iload_n 3, 1) (List.mem_of_getElem? (i := 1) rfl)) rfl ?_
  refine k_iconst (v := 1) h (ddL_law7 (503, .iconst 1, 1) (List.mem_of_getElem? (i := 2) rfl)) (by decide) ?_
  refine k_iadd h (ddL_law7 (504, .iadd, 1) (List.mem_of_getElem? (i := 3) rfl)) ?_
  refine k_sld h hz (ddL_law7 (505, .iaload, 1) (List.mem_of_getElem? (i := 4) rfl)) ?_
  refine k_aload_n (i := 0) h (ddL_law7 (506, .aload_n 0, 1) (List.mem_of_getElem? (i := 5) rfl)) rfl ?_
  refine k_iload_n (i := 3) h (ddL_law7 (507, .iload_n 3, 1) (List.mem_of_getElem? (i := 6) rfl)) rfl ?_
  refine k_iconst (v := 2) h (ddL_law7 (508, .iconst 2, 1) (List.mem_of_getElem? (i := 7) rfl)) (by decide) ?_
  refine k_iadd h (ddL_law7 (509, .iadd, 1) (List.mem_of_getElem? (i := 8) rfl)) ?_
  refine k_sld h hz (ddL_law7 (510, .iaload, 1) (List.mem_of_getElem? (i := 9) rfl)) ?_
  refine k_aload_n (i := 0) h (ddL_law7 (511, .aload_n 0, 1) (List.mem_of_getElem? (i := 10) rfl)) rfl ?_
  refine k_iload_n (i := 3) h (ddL_law7 (512, .iload_n 3, 1) (List.mem_of_getElem? (i := 11) rfl)) rfl ?_
  refine k_iconst (v := 3) h (ddL_law7 (513, .iconst 3, 1) (List.mem_of_getElem? (i := 12) rfl)) (by decide) ?_
  refine k_iadd h (ddL_law7 (514, .iadd, 1) (List.mem_of_getElem? (i := 13) rfl)) ?_
  refine k_sld h hz (ddL_law7 (515, .iaload, 1) (List.mem_of_getElem? (i := 14) rfl)) ?_
  refine k_callV h hl (aX8_next l) (ci := 8) (C := RX8) (T := TX8) (N := 11) rfl ⟨rfl, rfl⟩ (n := 3) (by decide +kernel) (q_gV gw890 gw891 gw892 gw91 gw889) ⟨by decide, by decide⟩ (ddL_law7 (516, .invokevirtual 67, 3) (List.mem_of_getElem? (i := 15) rfl)) ?_
  refine k_aload_n (i := 2) h (ddL_law7 (519, .aload_n 2, 1) (List.mem_of_getElem? (i := 16) rfl)) rfl ?_
  refine k_aload_n (i := 0) h (ddL_law7 (520, .aload_n 0, 1) (List.mem_of_getElem? (i := 17) rfl)) rfl ?_
  refine k_iload_n (i := 3) h (ddL_law7 (521, .iload_n 3, 1) (List.mem_of_getElem? (i := 18) rfl)) rfl ?_
  refine k_iconst (v := 1) h (ddL_law7 (522, .iconst 1, 1) (List.mem_of_getElem? (i := 19) rfl)) (by decide) ?_
  refine k_iadd h (ddL_law7 (523, .iadd, 1) (List.mem_of_getElem? (i := 20) rfl)) ?_
  refine k_sld h hz (ddL_law7 (524, .iaload, 1) (List.mem_of_getElem? (i := 21) rfl)) ?_
  refine k_aload_n (i := 0) h (ddL_law7 (525, .aload_n 0, 1) (List.mem_of_getElem? (i := 22) rfl)) rfl ?_
  refine k_iload_n (i := 3) h (ddL_law7 (526, .iload_n 3, 1) (List.mem_of_getElem? (i := 23) rfl)) rfl ?_
  refine k_iconst (v := 2) h (ddL_law7 (527, .iconst 2, 1) (List.mem_of_getElem? (i := 24) rfl)) (by decide) ?_
  refine k_iadd h (ddL_law7 (528, .iadd, 1) (List.mem_of_getElem? (i := 25) rfl)) ?_
  refine k_sld h hz (ddL_law7 (529, .iaload, 1) (List.mem_of_getElem? (i := 26) rfl)) ?_
  refine k_aload_n (i := 0) h (ddL_law7 (530, .aload_n 0, 1) (List.mem_of_getElem? (i := 27) rfl)) rfl ?_
  refine k_iload_n (i := 3) h (ddL_law7 (531, .iload_n 3, 1) (List.mem_of_getElem? (i := 28) rfl)) rfl ?_
  refine k_iconst (v := 3) h (ddL_law7 (532, .iconst 3, 1) (List.mem_of_getElem? (i := 29) rfl)) (by decide) ?_
  refine k_iadd h (ddL_law7 (533, .iadd, 1) (List.mem_of_getElem? (i := 30) rfl)) ?_
  refine k_sld h hz (ddL_law7 (534, .iaload, 1) (List.mem_of_getElem? (i := 31) rfl)) ?_
  refine k_callV h hl (aX9_next l) (ci := 9) (C := RX9) (T := TX9) (N := 33) rfl ⟨rfl, rfl⟩ (n := 3) (by decide +kernel) (q_gV gw894 gw895 gw896 gw606 gw893) ⟨by decide, by decide⟩ (ddL_law7 (535, .invokevirtual 71, 3) (List.mem_of_getElem? (i := 32) rfl)) ?_
  refine k_iceq h (ddL_law7 (538, .if_icmp .eq 539, 3) (List.mem_of_getElem? (i := 33) rfl)) (tgt := 1077) (by decide) ?_ ?_
  · exact k_cut
  · exact sL_law_541 hl hQ hcap hz h
theorem sL_law_574 {l : Launch} {X : q_CX} {Ln : Nat} {xs : Nat → Int32} (hl : X.2.1 = l) (hQ : q_LQ X) (hcap : q_cap X room_1 L_cap) (hz : q_scr X Ln xs) (h : q_OK X yL_law cL_law 4 (some .boolean) room_1 (Cond.code yL_law cL_law 4 (some .boolean) :: q_G)) : q_SK X 4 574 (BL_law_574 Ln xs) := by
  refine k_iconst (v := 0) h (ddL_law8 (574, .iconst 0, 1) (List.mem_of_getElem? (i := 21) rfl)) (by decide) ?_
  exact k_lret h hQ (ddL_law8 (575, .ireturn, 1) (List.mem_of_getElem? (i := 22) rfl))
theorem sL_law_543 {l : Launch} {X : q_CX} {Ln : Nat} {xs : Nat → Int32} (hl : X.2.1 = l) (hQ : q_LQ X) (hcap : q_cap X room_1 L_cap) (hz : q_scr X Ln xs) (h : q_OK X yL_law cL_law 4 (some .boolean) room_1 (Cond.code yL_law cL_law 4 (some .boolean) :: q_G)) : q_SK X 4 543 (BL_law_543 Ln xs) := by
  refine k_aload_n (i := 1) h (ddL_law7 (543, .aload_n 1, 1) (List.mem_of_getElem? (i := 36) rfl)) rfl ?_
  refine k_aload_n (i := 0) h (ddL_law7 (544, .aload_n 0, 1) (List.mem_of_getElem? (i := 37) rfl)) rfl ?_
  refine k_iload_n (i := 3) h (ddL_law7 (545, .iload_n 3, 1) (List.mem_of_getElem? (i := 38) rfl)) rfl ?_
  refine k_iconst (v := 1) h (ddL_law7 (546, .iconst 1, 1) (List.mem_of_getElem? (i := 39) rfl)) (by decide) ?_
  refine k_iadd h (ddL_law8 (547, .iadd, 1) (List.mem_of_getElem? (i := 0) rfl)) ?_
  refine k_sld h hz (ddL_law8 (548, .iaload, 1) (List.mem_of_getElem? (i := 1) rfl)) ?_
  refine k_aload_n (i := 0) h (ddL_law8 (549, .aload_n 0, 1) (List.mem_of_getElem? (i := 2) rfl)) rfl ?_
  refine k_iload_n (i := 3) h (ddL_law8 (550, .iload_n 3, 1) (List.mem_of_getElem? (i := 3) rfl)) rfl ?_
  refine k_iconst (v := 2) h (ddL_law8 (551, .iconst 2, 1) (List.mem_of_getElem? (i := 4) rfl)) (by decide) ?_
  refine k_iadd h (ddL_law8 (552, .iadd, 1) (List.mem_of_getElem? (i := 5) rfl)) ?_
  refine k_sld h hz (ddL_law8 (553, .iaload, 1) (List.mem_of_getElem? (i := 6) rfl)) ?_
  refine k_callV h hl (aX8_share l) (ci := 8) (C := RX8) (T := TX8) (N := 11) rfl ⟨rfl, rfl⟩ (n := 2) (by decide +kernel) (q_gV gw898 gw899 gw900 gw91 gw897) ⟨by decide, by decide⟩ (ddL_law8 (554, .invokevirtual 72, 3) (List.mem_of_getElem? (i := 7) rfl)) ?_
  refine k_aload_n (i := 2) h (ddL_law8 (557, .aload_n 2, 1) (List.mem_of_getElem? (i := 8) rfl)) rfl ?_
  refine k_aload_n (i := 0) h (ddL_law8 (558, .aload_n 0, 1) (List.mem_of_getElem? (i := 9) rfl)) rfl ?_
  refine k_iload_n (i := 3) h (ddL_law8 (559, .iload_n 3, 1) (List.mem_of_getElem? (i := 10) rfl)) rfl ?_
  refine k_iconst (v := 1) h (ddL_law8 (560, .iconst 1, 1) (List.mem_of_getElem? (i := 11) rfl)) (by decide) ?_
  refine k_iadd h (ddL_law8 (561, .iadd, 1) (List.mem_of_getElem? (i := 12) rfl)) ?_
  refine k_sld h hz (ddL_law8 (562, .iaload, 1) (List.mem_of_getElem? (i := 13) rfl)) ?_
  refine k_aload_n (i := 0) h (ddL_law8 (563, .aload_n 0, 1) (List.mem_of_getElem? (i := 14) rfl)) rfl ?_
  refine k_iload_n (i := 3) h (ddL_law8 (564, .iload_n 3, 1) (List.mem_of_getElem? (i := 15) rfl)) rfl ?_
  refine k_iconst (v := 2) h (ddL_law8 (565, .iconst 2, 1) (List.mem_of_getElem? (i := 16) rfl)) (by decide) ?_
  refine k_iadd h (ddL_law8 (566, .iadd, 1) (List.mem_of_getElem? (i := 17) rfl)) ?_
  refine k_sld h hz (ddL_law8 (567, .iaload, 1) (List.mem_of_getElem? (i := 18) rfl)) ?_
  refine k_callV h hl (aX9_share l) (ci := 9) (C := RX9) (T := TX9) (N := 33) rfl ⟨rfl, rfl⟩ (n := 2) (by decide +kernel) (q_gV gw902 gw903 gw904 gw606 gw901) ⟨by decide, by decide⟩ (ddL_law8 (568, .invokevirtual 75, 3) (List.mem_of_getElem? (i := 19) rfl)) ?_
  refine k_iceq h (ddL_law8 (571, .if_icmp .eq 506, 3) (List.mem_of_getElem? (i := 20) rfl)) (tgt := 1077) (by decide) ?_ ?_
  · exact k_cut
  · exact sL_law_574 hl hQ hcap hz h
theorem sL_law_627 {l : Launch} {X : q_CX} {Ln : Nat} {xs : Nat → Int32} (hl : X.2.1 = l) (hQ : q_LQ X) (hcap : q_cap X room_1 L_cap) (hz : q_scr X Ln xs) (h : q_OK X yL_law cL_law 4 (some .boolean) room_1 (Cond.code yL_law cL_law 4 (some .boolean) :: q_G)) : q_SK X 4 627 (BL_law_627 Ln xs) := by
  refine k_iconst (v := 0) h (ddL_law9 (627, .iconst 0, 1) (List.mem_of_getElem? (i := 28) rfl)) (by decide) ?_
  exact k_lret h hQ (ddL_law9 (628, .ireturn, 1) (List.mem_of_getElem? (i := 29) rfl))
theorem sL_law_576 {l : Launch} {X : q_CX} {Ln : Nat} {xs : Nat → Int32} (hl : X.2.1 = l) (hQ : q_LQ X) (hcap : q_cap X room_1 L_cap) (hz : q_scr X Ln xs) (h : q_OK X yL_law cL_law 4 (some .boolean) room_1 (Cond.code yL_law cL_law 4 (some .boolean) :: q_G)) : q_SK X 4 576 (BL_law_576 Ln xs) := by
  refine k_aload_n (i := 1) h (ddL_law8 (576, .aload_n 1, 1) (List.mem_of_getElem? (i := 23) rfl)) rfl ?_
  refine k_aload_n (i := 0) h (ddL_law8 (577, .aload_n 0, 1) (List.mem_of_getElem? (i := 24) rfl)) rfl ?_
  refine k_iload_n (i := 3) h (ddL_law8 (578, .iload_n 3, 1) (List.mem_of_getElem? (i := 25) rfl)) rfl ?_
  refine k_iconst (v := 1) h (ddL_law8 (579, .iconst 1, 1) (List.mem_of_getElem? (i := 26) rfl)) (by decide) ?_
  refine k_iadd h (ddL_law8 (580, .iadd, 1) (List.mem_of_getElem? (i := 27) rfl)) ?_
  refine k_sld h hz (ddL_law8 (581, .iaload, 1) (List.mem_of_getElem? (i := 28) rfl)) ?_
  refine k_aload_n (i := 0) h (ddL_law8 (582, .aload_n 0, 1) (List.mem_of_getElem? (i := 29) rfl)) rfl ?_
  refine k_iload_n (i := 3) h (ddL_law8 (583, .iload_n 3, 1) (List.mem_of_getElem? (i := 30) rfl)) rfl ?_
  refine k_iconst (v := 2) h (ddL_law8 (584, .iconst 2, 1) (List.mem_of_getElem? (i := 31) rfl)) (by decide) ?_
  refine k_iadd h (ddL_law8 (585, .iadd, 1) (List.mem_of_getElem? (i := 32) rfl)) ?_
  refine k_sld h hz (ddL_law8 (586, .iaload, 1) (List.mem_of_getElem? (i := 33) rfl)) ?_
  refine k_aload_n (i := 0) h (ddL_law8 (587, .aload_n 0, 1) (List.mem_of_getElem? (i := 34) rfl)) rfl ?_
  refine k_iload_n (i := 3) h (ddL_law8 (588, .iload_n 3, 1) (List.mem_of_getElem? (i := 35) rfl)) rfl ?_
  refine k_iconst (v := 3) h (ddL_law8 (589, .iconst 3, 1) (List.mem_of_getElem? (i := 36) rfl)) (by decide) ?_
  refine k_iadd h (ddL_law8 (590, .iadd, 1) (List.mem_of_getElem? (i := 37) rfl)) ?_
  refine k_sld h hz (ddL_law8 (591, .iaload, 1) (List.mem_of_getElem? (i := 38) rfl)) ?_
  refine k_aload_n (i := 0) h (ddL_law8 (592, .aload_n 0, 1) (List.mem_of_getElem? (i := 39) rfl)) rfl ?_
  refine k_iload_n (i := 3) h (ddL_law9 (593, .iload_n 3, 1) (List.mem_of_getElem? (i := 0) rfl)) rfl ?_
  refine k_iconst (v := 4) h (ddL_law9 (594, .iconst 4, 1) (List.mem_of_getElem? (i := 1) rfl)) (by decide) ?_
  refine k_iadd h (ddL_law9 (595, .iadd, 1) (List.mem_of_getElem? (i := 2) rfl)) ?_
  refine k_sld h hz (ddL_law9 (596, .iaload, 1) (List.mem_of_getElem? (i := 3) rfl)) ?_
  refine k_callV h hl (aX8_stand l) (ci := 8) (C := RX8) (T := TX8) (N := 11) rfl ⟨rfl, rfl⟩ (n := 4) (by decide +kernel) (q_gV gw906 gw907 gw908 gw91 gw905) ⟨by decide, by decide⟩ (ddL_law9 (597, .invokevirtual 76, 3) (List.mem_of_getElem? (i := 4) rfl)) ?_
  refine k_aload_n (i := 2) h (ddL_law9 (600, .aload_n 2, 1) (List.mem_of_getElem? (i := 5) rfl)) rfl ?_
  refine k_aload_n (i := 0) h (ddL_law9 (601, .aload_n 0, 1) (List.mem_of_getElem? (i := 6) rfl)) rfl ?_
  refine k_iload_n (i := 3) h (ddL_law9 (602, .iload_n 3, 1) (List.mem_of_getElem? (i := 7) rfl)) rfl ?_
  refine k_iconst (v := 1) h (ddL_law9 (603, .iconst 1, 1) (List.mem_of_getElem? (i := 8) rfl)) (by decide) ?_
  refine k_iadd h (ddL_law9 (604, .iadd, 1) (List.mem_of_getElem? (i := 9) rfl)) ?_
  refine k_sld h hz (ddL_law9 (605, .iaload, 1) (List.mem_of_getElem? (i := 10) rfl)) ?_
  refine k_aload_n (i := 0) h (ddL_law9 (606, .aload_n 0, 1) (List.mem_of_getElem? (i := 11) rfl)) rfl ?_
  refine k_iload_n (i := 3) h (ddL_law9 (607, .iload_n 3, 1) (List.mem_of_getElem? (i := 12) rfl)) rfl ?_
  refine k_iconst (v := 2) h (ddL_law9 (608, .iconst 2, 1) (List.mem_of_getElem? (i := 13) rfl)) (by decide) ?_
  refine k_iadd h (ddL_law9 (609, .iadd, 1) (List.mem_of_getElem? (i := 14) rfl)) ?_
  refine k_sld h hz (ddL_law9 (610, .iaload, 1) (List.mem_of_getElem? (i := 15) rfl)) ?_
  refine k_aload_n (i := 0) h (ddL_law9 (611, .aload_n 0, 1) (List.mem_of_getElem? (i := 16) rfl)) rfl ?_
  refine k_iload_n (i := 3) h (ddL_law9 (612, .iload_n 3, 1) (List.mem_of_getElem? (i := 17) rfl)) rfl ?_
  refine k_iconst (v := 3) h (ddL_law9 (613, .iconst 3, 1) (List.mem_of_getElem? (i := 18) rfl)) (by decide) ?_
  refine k_iadd h (ddL_law9 (614, .iadd, 1) (List.mem_of_getElem? (i := 19) rfl)) ?_
  refine k_sld h hz (ddL_law9 (615, .iaload, 1) (List.mem_of_getElem? (i := 20) rfl)) ?_
  refine k_aload_n (i := 0) h (ddL_law9 (616, .aload_n 0, 1) (List.mem_of_getElem? (i := 21) rfl)) rfl ?_
  refine k_iload_n (i := 3) h (ddL_law9 (617, .iload_n 3, 1) (List.mem_of_getElem? (i := 22) rfl)) rfl ?_
  refine k_iconst (v := 4) h (ddL_law9 (618, .iconst 4, 1) (List.mem_of_getElem? (i := 23) rfl)) (by decide) ?_
  refine k_iadd h (ddL_law9 (619, .iadd, 1) (List.mem_of_getElem? (i := 24) rfl)) ?_
  refine k_sld h hz (ddL_law9 (620, .iaload, 1) (List.mem_of_getElem? (i := 25) rfl)) ?_
  refine k_callV h hl (aX9_stand l) (ci := 9) (C := RX9) (T := TX9) (N := 33) rfl ⟨rfl, rfl⟩ (n := 4) (by decide +kernel) (q_gV gw910 gw911 gw912 gw606 gw909) ⟨by decide, by decide⟩ (ddL_law9 (621, .invokevirtual 80, 3) (List.mem_of_getElem? (i := 26) rfl)) ?_
  refine k_iceq h (ddL_law9 (624, .if_icmp .eq 453, 3) (List.mem_of_getElem? (i := 27) rfl)) (tgt := 1077) (by decide) ?_ ?_
  · exact k_cut
  · exact sL_law_627 hl hQ hcap hz h
theorem sL_law_680 {l : Launch} {X : q_CX} {Ln : Nat} {xs : Nat → Int32} (hl : X.2.1 = l) (hQ : q_LQ X) (hcap : q_cap X room_1 L_cap) (hz : q_scr X Ln xs) (h : q_OK X yL_law cL_law 4 (some .boolean) room_1 (Cond.code yL_law cL_law 4 (some .boolean) :: q_G)) : q_SK X 4 680 (BL_law_680 Ln xs) := by
  refine k_iconst (v := 0) h (ddL_law10 (680, .iconst 0, 1) (List.mem_of_getElem? (i := 35) rfl)) (by decide) ?_
  exact k_lret h hQ (ddL_law10 (681, .ireturn, 1) (List.mem_of_getElem? (i := 36) rfl))
theorem sL_law_629 {l : Launch} {X : q_CX} {Ln : Nat} {xs : Nat → Int32} (hl : X.2.1 = l) (hQ : q_LQ X) (hcap : q_cap X room_1 L_cap) (hz : q_scr X Ln xs) (h : q_OK X yL_law cL_law 4 (some .boolean) room_1 (Cond.code yL_law cL_law 4 (some .boolean) :: q_G)) : q_SK X 4 629 (BL_law_629 Ln xs) := by
  refine k_aload_n (i := 1) h (ddL_law9 (629, .aload_n 1, 1) (List.mem_of_getElem? (i := 30) rfl)) rfl ?_
  refine k_aload_n (i := 0) h (ddL_law9 (630, .aload_n 0, 1) (List.mem_of_getElem? (i := 31) rfl)) rfl ?_
  refine k_iload_n (i := 3) h (ddL_law9 (631, .iload_n 3, 1) (List.mem_of_getElem? (i := 32) rfl)) rfl ?_
  refine k_iconst (v := 1) h (ddL_law9 (632, .iconst 1, 1) (List.mem_of_getElem? (i := 33) rfl)) (by decide) ?_
  refine k_iadd h (ddL_law9 (633, .iadd, 1) (List.mem_of_getElem? (i := 34) rfl)) ?_
  refine k_sld h hz (ddL_law9 (634, .iaload, 1) (List.mem_of_getElem? (i := 35) rfl)) ?_
  refine k_aload_n (i := 0) h (ddL_law9 (635, .aload_n 0, 1) (List.mem_of_getElem? (i := 36) rfl)) rfl ?_
  refine k_iload_n (i := 3) h (ddL_law9 (636, .iload_n 3, 1) (List.mem_of_getElem? (i := 37) rfl)) rfl ?_
  refine k_iconst (v := 2) h (ddL_law9 (637, .iconst 2, 1) (List.mem_of_getElem? (i := 38) rfl)) (by decide) ?_
  refine k_iadd h (ddL_law9 (638, .iadd, 1) (List.mem_of_getElem? (i := 39) rfl)) ?_
  refine k_sld h hz (ddL_law10 (639, .iaload, 1) (List.mem_of_getElem? (i := 0) rfl)) ?_
  refine k_aload_n (i := 0) h (ddL_law10 (640, .aload_n 0, 1) (List.mem_of_getElem? (i := 1) rfl)) rfl ?_
  refine k_iload_n (i := 3) h (ddL_law10 (641, .iload_n 3, 1) (List.mem_of_getElem? (i := 2) rfl)) rfl ?_
  refine k_iconst (v := 3) h (ddL_law10 (642, .iconst 3, 1) (List.mem_of_getElem? (i := 3) rfl)) (by decide) ?_
  refine k_iadd h (ddL_law10 (643, .iadd, 1) (List.mem_of_getElem? (i := 4) rfl)) ?_
  refine k_sld h hz (ddL_law10 (644, .iaload, 1) (List.mem_of_getElem? (i := 5) rfl)) ?_
  refine k_aload_n (i := 0) h (ddL_law10 (645, .aload_n 0, 1) (List.mem_of_getElem? (i := 6) rfl)) rfl ?_
  refine k_iload_n (i := 3) h (ddL_law10 (646, .iload_n 3, 1) (List.mem_of_getElem? (i := 7) rfl)) rfl ?_
  refine k_iconst (v := 4) h (ddL_law10 (647, .iconst 4, 1) (List.mem_of_getElem? (i := 8) rfl)) (by decide) ?_
  refine k_iadd h (ddL_law10 (648, .iadd, 1) (List.mem_of_getElem? (i := 9) rfl)) ?_
  refine k_sld h hz (ddL_law10 (649, .iaload, 1) (List.mem_of_getElem? (i := 10) rfl)) ?_
  refine k_callV h hl (aX8_way l) (ci := 8) (C := RX8) (T := TX8) (N := 11) rfl ⟨rfl, rfl⟩ (n := 4) (by decide +kernel) (q_gV gw914 gw915 gw916 gw91 gw913) ⟨by decide, by decide⟩ (ddL_law10 (650, .invokevirtual 81, 3) (List.mem_of_getElem? (i := 11) rfl)) ?_
  refine k_aload_n (i := 2) h (ddL_law10 (653, .aload_n 2, 1) (List.mem_of_getElem? (i := 12) rfl)) rfl ?_
  refine k_aload_n (i := 0) h (ddL_law10 (654, .aload_n 0, 1) (List.mem_of_getElem? (i := 13) rfl)) rfl ?_
  refine k_iload_n (i := 3) h (ddL_law10 (655, .iload_n 3, 1) (List.mem_of_getElem? (i := 14) rfl)) rfl ?_
  refine k_iconst (v := 1) h (ddL_law10 (656, .iconst 1, 1) (List.mem_of_getElem? (i := 15) rfl)) (by decide) ?_
  refine k_iadd h (ddL_law10 (657, .iadd, 1) (List.mem_of_getElem? (i := 16) rfl)) ?_
  refine k_sld h hz (ddL_law10 (658, .iaload, 1) (List.mem_of_getElem? (i := 17) rfl)) ?_
  refine k_aload_n (i := 0) h (ddL_law10 (659, .aload_n 0, 1) (List.mem_of_getElem? (i := 18) rfl)) rfl ?_
  refine k_iload_n (i := 3) h (ddL_law10 (660, .iload_n 3, 1) (List.mem_of_getElem? (i := 19) rfl)) rfl ?_
  refine k_iconst (v := 2) h (ddL_law10 (661, .iconst 2, 1) (List.mem_of_getElem? (i := 20) rfl)) (by decide) ?_
  refine k_iadd h (ddL_law10 (662, .iadd, 1) (List.mem_of_getElem? (i := 21) rfl)) ?_
  refine k_sld h hz (ddL_law10 (663, .iaload, 1) (List.mem_of_getElem? (i := 22) rfl)) ?_
  refine k_aload_n (i := 0) h (ddL_law10 (664, .aload_n 0, 1) (List.mem_of_getElem? (i := 23) rfl)) rfl ?_
  refine k_iload_n (i := 3) h (ddL_law10 (665, .iload_n 3, 1) (List.mem_of_getElem? (i := 24) rfl)) rfl ?_
  refine k_iconst (v := 3) h (ddL_law10 (666, .iconst 3, 1) (List.mem_of_getElem? (i := 25) rfl)) (by decide) ?_
  refine k_iadd h (ddL_law10 (667, .iadd, 1) (List.mem_of_getElem? (i := 26) rfl)) ?_
  refine k_sld h hz (ddL_law10 (668, .iaload, 1) (List.mem_of_getElem? (i := 27) rfl)) ?_
  refine k_aload_n (i := 0) h (ddL_law10 (669, .aload_n 0, 1) (List.mem_of_getElem? (i := 28) rfl)) rfl ?_
  refine k_iload_n (i := 3) h (ddL_law10 (670, .iload_n 3, 1) (List.mem_of_getElem? (i := 29) rfl)) rfl ?_
  refine k_iconst (v := 4) h (ddL_law10 (671, .iconst 4, 1) (List.mem_of_getElem? (i := 30) rfl)) (by decide) ?_
  refine k_iadd h (ddL_law10 (672, .iadd, 1) (List.mem_of_getElem? (i := 31) rfl)) ?_
  refine k_sld h hz (ddL_law10 (673, .iaload, 1) (List.mem_of_getElem? (i := 32) rfl)) ?_
  refine k_callV h hl (aX9_way l) (ci := 9) (C := RX9) (T := TX9) (N := 33) rfl ⟨rfl, rfl⟩ (n := 4) (by decide +kernel) (q_gV gw918 gw919 gw920 gw606 gw917) ⟨by decide, by decide⟩ (ddL_law10 (674, .invokevirtual 84, 3) (List.mem_of_getElem? (i := 33) rfl)) ?_
  refine k_iceq h (ddL_law10 (677, .if_icmp .eq 400, 3) (List.mem_of_getElem? (i := 34) rfl)) (tgt := 1077) (by decide) ?_ ?_
  · exact k_cut
  · exact sL_law_680 hl hQ hcap hz h
theorem sL_law_723 {l : Launch} {X : q_CX} {Ln : Nat} {xs : Nat → Int32} (hl : X.2.1 = l) (hQ : q_LQ X) (hcap : q_cap X room_1 L_cap) (hz : q_scr X Ln xs) (h : q_OK X yL_law cL_law 4 (some .boolean) room_1 (Cond.code yL_law cL_law 4 (some .boolean) :: q_G)) : q_SK X 4 723 (BL_law_723 Ln xs) := by
  refine k_iconst (v := 0) h (ddL_law11 (723, .iconst 0, 1) (List.mem_of_getElem? (i := 32) rfl)) (by decide) ?_
  exact k_lret h hQ (ddL_law11 (724, .ireturn, 1) (List.mem_of_getElem? (i := 33) rfl))
theorem sL_law_682 {l : Launch} {X : q_CX} {Ln : Nat} {xs : Nat → Int32} (hl : X.2.1 = l) (hQ : q_LQ X) (hcap : q_cap X room_1 L_cap) (hz : q_scr X Ln xs) (h : q_OK X yL_law cL_law 4 (some .boolean) room_1 (Cond.code yL_law cL_law 4 (some .boolean) :: q_G)) : q_SK X 4 682 (BL_law_682 Ln xs) := by
  refine k_aload_n (i := 1) h (ddL_law10 (682, .aload_n 1, 1) (List.mem_of_getElem? (i := 37) rfl)) rfl ?_
  refine k_aload_n (i := 0) h (ddL_law10 (683, .aload_n 0, 1) (List.mem_of_getElem? (i := 38) rfl)) rfl ?_
  refine k_iload_n (i := 3) h (ddL_law10 (684, .iload_n 3, 1) (List.mem_of_getElem? (i := 39) rfl)) rfl ?_
  refine k_iconst (v := 1) h (ddL_law11 (685, .iconst 1, 1) (List.mem_of_getElem? (i := 0) rfl)) (by decide) ?_
  refine k_iadd h (ddL_law11 (686, .iadd, 1) (List.mem_of_getElem? (i := 1) rfl)) ?_
  refine k_sld h hz (ddL_law11 (687, .iaload, 1) (List.mem_of_getElem? (i := 2) rfl)) ?_
  refine k_aload_n (i := 0) h (ddL_law11 (688, .aload_n 0, 1) (List.mem_of_getElem? (i := 3) rfl)) rfl ?_
  refine k_iload_n (i := 3) h (ddL_law11 (689, .iload_n 3, 1) (List.mem_of_getElem? (i := 4) rfl)) rfl ?_
  refine k_iconst (v := 2) h (ddL_law11 (690, .iconst 2, 1) (List.mem_of_getElem? (i := 5) rfl)) (by decide) ?_
  refine k_iadd h (ddL_law11 (691, .iadd, 1) (List.mem_of_getElem? (i := 6) rfl)) ?_
  refine k_sld h hz (ddL_law11 (692, .iaload, 1) (List.mem_of_getElem? (i := 7) rfl)) ?_
  refine k_aload_n (i := 0) h (ddL_law11 (693, .aload_n 0, 1) (List.mem_of_getElem? (i := 8) rfl)) rfl ?_
  refine k_iload_n (i := 3) h (ddL_law11 (694, .iload_n 3, 1) (List.mem_of_getElem? (i := 9) rfl)) rfl ?_
  refine k_iconst (v := 3) h (ddL_law11 (695, .iconst 3, 1) (List.mem_of_getElem? (i := 10) rfl)) (by decide) ?_
  refine k_iadd h (ddL_law11 (696, .iadd, 1) (List.mem_of_getElem? (i := 11) rfl)) ?_
  refine k_sld h hz (ddL_law11 (697, .iaload, 1) (List.mem_of_getElem? (i := 12) rfl)) ?_
  refine k_callV h hl (aX8_mail l) (ci := 8) (C := RX8) (T := TX8) (N := 11) rfl ⟨rfl, rfl⟩ (n := 3) (by decide +kernel) (q_gV gw922 gw923 gw924 gw91 gw921) ⟨by decide, by decide⟩ (ddL_law11 (698, .invokevirtual 85, 3) (List.mem_of_getElem? (i := 13) rfl)) ?_
  refine k_aload_n (i := 2) h (ddL_law11 (701, .aload_n 2, 1) (List.mem_of_getElem? (i := 14) rfl)) rfl ?_
  refine k_aload_n (i := 0) h (ddL_law11 (702, .aload_n 0, 1) (List.mem_of_getElem? (i := 15) rfl)) rfl ?_
  refine k_iload_n (i := 3) h (ddL_law11 (703, .iload_n 3, 1) (List.mem_of_getElem? (i := 16) rfl)) rfl ?_
  refine k_iconst (v := 1) h (ddL_law11 (704, .iconst 1, 1) (List.mem_of_getElem? (i := 17) rfl)) (by decide) ?_
  refine k_iadd h (ddL_law11 (705, .iadd, 1) (List.mem_of_getElem? (i := 18) rfl)) ?_
  refine k_sld h hz (ddL_law11 (706, .iaload, 1) (List.mem_of_getElem? (i := 19) rfl)) ?_
  refine k_aload_n (i := 0) h (ddL_law11 (707, .aload_n 0, 1) (List.mem_of_getElem? (i := 20) rfl)) rfl ?_
  refine k_iload_n (i := 3) h (ddL_law11 (708, .iload_n 3, 1) (List.mem_of_getElem? (i := 21) rfl)) rfl ?_
  refine k_iconst (v := 2) h (ddL_law11 (709, .iconst 2, 1) (List.mem_of_getElem? (i := 22) rfl)) (by decide) ?_
  refine k_iadd h (ddL_law11 (710, .iadd, 1) (List.mem_of_getElem? (i := 23) rfl)) ?_
  refine k_sld h hz (ddL_law11 (711, .iaload, 1) (List.mem_of_getElem? (i := 24) rfl)) ?_
  refine k_aload_n (i := 0) h (ddL_law11 (712, .aload_n 0, 1) (List.mem_of_getElem? (i := 25) rfl)) rfl ?_
  refine k_iload_n (i := 3) h (ddL_law11 (713, .iload_n 3, 1) (List.mem_of_getElem? (i := 26) rfl)) rfl ?_
  refine k_iconst (v := 3) h (ddL_law11 (714, .iconst 3, 1) (List.mem_of_getElem? (i := 27) rfl)) (by decide) ?_
  refine k_iadd h (ddL_law11 (715, .iadd, 1) (List.mem_of_getElem? (i := 28) rfl)) ?_
  refine k_sld h hz (ddL_law11 (716, .iaload, 1) (List.mem_of_getElem? (i := 29) rfl)) ?_
  refine k_callV h hl (aX9_mail l) (ci := 9) (C := RX9) (T := TX9) (N := 33) rfl ⟨rfl, rfl⟩ (n := 3) (by decide +kernel) (q_gV gw926 gw927 gw928 gw606 gw925) ⟨by decide, by decide⟩ (ddL_law11 (717, .invokevirtual 88, 3) (List.mem_of_getElem? (i := 30) rfl)) ?_
  refine k_iceq h (ddL_law11 (720, .if_icmp .eq 357, 3) (List.mem_of_getElem? (i := 31) rfl)) (tgt := 1077) (by decide) ?_ ?_
  · exact k_cut
  · exact sL_law_723 hl hQ hcap hz h
theorem sL_law_766 {l : Launch} {X : q_CX} {Ln : Nat} {xs : Nat → Int32} (hl : X.2.1 = l) (hQ : q_LQ X) (hcap : q_cap X room_1 L_cap) (hz : q_scr X Ln xs) (h : q_OK X yL_law cL_law 4 (some .boolean) room_1 (Cond.code yL_law cL_law 4 (some .boolean) :: q_G)) : q_SK X 4 766 (BL_law_766 Ln xs) := by
  refine k_iconst (v := 0) h (ddL_law12 (766, .iconst 0, 1) (List.mem_of_getElem? (i := 29) rfl)) (by decide) ?_
  exact k_lret h hQ (ddL_law12 (767, .ireturn, 1) (List.mem_of_getElem? (i := 30) rfl))
theorem sL_law_725 {l : Launch} {X : q_CX} {Ln : Nat} {xs : Nat → Int32} (hl : X.2.1 = l) (hQ : q_LQ X) (hcap : q_cap X room_1 L_cap) (hz : q_scr X Ln xs) (h : q_OK X yL_law cL_law 4 (some .boolean) room_1 (Cond.code yL_law cL_law 4 (some .boolean) :: q_G)) : q_SK X 4 725 (BL_law_725 Ln xs) := by
  refine k_aload_n (i := 1) h (ddL_law11 (725, .aload_n 1, 1) (List.mem_of_getElem? (i := 34) rfl)) rfl ?_
  refine k_aload_n (i := 0) h (ddL_law11 (726, .aload_n 0, 1) (List.mem_of_getElem? (i := 35) rfl)) rfl ?_
  refine k_iload_n (i := 3) h (ddL_law11 (727, .iload_n 3, 1) (List.mem_of_getElem? (i := 36) rfl)) rfl ?_
  refine k_iconst (v := 1) h (ddL_law11 (728, .iconst 1, 1) (List.mem_of_getElem? (i := 37) rfl)) (by decide) ?_
  refine k_iadd h (ddL_law11 (729, .iadd, 1) (List.mem_of_getElem? (i := 38) rfl)) ?_
  refine k_sld h hz (ddL_law11 (730, .iaload, 1) (List.mem_of_getElem? (i := 39) rfl)) ?_
  refine k_aload_n (i := 0) h (ddL_law12 (731, .aload_n 0, 1) (List.mem_of_getElem? (i := 0) rfl)) rfl ?_
  refine k_iload_n (i := 3) h (ddL_law12 (732, .iload_n 3, 1) (List.mem_of_getElem? (i := 1) rfl)) rfl ?_
  refine k_iconst (v := 2) h (ddL_law12 (733, .iconst 2, 1) (List.mem_of_getElem? (i := 2) rfl)) (by decide) ?_
  refine k_iadd h (ddL_law12 (734, .iadd, 1) (List.mem_of_getElem? (i := 3) rfl)) ?_
  refine k_sld h hz (ddL_law12 (735, .iaload, 1) (List.mem_of_getElem? (i := 4) rfl)) ?_
  refine k_aload_n (i := 0) h (ddL_law12 (736, .aload_n 0, 1) (List.mem_of_getElem? (i := 5) rfl)) rfl ?_
  refine k_iload_n (i := 3) h (ddL_law12 (737, .iload_n 3, 1) (List.mem_of_getElem? (i := 6) rfl)) rfl ?_
  refine k_iconst (v := 3) h (ddL_law12 (738, .iconst 3, 1) (List.mem_of_getElem? (i := 7) rfl)) (by decide) ?_
  refine k_iadd h (ddL_law12 (739, .iadd, 1) (List.mem_of_getElem? (i := 8) rfl)) ?_
  refine k_sld h hz (ddL_law12 (740, .iaload, 1) (List.mem_of_getElem? (i := 9) rfl)) ?_
  refine k_callV h hl (aX8_cross l) (ci := 8) (C := RX8) (T := TX8) (N := 11) rfl ⟨rfl, rfl⟩ (n := 3) (by decide +kernel) (q_gV gw930 gw931 gw932 gw91 gw929) ⟨by decide, by decide⟩ (ddL_law12 (741, .invokevirtual 89, 3) (List.mem_of_getElem? (i := 10) rfl)) ?_
  refine k_aload_n (i := 2) h (ddL_law12 (744, .aload_n 2, 1) (List.mem_of_getElem? (i := 11) rfl)) rfl ?_
  refine k_aload_n (i := 0) h (ddL_law12 (745, .aload_n 0, 1) (List.mem_of_getElem? (i := 12) rfl)) rfl ?_
  refine k_iload_n (i := 3) h (ddL_law12 (746, .iload_n 3, 1) (List.mem_of_getElem? (i := 13) rfl)) rfl ?_
  refine k_iconst (v := 1) h (ddL_law12 (747, .iconst 1, 1) (List.mem_of_getElem? (i := 14) rfl)) (by decide) ?_
  refine k_iadd h (ddL_law12 (748, .iadd, 1) (List.mem_of_getElem? (i := 15) rfl)) ?_
  refine k_sld h hz (ddL_law12 (749, .iaload, 1) (List.mem_of_getElem? (i := 16) rfl)) ?_
  refine k_aload_n (i := 0) h (ddL_law12 (750, .aload_n 0, 1) (List.mem_of_getElem? (i := 17) rfl)) rfl ?_
  refine k_iload_n (i := 3) h (ddL_law12 (751, .iload_n 3, 1) (List.mem_of_getElem? (i := 18) rfl)) rfl ?_
  refine k_iconst (v := 2) h (ddL_law12 (752, .iconst 2, 1) (List.mem_of_getElem? (i := 19) rfl)) (by decide) ?_
  refine k_iadd h (ddL_law12 (753, .iadd, 1) (List.mem_of_getElem? (i := 20) rfl)) ?_
  refine k_sld h hz (ddL_law12 (754, .iaload, 1) (List.mem_of_getElem? (i := 21) rfl)) ?_
  refine k_aload_n (i := 0) h (ddL_law12 (755, .aload_n 0, 1) (List.mem_of_getElem? (i := 22) rfl)) rfl ?_
  refine k_iload_n (i := 3) h (ddL_law12 (756, .iload_n 3, 1) (List.mem_of_getElem? (i := 23) rfl)) rfl ?_
  refine k_iconst (v := 3) h (ddL_law12 (757, .iconst 3, 1) (List.mem_of_getElem? (i := 24) rfl)) (by decide) ?_
  refine k_iadd h (ddL_law12 (758, .iadd, 1) (List.mem_of_getElem? (i := 25) rfl)) ?_
  refine k_sld h hz (ddL_law12 (759, .iaload, 1) (List.mem_of_getElem? (i := 26) rfl)) ?_
  refine k_callV h hl (aX9_cross l) (ci := 9) (C := RX9) (T := TX9) (N := 33) rfl ⟨rfl, rfl⟩ (n := 3) (by decide +kernel) (q_gV gw934 gw935 gw936 gw606 gw933) ⟨by decide, by decide⟩ (ddL_law12 (760, .invokevirtual 92, 3) (List.mem_of_getElem? (i := 27) rfl)) ?_
  refine k_iceq h (ddL_law12 (763, .if_icmp .eq 314, 3) (List.mem_of_getElem? (i := 28) rfl)) (tgt := 1077) (by decide) ?_ ?_
  · exact k_cut
  · exact sL_law_766 hl hQ hcap hz h
theorem sL_law_779 {l : Launch} {X : q_CX} {Ln : Nat} {xs : Nat → Int32} (hl : X.2.1 = l) (hQ : q_LQ X) (hcap : q_cap X room_1 L_cap) (hz : q_scr X Ln xs) (h : q_OK X yL_law cL_law 4 (some .boolean) room_1 (Cond.code yL_law cL_law 4 (some .boolean) :: q_G)) : q_SK X 4 779 (BL_law_779 Ln xs) := by
  refine k_iconst (v := 0) h (ddL_law12 (779, .iconst 0, 1) (List.mem_of_getElem? (i := 36) rfl)) (by decide) ?_
  exact k_lret h hQ (ddL_law12 (780, .ireturn, 1) (List.mem_of_getElem? (i := 37) rfl))
theorem sL_law_768 {l : Launch} {X : q_CX} {Ln : Nat} {xs : Nat → Int32} (hl : X.2.1 = l) (hQ : q_LQ X) (hcap : q_cap X room_1 L_cap) (hz : q_scr X Ln xs) (h : q_OK X yL_law cL_law 4 (some .boolean) room_1 (Cond.code yL_law cL_law 4 (some .boolean) :: q_G)) : q_SK X 4 768 (BL_law_768 Ln xs) := by
  refine k_aload_n (i := 1) h (ddL_law12 (768, .aload_n 1, 1) (List.mem_of_getElem? (i := 31) rfl)) rfl ?_
  refine k_callV h hl (aX8_store l) (ci := 8) (C := RX8) (T := TX8) (N := 11) rfl ⟨rfl, rfl⟩ (n := 0) (by decide +kernel) (q_gV gw938 gw939 gw940 gw91 gw937) ⟨by decide, by decide⟩ (ddL_law12 (769, .invokevirtual 93, 3) (List.mem_of_getElem? (i := 32) rfl)) ?_
  refine k_aload_n (i := 2) h (ddL_law12 (772, .aload_n 2, 1) (List.mem_of_getElem? (i := 33) rfl)) rfl ?_
  refine k_callV h hl (aX9_store l) (ci := 9) (C := RX9) (T := TX9) (N := 33) rfl ⟨rfl, rfl⟩ (n := 0) (by decide +kernel) (q_gV gw942 gw943 gw944 gw606 gw941) ⟨by decide, by decide⟩ (ddL_law12 (773, .invokevirtual 96, 3) (List.mem_of_getElem? (i := 34) rfl)) ?_
  refine k_iceq h (ddL_law12 (776, .if_icmp .eq 301, 3) (List.mem_of_getElem? (i := 35) rfl)) (tgt := 1077) (by decide) ?_ ?_
  · exact k_cut
  · exact sL_law_779 hl hQ hcap hz h
theorem sL_law_804 {l : Launch} {X : q_CX} {Ln : Nat} {xs : Nat → Int32} (hl : X.2.1 = l) (hQ : q_LQ X) (hcap : q_cap X room_1 L_cap) (hz : q_scr X Ln xs) (h : q_OK X yL_law cL_law 4 (some .boolean) room_1 (Cond.code yL_law cL_law 4 (some .boolean) :: q_G)) : q_SK X 4 804 (BL_law_804 Ln xs) := by
  refine k_iconst (v := 0) h (ddL_law13 (804, .iconst 0, 1) (List.mem_of_getElem? (i := 17) rfl)) (by decide) ?_
  exact k_cut
theorem sL_law_800 {l : Launch} {X : q_CX} {Ln : Nat} {xs : Nat → Int32} (hl : X.2.1 = l) (hQ : q_LQ X) (hcap : q_cap X room_1 L_cap) (hz : q_scr X Ln xs) (h : q_OK X yL_law cL_law 4 (some .boolean) room_1 (Cond.code yL_law cL_law 4 (some .boolean) :: q_G)) : q_SK X 4 800 (BL_law_800 Ln xs) := by
  refine k_iconst (v := 1) h (ddL_law13 (800, .iconst 1, 1) (List.mem_of_getElem? (i := 15) rfl)) (by decide) ?_
  refine k_goto h (ddL_law13 (801, .goto 4, 3) (List.mem_of_getElem? (i := 16) rfl)) (tgt := 805) (by decide) ?_
  exact k_cut
theorem sL_law_781 {l : Launch} {X : q_CX} {Ln : Nat} {xs : Nat → Int32} (hl : X.2.1 = l) (hQ : q_LQ X) (hcap : q_cap X room_1 L_cap) (hz : q_scr X Ln xs) (h : q_OK X yL_law cL_law 4 (some .boolean) room_1 (Cond.code yL_law cL_law 4 (some .boolean) :: q_G)) : q_SK X 4 781 (BL_law_781 Ln xs) := by
  refine k_aload_n (i := 1) h (ddL_law12 (781, .aload_n 1, 1) (List.mem_of_getElem? (i := 38) rfl)) rfl ?_
  refine k_aload_n (i := 0) h (ddL_law12 (782, .aload_n 0, 1) (List.mem_of_getElem? (i := 39) rfl)) rfl ?_
  refine k_iload_n (i := 3) h (ddL_law13 (783, .iload_n 3, 1) (List.mem_of_getElem? (i := 0) rfl)) rfl ?_
  refine k_iconst (v := 1) h (ddL_law13 (784, .iconst 1, 1) (List.mem_of_getElem? (i := 1) rfl)) (by decide) ?_
  refine k_iadd h (ddL_law13 (785, .iadd, 1) (List.mem_of_getElem? (i := 2) rfl)) ?_
  refine k_sld h hz (ddL_law13 (786, .iaload, 1) (List.mem_of_getElem? (i := 3) rfl)) ?_
  refine k_aload_n (i := 0) h (ddL_law13 (787, .aload_n 0, 1) (List.mem_of_getElem? (i := 4) rfl)) rfl ?_
  refine k_iload_n (i := 3) h (ddL_law13 (788, .iload_n 3, 1) (List.mem_of_getElem? (i := 5) rfl)) rfl ?_
  refine k_iconst (v := 2) h (ddL_law13 (789, .iconst 2, 1) (List.mem_of_getElem? (i := 6) rfl)) (by decide) ?_
  refine k_iadd h (ddL_law13 (790, .iadd, 1) (List.mem_of_getElem? (i := 7) rfl)) ?_
  refine k_sld h hz (ddL_law13 (791, .iaload, 1) (List.mem_of_getElem? (i := 8) rfl)) ?_
  refine k_aload_n (i := 0) h (ddL_law13 (792, .aload_n 0, 1) (List.mem_of_getElem? (i := 9) rfl)) rfl ?_
  refine k_iload_n (i := 3) h (ddL_law13 (793, .iload_n 3, 1) (List.mem_of_getElem? (i := 10) rfl)) rfl ?_
  refine k_iconst (v := 3) h (ddL_law13 (794, .iconst 3, 1) (List.mem_of_getElem? (i := 11) rfl)) (by decide) ?_
  refine k_iadd h (ddL_law13 (795, .iadd, 1) (List.mem_of_getElem? (i := 12) rfl)) ?_
  refine k_sld h hz (ddL_law13 (796, .iaload, 1) (List.mem_of_getElem? (i := 13) rfl)) ?_
  refine k_ifeq h (ddL_law13 (797, .ifCond .eq 7, 3) (List.mem_of_getElem? (i := 14) rfl)) (tgt := 804) (by decide) ?_ ?_
  · exact sL_law_804 hl hQ hcap hz h
  · exact sL_law_800 hl hQ hcap hz h
theorem sL_law_838 {l : Launch} {X : q_CX} {Ln : Nat} {xs : Nat → Int32} (hl : X.2.1 = l) (hQ : q_LQ X) (hcap : q_cap X room_1 L_cap) (hz : q_scr X Ln xs) (h : q_OK X yL_law cL_law 4 (some .boolean) room_1 (Cond.code yL_law cL_law 4 (some .boolean) :: q_G)) : q_SK X 4 838 (BL_law_838 Ln xs) := by
  refine k_iconst (v := 0) h (ddL_law14 (838, .iconst 0, 1) (List.mem_of_getElem? (i := 1) rfl)) (by decide) ?_
  exact k_lret h hQ (ddL_law14 (839, .ireturn, 1) (List.mem_of_getElem? (i := 2) rfl))
theorem sL_law_832 {l : Launch} {X : q_CX} {Ln : Nat} {xs : Nat → Int32} (hl : X.2.1 = l) (hQ : q_LQ X) (hcap : q_cap X room_1 L_cap) (hz : q_scr X Ln xs) (h : q_OK X yL_law cL_law 4 (some .boolean) room_1 (Cond.code yL_law cL_law 4 (some .boolean) :: q_G)) : q_SK X 4 832 (BL_law_832 Ln xs) := by
  refine k_callV h hl (aX9_see l) (ci := 9) (C := RX9) (T := TX9) (N := 33) rfl ⟨rfl, rfl⟩ (n := 3) (by decide +kernel) (q_gV gw950 gw951 gw952 gw606 gw949) ⟨by decide, by decide⟩ (ddL_law13 (832, .invokevirtual 101, 3) (List.mem_of_getElem? (i := 39) rfl)) ?_
  refine k_iceq h (ddL_law14 (835, .if_icmp .eq 242, 3) (List.mem_of_getElem? (i := 0) rfl)) (tgt := 1077) (by decide) ?_ ?_
  · exact k_cut
  · exact sL_law_838 hl hQ hcap hz h
theorem sL_law_831 {l : Launch} {X : q_CX} {Ln : Nat} {xs : Nat → Int32} (hl : X.2.1 = l) (hQ : q_LQ X) (hcap : q_cap X room_1 L_cap) (hz : q_scr X Ln xs) (h : q_OK X yL_law cL_law 4 (some .boolean) room_1 (Cond.code yL_law cL_law 4 (some .boolean) :: q_G)) : q_SK X 4 831 (BL_law_831 Ln xs) := by
  refine k_iconst (v := 0) h (ddL_law13 (831, .iconst 0, 1) (List.mem_of_getElem? (i := 38) rfl)) (by decide) ?_
  exact sL_law_832 hl hQ hcap hz h
theorem sL_law_827 {l : Launch} {X : q_CX} {Ln : Nat} {xs : Nat → Int32} (hl : X.2.1 = l) (hQ : q_LQ X) (hcap : q_cap X room_1 L_cap) (hz : q_scr X Ln xs) (h : q_OK X yL_law cL_law 4 (some .boolean) room_1 (Cond.code yL_law cL_law 4 (some .boolean) :: q_G)) : q_SK X 4 827 (BL_law_827 Ln xs) := by
  refine k_iconst (v := 1) h (ddL_law13 (827, .iconst 1, 1) (List.mem_of_getElem? (i := 36) rfl)) (by decide) ?_
  refine k_goto h (ddL_law13 (828, .goto 4, 3) (List.mem_of_getElem? (i := 37) rfl)) (tgt := 832) (by decide) ?_
  exact sL_law_832 hl hQ hcap hz h
theorem sL_law_805 {l : Launch} {X : q_CX} {Ln : Nat} {xs : Nat → Int32} (hl : X.2.1 = l) (hQ : q_LQ X) (hcap : q_cap X room_1 L_cap) (hz : q_scr X Ln xs) (h : q_OK X yL_law cL_law 4 (some .boolean) room_1 (Cond.code yL_law cL_law 4 (some .boolean) :: q_G)) : q_SK X 4 805 (BL_law_805 Ln xs) := by
  refine k_callV h hl (aX8_see l) (ci := 8) (C := RX8) (T := TX8) (N := 11) rfl ⟨rfl, rfl⟩ (n := 3) (by decide +kernel) (q_gV gw946 gw947 gw948 gw91 gw945) ⟨by decide, by decide⟩ (ddL_law13 (805, .invokevirtual 97, 3) (List.mem_of_getElem? (i := 18) rfl)) ?_
  refine k_aload_n (i := 2) h (ddL_law13 (808, .aload_n 2, 1) (List.mem_of_getElem? (i := 19) rfl)) rfl ?_
  refine k_aload_n (i := 0) h (ddL_law13 (809, .aload_n 0, 1) (List.mem_of_getElem? (i := 20) rfl)) rfl ?_
  refine k_iload_n (i := 3) h (ddL_law13 (810, .iload_n 3, 1) (List.mem_of_getElem? (i := 21) rfl)) rfl ?_
  refine k_iconst (v := 1) h (ddL_law13 (811, .iconst 1, 1) (List.mem_of_getElem? (i := 22) rfl)) (by decide) ?_
  refine k_iadd h (ddL_law13 (812, .iadd, 1) (List.mem_of_getElem? (i := 23) rfl)) ?_
  refine k_sld h hz (ddL_law13 (813, .iaload, 1) (List.mem_of_getElem? (i := 24) rfl)) ?_
  refine k_aload_n (i := 0) h (ddL_law13 (814, .aload_n 0, 1) (List.mem_of_getElem? (i := 25) rfl)) rfl ?_
  refine k_iload_n (i := 3) h (ddL_law13 (815, .iload_n 3, 1) (List.mem_of_getElem? (i := 26) rfl)) rfl ?_
  refine k_iconst (v := 2) h (ddL_law13 (816, .iconst 2, 1) (List.mem_of_getElem? (i := 27) rfl)) (by decide) ?_
  refine k_iadd h (ddL_law13 (817, .iadd, 1) (List.mem_of_getElem? (i := 28) rfl)) ?_
  refine k_sld h hz (ddL_law13 (818, .iaload, 1) (List.mem_of_getElem? (i := 29) rfl)) ?_
  refine k_aload_n (i := 0) h (ddL_law13 (819, .aload_n 0, 1) (List.mem_of_getElem? (i := 30) rfl)) rfl ?_
  refine k_iload_n (i := 3) h (ddL_law13 (820, .iload_n 3, 1) (List.mem_of_getElem? (i := 31) rfl)) rfl ?_
  refine k_iconst (v := 3) h (ddL_law13 (821, .iconst 3, 1) (List.mem_of_getElem? (i := 32) rfl)) (by decide) ?_
  refine k_iadd h (ddL_law13 (822, .iadd, 1) (List.mem_of_getElem? (i := 33) rfl)) ?_
  refine k_sld h hz (ddL_law13 (823, .iaload, 1) (List.mem_of_getElem? (i := 34) rfl)) ?_
  refine k_ifeq h (ddL_law13 (824, .ifCond .eq 7, 3) (List.mem_of_getElem? (i := 35) rfl)) (tgt := 831) (by decide) ?_ ?_
  · exact sL_law_831 hl hQ hcap hz h
  · exact sL_law_827 hl hQ hcap hz h
theorem sL_law_871 {l : Launch} {X : q_CX} {Ln : Nat} {xs : Nat → Int32} (hl : X.2.1 = l) (hQ : q_LQ X) (hcap : q_cap X room_1 L_cap) (hz : q_scr X Ln xs) (h : q_OK X yL_law cL_law 4 (some .boolean) room_1 (Cond.code yL_law cL_law 4 (some .boolean) :: q_G)) : q_SK X 4 871 (BL_law_871 Ln xs) := by
  refine k_iconst (v := 0) h (ddL_law14 (871, .iconst 0, 1) (List.mem_of_getElem? (i := 28) rfl)) (by decide) ?_
  exact k_lret h hQ (ddL_law14 (872, .ireturn, 1) (List.mem_of_getElem? (i := 29) rfl))
theorem sL_law_840 {l : Launch} {X : q_CX} {Ln : Nat} {xs : Nat → Int32} (hl : X.2.1 = l) (hQ : q_LQ X) (hcap : q_cap X room_1 L_cap) (hz : q_scr X Ln xs) (h : q_OK X yL_law cL_law 4 (some .boolean) room_1 (Cond.code yL_law cL_law 4 (some .boolean) :: q_G)) : q_SK X 4 840 (BL_law_840 Ln xs) := by
  refine k_aload_n (i := 1) h (ddL_law14 (840, .aload_n 1, 1) (List.mem_of_getElem? (i := 3) rfl)) rfl ?_
  refine k_aload_n (i := 0) h (ddL_law14 (841, .aload_n 0, 1) (List.mem_of_getElem? (i := 4) rfl)) rfl ?_
  refine k_iload_n (i := 3) h (ddL_law14 (842, .iload_n 3, 1) (List.mem_of_getElem? (i := 5) rfl)) rfl ?_
  refine k_iconst (v := 1) h (ddL_law14 (843, .iconst 1, 1) (List.mem_of_getElem? (i := 6) rfl)) (by decide) ?_
  refine k_iadd h (ddL_law14 (844, .iadd, 1) (List.mem_of_getElem? (i := 7) rfl)) ?_
  refine k_sld h hz (ddL_law14 (845, .iaload, 1) (List.mem_of_getElem? (i := 8) rfl)) ?_
  refine k_aload_n (i := 0) h (ddL_law14 (846, .aload_n 0, 1) (List.mem_of_getElem? (i := 9) rfl)) rfl ?_
  refine k_iload_n (i := 3) h (ddL_law14 (847, .iload_n 3, 1) (List.mem_of_getElem? (i := 10) rfl)) rfl ?_
  refine k_iconst (v := 2) h (ddL_law14 (848, .iconst 2, 1) (List.mem_of_getElem? (i := 11) rfl)) (by decide) ?_
  refine k_iadd h (ddL_law14 (849, .iadd, 1) (List.mem_of_getElem? (i := 12) rfl)) ?_
  refine k_sld h hz (ddL_law14 (850, .iaload, 1) (List.mem_of_getElem? (i := 13) rfl)) ?_
  refine k_callV h hl (aX8_fits l) (ci := 8) (C := RX8) (T := TX8) (N := 11) rfl ⟨rfl, rfl⟩ (n := 2) (by decide +kernel) (q_gV gw954 gw955 gw956 gw91 gw953) ⟨by decide, by decide⟩ (ddL_law14 (851, .invokevirtual 102, 3) (List.mem_of_getElem? (i := 14) rfl)) ?_
  refine k_aload_n (i := 2) h (ddL_law14 (854, .aload_n 2, 1) (List.mem_of_getElem? (i := 15) rfl)) rfl ?_
  refine k_aload_n (i := 0) h (ddL_law14 (855, .aload_n 0, 1) (List.mem_of_getElem? (i := 16) rfl)) rfl ?_
  refine k_iload_n (i := 3) h (ddL_law14 (856, .iload_n 3, 1) (List.mem_of_getElem? (i := 17) rfl)) rfl ?_
  refine k_iconst (v := 1) h (ddL_law14 (857, .iconst 1, 1) (List.mem_of_getElem? (i := 18) rfl)) (by decide) ?_
  refine k_iadd h (ddL_law14 (858, .iadd, 1) (List.mem_of_getElem? (i := 19) rfl)) ?_
  refine k_sld h hz (ddL_law14 (859, .iaload, 1) (List.mem_of_getElem? (i := 20) rfl)) ?_
  refine k_aload_n (i := 0) h (ddL_law14 (860, .aload_n 0, 1) (List.mem_of_getElem? (i := 21) rfl)) rfl ?_
  refine k_iload_n (i := 3) h (ddL_law14 (861, .iload_n 3, 1) (List.mem_of_getElem? (i := 22) rfl)) rfl ?_
  refine k_iconst (v := 2) h (ddL_law14 (862, .iconst 2, 1) (List.mem_of_getElem? (i := 23) rfl)) (by decide) ?_
  refine k_iadd h (ddL_law14 (863, .iadd, 1) (List.mem_of_getElem? (i := 24) rfl)) ?_
  refine k_sld h hz (ddL_law14 (864, .iaload, 1) (List.mem_of_getElem? (i := 25) rfl)) ?_
  refine k_callV h hl (aX9_fits l) (ci := 9) (C := RX9) (T := TX9) (N := 33) rfl ⟨rfl, rfl⟩ (n := 2) (by decide +kernel) (q_gV gw958 gw959 gw960 gw606 gw957) ⟨by decide, by decide⟩ (ddL_law14 (865, .invokevirtual 105, 3) (List.mem_of_getElem? (i := 26) rfl)) ?_
  refine k_iceq h (ddL_law14 (868, .if_icmp .eq 209, 3) (List.mem_of_getElem? (i := 27) rfl)) (tgt := 1077) (by decide) ?_ ?_
  · exact k_cut
  · exact sL_law_871 hl hQ hcap hz h
theorem sL_law_894 {l : Launch} {X : q_CX} {Ln : Nat} {xs : Nat → Int32} (hl : X.2.1 = l) (hQ : q_LQ X) (hcap : q_cap X room_1 L_cap) (hz : q_scr X Ln xs) (h : q_OK X yL_law cL_law 4 (some .boolean) room_1 (Cond.code yL_law cL_law 4 (some .boolean) :: q_G)) : q_SK X 4 894 (BL_law_894 Ln xs) := by
  refine k_iconst (v := 0) h (ddL_law15 (894, .iconst 0, 1) (List.mem_of_getElem? (i := 5) rfl)) (by decide) ?_
  exact k_lret h hQ (ddL_law15 (895, .ireturn, 1) (List.mem_of_getElem? (i := 6) rfl))
theorem sL_law_873 {l : Launch} {X : q_CX} {Ln : Nat} {xs : Nat → Int32} (hl : X.2.1 = l) (hQ : q_LQ X) (hcap : q_cap X room_1 L_cap) (hz : q_scr X Ln xs) (h : q_OK X yL_law cL_law 4 (some .boolean) room_1 (Cond.code yL_law cL_law 4 (some .boolean) :: q_G)) : q_SK X 4 873 (BL_law_873 Ln xs) := by
  refine k_aload_n (i := 1) h (ddL_law14 (873, .aload_n 1, 1) (List.mem_of_getElem? (i := 30) rfl)) rfl ?_
  refine k_aload_n (i := 0) h (ddL_law14 (874, .aload_n 0, 1) (List.mem_of_getElem? (i := 31) rfl)) rfl ?_
  refine k_iload_n (i := 3) h (ddL_law14 (875, .iload_n 3, 1) (List.mem_of_getElem? (i := 32) rfl)) rfl ?_
  refine k_iconst (v := 1) h (ddL_law14 (876, .iconst 1, 1) (List.mem_of_getElem? (i := 33) rfl)) (by decide) ?_
  refine k_iadd h (ddL_law14 (877, .iadd, 1) (List.mem_of_getElem? (i := 34) rfl)) ?_
  refine k_sld h hz (ddL_law14 (878, .iaload, 1) (List.mem_of_getElem? (i := 35) rfl)) ?_
  refine k_callV h hl (aX8_look l) (ci := 8) (C := RX8) (T := TX8) (N := 11) rfl ⟨rfl, rfl⟩ (n := 1) (by decide +kernel) (q_gV gw962 gw963 gw964 gw91 gw961) ⟨by decide, by decide⟩ (ddL_law14 (879, .invokevirtual 106, 3) (List.mem_of_getElem? (i := 36) rfl)) ?_
  refine k_aload_n (i := 2) h (ddL_law14 (882, .aload_n 2, 1) (List.mem_of_getElem? (i := 37) rfl)) rfl ?_
  refine k_aload_n (i := 0) h (ddL_law14 (883, .aload_n 0, 1) (List.mem_of_getElem? (i := 38) rfl)) rfl ?_
  refine k_iload_n (i := 3) h (ddL_law14 (884, .iload_n 3, 1) (List.mem_of_getElem? (i := 39) rfl)) rfl ?_
  refine k_iconst (v := 1) h (ddL_law15 (885, .iconst 1, 1) (List.mem_of_getElem? (i := 0) rfl)) (by decide) ?_
  refine k_iadd h (ddL_law15 (886, .iadd, 1) (List.mem_of_getElem? (i := 1) rfl)) ?_
  refine k_sld h hz (ddL_law15 (887, .iaload, 1) (List.mem_of_getElem? (i := 2) rfl)) ?_
  refine k_callV h hl (aX9_look l) (ci := 9) (C := RX9) (T := TX9) (N := 33) rfl ⟨rfl, rfl⟩ (n := 1) (by decide +kernel) (q_gV gw966 gw967 gw968 gw606 gw965) ⟨by decide, by decide⟩ (ddL_law15 (888, .invokevirtual 109, 3) (List.mem_of_getElem? (i := 3) rfl)) ?_
  refine k_iceq h (ddL_law15 (891, .if_icmp .eq 186, 3) (List.mem_of_getElem? (i := 4) rfl)) (tgt := 1077) (by decide) ?_ ?_
  · exact k_cut
  · exact sL_law_894 hl hQ hcap hz h
theorem sL_law_947 {l : Launch} {X : q_CX} {Ln : Nat} {xs : Nat → Int32} (hl : X.2.1 = l) (hQ : q_LQ X) (hcap : q_cap X room_1 L_cap) (hz : q_scr X Ln xs) (h : q_OK X yL_law cL_law 4 (some .boolean) room_1 (Cond.code yL_law cL_law 4 (some .boolean) :: q_G)) : q_SK X 4 947 (BL_law_947 Ln xs) := by
  refine k_iconst (v := 0) h (ddL_law16 (947, .iconst 0, 1) (List.mem_of_getElem? (i := 12) rfl)) (by decide) ?_
  exact k_lret h hQ (ddL_law16 (948, .ireturn, 1) (List.mem_of_getElem? (i := 13) rfl))
theorem sL_law_896 {l : Launch} {X : q_CX} {Ln : Nat} {xs : Nat → Int32} (hl : X.2.1 = l) (hQ : q_LQ X) (hcap : q_cap X room_1 L_cap) (hz : q_scr X Ln xs) (h : q_OK X yL_law cL_law 4 (some .boolean) room_1 (Cond.code yL_law cL_law 4 (some .boolean) :: q_G)) : q_SK X 4 896 (BL_law_896 Ln xs) := by
  refine k_aload_n (i := 1) h (ddL_law15 (896, .aload_n 1, 1) (List.mem_of_getElem? (i := 7) rfl)) rfl ?_
  refine k_aload_n (i := 0) h (ddL_law15 (897, .aload_n 0, 1) (List.mem_of_getElem? (i := 8) rfl)) rfl ?_
  refine k_iload_n (i := 3) h (ddL_law15 (898, .iload_n 3, 1) (List.mem_of_getElem? (i := 9) rfl)) rfl ?_
  refine k_iconst (v := 1) h (ddL_law15 (899, .iconst 1, 1) (List.mem_of_getElem? (i := 10) rfl)) (by decide) ?_
  refine k_iadd h (ddL_law15 (900, .iadd, 1) (List.mem_of_getElem? (i := 11) rfl)) ?_
  refine k_sld h hz (ddL_law15 (901, .iaload, 1) (List.mem_of_getElem? (i := 12) rfl)) ?_
  refine k_aload_n (i := 0) h (ddL_law15 (902, .aload_n 0, 1) (List.mem_of_getElem? (i := 13) rfl)) rfl ?_
  refine k_iload_n (i := 3) h (ddL_law15 (903, .iload_n 3, 1) (List.mem_of_getElem? (i := 14) rfl)) rfl ?_
  refine k_iconst (v := 2) h (ddL_law15 (904, .iconst 2, 1) (List.mem_of_getElem? (i := 15) rfl)) (by decide) ?_
  refine k_iadd h (ddL_law15 (905, .iadd, 1) (List.mem_of_getElem? (i := 16) rfl)) ?_
  refine k_sld h hz (ddL_law15 (906, .iaload, 1) (List.mem_of_getElem? (i := 17) rfl)) ?_
  refine k_aload_n (i := 0) h (ddL_law15 (907, .aload_n 0, 1) (List.mem_of_getElem? (i := 18) rfl)) rfl ?_
  refine k_iload_n (i := 3) h (ddL_law15 (908, .iload_n 3, 1) (List.mem_of_getElem? (i := 19) rfl)) rfl ?_
  refine k_iconst (v := 3) h (ddL_law15 (909, .iconst 3, 1) (List.mem_of_getElem? (i := 20) rfl)) (by decide) ?_
  refine k_iadd h (ddL_law15 (910, .iadd, 1) (List.mem_of_getElem? (i := 21) rfl)) ?_
  refine k_sld h hz (ddL_law15 (911, .iaload, 1) (List.mem_of_getElem? (i := 22) rfl)) ?_
  refine k_aload_n (i := 0) h (ddL_law15 (912, .aload_n 0, 1) (List.mem_of_getElem? (i := 23) rfl)) rfl ?_
  refine k_iload_n (i := 3) h (ddL_law15 (913, .iload_n 3, 1) (List.mem_of_getElem? (i := 24) rfl)) rfl ?_
  refine k_iconst (v := 4) h (ddL_law15 (914, .iconst 4, 1) (List.mem_of_getElem? (i := 25) rfl)) (by decide) ?_
  refine k_iadd h (ddL_law15 (915, .iadd, 1) (List.mem_of_getElem? (i := 26) rfl)) ?_
  refine k_sld h hz (ddL_law15 (916, .iaload, 1) (List.mem_of_getElem? (i := 27) rfl)) ?_
  refine k_callV h hl (aX8_mend l) (ci := 8) (C := RX8) (T := TX8) (N := 11) rfl ⟨rfl, rfl⟩ (n := 4) (by decide +kernel) (q_gV gw970 gw971 gw972 gw91 gw969) ⟨by decide, by decide⟩ (ddL_law15 (917, .invokevirtual 110, 3) (List.mem_of_getElem? (i := 28) rfl)) ?_
  refine k_aload_n (i := 2) h (ddL_law15 (920, .aload_n 2, 1) (List.mem_of_getElem? (i := 29) rfl)) rfl ?_
  refine k_aload_n (i := 0) h (ddL_law15 (921, .aload_n 0, 1) (List.mem_of_getElem? (i := 30) rfl)) rfl ?_
  refine k_iload_n (i := 3) h (ddL_law15 (922, .iload_n 3, 1) (List.mem_of_getElem? (i := 31) rfl)) rfl ?_
  refine k_iconst (v := 1) h (ddL_law15 (923, .iconst 1, 1) (List.mem_of_getElem? (i := 32) rfl)) (by decide) ?_
  refine k_iadd h (ddL_law15 (924, .iadd, 1) (List.mem_of_getElem? (i := 33) rfl)) ?_
  refine k_sld h hz (ddL_law15 (925, .iaload, 1) (List.mem_of_getElem? (i := 34) rfl)) ?_
  refine k_aload_n (i := 0) h (ddL_law15 (926, .aload_n 0, 1) (List.mem_of_getElem? (i := 35) rfl)) rfl ?_
  refine k_iload_n (i := 3) h (ddL_law15 (927, .iload_n 3, 1) (List.mem_of_getElem? (i := 36) rfl)) rfl ?_
  refine k_iconst (v := 2) h (ddL_law15 (928, .iconst 2, 1) (List.mem_of_getElem? (i := 37) rfl)) (by decide) ?_
  refine k_iadd h (ddL_law15 (929, .iadd, 1) (List.mem_of_getElem? (i := 38) rfl)) ?_
  refine k_sld h hz (ddL_law15 (930, .iaload, 1) (List.mem_of_getElem? (i := 39) rfl)) ?_
  refine k_aload_n (i := 0) h (ddL_law16 (931, .aload_n 0, 1) (List.mem_of_getElem? (i := 0) rfl)) rfl ?_
  refine k_iload_n (i := 3) h (ddL_law16 (932, .iload_n 3, 1) (List.mem_of_getElem? (i := 1) rfl)) rfl ?_
  refine k_iconst (v := 3) h (ddL_law16 (933, .iconst 3, 1) (List.mem_of_getElem? (i := 2) rfl)) (by decide) ?_
  refine k_iadd h (ddL_law16 (934, .iadd, 1) (List.mem_of_getElem? (i := 3) rfl)) ?_
  refine k_sld h hz (ddL_law16 (935, .iaload, 1) (List.mem_of_getElem? (i := 4) rfl)) ?_
  refine k_aload_n (i := 0) h (ddL_law16 (936, .aload_n 0, 1) (List.mem_of_getElem? (i := 5) rfl)) rfl ?_
  refine k_iload_n (i := 3) h (ddL_law16 (937, .iload_n 3, 1) (List.mem_of_getElem? (i := 6) rfl)) rfl ?_
  refine k_iconst (v := 4) h (ddL_law16 (938, .iconst 4, 1) (List.mem_of_getElem? (i := 7) rfl)) (by decide) ?_
  refine k_iadd h (ddL_law16 (939, .iadd, 1) (List.mem_of_getElem? (i := 8) rfl)) ?_
  refine k_sld h hz (ddL_law16 (940, .iaload, 1) (List.mem_of_getElem? (i := 9) rfl)) ?_
  refine k_callV h hl (aX9_mend l) (ci := 9) (C := RX9) (T := TX9) (N := 33) rfl ⟨rfl, rfl⟩ (n := 4) (by decide +kernel) (q_gV gw974 gw975 gw976 gw606 gw973) ⟨by decide, by decide⟩ (ddL_law16 (941, .invokevirtual 113, 3) (List.mem_of_getElem? (i := 10) rfl)) ?_
  refine k_iceq h (ddL_law16 (944, .if_icmp .eq 133, 3) (List.mem_of_getElem? (i := 11) rfl)) (tgt := 1077) (by decide) ?_ ?_
  · exact k_cut
  · exact sL_law_947 hl hQ hcap hz h
theorem sL_law_970 {l : Launch} {X : q_CX} {Ln : Nat} {xs : Nat → Int32} (hl : X.2.1 = l) (hQ : q_LQ X) (hcap : q_cap X room_1 L_cap) (hz : q_scr X Ln xs) (h : q_OK X yL_law cL_law 4 (some .boolean) room_1 (Cond.code yL_law cL_law 4 (some .boolean) :: q_G)) : q_SK X 4 970 (BL_law_970 Ln xs) := by
  refine k_iconst (v := 0) h (ddL_law16 (970, .iconst 0, 1) (List.mem_of_getElem? (i := 29) rfl)) (by decide) ?_
  exact k_lret h hQ (ddL_law16 (971, .ireturn, 1) (List.mem_of_getElem? (i := 30) rfl))
theorem sL_law_949 {l : Launch} {X : q_CX} {Ln : Nat} {xs : Nat → Int32} (hl : X.2.1 = l) (hQ : q_LQ X) (hcap : q_cap X room_1 L_cap) (hz : q_scr X Ln xs) (h : q_OK X yL_law cL_law 4 (some .boolean) room_1 (Cond.code yL_law cL_law 4 (some .boolean) :: q_G)) : q_SK X 4 949 (BL_law_949 Ln xs) := by
  refine k_aload_n (i := 1) h (ddL_law16 (949, .aload_n 1, 1) (List.mem_of_getElem? (i := 14) rfl)) rfl ?_
  refine k_aload_n (i := 0) h (ddL_law16 (950, .aload_n 0, 1) (List.mem_of_getElem? (i := 15) rfl)) rfl ?_
  refine k_iload_n (i := 3) h (ddL_law16 (951, .iload_n 3, 1) (List.mem_of_getElem? (i := 16) rfl)) rfl ?_
  refine k_iconst (v := 1) h (ddL_law16 (952, .iconst 1, 1) (List.mem_of_getElem? (i := 17) rfl)) (by decide) ?_
  refine k_iadd h (ddL_law16 (953, .iadd, 1) (List.mem_of_getElem? (i := 18) rfl)) ?_
  refine k_sld h hz (ddL_law16 (954, .iaload, 1) (List.mem_of_getElem? (i := 19) rfl)) ?_
  refine k_callV h hl (aX8_write l) (ci := 8) (C := RX8) (T := TX8) (N := 11) rfl ⟨rfl, rfl⟩ (n := 1) (by decide +kernel) (q_gV gw978 gw979 gw980 gw91 gw977) ⟨by decide, by decide⟩ (ddL_law16 (955, .invokevirtual 114, 3) (List.mem_of_getElem? (i := 20) rfl)) ?_
  refine k_aload_n (i := 2) h (ddL_law16 (958, .aload_n 2, 1) (List.mem_of_getElem? (i := 21) rfl)) rfl ?_
  refine k_aload_n (i := 0) h (ddL_law16 (959, .aload_n 0, 1) (List.mem_of_getElem? (i := 22) rfl)) rfl ?_
  refine k_iload_n (i := 3) h (ddL_law16 (960, .iload_n 3, 1) (List.mem_of_getElem? (i := 23) rfl)) rfl ?_
  refine k_iconst (v := 1) h (ddL_law16 (961, .iconst 1, 1) (List.mem_of_getElem? (i := 24) rfl)) (by decide) ?_
  refine k_iadd h (ddL_law16 (962, .iadd, 1) (List.mem_of_getElem? (i := 25) rfl)) ?_
  refine k_sld h hz (ddL_law16 (963, .iaload, 1) (List.mem_of_getElem? (i := 26) rfl)) ?_
  refine k_callV h hl (aX9_write l) (ci := 9) (C := RX9) (T := TX9) (N := 33) rfl ⟨rfl, rfl⟩ (n := 1) (by decide +kernel) (q_gV gw982 gw983 gw984 gw606 gw981) ⟨by decide, by decide⟩ (ddL_law16 (964, .invokevirtual 117, 3) (List.mem_of_getElem? (i := 27) rfl)) ?_
  refine k_iceq h (ddL_law16 (967, .if_icmp .eq 110, 3) (List.mem_of_getElem? (i := 28) rfl)) (tgt := 1077) (by decide) ?_ ?_
  · exact k_cut
  · exact sL_law_970 hl hQ hcap hz h
theorem sL_law_983 {l : Launch} {X : q_CX} {Ln : Nat} {xs : Nat → Int32} (hl : X.2.1 = l) (hQ : q_LQ X) (hcap : q_cap X room_1 L_cap) (hz : q_scr X Ln xs) (h : q_OK X yL_law cL_law 4 (some .boolean) room_1 (Cond.code yL_law cL_law 4 (some .boolean) :: q_G)) : q_SK X 4 983 (BL_law_983 Ln xs) := by
  refine k_iconst (v := 0) h (ddL_law16 (983, .iconst 0, 1) (List.mem_of_getElem? (i := 36) rfl)) (by decide) ?_
  exact k_lret h hQ (ddL_law16 (984, .ireturn, 1) (List.mem_of_getElem? (i := 37) rfl))
theorem sL_law_972 {l : Launch} {X : q_CX} {Ln : Nat} {xs : Nat → Int32} (hl : X.2.1 = l) (hQ : q_LQ X) (hcap : q_cap X room_1 L_cap) (hz : q_scr X Ln xs) (h : q_OK X yL_law cL_law 4 (some .boolean) room_1 (Cond.code yL_law cL_law 4 (some .boolean) :: q_G)) : q_SK X 4 972 (BL_law_972 Ln xs) := by
  refine k_aload_n (i := 1) h (ddL_law16 (972, .aload_n 1, 1) (List.mem_of_getElem? (i := 31) rfl)) rfl ?_
  refine k_callV h hl (aX8_tear l) (ci := 8) (C := RX8) (T := TX8) (N := 11) rfl ⟨rfl, rfl⟩ (n := 0) (by decide +kernel) (q_gV gw986 gw987 gw988 gw91 gw985) ⟨by decide, by decide⟩ (ddL_law16 (973, .invokevirtual 118, 3) (List.mem_of_getElem? (i := 32) rfl)) ?_
  refine k_aload_n (i := 2) h (ddL_law16 (976, .aload_n 2, 1) (List.mem_of_getElem? (i := 33) rfl)) rfl ?_
  refine k_callV h hl (aX9_tear l) (ci := 9) (C := RX9) (T := TX9) (N := 33) rfl ⟨rfl, rfl⟩ (n := 0) (by decide +kernel) (q_gV gw990 gw991 gw992 gw606 gw989) ⟨by decide, by decide⟩ (ddL_law16 (977, .invokevirtual 121, 3) (List.mem_of_getElem? (i := 34) rfl)) ?_
  refine k_iceq h (ddL_law16 (980, .if_icmp .eq 97, 3) (List.mem_of_getElem? (i := 35) rfl)) (tgt := 1077) (by decide) ?_ ?_
  · exact k_cut
  · exact sL_law_983 hl hQ hcap hz h
theorem sL_law_1006 {l : Launch} {X : q_CX} {Ln : Nat} {xs : Nat → Int32} (hl : X.2.1 = l) (hQ : q_LQ X) (hcap : q_cap X room_1 L_cap) (hz : q_scr X Ln xs) (h : q_OK X yL_law cL_law 4 (some .boolean) room_1 (Cond.code yL_law cL_law 4 (some .boolean) :: q_G)) : q_SK X 4 1006 (BL_law_1006 Ln xs) := by
  refine k_iconst (v := 0) h (ddL_law17 (1006, .iconst 0, 1) (List.mem_of_getElem? (i := 13) rfl)) (by decide) ?_
  exact k_lret h hQ (ddL_law17 (1007, .ireturn, 1) (List.mem_of_getElem? (i := 14) rfl))
theorem sL_law_985 {l : Launch} {X : q_CX} {Ln : Nat} {xs : Nat → Int32} (hl : X.2.1 = l) (hQ : q_LQ X) (hcap : q_cap X room_1 L_cap) (hz : q_scr X Ln xs) (h : q_OK X yL_law cL_law 4 (some .boolean) room_1 (Cond.code yL_law cL_law 4 (some .boolean) :: q_G)) : q_SK X 4 985 (BL_law_985 Ln xs) := by
  refine k_aload_n (i := 1) h (ddL_law16 (985, .aload_n 1, 1) (List.mem_of_getElem? (i := 38) rfl)) rfl ?_
  refine k_aload_n (i := 0) h (ddL_law16 (986, .aload_n 0, 1) (List.mem_of_getElem? (i := 39) rfl)) rfl ?_
  refine k_iload_n (i := 3) h (ddL_law17 (987, .iload_n 3, 1) (List.mem_of_getElem? (i := 0) rfl)) rfl ?_
  refine k_iconst (v := 1) h (ddL_law17 (988, .iconst 1, 1) (List.mem_of_getElem? (i := 1) rfl)) (by decide) ?_
  refine k_iadd h (ddL_law17 (989, .iadd, 1) (List.mem_of_getElem? (i := 2) rfl)) ?_
  refine k_sld h hz (ddL_law17 (990, .iaload, 1) (List.mem_of_getElem? (i := 3) rfl)) ?_
  refine k_callV h hl (aX8_judge l) (ci := 8) (C := RX8) (T := TX8) (N := 11) rfl ⟨rfl, rfl⟩ (n := 1) (by decide +kernel) (q_gV gw994 gw995 gw996 gw91 gw993) ⟨by decide, by decide⟩ (ddL_law17 (991, .invokevirtual 122, 3) (List.mem_of_getElem? (i := 4) rfl)) ?_
  refine k_aload_n (i := 2) h (ddL_law17 (994, .aload_n 2, 1) (List.mem_of_getElem? (i := 5) rfl)) rfl ?_
  refine k_aload_n (i := 0) h (ddL_law17 (995, .aload_n 0, 1) (List.mem_of_getElem? (i := 6) rfl)) rfl ?_
  refine k_iload_n (i := 3) h (ddL_law17 (996, .iload_n 3, 1) (List.mem_of_getElem? (i := 7) rfl)) rfl ?_
  refine k_iconst (v := 1) h (ddL_law17 (997, .iconst 1, 1) (List.mem_of_getElem? (i := 8) rfl)) (by decide) ?_
  refine k_iadd h (ddL_law17 (998, .iadd, 1) (List.mem_of_getElem? (i := 9) rfl)) ?_
  refine k_sld h hz (ddL_law17 (999, .iaload, 1) (List.mem_of_getElem? (i := 10) rfl)) ?_
  refine k_callV h hl (aX9_judge l) (ci := 9) (C := RX9) (T := TX9) (N := 33) rfl ⟨rfl, rfl⟩ (n := 1) (by decide +kernel) (q_gV gw998 gw999 gw1000 gw606 gw997) ⟨by decide, by decide⟩ (ddL_law17 (1000, .invokevirtual 125, 3) (List.mem_of_getElem? (i := 11) rfl)) ?_
  refine k_iceq h (ddL_law17 (1003, .if_icmp .eq 74, 3) (List.mem_of_getElem? (i := 12) rfl)) (tgt := 1077) (by decide) ?_ ?_
  · exact k_cut
  · exact sL_law_1006 hl hQ hcap hz h
theorem sL_law_1029 {l : Launch} {X : q_CX} {Ln : Nat} {xs : Nat → Int32} (hl : X.2.1 = l) (hQ : q_LQ X) (hcap : q_cap X room_1 L_cap) (hz : q_scr X Ln xs) (h : q_OK X yL_law cL_law 4 (some .boolean) room_1 (Cond.code yL_law cL_law 4 (some .boolean) :: q_G)) : q_SK X 4 1029 (BL_law_1029 Ln xs) := by
  refine k_iconst (v := 0) h (ddL_law17 (1029, .iconst 0, 1) (List.mem_of_getElem? (i := 30) rfl)) (by decide) ?_
  exact k_lret h hQ (ddL_law17 (1030, .ireturn, 1) (List.mem_of_getElem? (i := 31) rfl))
theorem sL_law_1008 {l : Launch} {X : q_CX} {Ln : Nat} {xs : Nat → Int32} (hl : X.2.1 = l) (hQ : q_LQ X) (hcap : q_cap X room_1 L_cap) (hz : q_scr X Ln xs) (h : q_OK X yL_law cL_law 4 (some .boolean) room_1 (Cond.code yL_law cL_law 4 (some .boolean) :: q_G)) : q_SK X 4 1008 (BL_law_1008 Ln xs) := by
  refine k_aload_n (i := 1) h (ddL_law17 (1008, .aload_n 1, 1) (List.mem_of_getElem? (i := 15) rfl)) rfl ?_
  refine k_aload_n (i := 0) h (ddL_law17 (1009, .aload_n 0, 1) (List.mem_of_getElem? (i := 16) rfl)) rfl ?_
  refine k_iload_n (i := 3) h (ddL_law17 (1010, .iload_n 3, 1) (List.mem_of_getElem? (i := 17) rfl)) rfl ?_
  refine k_iconst (v := 1) h (ddL_law17 (1011, .iconst 1, 1) (List.mem_of_getElem? (i := 18) rfl)) (by decide) ?_
  refine k_iadd h (ddL_law17 (1012, .iadd, 1) (List.mem_of_getElem? (i := 19) rfl)) ?_
  refine k_sld h hz (ddL_law17 (1013, .iaload, 1) (List.mem_of_getElem? (i := 20) rfl)) ?_
  refine k_callV h hl (aX8_seed l) (ci := 8) (C := RX8) (T := TX8) (N := 11) rfl ⟨rfl, rfl⟩ (n := 1) (by decide +kernel) (q_gV gw1002 gw1003 gw1004 gw91 gw1001) ⟨by decide, by decide⟩ (ddL_law17 (1014, .invokevirtual 126, 3) (List.mem_of_getElem? (i := 21) rfl)) ?_
  refine k_aload_n (i := 2) h (ddL_law17 (1017, .aload_n 2, 1) (List.mem_of_getElem? (i := 22) rfl)) rfl ?_
  refine k_aload_n (i := 0) h (ddL_law17 (1018, .aload_n 0, 1) (List.mem_of_getElem? (i := 23) rfl)) rfl ?_
  refine k_iload_n (i := 3) h (ddL_law17 (1019, .iload_n 3, 1) (List.mem_of_getElem? (i := 24) rfl)) rfl ?_
  refine k_iconst (v := 1) h (ddL_law17 (1020, .iconst 1, 1) (List.mem_of_getElem? (i := 25) rfl)) (by decide) ?_
  refine k_iadd h (ddL_law17 (1021, .iadd, 1) (List.mem_of_getElem? (i := 26) rfl)) ?_
  refine k_sld h hz (ddL_law17 (1022, .iaload, 1) (List.mem_of_getElem? (i := 27) rfl)) ?_
  refine k_callV h hl (aX9_seed l) (ci := 9) (C := RX9) (T := TX9) (N := 33) rfl ⟨rfl, rfl⟩ (n := 1) (by decide +kernel) (q_gV gw1006 gw1007 gw1008 gw606 gw1005) ⟨by decide, by decide⟩ (ddL_law17 (1023, .invokevirtual 129, 3) (List.mem_of_getElem? (i := 28) rfl)) ?_
  refine k_iceq h (ddL_law17 (1026, .if_icmp .eq 51, 3) (List.mem_of_getElem? (i := 29) rfl)) (tgt := 1077) (by decide) ?_ ?_
  · exact k_cut
  · exact sL_law_1029 hl hQ hcap hz h
theorem sL_law_1052 {l : Launch} {X : q_CX} {Ln : Nat} {xs : Nat → Int32} (hl : X.2.1 = l) (hQ : q_LQ X) (hcap : q_cap X room_1 L_cap) (hz : q_scr X Ln xs) (h : q_OK X yL_law cL_law 4 (some .boolean) room_1 (Cond.code yL_law cL_law 4 (some .boolean) :: q_G)) : q_SK X 4 1052 (BL_law_1052 Ln xs) := by
  refine k_iconst (v := 0) h (ddL_law18 (1052, .iconst 0, 1) (List.mem_of_getElem? (i := 7) rfl)) (by decide) ?_
  exact k_lret h hQ (ddL_law18 (1053, .ireturn, 1) (List.mem_of_getElem? (i := 8) rfl))
theorem sL_law_1031 {l : Launch} {X : q_CX} {Ln : Nat} {xs : Nat → Int32} (hl : X.2.1 = l) (hQ : q_LQ X) (hcap : q_cap X room_1 L_cap) (hz : q_scr X Ln xs) (h : q_OK X yL_law cL_law 4 (some .boolean) room_1 (Cond.code yL_law cL_law 4 (some .boolean) :: q_G)) : q_SK X 4 1031 (BL_law_1031 Ln xs) := by
  refine k_aload_n (i := 1) h (ddL_law17 (1031, .aload_n 1, 1) (List.mem_of_getElem? (i := 32) rfl)) rfl ?_
  refine k_aload_n (i := 0) h (ddL_law17 (1032, .aload_n 0, 1) (List.mem_of_getElem? (i := 33) rfl)) rfl ?_
  refine k_iload_n (i := 3) h (ddL_law17 (1033, .iload_n 3, 1) (List.mem_of_getElem? (i := 34) rfl)) rfl ?_
  refine k_iconst (v := 1) h (ddL_law17 (1034, .iconst 1, 1) (List.mem_of_getElem? (i := 35) rfl)) (by decide) ?_
  refine k_iadd h (ddL_law17 (1035, .iadd, 1) (List.mem_of_getElem? (i := 36) rfl)) ?_
  refine k_sld h hz (ddL_law17 (1036, .iaload, 1) (List.mem_of_getElem? (i := 37) rfl)) ?_
  refine k_callV h hl (aX8_keep l) (ci := 8) (C := RX8) (T := TX8) (N := 11) rfl ⟨rfl, rfl⟩ (n := 1) (by decide +kernel) (q_gV gw1010 gw1011 gw1012 gw91 gw1009) ⟨by decide, by decide⟩ (ddL_law17 (1037, .invokevirtual 130, 3) (List.mem_of_getElem? (i := 38) rfl)) ?_
  refine k_aload_n (i := 2) h (ddL_law17 (1040, .aload_n 2, 1) (List.mem_of_getElem? (i := 39) rfl)) rfl ?_
  refine k_aload_n (i := 0) h (ddL_law18 (1041, .aload_n 0, 1) (List.mem_of_getElem? (i := 0) rfl)) rfl ?_
  refine k_iload_n (i := 3) h (ddL_law18 (1042, .iload_n 3, 1) (List.mem_of_getElem? (i := 1) rfl)) rfl ?_
  refine k_iconst (v := 1) h (ddL_law18 (1043, .iconst 1, 1) (List.mem_of_getElem? (i := 2) rfl)) (by decide) ?_
  refine k_iadd h (ddL_law18 (1044, .iadd, 1) (List.mem_of_getElem? (i := 3) rfl)) ?_
  refine k_sld h hz (ddL_law18 (1045, .iaload, 1) (List.mem_of_getElem? (i := 4) rfl)) ?_
  refine k_callV h hl (aX9_keep l) (ci := 9) (C := RX9) (T := TX9) (N := 33) rfl ⟨rfl, rfl⟩ (n := 1) (by decide +kernel) (q_gV gw1014 gw1015 gw1016 gw606 gw1013) ⟨by decide, by decide⟩ (ddL_law18 (1046, .invokevirtual 133, 3) (List.mem_of_getElem? (i := 5) rfl)) ?_
  refine k_iceq h (ddL_law18 (1049, .if_icmp .eq 28, 3) (List.mem_of_getElem? (i := 6) rfl)) (tgt := 1077) (by decide) ?_ ?_
  · exact k_cut
  · exact sL_law_1052 hl hQ hcap hz h
theorem sL_law_1075 {l : Launch} {X : q_CX} {Ln : Nat} {xs : Nat → Int32} (hl : X.2.1 = l) (hQ : q_LQ X) (hcap : q_cap X room_1 L_cap) (hz : q_scr X Ln xs) (h : q_OK X yL_law cL_law 4 (some .boolean) room_1 (Cond.code yL_law cL_law 4 (some .boolean) :: q_G)) : q_SK X 4 1075 (BL_law_1075 Ln xs) := by
  refine k_iconst (v := 0) h (ddL_law18 (1075, .iconst 0, 1) (List.mem_of_getElem? (i := 24) rfl)) (by decide) ?_
  exact k_lret h hQ (ddL_law18 (1076, .ireturn, 1) (List.mem_of_getElem? (i := 25) rfl))
theorem sL_law_1054 {l : Launch} {X : q_CX} {Ln : Nat} {xs : Nat → Int32} (hl : X.2.1 = l) (hQ : q_LQ X) (hcap : q_cap X room_1 L_cap) (hz : q_scr X Ln xs) (h : q_OK X yL_law cL_law 4 (some .boolean) room_1 (Cond.code yL_law cL_law 4 (some .boolean) :: q_G)) : q_SK X 4 1054 (BL_law_1054 Ln xs) := by
  refine k_aload_n (i := 1) h (ddL_law18 (1054, .aload_n 1, 1) (List.mem_of_getElem? (i := 9) rfl)) rfl ?_
  refine k_aload_n (i := 0) h (ddL_law18 (1055, .aload_n 0, 1) (List.mem_of_getElem? (i := 10) rfl)) rfl ?_
  refine k_iload_n (i := 3) h (ddL_law18 (1056, .iload_n 3, 1) (List.mem_of_getElem? (i := 11) rfl)) rfl ?_
  refine k_iconst (v := 1) h (ddL_law18 (1057, .iconst 1, 1) (List.mem_of_getElem? (i := 12) rfl)) (by decide) ?_
  refine k_iadd h (ddL_law18 (1058, .iadd, 1) (List.mem_of_getElem? (i := 13) rfl)) ?_
  refine k_sld h hz (ddL_law18 (1059, .iaload, 1) (List.mem_of_getElem? (i := 14) rfl)) ?_
  refine k_callV h hl (aX8_goBack l) (ci := 8) (C := RX8) (T := TX8) (N := 11) rfl ⟨rfl, rfl⟩ (n := 1) (by decide +kernel) (q_gV gw1018 gw1019 gw1020 gw91 gw1017) ⟨by decide, by decide⟩ (ddL_law18 (1060, .invokevirtual 134, 3) (List.mem_of_getElem? (i := 15) rfl)) ?_
  refine k_aload_n (i := 2) h (ddL_law18 (1063, .aload_n 2, 1) (List.mem_of_getElem? (i := 16) rfl)) rfl ?_
  refine k_aload_n (i := 0) h (ddL_law18 (1064, .aload_n 0, 1) (List.mem_of_getElem? (i := 17) rfl)) rfl ?_
  refine k_iload_n (i := 3) h (ddL_law18 (1065, .iload_n 3, 1) (List.mem_of_getElem? (i := 18) rfl)) rfl ?_
  refine k_iconst (v := 1) h (ddL_law18 (1066, .iconst 1, 1) (List.mem_of_getElem? (i := 19) rfl)) (by decide) ?_
  refine k_iadd h (ddL_law18 (1067, .iadd, 1) (List.mem_of_getElem? (i := 20) rfl)) ?_
  refine k_sld h hz (ddL_law18 (1068, .iaload, 1) (List.mem_of_getElem? (i := 21) rfl)) ?_
  refine k_callV h hl (aX9_goBack l) (ci := 9) (C := RX9) (T := TX9) (N := 33) rfl ⟨rfl, rfl⟩ (n := 1) (by decide +kernel) (q_gV gw1022 gw1023 gw1024 gw606 gw1021) ⟨by decide, by decide⟩ (ddL_law18 (1069, .invokevirtual 137, 3) (List.mem_of_getElem? (i := 22) rfl)) ?_
  refine k_iceq h (ddL_law18 (1072, .if_icmp .eq 5, 3) (List.mem_of_getElem? (i := 23) rfl)) (tgt := 1077) (by decide) ?_ ?_
  · exact k_cut
  · exact sL_law_1075 hl hQ hcap hz h
theorem sL_law_1077 {l : Launch} {X : q_CX} {Ln : Nat} {xs : Nat → Int32} (hl : X.2.1 = l) (hQ : q_LQ X) (hcap : q_cap X room_1 L_cap) (hz : q_scr X Ln xs) (h : q_OK X yL_law cL_law 4 (some .boolean) room_1 (Cond.code yL_law cL_law 4 (some .boolean) :: q_G)) : q_SK X 4 1077 (BL_law_1077 Ln xs) := by
  refine k_iinc (d := 5) h (ddL_law18 (1077, .iinc 3 5, 3) (List.mem_of_getElem? (i := 26) rfl)) (by decide) (by decide) ?_
  refine k_goto h (ddL_law18 (1080, .goto (-1062), 3) (List.mem_of_getElem? (i := 27) rfl)) (tgt := 18) (by decide) ?_
  exact k_cut
theorem sL_law {l : Launch} {X : q_CX} {Ln : Nat} {xs : Nat → Int32} (hl : X.2.1 = l) (hQ : q_LQ X) (hcap : q_cap X room_1 L_cap) (hz : q_scr X Ln xs) (h : q_OK X yL_law cL_law 4 (some .boolean) room_1 (Cond.code yL_law cL_law 4 (some .boolean) :: q_G)) (pc : Nat) : q_SK X 4 pc (TL_law Ln xs pc) := by
  unfold TL_law
  exact k_at (sL_law_0 hl hQ hcap hz h) (k_at (sL_law_18 hl hQ hcap hz h) (k_at (sL_law_164 hl hQ hcap hz h) (k_at (sL_law_227 hl hQ hcap hz h) (k_at (sL_law_240 hl hQ hcap hz h) (k_at (sL_law_253 hl hQ hcap hz h) (k_at (sL_law_276 hl hQ hcap hz h) (k_at (sL_law_309 hl hQ hcap hz h) (k_at (sL_law_342 hl hQ hcap hz h) (k_at (sL_law_375 hl hQ hcap hz h) (k_at (sL_law_398 hl hQ hcap hz h) (k_at (sL_law_421 hl hQ hcap hz h) (k_at (sL_law_454 hl hQ hcap hz h) (k_at (sL_law_477 hl hQ hcap hz h) (k_at (sL_law_500 hl hQ hcap hz h) (k_at (sL_law_543 hl hQ hcap hz h) (k_at (sL_law_576 hl hQ hcap hz h) (k_at (sL_law_629 hl hQ hcap hz h) (k_at (sL_law_682 hl hQ hcap hz h) (k_at (sL_law_725 hl hQ hcap hz h) (k_at (sL_law_768 hl hQ hcap hz h) (k_at (sL_law_781 hl hQ hcap hz h) (k_at (sL_law_805 hl hQ hcap hz h) (k_at (sL_law_840 hl hQ hcap hz h) (k_at (sL_law_873 hl hQ hcap hz h) (k_at (sL_law_896 hl hQ hcap hz h) (k_at (sL_law_949 hl hQ hcap hz h) (k_at (sL_law_972 hl hQ hcap hz h) (k_at (sL_law_985 hl hQ hcap hz h) (k_at (sL_law_1008 hl hQ hcap hz h) (k_at (sL_law_1031 hl hQ hcap hz h) (k_at (sL_law_1054 hl hQ hcap hz h) (k_at (sL_law_1077 hl hQ hcap hz h) (k_no)))))))))))))))))))))))))))))))))
theorem uL_law_0 {Ln : Nat} {xs : Nat → Int32} {L : q_Lo} {st : List Value} {sh : q_Sh} {m : q_Mm} {R : q_KR} (h : BL_law_0 Ln xs L st sh m (fun pc L st sh m => q_WP (TL_law Ln xs) pc L st sh m R) R) : q_WP (TL_law Ln xs) 0 L st sh m R := q_go h
theorem uL_law_18 {Ln : Nat} {xs : Nat → Int32} {L : q_Lo} {st : List Value} {sh : q_Sh} {m : q_Mm} {R : q_KR} (h : BL_law_18 Ln xs L st sh m (fun pc L st sh m => q_WP (TL_law Ln xs) pc L st sh m R) R) : q_WP (TL_law Ln xs) 18 L st sh m R := q_go h
theorem uL_law_164 {Ln : Nat} {xs : Nat → Int32} {L : q_Lo} {st : List Value} {sh : q_Sh} {m : q_Mm} {R : q_KR} (h : BL_law_164 Ln xs L st sh m (fun pc L st sh m => q_WP (TL_law Ln xs) pc L st sh m R) R) : q_WP (TL_law Ln xs) 164 L st sh m R := q_go h
theorem uL_law_227 {Ln : Nat} {xs : Nat → Int32} {L : q_Lo} {st : List Value} {sh : q_Sh} {m : q_Mm} {R : q_KR} (h : BL_law_227 Ln xs L st sh m (fun pc L st sh m => q_WP (TL_law Ln xs) pc L st sh m R) R) : q_WP (TL_law Ln xs) 227 L st sh m R := q_go h
theorem uL_law_240 {Ln : Nat} {xs : Nat → Int32} {L : q_Lo} {st : List Value} {sh : q_Sh} {m : q_Mm} {R : q_KR} (h : BL_law_240 Ln xs L st sh m (fun pc L st sh m => q_WP (TL_law Ln xs) pc L st sh m R) R) : q_WP (TL_law Ln xs) 240 L st sh m R := q_go h
theorem uL_law_253 {Ln : Nat} {xs : Nat → Int32} {L : q_Lo} {st : List Value} {sh : q_Sh} {m : q_Mm} {R : q_KR} (h : BL_law_253 Ln xs L st sh m (fun pc L st sh m => q_WP (TL_law Ln xs) pc L st sh m R) R) : q_WP (TL_law Ln xs) 253 L st sh m R := q_go h
theorem uL_law_276 {Ln : Nat} {xs : Nat → Int32} {L : q_Lo} {st : List Value} {sh : q_Sh} {m : q_Mm} {R : q_KR} (h : BL_law_276 Ln xs L st sh m (fun pc L st sh m => q_WP (TL_law Ln xs) pc L st sh m R) R) : q_WP (TL_law Ln xs) 276 L st sh m R := q_go h
theorem uL_law_309 {Ln : Nat} {xs : Nat → Int32} {L : q_Lo} {st : List Value} {sh : q_Sh} {m : q_Mm} {R : q_KR} (h : BL_law_309 Ln xs L st sh m (fun pc L st sh m => q_WP (TL_law Ln xs) pc L st sh m R) R) : q_WP (TL_law Ln xs) 309 L st sh m R := q_go h
theorem uL_law_342 {Ln : Nat} {xs : Nat → Int32} {L : q_Lo} {st : List Value} {sh : q_Sh} {m : q_Mm} {R : q_KR} (h : BL_law_342 Ln xs L st sh m (fun pc L st sh m => q_WP (TL_law Ln xs) pc L st sh m R) R) : q_WP (TL_law Ln xs) 342 L st sh m R := q_go h
theorem uL_law_375 {Ln : Nat} {xs : Nat → Int32} {L : q_Lo} {st : List Value} {sh : q_Sh} {m : q_Mm} {R : q_KR} (h : BL_law_375 Ln xs L st sh m (fun pc L st sh m => q_WP (TL_law Ln xs) pc L st sh m R) R) : q_WP (TL_law Ln xs) 375 L st sh m R := q_go h
theorem uL_law_398 {Ln : Nat} {xs : Nat → Int32} {L : q_Lo} {st : List Value} {sh : q_Sh} {m : q_Mm} {R : q_KR} (h : BL_law_398 Ln xs L st sh m (fun pc L st sh m => q_WP (TL_law Ln xs) pc L st sh m R) R) : q_WP (TL_law Ln xs) 398 L st sh m R := q_go h
theorem uL_law_421 {Ln : Nat} {xs : Nat → Int32} {L : q_Lo} {st : List Value} {sh : q_Sh} {m : q_Mm} {R : q_KR} (h : BL_law_421 Ln xs L st sh m (fun pc L st sh m => q_WP (TL_law Ln xs) pc L st sh m R) R) : q_WP (TL_law Ln xs) 421 L st sh m R := q_go h
theorem uL_law_454 {Ln : Nat} {xs : Nat → Int32} {L : q_Lo} {st : List Value} {sh : q_Sh} {m : q_Mm} {R : q_KR} (h : BL_law_454 Ln xs L st sh m (fun pc L st sh m => q_WP (TL_law Ln xs) pc L st sh m R) R) : q_WP (TL_law Ln xs) 454 L st sh m R := q_go h
theorem uL_law_477 {Ln : Nat} {xs : Nat → Int32} {L : q_Lo} {st : List Value} {sh : q_Sh} {m : q_Mm} {R : q_KR} (h : BL_law_477 Ln xs L st sh m (fun pc L st sh m => q_WP (TL_law Ln xs) pc L st sh m R) R) : q_WP (TL_law Ln xs) 477 L st sh m R := q_go h
theorem uL_law_500 {Ln : Nat} {xs : Nat → Int32} {L : q_Lo} {st : List Value} {sh : q_Sh} {m : q_Mm} {R : q_KR} (h : BL_law_500 Ln xs L st sh m (fun pc L st sh m => q_WP (TL_law Ln xs) pc L st sh m R) R) : q_WP (TL_law Ln xs) 500 L st sh m R := q_go h
theorem uL_law_543 {Ln : Nat} {xs : Nat → Int32} {L : q_Lo} {st : List Value} {sh : q_Sh} {m : q_Mm} {R : q_KR} (h : BL_law_543 Ln xs L st sh m (fun pc L st sh m => q_WP (TL_law Ln xs) pc L st sh m R) R) : q_WP (TL_law Ln xs) 543 L st sh m R := q_go h
theorem uL_law_576 {Ln : Nat} {xs : Nat → Int32} {L : q_Lo} {st : List Value} {sh : q_Sh} {m : q_Mm} {R : q_KR} (h : BL_law_576 Ln xs L st sh m (fun pc L st sh m => q_WP (TL_law Ln xs) pc L st sh m R) R) : q_WP (TL_law Ln xs) 576 L st sh m R := q_go h
theorem uL_law_629 {Ln : Nat} {xs : Nat → Int32} {L : q_Lo} {st : List Value} {sh : q_Sh} {m : q_Mm} {R : q_KR} (h : BL_law_629 Ln xs L st sh m (fun pc L st sh m => q_WP (TL_law Ln xs) pc L st sh m R) R) : q_WP (TL_law Ln xs) 629 L st sh m R := q_go h
theorem uL_law_682 {Ln : Nat} {xs : Nat → Int32} {L : q_Lo} {st : List Value} {sh : q_Sh} {m : q_Mm} {R : q_KR} (h : BL_law_682 Ln xs L st sh m (fun pc L st sh m => q_WP (TL_law Ln xs) pc L st sh m R) R) : q_WP (TL_law Ln xs) 682 L st sh m R := q_go h
theorem uL_law_725 {Ln : Nat} {xs : Nat → Int32} {L : q_Lo} {st : List Value} {sh : q_Sh} {m : q_Mm} {R : q_KR} (h : BL_law_725 Ln xs L st sh m (fun pc L st sh m => q_WP (TL_law Ln xs) pc L st sh m R) R) : q_WP (TL_law Ln xs) 725 L st sh m R := q_go h
theorem uL_law_768 {Ln : Nat} {xs : Nat → Int32} {L : q_Lo} {st : List Value} {sh : q_Sh} {m : q_Mm} {R : q_KR} (h : BL_law_768 Ln xs L st sh m (fun pc L st sh m => q_WP (TL_law Ln xs) pc L st sh m R) R) : q_WP (TL_law Ln xs) 768 L st sh m R := q_go h
theorem uL_law_781 {Ln : Nat} {xs : Nat → Int32} {L : q_Lo} {st : List Value} {sh : q_Sh} {m : q_Mm} {R : q_KR} (h : BL_law_781 Ln xs L st sh m (fun pc L st sh m => q_WP (TL_law Ln xs) pc L st sh m R) R) : q_WP (TL_law Ln xs) 781 L st sh m R := q_go h
theorem uL_law_805 {Ln : Nat} {xs : Nat → Int32} {L : q_Lo} {st : List Value} {sh : q_Sh} {m : q_Mm} {R : q_KR} (h : BL_law_805 Ln xs L st sh m (fun pc L st sh m => q_WP (TL_law Ln xs) pc L st sh m R) R) : q_WP (TL_law Ln xs) 805 L st sh m R := q_go h
theorem uL_law_840 {Ln : Nat} {xs : Nat → Int32} {L : q_Lo} {st : List Value} {sh : q_Sh} {m : q_Mm} {R : q_KR} (h : BL_law_840 Ln xs L st sh m (fun pc L st sh m => q_WP (TL_law Ln xs) pc L st sh m R) R) : q_WP (TL_law Ln xs) 840 L st sh m R := q_go h
theorem uL_law_873 {Ln : Nat} {xs : Nat → Int32} {L : q_Lo} {st : List Value} {sh : q_Sh} {m : q_Mm} {R : q_KR} (h : BL_law_873 Ln xs L st sh m (fun pc L st sh m => q_WP (TL_law Ln xs) pc L st sh m R) R) : q_WP (TL_law Ln xs) 873 L st sh m R := q_go h
theorem uL_law_896 {Ln : Nat} {xs : Nat → Int32} {L : q_Lo} {st : List Value} {sh : q_Sh} {m : q_Mm} {R : q_KR} (h : BL_law_896 Ln xs L st sh m (fun pc L st sh m => q_WP (TL_law Ln xs) pc L st sh m R) R) : q_WP (TL_law Ln xs) 896 L st sh m R := q_go h
theorem uL_law_949 {Ln : Nat} {xs : Nat → Int32} {L : q_Lo} {st : List Value} {sh : q_Sh} {m : q_Mm} {R : q_KR} (h : BL_law_949 Ln xs L st sh m (fun pc L st sh m => q_WP (TL_law Ln xs) pc L st sh m R) R) : q_WP (TL_law Ln xs) 949 L st sh m R := q_go h
theorem uL_law_972 {Ln : Nat} {xs : Nat → Int32} {L : q_Lo} {st : List Value} {sh : q_Sh} {m : q_Mm} {R : q_KR} (h : BL_law_972 Ln xs L st sh m (fun pc L st sh m => q_WP (TL_law Ln xs) pc L st sh m R) R) : q_WP (TL_law Ln xs) 972 L st sh m R := q_go h
theorem uL_law_985 {Ln : Nat} {xs : Nat → Int32} {L : q_Lo} {st : List Value} {sh : q_Sh} {m : q_Mm} {R : q_KR} (h : BL_law_985 Ln xs L st sh m (fun pc L st sh m => q_WP (TL_law Ln xs) pc L st sh m R) R) : q_WP (TL_law Ln xs) 985 L st sh m R := q_go h
theorem uL_law_1008 {Ln : Nat} {xs : Nat → Int32} {L : q_Lo} {st : List Value} {sh : q_Sh} {m : q_Mm} {R : q_KR} (h : BL_law_1008 Ln xs L st sh m (fun pc L st sh m => q_WP (TL_law Ln xs) pc L st sh m R) R) : q_WP (TL_law Ln xs) 1008 L st sh m R := q_go h
theorem uL_law_1031 {Ln : Nat} {xs : Nat → Int32} {L : q_Lo} {st : List Value} {sh : q_Sh} {m : q_Mm} {R : q_KR} (h : BL_law_1031 Ln xs L st sh m (fun pc L st sh m => q_WP (TL_law Ln xs) pc L st sh m R) R) : q_WP (TL_law Ln xs) 1031 L st sh m R := q_go h
theorem uL_law_1054 {Ln : Nat} {xs : Nat → Int32} {L : q_Lo} {st : List Value} {sh : q_Sh} {m : q_Mm} {R : q_KR} (h : BL_law_1054 Ln xs L st sh m (fun pc L st sh m => q_WP (TL_law Ln xs) pc L st sh m R) R) : q_WP (TL_law Ln xs) 1054 L st sh m R := q_go h
theorem uL_law_1077 {Ln : Nat} {xs : Nat → Int32} {L : q_Lo} {st : List Value} {sh : q_Sh} {m : q_Mm} {R : q_KR} (h : BL_law_1077 Ln xs L st sh m (fun pc L st sh m => q_WP (TL_law Ln xs) pc L st sh m R) R) : q_WP (TL_law Ln xs) 1077 L st sh m R := q_go h
