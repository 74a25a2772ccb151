/-! The methods as transformers, leaves first; written by wip/whole/gen.py out of the listing. -/
/-! TumblingRock$Text.<init>()V -/
def rmX7_init : Room := { frames := 1, cells := 1, slots := 400, locals := 20 }
def BX7_init_0 (cap : Nat × Nat) : q_TT := o_al 0 (o_obj (o_al 0 (o_ic 400 (o_newa 0 400 cap (o_putr 7 0 (o_vret))))))
def TX7_init (cap : Nat × Nat) : Nat → q_TT := fun pc => if pc = 0 then BX7_init_0 cap else o_no
def wX7_init : q_WT := fun as sh m R => (q_loA as).length ≤ 1 ∧ q_WP (TX7_init (sh.length + rmX7_init.cells, q_sl sh + rmX7_init.slots)) 0 (q_lo 1 as) [] sh m (q_R0 sh rmX7_init R)
/-! TumblingRock$Reader.<init>(LTumblingRock$Text;)V -/
def rmX3_init : Room := { frames := 1, cells := 0, slots := 0, locals := 20 }
def BX3_init_0 (cap : Nat × Nat) : q_TT := o_al 0 (o_obj (o_al 0 (o_al 1 (o_putr 3 0 (o_al 0 (o_ic (-1) (o_putf 3 3 (o_vret))))))))
def TX3_init (cap : Nat × Nat) : Nat → q_TT := fun pc => if pc = 0 then BX3_init_0 cap else o_no
def wX3_init : q_WT := fun as sh m R => (q_loA as).length ≤ 2 ∧ q_WP (TX3_init (sh.length + rmX3_init.cells, q_sl sh + rmX3_init.slots)) 0 (q_lo 2 as) [] sh m (q_R0 sh rmX3_init R)
/-! TumblingRock$Farm.<init>()V -/
def rmX1_init : Room := { frames := 1, cells := 0, slots := 0, locals := 20 }
def BX1_init_0 (cap : Nat × Nat) : q_TT := o_al 0 (o_obj (o_vret))
def TX1_init (cap : Nat × Nat) : Nat → q_TT := fun pc => if pc = 0 then BX1_init_0 cap else o_no
def wX1_init : q_WT := fun as sh m R => (q_loA as).length ≤ 1 ∧ q_WP (TX1_init (sh.length + rmX1_init.cells, q_sl sh + rmX1_init.slots)) 0 (q_lo 1 as) [] sh m (q_R0 sh rmX1_init R)
/-! TumblingRock$Sight.<init>()V -/
def rmX6_init : Room := { frames := 1, cells := 2, slots := 1920, locals := 20 }
def BX6_init_0 (cap : Nat × Nat) : q_TT := o_al 0 (o_obj (o_al 0 (o_ic 1728 (o_newa 0 1728 cap (o_putr 6 6 (o_al 0 (o_ic 192 (o_newa 0 192 cap (o_putr 6 7 (o_al 0 (o_ic 1 (o_putf 6 1 (o_vret)))))))))))))
def TX6_init (cap : Nat × Nat) : Nat → q_TT := fun pc => if pc = 0 then BX6_init_0 cap else o_no
def wX6_init : q_WT := fun as sh m R => (q_loA as).length ≤ 1 ∧ q_WP (TX6_init (sh.length + rmX6_init.cells, q_sl sh + rmX6_init.slots)) 0 (q_lo 1 as) [] sh m (q_R0 sh rmX6_init R)
/-! TumblingRock$Route.<init>()V -/
def rmX5_init : Room := { frames := 1, cells := 2, slots := 369, locals := 20 }
def BX5_init_0 (cap : Nat × Nat) : q_TT := o_al 0 (o_obj (o_al 0 (o_ic 328 (o_newa 0 328 cap (o_putr 5 0 (o_al 0 (o_ic 41 (o_newa 0 41 cap (o_putr 5 1 (o_vret))))))))))
def TX5_init (cap : Nat × Nat) : Nat → q_TT := fun pc => if pc = 0 then BX5_init_0 cap else o_no
def wX5_init : q_WT := fun as sh m R => (q_loA as).length ≤ 1 ∧ q_WP (TX5_init (sh.length + rmX5_init.cells, q_sl sh + rmX5_init.slots)) 0 (q_lo 1 as) [] sh m (q_R0 sh rmX5_init R)
/-! TumblingRock$Mender.<init>()V -/
def rmX2_init : Room := { frames := 1, cells := 2, slots := 3456, locals := 20 }
def BX2_init_0 (cap : Nat × Nat) : q_TT := o_al 0 (o_obj (o_al 0 (o_ic 1728 (o_newa 0 1728 cap (o_putr 2 0 (o_al 0 (o_ic 1728 (o_newa 0 1728 cap (o_putr 2 1 (o_vret))))))))))
def TX2_init (cap : Nat × Nat) : Nat → q_TT := fun pc => if pc = 0 then BX2_init_0 cap else o_no
def wX2_init : q_WT := fun as sh m R => (q_loA as).length ≤ 1 ∧ q_WP (TX2_init (sh.length + rmX2_init.cells, q_sl sh + rmX2_init.slots)) 0 (q_lo 1 as) [] sh m (q_R0 sh rmX2_init R)
/-! TumblingRock$Book.<init>()V -/
def rmX0_init : Room := { frames := 1, cells := 1, slots := 30, locals := 20 }
def BX0_init_0 (cap : Nat × Nat) : q_TT := o_al 0 (o_obj (o_al 0 (o_ic 30 (o_newa 0 30 cap (o_putr 0 0 (o_vret))))))
def TX0_init (cap : Nat × Nat) : Nat → q_TT := fun pc => if pc = 0 then BX0_init_0 cap else o_no
def wX0_init : q_WT := fun as sh m R => (q_loA as).length ≤ 1 ∧ q_WP (TX0_init (sh.length + rmX0_init.cells, q_sl sh + rmX0_init.slots)) 0 (q_lo 1 as) [] sh m (q_R0 sh rmX0_init R)
/-! TumblingRock$Rock.clear()V -/
def rmX4_clear : Room := { frames := 0, cells := 0, slots := 0, locals := 0 }
def BX4_clear_0 : q_TT := o_al 0 (o_ic 0 (o_putf 4 0 (o_al 0 (o_ic 0 (o_putf 4 1 (o_al 0 (o_ic 0 (o_putf 4 2 (o_al 0 (o_ic 0 (o_putf 4 3 (o_ic 0 (o_is 1 ((o_cut 22)))))))))))))))
def BX4_clear_40 : q_TT := o_ic 0 (o_is 1 ((o_cut 42)))
def BX4_clear_27 : q_TT := o_al 0 (o_getf 4 6 (o_il 1 (o_ic 1 (o_iast (o_inc 1 1 ((o_cut 22)))))))
def BX4_clear_22 : q_TT := o_il 1 (o_ic 3 (o_icge BX4_clear_40 BX4_clear_27))
def BX4_clear_61 : q_TT := o_vret
def BX4_clear_48 : q_TT := o_al 0 (o_getf 4 10 (o_il 1 (o_ic 0 (o_iast (o_inc 1 1 ((o_cut 42)))))))
def BX4_clear_42 : q_TT := o_il 1 (o_ic 8 (o_icge BX4_clear_61 BX4_clear_48))
def TX4_clear : Nat → q_TT := fun pc => if pc = 0 then BX4_clear_0 else if pc = 22 then BX4_clear_22 else if pc = 42 then BX4_clear_42 else o_no
def wX4_clear : q_WT := fun as sh m R => (q_loA as).length ≤ 2 ∧ q_WP TX4_clear 0 (q_lo 2 as) [] sh m (q_R0 sh rmX4_clear R)
/-! TumblingRock.leftOver(II)I -/
def rmX8_leftOver : Room := { frames := 0, cells := 0, slots := 0, locals := 0 }
def BX8_leftOver_12 : q_TT := o_iret
def BX8_leftOver_9 : q_TT := o_il 0 (o_il 1 (o_irem (BX8_leftOver_12)))
def BX8_leftOver_5 : q_TT := o_ic 0 (BX8_leftOver_12)
def BX8_leftOver_0 : q_TT := o_il 1 (o_ic 1 (o_icge BX8_leftOver_9 BX8_leftOver_5))
def TX8_leftOver : Nat → q_TT := fun pc => if pc = 0 then BX8_leftOver_0 else o_no
def wX8_leftOver : q_WT := fun as sh m R => (q_loA as).length ≤ 2 ∧ q_WP TX8_leftOver 0 (q_lo 2 as) [] sh m (q_R0 sh rmX8_leftOver R)
/-! TumblingRock$Rock.leastPeriod()I -/
def rmX4_leastPeriod : Room := { frames := 1, cells := 0, slots := 0, locals := 21 }
def BX4_leastPeriod_0 : q_TT := o_ic 1 (o_is 1 ((o_cut 2)))
def BX4_leastPeriod_57 : q_TT := o_al 0 (o_getf 4 4 (o_iret))
def BX4_leastPeriod_51 : q_TT := o_inc 1 1 ((o_cut 2))
def BX4_leastPeriod_49 : q_TT := o_il 1 (o_iret)
def BX4_leastPeriod_36 : q_TT := o_il 1 (o_al 0 (o_getf 4 6 (o_ic 2 (o_iald (o_call 2 wX8_leftOver (o_ifne BX4_leastPeriod_51 BX4_leastPeriod_49))))))
def BX4_leastPeriod_23 : q_TT := o_il 1 (o_al 0 (o_getf 4 6 (o_ic 1 (o_iald (o_call 2 wX8_leftOver (o_ifne BX4_leastPeriod_51 BX4_leastPeriod_36))))))
def BX4_leastPeriod_10 : q_TT := o_il 1 (o_al 0 (o_getf 4 6 (o_ic 0 (o_iald (o_call 2 wX8_leftOver (o_ifne BX4_leastPeriod_51 BX4_leastPeriod_23))))))
def BX4_leastPeriod_2 : q_TT := o_il 1 (o_al 0 (o_getf 4 4 (o_icge BX4_leastPeriod_57 BX4_leastPeriod_10)))
def TX4_leastPeriod : Nat → q_TT := fun pc => if pc = 0 then BX4_leastPeriod_0 else if pc = 2 then BX4_leastPeriod_2 else o_no
def wX4_leastPeriod : q_WT := fun as sh m R => (q_loA as).length ≤ 2 ∧ q_WP TX4_leastPeriod 0 (q_lo 2 as) [] sh m (q_R0 sh rmX4_leastPeriod R)
/-! TumblingRock.at([II)I -/
def rmX8_at : Room := { frames := 0, cells := 0, slots := 0, locals := 0 }
def BX8_at_17 : q_TT := o_iret
def BX8_at_16 : q_TT := o_ic 0 (BX8_at_17)
def BX8_at_10 : q_TT := o_al 0 (o_il 1 (o_iald (BX8_at_17)))
def BX8_at_4 : q_TT := o_il 1 (o_al 0 (o_alen (o_icge BX8_at_16 BX8_at_10)))
def BX8_at_0 : q_TT := o_il 1 (o_iflt BX8_at_16 BX8_at_4)
def TX8_at : Nat → q_TT := fun pc => if pc = 0 then BX8_at_0 else o_no
def wX8_at : q_WT := fun as sh m R => (q_loA as).length ≤ 2 ∧ q_WP TX8_at 0 (q_lo 2 as) [] sh m (q_R0 sh rmX8_at R)
/-! TumblingRock$Rock.face(II)I -/
def rmX4_face : Room := { frames := 1, cells := 0, slots := 0, locals := 21 }
def BX4_face_0 : q_TT := o_al 0 (o_getf 4 9 (o_il 1 (o_ic 3 (o_imul (o_il 2 (o_iadd (o_call 2 wX8_at (o_iret))))))))
def TX4_face : Nat → q_TT := fun pc => if pc = 0 then BX4_face_0 else o_no
def wX4_face : q_WT := fun as sh m R => (q_loA as).length ≤ 3 ∧ q_WP TX4_face 0 (q_lo 3 as) [] sh m (q_R0 sh rmX4_face R)
/-! TumblingRock$Rock.digit(II)I -/
def rmX4_digit : Room := { frames := 1, cells := 0, slots := 0, locals := 21 }
def BX4_digit_32 : q_TT := o_iret
def BX4_digit_18 : q_TT := o_il 1 (o_il 3 (o_idiv (o_al 0 (o_getf 4 6 (o_il 2 (o_call 2 wX8_at (o_call 2 wX8_leftOver (BX4_digit_32))))))))
def BX4_digit_14 : q_TT := o_ic 0 (BX4_digit_32)
def BX4_digit_0 : q_TT := o_al 0 (o_getf 4 7 (o_il 2 (o_call 2 wX8_at (o_is 3 (o_il 3 (o_ic 1 (o_icge BX4_digit_18 BX4_digit_14)))))))
def TX4_digit : Nat → q_TT := fun pc => if pc = 0 then BX4_digit_0 else o_no
def wX4_digit : q_WT := fun as sh m R => (q_loA as).length ≤ 4 ∧ q_WP TX4_digit 0 (q_lo 4 as) [] sh m (q_R0 sh rmX4_digit R)
/-! TumblingRock$Rock.part(II)I -/
def rmX4_part : Room := { frames := 1, cells := 0, slots := 0, locals := 21 }
def BX4_part_0 : q_TT := o_al 0 (o_getf 4 8 (o_il 1 (o_ic 12 (o_imul (o_il 2 (o_iadd (o_call 2 wX8_at (o_iret))))))))
def TX4_part : Nat → q_TT := fun pc => if pc = 0 then BX4_part_0 else o_no
def wX4_part : q_WT := fun as sh m R => (q_loA as).length ≤ 3 ∧ q_WP TX4_part 0 (q_lo 3 as) [] sh m (q_R0 sh rmX4_part R)
/-! TumblingRock$Rock.heightOf(II)I -/
def rmX4_heightOf : Room := { frames := 2, cells := 0, slots := 0, locals := 44 }
def BX4_heightOf_0 : q_TT := o_ic 0 (o_is 3 (o_ic 0 (o_is 4 ((o_cut 5)))))
def BX4_heightOf_44 : q_TT := o_il 3 (o_iret)
def BX4_heightOf_14 : q_TT := o_il 3 (o_al 0 (o_il 1 (o_il 4 (o_callV 4 2 wX4_face (o_al 0 (o_il 4 (o_al 0 (o_il 2 (o_il 4 (o_callV 4 2 wX4_digit (o_callV 4 2 wX4_part (o_imul (o_iadd (o_is 3 (o_inc 4 1 ((o_cut 5)))))))))))))))))
def BX4_heightOf_5 : q_TT := o_il 4 (o_al 0 (o_getf 4 0 (o_icge BX4_heightOf_44 BX4_heightOf_14)))
def TX4_heightOf : Nat → q_TT := fun pc => if pc = 0 then BX4_heightOf_0 else if pc = 5 then BX4_heightOf_5 else o_no
def wX4_heightOf : q_WT := fun as sh m R => (q_loA as).length ≤ 5 ∧ q_WP TX4_heightOf 0 (q_lo 5 as) [] sh m (q_R0 sh rmX4_heightOf R)
/-! TumblingRock$Rock.placesAboveNought(I)I -/
def rmX4_placesAboveNought : Room := { frames := 3, cells := 0, slots := 0, locals := 68 }
def BX4_placesAboveNought_0 : q_TT := o_ic 0 (o_is 2 (o_ic 0 (o_is 3 ((o_cut 4)))))
def BX4_placesAboveNought_33 : q_TT := o_il 2 (o_iret)
def BX4_placesAboveNought_27 : q_TT := o_inc 3 1 ((o_cut 4))
def BX4_placesAboveNought_21 : q_TT := o_il 2 (o_ic 1 (o_il 3 (o_ishl (o_ior (o_is 2 (BX4_placesAboveNought_27))))))
def BX4_placesAboveNought_12 : q_TT := o_al 0 (o_il 3 (o_il 1 (o_callV 4 2 wX4_heightOf (o_ifle BX4_placesAboveNought_27 BX4_placesAboveNought_21))))
def BX4_placesAboveNought_4 : q_TT := o_il 3 (o_al 0 (o_getf 4 1 (o_icge BX4_placesAboveNought_33 BX4_placesAboveNought_12)))
def TX4_placesAboveNought : Nat → q_TT := fun pc => if pc = 0 then BX4_placesAboveNought_0 else if pc = 4 then BX4_placesAboveNought_4 else o_no
def wX4_placesAboveNought : q_WT := fun as sh m R => (q_loA as).length ≤ 4 ∧ q_WP TX4_placesAboveNought 0 (q_lo 4 as) [] sh m (q_R0 sh rmX4_placesAboveNought R)
/-! TumblingRock$Rock.turned(III)I -/
def rmX4_turned : Room := { frames := 1, cells := 0, slots := 0, locals := 21 }
def BX4_turned_40 : q_TT := o_iret
def BX4_turned_20 : q_TT := o_il 1 (o_il 4 (o_idiv (o_il 3 (o_iadd (o_al 0 (o_getf 4 6 (o_il 2 (o_call 2 wX8_at (o_call 2 wX8_leftOver (o_il 4 (o_imul (BX4_turned_40))))))))))))
def BX4_turned_16 : q_TT := o_ic 0 (BX4_turned_40)
def BX4_turned_0 : q_TT := o_al 0 (o_getf 4 7 (o_il 2 (o_call 2 wX8_at (o_is 4 (o_il 4 (o_ic 1 (o_icge BX4_turned_20 BX4_turned_16)))))))
def TX4_turned : Nat → q_TT := fun pc => if pc = 0 then BX4_turned_0 else o_no
def wX4_turned : q_WT := fun as sh m R => (q_loA as).length ≤ 5 ∧ q_WP TX4_turned 0 (q_lo 5 as) [] sh m (q_R0 sh rmX4_turned R)
/-! TumblingRock$Rock.moved(IIII)I -/
def rmX4_moved : Room := { frames := 2, cells := 0, slots := 0, locals := 45 }
def BX4_moved_0 : q_TT := o_al 0 (o_il 1 (o_ic 0 (o_il 2 (o_callV 4 3 wX4_turned (o_al 0 (o_il 1 (o_ic 1 (o_il 3 (o_callV 4 3 wX4_turned (o_iadd (o_al 0 (o_il 1 (o_ic 2 (o_il 4 (o_callV 4 3 wX4_turned (o_iadd (o_iret)))))))))))))))))
def TX4_moved : Nat → q_TT := fun pc => if pc = 0 then BX4_moved_0 else o_no
def wX4_moved : q_WT := fun as sh m R => (q_loA as).length ≤ 5 ∧ q_WP TX4_moved 0 (q_lo 5 as) [] sh m (q_R0 sh rmX4_moved R)
/-! TumblingRock$Rock.settle()V -/
def rmX4_settle : Room := { frames := 4, cells := 0, slots := 0, locals := 91 }
def BX4_settle_0 : q_TT := o_al 0 (o_getf 4 7 (o_ic 2 (o_ic 1 (o_iast (o_al 0 (o_getf 4 7 (o_ic 1 (o_al 0 (o_getf 4 6 (o_ic 2 (o_iald (o_iast (o_al 0 (o_getf 4 7 (o_ic 0 (o_al 0 (o_getf 4 6 (o_ic 1 (o_iald (o_al 0 (o_getf 4 6 (o_ic 2 (o_iald (o_imul (o_iast (o_al 0 (o_al 0 (o_getf 4 6 (o_ic 0 (o_iald (o_al 0 (o_getf 4 7 (o_ic 0 (o_iald (o_imul (o_putf 4 4 (o_al 0 (o_al 0 (o_callV 4 0 wX4_leastPeriod (o_putf 4 5 (o_ic 0 (o_is 1 ((o_cut 65))))))))))))))))))))))))))))))))))))))))))))
def BX4_settle_111 : q_TT := o_vret
def BX4_settle_80 : q_TT := o_al 0 (o_getf 4 12 (o_il 1 (o_al 0 (o_il 1 (o_callV 4 1 wX4_placesAboveNought (o_iast (o_al 0 (o_getf 4 13 (o_il 1 (o_al 0 (o_il 1 (o_ic 1 (o_ic 1 (o_ic 1 (o_callV 4 4 wX4_moved (o_iast (o_inc 1 1 ((o_cut 65)))))))))))))))))))
def BX4_settle_73 : q_TT := o_il 1 (o_ic 1728 (o_icge BX4_settle_111 BX4_settle_80))
def BX4_settle_65 : q_TT := o_il 1 (o_al 0 (o_getf 4 4 (o_icge BX4_settle_111 BX4_settle_73)))
def TX4_settle : Nat → q_TT := fun pc => if pc = 0 then BX4_settle_0 else if pc = 65 then BX4_settle_65 else o_no
def wX4_settle : q_WT := fun as sh m R => (q_loA as).length ≤ 2 ∧ q_WP TX4_settle 0 (q_lo 2 as) [] sh m (q_R0 sh rmX4_settle R)
/-! TumblingRock$Rock.<init>()V -/
def rmX4_init : Room := { frames := 5, cells := 8, slots := 3542, locals := 112 }
def BX4_init_0 (cap : Nat × Nat) : q_TT := o_al 0 (o_obj (o_al 0 (o_ic 3 (o_newa 0 3 cap (o_putr 4 6 (o_al 0 (o_ic 3 (o_newa 0 3 cap (o_putr 4 7 (o_al 0 (o_ic 36 (o_newa 0 36 cap (o_putr 4 8 (o_al 0 (o_ic 24 (o_newa 0 24 cap (o_putr 4 9 (o_al 0 (o_ic 8 (o_newa 0 8 cap (o_putr 4 10 (o_al 0 (o_ic 12 (o_newa 0 12 cap (o_putr 4 11 (o_al 0 (o_ic 1728 (o_newa 0 1728 cap (o_putr 4 12 (o_al 0 (o_ic 1728 (o_newa 0 1728 cap (o_putr 4 13 (o_al 0 (o_callV 4 0 wX4_clear (o_al 0 (o_callV 4 0 wX4_settle (o_vret))))))))))))))))))))))))))))))))))))))
def TX4_init (cap : Nat × Nat) : Nat → q_TT := fun pc => if pc = 0 then BX4_init_0 cap else o_no
def wX4_init : q_WT := fun as sh m R => (q_loA as).length ≤ 1 ∧ q_WP (TX4_init (sh.length + rmX4_init.cells, q_sl sh + rmX4_init.slots)) 0 (q_lo 1 as) [] sh m (q_R0 sh rmX4_init R)
/-! TumblingRock.<init>()V -/
def rmX8_init : Room := { frames := 6, cells := 37, slots := 13327, locals := 132 }
def BX8_init_0 (cap : Nat × Nat) : q_TT := o_al 0 (o_obj (o_al 0 (o_new 7 [some .null, none] cap (o_dup (o_callI 7 0 (rmX7_init.cells, rmX7_init.slots) cap wX7_init (o_putr 8 0 (o_al 0 (o_new 3 [some .null, none, none, none] cap (o_dup (o_al 0 (o_getf 8 0 (o_callI 3 1 (rmX3_init.cells, rmX3_init.slots) cap wX3_init (o_putr 8 1 (o_al 0 (o_new 1 [none, none, none, none, none] cap (o_dup (o_callI 1 0 (rmX1_init.cells, rmX1_init.slots) cap wX1_init (o_putr 8 2 (o_al 0 (o_ic 2 (o_newq 2 cap (o_putr 8 3 (o_ic 0 (o_is 1 ((o_cut 51))))))))))))))))))))))))))
def BX8_init_75 (cap : Nat × Nat) : q_TT := o_al 0 (o_ic 2 (o_newa 1 2 cap (o_putr 8 4 (o_al 0 (o_new 6 [none, none, none, none, none, none, some .null, some .null] cap (o_dup (o_callI 6 0 (rmX6_init.cells, rmX6_init.slots) cap wX6_init (o_putr 8 5 (o_al 0 (o_new 5 [some .null, some .null] cap (o_dup (o_callI 5 0 (rmX5_init.cells, rmX5_init.slots) cap wX5_init (o_putr 8 6 (o_al 0 (o_new 2 [some .null, some .null, none] cap (o_dup (o_callI 2 0 (rmX2_init.cells, rmX2_init.slots) cap wX2_init (o_putr 8 7 (o_al 0 (o_new 0 [some .null, none] cap (o_dup (o_callI 0 0 (rmX0_init.cells, rmX0_init.slots) cap wX0_init (o_putr 8 8 (o_al 0 (o_new 4 [none, none, none, none, none, none, some .null, some .null, some .null, some .null, some .null, some .null, some .null, some .null] cap (o_dup (o_callI 4 0 (rmX4_init.cells, rmX4_init.slots) cap wX4_init (o_putr 8 9 (o_al 0 (o_new 4 [none, none, none, none, none, none, some .null, some .null, some .null, some .null, some .null, some .null, some .null, some .null] cap (o_dup (o_callI 4 0 (rmX4_init.cells, rmX4_init.slots) cap wX4_init (o_putr 8 10 (o_vret))))))))))))))))))))))))))))))))))
def BX8_init_56 (cap : Nat × Nat) : q_TT := o_al 0 (o_getf 8 3 (o_il 1 (o_new 1 [none, none, none, none, none] cap (o_dup (o_callI 1 0 (rmX1_init.cells, rmX1_init.slots) cap wX1_init (o_aast (o_inc 1 1 ((o_cut 51)))))))))
def BX8_init_51 (cap : Nat × Nat) : q_TT := o_il 1 (o_ic 2 (o_icge (BX8_init_75 cap) (BX8_init_56 cap)))
def TX8_init (cap : Nat × Nat) : Nat → q_TT := fun pc => if pc = 0 then BX8_init_0 cap else if pc = 51 then BX8_init_51 cap else o_no
def wX8_init : q_WT := fun as sh m R => (q_loA as).length ≤ 2 ∧ q_WP (TX8_init (sh.length + rmX8_init.cells, q_sl sh + rmX8_init.slots)) 0 (q_lo 2 as) [] sh m (q_R0 sh rmX8_init R)
/-! TumblingRock.inside(III)Z -/
def rmX8_inside : Room := { frames := 0, cells := 0, slots := 0, locals := 0 }
def BX8_inside_15 : q_TT := o_zret
def BX8_inside_14 : q_TT := o_ic 0 (BX8_inside_15)
def BX8_inside_10 : q_TT := o_ic 1 (BX8_inside_15)
def BX8_inside_5 : q_TT := o_il 0 (o_il 2 (o_icgt BX8_inside_14 BX8_inside_10))
def BX8_inside_0 : q_TT := o_il 0 (o_il 1 (o_iclt BX8_inside_14 BX8_inside_5))
def TX8_inside : Nat → q_TT := fun pc => if pc = 0 then BX8_inside_0 else o_no
def wX8_inside : q_WT := fun as sh m R => (q_loA as).length ≤ 3 ∧ q_WP TX8_inside 0 (q_lo 3 as) [] sh m (q_R0 sh rmX8_inside R)
/-! TumblingRock.put([III)V -/
def rmX8_put : Room := { frames := 0, cells := 0, slots := 0, locals := 0 }
def BX8_put_14 : q_TT := o_vret
def BX8_put_10 : q_TT := o_al 0 (o_il 1 (o_il 2 (o_iast (BX8_put_14))))
def BX8_put_4 : q_TT := o_il 1 (o_al 0 (o_alen (o_icge BX8_put_14 BX8_put_10)))
def BX8_put_0 : q_TT := o_il 1 (o_iflt BX8_put_14 BX8_put_4)
def TX8_put : Nat → q_TT := fun pc => if pc = 0 then BX8_put_0 else o_no
def wX8_put : q_WT := fun as sh m R => (q_loA as).length ≤ 3 ∧ q_WP TX8_put 0 (q_lo 3 as) [] sh m (q_R0 sh rmX8_put R)
/-! TumblingRock$Text.take(IJ)Z -/
def rmX7_take : Room := { frames := 1, cells := 0, slots := 0, locals := 22 }
def BX7_take_14 : q_TT := o_il 1 (o_ic 1 (o_isub (o_is 4 ((o_cut 19)))))
def BX7_take_12 : q_TT := o_ic 0 (o_zret)
def BX7_take_0 : q_TT := o_al 0 (o_getf 7 1 (o_il 1 (o_iadd (o_ic 400 (o_icle BX7_take_14 BX7_take_12)))))
def BX7_take_63 : q_TT := o_ic 1 (o_zret)
def BX7_take_24 : q_TT := o_al 0 (o_getf 7 0 (o_al 0 (o_getf 7 1 (o_ll 2 (o_ic 8 (o_il 4 (o_imul (o_lshr (o_lc 255 (o_land (o_l2i (o_call 3 wX8_put (o_al 0 (o_dup (o_getf 7 1 (o_ic 1 (o_iadd (o_putf 7 1 (o_inc 4 (-1) ((o_cut 19)))))))))))))))))))))
def BX7_take_19 : q_TT := o_il 4 (o_iflt BX7_take_63 BX7_take_24)
def TX7_take : Nat → q_TT := fun pc => if pc = 0 then BX7_take_0 else if pc = 19 then BX7_take_19 else o_no
def wX7_take : q_WT := fun as sh m R => (q_loA as).length ≤ 5 ∧ q_WP TX7_take 0 (q_lo 5 as) [] sh m (q_R0 sh rmX7_take R)
/-! TumblingRock.feed(IJ)I -/
def rmX8_feed : Room := { frames := 2, cells := 0, slots := 0, locals := 46 }
def BX8_feed_37 : q_TT := o_iret
def BX8_feed_35 : q_TT := o_ic (-1000000004) (BX8_feed_37)
def BX8_feed_25 : q_TT := o_al 0 (o_getf 8 0 (o_getf 7 1 (BX8_feed_37)))
def BX8_feed_13 : q_TT := o_al 0 (o_getf 8 0 (o_il 1 (o_ll 2 (o_callV 7 2 wX7_take (o_ifeq BX8_feed_35 BX8_feed_25)))))
def BX8_feed_10 : q_TT := o_ic (-1000000002) (o_iret)
def BX8_feed_0 : q_TT := o_il 1 (o_ic 1 (o_ic 8 (o_call 3 wX8_inside (o_ifne BX8_feed_13 BX8_feed_10))))
def TX8_feed : Nat → q_TT := fun pc => if pc = 0 then BX8_feed_0 else o_no
def wX8_feed : q_WT := fun as sh m R => (q_loA as).length ≤ 4 ∧ q_WP TX8_feed 0 (q_lo 4 as) [] sh m (q_R0 sh rmX8_feed R)
/-! TumblingRock$Text.byteAt(I)I -/
def rmX7_byteAt : Room := { frames := 0, cells := 0, slots := 0, locals := 0 }
def BX7_byteAt_29 : q_TT := o_iret
def BX7_byteAt_28 : q_TT := o_ic (-1) (BX7_byteAt_29)
def BX7_byteAt_19 : q_TT := o_al 0 (o_getf 7 0 (o_il 1 (o_iald (BX7_byteAt_29))))
def BX7_byteAt_12 : q_TT := o_il 1 (o_ic 400 (o_icge BX7_byteAt_28 BX7_byteAt_19))
def BX7_byteAt_4 : q_TT := o_il 1 (o_al 0 (o_getf 7 1 (o_icge BX7_byteAt_28 BX7_byteAt_12)))
def BX7_byteAt_0 : q_TT := o_il 1 (o_iflt BX7_byteAt_28 BX7_byteAt_4)
def TX7_byteAt : Nat → q_TT := fun pc => if pc = 0 then BX7_byteAt_0 else o_no
def wX7_byteAt : q_WT := fun as sh m R => (q_loA as).length ≤ 2 ∧ q_WP TX7_byteAt 0 (q_lo 2 as) [] sh m (q_R0 sh rmX7_byteAt R)
/-! TumblingRock$Reader.passBlanks()V -/
def rmX3_passBlanks : Room := { frames := 1, cells := 0, slots := 0, locals := 21 }
def BX3_passBlanks_43 : q_TT := o_vret
def BX3_passBlanks_30 : q_TT := o_al 0 (o_dup (o_getf 3 1 (o_ic 1 (o_iadd (o_putf 3 1 ((o_cut 0)))))))
def BX3_passBlanks_14 : q_TT := o_al 0 (o_getf 3 0 (o_al 0 (o_getf 3 1 (o_callV 7 1 wX7_byteAt (o_ic 32 (o_icne BX3_passBlanks_43 BX3_passBlanks_30))))))
def BX3_passBlanks_0 : q_TT := o_al 0 (o_getf 3 1 (o_al 0 (o_getf 3 0 (o_getf 7 1 (o_icge BX3_passBlanks_43 BX3_passBlanks_14)))))
def TX3_passBlanks : Nat → q_TT := fun pc => if pc = 0 then BX3_passBlanks_0 else o_no
def wX3_passBlanks : q_WT := fun as sh m R => (q_loA as).length ≤ 1 ∧ q_WP TX3_passBlanks 0 (q_lo 1 as) [] sh m (q_R0 sh rmX3_passBlanks R)
/-! TumblingRock$Text.isLetter(I)Z -/
def rmX7_isLetter : Room := { frames := 1, cells := 0, slots := 0, locals := 22 }
def BX7_isLetter_0 : q_TT := o_al 0 (o_il 1 (o_callV 7 1 wX7_byteAt (o_ic 97 (o_ic 122 (o_call 3 wX8_inside (o_zret))))))
def TX7_isLetter : Nat → q_TT := fun pc => if pc = 0 then BX7_isLetter_0 else o_no
def wX7_isLetter : q_WT := fun as sh m R => (q_loA as).length ≤ 2 ∧ q_WP TX7_isLetter 0 (q_lo 2 as) [] sh m (q_R0 sh rmX7_isLetter R)
/-! java/lang/String.coder()B -/
def rmJ0_coder_7d493 : Room := { frames := 0, cells := 0, slots := 0, locals := 0 }
def BJ0_coder_7d493_14 : q_TT := o_nret .byte
def BJ0_coder_7d493_13 : q_TT := o_ic 1 (BJ0_coder_7d493_14)
def BJ0_coder_7d493_6 : q_TT := o_al 0 (o_scod (BJ0_coder_7d493_14))
def BJ0_coder_7d493_0 : q_TT := o_gsc (o_ifeq BJ0_coder_7d493_13 BJ0_coder_7d493_6)
def TJ0_coder_7d493 : Nat → q_TT := fun pc => if pc = 0 then BJ0_coder_7d493_0 else o_no
def wJ0_coder_7d493 : q_WT := fun as sh m R => (q_loA as).length ≤ 1 ∧ q_WP TJ0_coder_7d493 0 (q_lo 1 as) [] sh m (q_R0 sh rmJ0_coder_7d493 R)
/-! java/lang/String.length()I -/
def rmJ0_length_8abf5 : Room := { frames := 1, cells := 0, slots := 0, locals := 20 }
def BJ0_length_8abf5_0 : q_TT := o_al 0 (o_sval (o_salen (o_al 0 (o_callT 0 wJ0_coder_7d493 (o_ishr (o_iret))))))
def TJ0_length_8abf5 : Nat → q_TT := fun pc => if pc = 0 then BJ0_length_8abf5_0 else o_no
def wJ0_length_8abf5 : q_WT := fun as sh m R => (q_loA as).length ≤ 1 ∧ q_WP TJ0_length_8abf5 0 (q_lo 1 as) [] sh m (q_R0 sh rmJ0_length_8abf5 R)
/-! java/lang/String.isLatin1()Z -/
def rmJ0_isLatin1_aae02 : Room := { frames := 0, cells := 0, slots := 0, locals := 0 }
def BJ0_isLatin1_aae02_18 : q_TT := o_zret
def BJ0_isLatin1_aae02_17 : q_TT := o_ic 0 (BJ0_isLatin1_aae02_18)
def BJ0_isLatin1_aae02_13 : q_TT := o_ic 1 (BJ0_isLatin1_aae02_18)
def BJ0_isLatin1_aae02_6 : q_TT := o_al 0 (o_scod (o_ifne BJ0_isLatin1_aae02_17 BJ0_isLatin1_aae02_13))
def BJ0_isLatin1_aae02_0 : q_TT := o_gsc (o_ifeq BJ0_isLatin1_aae02_17 BJ0_isLatin1_aae02_6)
def TJ0_isLatin1_aae02 : Nat → q_TT := fun pc => if pc = 0 then BJ0_isLatin1_aae02_0 else o_no
def wJ0_isLatin1_aae02 : q_WT := fun as sh m R => (q_loA as).length ≤ 1 ∧ q_WP TJ0_isLatin1_aae02 0 (q_lo 1 as) [] sh m (q_R0 sh rmJ0_isLatin1_aae02 R)
/-! jdk/internal/util/Preconditions.checkIndex(IILjava/util/function/BiFunction;)I -/
def rmJ3_checkIndex_8e157 : Room := { frames := 0, cells := 0, slots := 0, locals := 0 }
def BJ3_checkIndex_8e157_16 : q_TT := o_il 0 (o_iret)
def BJ3_checkIndex_8e157_4 : q_TT := o_il 0 (o_il 1 (o_iclt BJ3_checkIndex_8e157_16 o_no))
def BJ3_checkIndex_8e157_0 : q_TT := o_il 0 (o_iflt o_no BJ3_checkIndex_8e157_4)
def TJ3_checkIndex_8e157 : Nat → q_TT := fun pc => if pc = 0 then BJ3_checkIndex_8e157_0 else o_no
def wJ3_checkIndex_8e157 : q_WT := fun as sh m R => (q_loA as).length ≤ 3 ∧ q_WP TJ3_checkIndex_8e157 0 (q_lo 3 as) [] sh m (q_R0 sh rmJ3_checkIndex_8e157 R)
/-! java/lang/String.checkIndex(II)V -/
def rmJ0_checkIndex_df160 : Room := { frames := 1, cells := 0, slots := 0, locals := 22 }
def BJ0_checkIndex_df160_0 : q_TT := o_il 0 (o_il 1 (o_gsf (o_call 3 wJ3_checkIndex_8e157 (o_pop (o_vret)))))
def TJ0_checkIndex_df160 : Nat → q_TT := fun pc => if pc = 0 then BJ0_checkIndex_df160_0 else o_no
def wJ0_checkIndex_df160 : q_WT := fun as sh m R => (q_loA as).length ≤ 2 ∧ q_WP TJ0_checkIndex_df160 0 (q_lo 2 as) [] sh m (q_R0 sh rmJ0_checkIndex_df160 R)
/-! java/lang/StringLatin1.charAt([BI)C -/
def rmJ1_charAt_3b067 : Room := { frames := 2, cells := 0, slots := 0, locals := 43 }
def BJ1_charAt_3b067_0 : q_TT := o_il 1 (o_al 0 (o_salen (o_call 2 wJ0_checkIndex_df160 (o_al 0 (o_il 1 (o_sbald (o_ic 255 (o_iand (o_i2c (o_nret .char))))))))))
def TJ1_charAt_3b067 : Nat → q_TT := fun pc => if pc = 0 then BJ1_charAt_3b067_0 else o_no
def wJ1_charAt_3b067 : q_WT := fun as sh m R => (q_loA as).length ≤ 2 ∧ q_WP TJ1_charAt_3b067 0 (q_lo 2 as) [] sh m (q_R0 sh rmJ1_charAt_3b067 R)
/-! java/lang/String.charAt(I)C -/
def rmJ0_charAt_5068e : Room := { frames := 3, cells := 0, slots := 0, locals := 64 }
def BJ0_charAt_5068e_7 : q_TT := o_al 0 (o_sval (o_il 1 (o_call 2 wJ1_charAt_3b067 (o_nret .char))))
def BJ0_charAt_5068e_0 : q_TT := o_al 0 (o_callT 0 wJ0_isLatin1_aae02 (o_ifeq o_no BJ0_charAt_5068e_7))
def TJ0_charAt_5068e : Nat → q_TT := fun pc => if pc = 0 then BJ0_charAt_5068e_0 else o_no
def wJ0_charAt_5068e : q_WT := fun as sh m R => (q_loA as).length ≤ 2 ∧ q_WP TJ0_charAt_5068e 0 (q_lo 2 as) [] sh m (q_R0 sh rmJ0_charAt_5068e R)
/-! TumblingRock$Text.spells(IILjava/lang/String;)Z -/
def rmX7_spells : Room := { frames := 4, cells := 0, slots := 0, locals := 85 }
def BX7_spells_12 : q_TT := o_ic 0 (o_is 4 ((o_cut 15)))
def BX7_spells_10 : q_TT := o_ic 0 (o_zret)
def BX7_spells_0 : q_TT := o_il 2 (o_il 1 (o_isub (o_al 3 (o_callT 0 wJ0_length_8abf5 (o_iceq BX7_spells_12 BX7_spells_10)))))
def BX7_spells_49 : q_TT := o_ic 1 (o_zret)
def BX7_spells_43 : q_TT := o_inc 4 1 ((o_cut 15))
def BX7_spells_41 : q_TT := o_ic 0 (o_zret)
def BX7_spells_24 : q_TT := o_al 0 (o_il 1 (o_il 4 (o_iadd (o_callV 7 1 wX7_byteAt (o_al 3 (o_il 4 (o_callT 1 wJ0_charAt_5068e (o_iceq BX7_spells_43 BX7_spells_41))))))))
def BX7_spells_15 : q_TT := o_il 4 (o_al 3 (o_callT 0 wJ0_length_8abf5 (o_icge BX7_spells_49 BX7_spells_24)))
def TX7_spells : Nat → q_TT := fun pc => if pc = 0 then BX7_spells_0 else if pc = 15 then BX7_spells_15 else o_no
def wX7_spells : q_WT := fun as sh m R => (q_loA as).length ≤ 5 ∧ q_WP TX7_spells 0 (q_lo 5 as) [] sh m (q_R0 sh rmX7_spells R)
/-! TumblingRock$Reader.refuse(II)V -/
def rmX3_refuse : Room := { frames := 0, cells := 0, slots := 0, locals := 0 }
def BX3_refuse_8 : q_TT := o_al 0 (o_il 1 (o_putf 3 2 (o_al 0 (o_il 2 (o_putf 3 3 (o_vret))))))
def BX3_refuse_7 : q_TT := o_vret
def BX3_refuse_0 : q_TT := o_al 0 (o_getf 3 2 (o_ifeq BX3_refuse_8 BX3_refuse_7))
def TX3_refuse : Nat → q_TT := fun pc => if pc = 0 then BX3_refuse_0 else o_no
def wX3_refuse : q_WT := fun as sh m R => (q_loA as).length ≤ 3 ∧ q_WP TX3_refuse 0 (q_lo 3 as) [] sh m (q_R0 sh rmX3_refuse R)
/-! TumblingRock$Reader.hasRoom(III)Z -/
def rmX3_hasRoom : Room := { frames := 1, cells := 0, slots := 0, locals := 22 }
def BX3_hasRoom_21 : q_TT := o_zret
def BX3_hasRoom_20 : q_TT := o_ic 0 (BX3_hasRoom_21)
def BX3_hasRoom_16 : q_TT := o_ic 1 (BX3_hasRoom_21)
def BX3_hasRoom_11 : q_TT := o_il 1 (o_il 2 (o_icge BX3_hasRoom_20 BX3_hasRoom_16))
def BX3_hasRoom_5 : q_TT := o_al 0 (o_ic 3 (o_il 3 (o_callV 3 2 wX3_refuse (BX3_hasRoom_11))))
def BX3_hasRoom_0 : q_TT := o_il 1 (o_il 2 (o_iclt BX3_hasRoom_11 BX3_hasRoom_5))
def TX3_hasRoom : Nat → q_TT := fun pc => if pc = 0 then BX3_hasRoom_0 else o_no
def wX3_hasRoom : q_WT := fun as sh m R => (q_loA as).length ≤ 4 ∧ q_WP TX3_hasRoom 0 (q_lo 4 as) [] sh m (q_R0 sh rmX3_hasRoom R)
/-! TumblingRock$Rock.addTurning()V -/
def rmX4_addTurning : Room := { frames := 1, cells := 0, slots := 0, locals := 22 }
def BX4_addTurning_0 : q_TT := o_al 0 (o_getf 4 6 (o_al 0 (o_getf 4 0 (o_ic 0 (o_call 3 wX8_put (o_al 0 (o_dup (o_getf 4 0 (o_ic 1 (o_iadd (o_putf 4 0 (o_vret))))))))))))
def TX4_addTurning : Nat → q_TT := fun pc => if pc = 0 then BX4_addTurning_0 else o_no
def wX4_addTurning : q_WT := fun as sh m R => (q_loA as).length ≤ 1 ∧ q_WP TX4_addTurning 0 (q_lo 1 as) [] sh m (q_R0 sh rmX4_addTurning R)
/-! TumblingRock$Text.isFigure(I)Z -/
def rmX7_isFigure : Room := { frames := 1, cells := 0, slots := 0, locals := 22 }
def BX7_isFigure_0 : q_TT := o_al 0 (o_il 1 (o_callV 7 1 wX7_byteAt (o_ic 48 (o_ic 57 (o_call 3 wX8_inside (o_zret))))))
def TX7_isFigure : Nat → q_TT := fun pc => if pc = 0 then BX7_isFigure_0 else o_no
def wX7_isFigure : q_WT := fun as sh m R => (q_loA as).length ≤ 2 ∧ q_WP TX7_isFigure 0 (q_lo 2 as) [] sh m (q_R0 sh rmX7_isFigure R)
/-! TumblingRock$Reader.readNumber(I)I -/
def rmX3_readNumber : Room := { frames := 2, cells := 0, slots := 0, locals := 43 }
def BX3_readNumber_0 : q_TT := o_al 0 (o_callV 3 0 wX3_passBlanks (o_al 0 (o_getf 3 1 (o_is 2 (o_ic 0 (o_is 3 ((o_cut 11))))))))
def BX3_readNumber_69 : q_TT := o_al 0 (o_dup (o_getf 3 1 (o_ic 1 (o_iadd (o_putf 3 1 ((o_cut 11)))))))
def BX3_readNumber_49 : q_TT := o_il 3 (o_ic 10 (o_imul (o_al 0 (o_getf 3 0 (o_al 0 (o_getf 3 1 (o_callV 7 1 wX7_byteAt (o_iadd (o_ic 48 (o_isub (o_is 3 (BX3_readNumber_69))))))))))))
def BX3_readNumber_39 : q_TT := o_al 0 (o_getf 3 1 (o_il 2 (o_isub (o_ic 3 (o_icge BX3_readNumber_69 BX3_readNumber_49)))))
def BX3_readNumber_25 : q_TT := o_al 0 (o_getf 3 0 (o_al 0 (o_getf 3 1 (o_callV 7 1 wX7_isFigure (o_ifeq (o_cut 82) BX3_readNumber_39)))))
def BX3_readNumber_11 : q_TT := o_al 0 (o_getf 3 1 (o_al 0 (o_getf 3 0 (o_getf 7 1 (o_icge (o_cut 82) BX3_readNumber_25)))))
def BX3_readNumber_120 : q_TT := o_il 3 (o_iret)
def BX3_readNumber_114 : q_TT := o_al 0 (o_ic 2 (o_il 2 (o_callV 3 2 wX3_refuse (BX3_readNumber_120))))
def BX3_readNumber_109 : q_TT := o_il 3 (o_il 1 (o_icle BX3_readNumber_120 BX3_readNumber_114))
def BX3_readNumber_99 : q_TT := o_al 0 (o_getf 3 1 (o_il 2 (o_isub (o_ic 3 (o_icgt BX3_readNumber_114 BX3_readNumber_109)))))
def BX3_readNumber_90 : q_TT := o_al 0 (o_ic 1 (o_il 2 (o_callV 3 2 wX3_refuse (BX3_readNumber_120))))
def BX3_readNumber_82 : q_TT := o_al 0 (o_getf 3 1 (o_il 2 (o_icne BX3_readNumber_99 BX3_readNumber_90)))
def TX3_readNumber : Nat → q_TT := fun pc => if pc = 0 then BX3_readNumber_0 else if pc = 11 then BX3_readNumber_11 else if pc = 82 then BX3_readNumber_82 else o_no
def wX3_readNumber : q_WT := fun as sh m R => (q_loA as).length ≤ 4 ∧ q_WP TX3_readNumber 0 (q_lo 4 as) [] sh m (q_R0 sh rmX3_readNumber R)
/-! TumblingRock$Rock.size(I)I -/
def rmX4_size : Room := { frames := 1, cells := 0, slots := 0, locals := 21 }
def BX4_size_0 : q_TT := o_al 0 (o_getf 4 6 (o_il 1 (o_call 2 wX8_at (o_iret))))
def TX4_size : Nat → q_TT := fun pc => if pc = 0 then BX4_size_0 else o_no
def wX4_size : q_WT := fun as sh m R => (q_loA as).length ≤ 2 ∧ q_WP TX4_size 0 (q_lo 2 as) [] sh m (q_R0 sh rmX4_size R)
/-! TumblingRock$Rock.addPart(I)V -/
def rmX4_addPart : Room := { frames := 2, cells := 0, slots := 0, locals := 42 }
def BX4_addPart_20 : q_TT := o_al 0 (o_getf 4 8 (o_il 2 (o_ic 12 (o_imul (o_il 3 (o_iadd (o_il 1 (o_call 3 wX8_put (o_al 0 (o_getf 4 6 (o_il 2 (o_il 3 (o_ic 1 (o_iadd (o_call 3 wX8_put (o_vret))))))))))))))))
def BX4_addPart_19 : q_TT := o_vret
def BX4_addPart_0 : q_TT := o_al 0 (o_getf 4 0 (o_ic 1 (o_isub (o_is 2 (o_al 0 (o_il 2 (o_callV 4 1 wX4_size (o_is 3 (o_il 3 (o_ic 12 (o_iclt BX4_addPart_20 BX4_addPart_19)))))))))))
def TX4_addPart : Nat → q_TT := fun pc => if pc = 0 then BX4_addPart_0 else o_no
def wX4_addPart : q_WT := fun as sh m R => (q_loA as).length ≤ 4 ∧ q_WP TX4_addPart 0 (q_lo 4 as) [] sh m (q_R0 sh rmX4_addPart R)
/-! TumblingRock$Reader.readTurning(LTumblingRock$Rock;)V -/
def rmX3_readTurning : Room := { frames := 3, cells := 0, slots := 0, locals := 66 }
def BX3_readTurning_0 : q_TT := o_al 1 (o_callV 4 0 wX4_addTurning (o_ic 1 (o_is 2 ((o_cut 6)))))
def BX3_readTurning_110 : q_TT := o_vret
def BX3_readTurning_59 : q_TT := o_al 0 (o_dup (o_getf 3 1 (o_ic 1 (o_iadd (o_putf 3 1 (o_vret))))))
def BX3_readTurning_54 : q_TT := o_il 2 (o_ic 1 (o_icle (o_cut 70) BX3_readTurning_59))
def BX3_readTurning_19 : q_TT := o_al 1 (o_al 0 (o_ic 18 (o_callV 3 1 wX3_readNumber (o_ic 9 (o_isub (o_callV 4 1 wX4_addPart (o_al 0 (o_callV 3 0 wX3_passBlanks (o_al 0 (o_getf 3 0 (o_al 0 (o_getf 3 1 (o_callV 7 1 wX7_byteAt (o_is 3 (o_il 3 (o_ic 59 (o_icne (o_cut 70) BX3_readTurning_54)))))))))))))))))
def BX3_readTurning_12 : q_TT := o_al 0 (o_getf 3 2 (o_ifne BX3_readTurning_110 BX3_readTurning_19))
def BX3_readTurning_6 : q_TT := o_il 2 (o_ic 12 (o_icgt BX3_readTurning_110 BX3_readTurning_12))
def BX3_readTurning_104 : q_TT := o_inc 2 1 ((o_cut 6))
def BX3_readTurning_95 : q_TT := o_al 0 (o_ic 1 (o_al 0 (o_getf 3 1 (o_callV 3 2 wX3_refuse (BX3_readTurning_104)))))
def BX3_readTurning_82 : q_TT := o_al 0 (o_dup (o_getf 3 1 (o_ic 1 (o_iadd (o_putf 3 1 (BX3_readTurning_104))))))
def BX3_readTurning_76 : q_TT := o_il 2 (o_ic 12 (o_icge BX3_readTurning_95 BX3_readTurning_82))
def BX3_readTurning_70 : q_TT := o_il 3 (o_ic 44 (o_icne BX3_readTurning_95 BX3_readTurning_76))
def TX3_readTurning : Nat → q_TT := fun pc => if pc = 0 then BX3_readTurning_0 else if pc = 6 then BX3_readTurning_6 else if pc = 70 then BX3_readTurning_70 else o_no
def wX3_readTurning : q_WT := fun as sh m R => (q_loA as).length ≤ 4 ∧ q_WP TX3_readTurning 0 (q_lo 4 as) [] sh m (q_R0 sh rmX3_readTurning R)
/-! TumblingRock$Reader.readEnd()V -/
def rmX3_readEnd : Room := { frames := 2, cells := 0, slots := 0, locals := 41 }
def BX3_readEnd_42 : q_TT := o_vret
def BX3_readEnd_33 : q_TT := o_al 0 (o_ic 1 (o_al 0 (o_getf 3 1 (o_callV 3 2 wX3_refuse (BX3_readEnd_42)))))
def BX3_readEnd_20 : q_TT := o_al 0 (o_dup (o_getf 3 1 (o_ic 1 (o_iadd (o_putf 3 1 (BX3_readEnd_42))))))
def BX3_readEnd_0 : q_TT := o_al 0 (o_callV 3 0 wX3_passBlanks (o_al 0 (o_getf 3 0 (o_al 0 (o_getf 3 1 (o_callV 7 1 wX7_byteAt (o_ic 59 (o_icne BX3_readEnd_33 BX3_readEnd_20))))))))
def TX3_readEnd : Nat → q_TT := fun pc => if pc = 0 then BX3_readEnd_0 else o_no
def wX3_readEnd : q_WT := fun as sh m R => (q_loA as).length ≤ 1 ∧ q_WP TX3_readEnd 0 (q_lo 1 as) [] sh m (q_R0 sh rmX3_readEnd R)
/-! TumblingRock$Rock.addPlace(III)V -/
def rmX4_addPlace : Room := { frames := 1, cells := 0, slots := 0, locals := 22 }
def BX4_addPlace_0 : q_TT := o_al 0 (o_getf 4 9 (o_al 0 (o_getf 4 1 (o_ic 3 (o_imul (o_il 1 (o_call 3 wX8_put (o_al 0 (o_getf 4 9 (o_al 0 (o_getf 4 1 (o_ic 3 (o_imul (o_ic 1 (o_iadd (o_il 2 (o_call 3 wX8_put (o_al 0 (o_getf 4 9 (o_al 0 (o_getf 4 1 (o_ic 3 (o_imul (o_ic 2 (o_iadd (o_il 3 (o_call 3 wX8_put (o_al 0 (o_dup (o_getf 4 1 (o_ic 1 (o_iadd (o_putf 4 1 (o_vret))))))))))))))))))))))))))))))))))
def TX4_addPlace : Nat → q_TT := fun pc => if pc = 0 then BX4_addPlace_0 else o_no
def wX4_addPlace : q_WT := fun as sh m R => (q_loA as).length ≤ 4 ∧ q_WP TX4_addPlace 0 (q_lo 4 as) [] sh m (q_R0 sh rmX4_addPlace R)
/-! TumblingRock$Reader.readPlace(LTumblingRock$Rock;)V -/
def rmX3_readPlace : Room := { frames := 3, cells := 0, slots := 0, locals := 66 }
def BX3_readPlace_50 : q_TT := o_vret
def BX3_readPlace_33 : q_TT := o_al 1 (o_il 2 (o_ic 9 (o_isub (o_il 3 (o_ic 9 (o_isub (o_il 4 (o_ic 9 (o_isub (o_callV 4 3 wX4_addPlace (BX3_readPlace_50)))))))))))
def BX3_readPlace_0 : q_TT := o_al 0 (o_ic 18 (o_callV 3 1 wX3_readNumber (o_is 2 (o_al 0 (o_ic 18 (o_callV 3 1 wX3_readNumber (o_is 3 (o_al 0 (o_ic 18 (o_callV 3 1 wX3_readNumber (o_is 4 (o_al 0 (o_callV 3 0 wX3_readEnd (o_al 0 (o_getf 3 2 (o_ifne BX3_readPlace_50 BX3_readPlace_33))))))))))))))))
def TX3_readPlace : Nat → q_TT := fun pc => if pc = 0 then BX3_readPlace_0 else o_no
def wX3_readPlace : q_WT := fun as sh m R => (q_loA as).length ≤ 5 ∧ q_WP TX3_readPlace 0 (q_lo 5 as) [] sh m (q_R0 sh rmX3_readPlace R)
/-! TumblingRock$Rock.road(I)I -/
def rmX4_road : Room := { frames := 1, cells := 0, slots := 0, locals := 21 }
def BX4_road_0 : q_TT := o_al 0 (o_getf 4 10 (o_il 1 (o_call 2 wX8_at (o_iret))))
def TX4_road : Nat → q_TT := fun pc => if pc = 0 then BX4_road_0 else o_no
def wX4_road : q_WT := fun as sh m R => (q_loA as).length ≤ 2 ∧ q_WP TX4_road 0 (q_lo 2 as) [] sh m (q_R0 sh rmX4_road R)
/-! TumblingRock.bit(II)I -/
def rmX8_bit : Room := { frames := 0, cells := 0, slots := 0, locals := 0 }
def BX8_bit_0 : q_TT := o_il 0 (o_il 1 (o_ishr (o_ic 1 (o_iand (o_iret)))))
def TX8_bit : Nat → q_TT := fun pc => if pc = 0 then BX8_bit_0 else o_no
def wX8_bit : q_WT := fun as sh m R => (q_loA as).length ≤ 2 ∧ q_WP TX8_bit 0 (q_lo 2 as) [] sh m (q_R0 sh rmX8_bit R)
/-! TumblingRock$Rock.leads(II)Z -/
def rmX4_leads : Room := { frames := 2, cells := 0, slots := 0, locals := 42 }
def BX4_leads_18 : q_TT := o_zret
def BX4_leads_17 : q_TT := o_ic 0 (BX4_leads_18)
def BX4_leads_13 : q_TT := o_ic 1 (BX4_leads_18)
def BX4_leads_0 : q_TT := o_al 0 (o_il 1 (o_callV 4 1 wX4_road (o_il 2 (o_call 2 wX8_bit (o_ic 1 (o_icne BX4_leads_17 BX4_leads_13))))))
def TX4_leads : Nat → q_TT := fun pc => if pc = 0 then BX4_leads_0 else o_no
def wX4_leads : q_WT := fun as sh m R => (q_loA as).length ≤ 3 ∧ q_WP TX4_leads 0 (q_lo 3 as) [] sh m (q_R0 sh rmX4_leads R)
/-! TumblingRock$Rock.addWay(II)V -/
def rmX4_addWay : Room := { frames := 2, cells := 0, slots := 0, locals := 42 }
def BX4_addWay_0 : q_TT := o_al 0 (o_getf 4 10 (o_il 1 (o_al 0 (o_il 1 (o_callV 4 1 wX4_road (o_ic 1 (o_il 2 (o_ishl (o_ior (o_call 3 wX8_put (o_al 0 (o_getf 4 10 (o_il 2 (o_al 0 (o_il 2 (o_callV 4 1 wX4_road (o_ic 1 (o_il 1 (o_ishl (o_ior (o_call 3 wX8_put (o_al 0 (o_dup (o_getf 4 2 (o_ic 1 (o_iadd (o_putf 4 2 (o_vret))))))))))))))))))))))))))))
def TX4_addWay : Nat → q_TT := fun pc => if pc = 0 then BX4_addWay_0 else o_no
def wX4_addWay : q_WT := fun as sh m R => (q_loA as).length ≤ 3 ∧ q_WP TX4_addWay 0 (q_lo 3 as) [] sh m (q_R0 sh rmX4_addWay R)
/-! TumblingRock$Reader.readWay(LTumblingRock$Rock;)V -/
def rmX3_readWay : Room := { frames := 3, cells := 0, slots := 0, locals := 66 }
def BX3_readWay_72 : q_TT := o_vret
def BX3_readWay_65 : q_TT := o_al 1 (o_il 2 (o_il 4 (o_callV 4 2 wX4_addWay (BX3_readWay_72))))
def BX3_readWay_54 : q_TT := o_al 0 (o_callV 3 0 wX3_readEnd (o_al 0 (o_getf 3 2 (o_ifne BX3_readWay_72 BX3_readWay_65))))
def BX3_readWay_38 : q_TT := o_al 1 (o_il 2 (o_il 4 (o_callV 4 2 wX4_leads (o_ifeq BX3_readWay_54 (o_cut 48)))))
def BX3_readWay_0 : q_TT := o_al 0 (o_al 1 (o_getf 4 1 (o_ic 1 (o_isub (o_callV 3 1 wX3_readNumber (o_is 2 (o_al 0 (o_callV 3 0 wX3_passBlanks (o_al 0 (o_getf 3 1 (o_is 3 (o_al 0 (o_al 1 (o_getf 4 1 (o_ic 1 (o_isub (o_callV 3 1 wX3_readNumber (o_is 4 (o_il 2 (o_il 4 (o_iceq (o_cut 48) BX3_readWay_38)))))))))))))))))))))
def BX3_readWay_48 : q_TT := o_al 0 (o_ic 4 (o_il 3 (o_callV 3 2 wX3_refuse (BX3_readWay_54))))
def TX3_readWay : Nat → q_TT := fun pc => if pc = 0 then BX3_readWay_0 else if pc = 48 then BX3_readWay_48 else o_no
def wX3_readWay : q_WT := fun as sh m R => (q_loA as).length ≤ 5 ∧ q_WP TX3_readWay 0 (q_lo 5 as) [] sh m (q_R0 sh rmX3_readWay R)
/-! TumblingRock$Rock.addPush(III)V -/
def rmX4_addPush : Room := { frames := 1, cells := 0, slots := 0, locals := 22 }
def BX4_addPush_0 : q_TT := o_al 0 (o_getf 4 11 (o_al 0 (o_getf 4 3 (o_ic 3 (o_imul (o_il 1 (o_call 3 wX8_put (o_al 0 (o_getf 4 11 (o_al 0 (o_getf 4 3 (o_ic 3 (o_imul (o_ic 1 (o_iadd (o_il 2 (o_call 3 wX8_put (o_al 0 (o_getf 4 11 (o_al 0 (o_getf 4 3 (o_ic 3 (o_imul (o_ic 2 (o_iadd (o_il 3 (o_call 3 wX8_put (o_al 0 (o_dup (o_getf 4 3 (o_ic 1 (o_iadd (o_putf 4 3 (o_vret))))))))))))))))))))))))))))))))))
def TX4_addPush : Nat → q_TT := fun pc => if pc = 0 then BX4_addPush_0 else o_no
def wX4_addPush : q_WT := fun as sh m R => (q_loA as).length ≤ 4 ∧ q_WP TX4_addPush 0 (q_lo 4 as) [] sh m (q_R0 sh rmX4_addPush R)
/-! TumblingRock$Reader.readPush(LTumblingRock$Rock;)V -/
def rmX3_readPush : Room := { frames := 3, cells := 0, slots := 0, locals := 66 }
def BX3_readPush_41 : q_TT := o_vret
def BX3_readPush_33 : q_TT := o_al 1 (o_il 2 (o_il 3 (o_il 4 (o_callV 4 3 wX4_addPush (BX3_readPush_41)))))
def BX3_readPush_0 : q_TT := o_al 0 (o_ic 11 (o_callV 3 1 wX3_readNumber (o_is 2 (o_al 0 (o_ic 11 (o_callV 3 1 wX3_readNumber (o_is 3 (o_al 0 (o_ic 11 (o_callV 3 1 wX3_readNumber (o_is 4 (o_al 0 (o_callV 3 0 wX3_readEnd (o_al 0 (o_getf 3 2 (o_ifne BX3_readPush_41 BX3_readPush_33))))))))))))))))
def TX3_readPush : Nat → q_TT := fun pc => if pc = 0 then BX3_readPush_0 else o_no
def wX3_readPush : q_WT := fun as sh m R => (q_loA as).length ≤ 5 ∧ q_WP TX3_readPush 0 (q_lo 5 as) [] sh m (q_R0 sh rmX3_readPush R)
/-! TumblingRock$Reader.readClause(LTumblingRock$Rock;)V -/
def rmX3_readClause : Room := { frames := 5, cells := 0, slots := 0, locals := 109 }
def BX3_readClause_0 : q_TT := o_al 0 (o_getf 3 1 (o_is 2 ((o_cut 5))))
def BX3_readClause_33 : q_TT := o_al 0 (o_dup (o_getf 3 1 (o_ic 1 (o_iadd (o_putf 3 1 ((o_cut 5)))))))
def BX3_readClause_19 : q_TT := o_al 0 (o_getf 3 0 (o_al 0 (o_getf 3 1 (o_callV 7 1 wX7_isLetter (o_ifeq (o_cut 46) BX3_readClause_33)))))
def BX3_readClause_5 : q_TT := o_al 0 (o_getf 3 1 (o_al 0 (o_getf 3 0 (o_getf 7 1 (o_icge (o_cut 46) BX3_readClause_19)))))
def BX3_readClause_206 : q_TT := o_vret
def BX3_readClause_200 : q_TT := o_al 0 (o_ic 1 (o_il 2 (o_callV 3 2 wX3_refuse (BX3_readClause_206))))
def BX3_readClause_192 : q_TT := o_al 0 (o_al 1 (o_callV 3 1 wX3_readPush (BX3_readClause_206)))
def BX3_readClause_179 : q_TT := o_al 0 (o_al 1 (o_getf 4 3 (o_ic 4 (o_il 2 (o_callV 3 3 wX3_hasRoom (o_ifeq BX3_readClause_206 BX3_readClause_192))))))
def BX3_readClause_162 : q_TT := o_al 0 (o_getf 3 0 (o_il 2 (o_al 0 (o_getf 3 1 (o_str 3 (o_callV 7 3 wX7_spells (o_ifeq BX3_readClause_200 BX3_readClause_179)))))))
def BX3_readClause_154 : q_TT := o_al 0 (o_al 1 (o_callV 3 1 wX3_readWay (BX3_readClause_206)))
def BX3_readClause_140 : q_TT := o_al 0 (o_al 1 (o_getf 4 2 (o_ic 12 (o_il 2 (o_callV 3 3 wX3_hasRoom (o_ifeq BX3_readClause_206 BX3_readClause_154))))))
def BX3_readClause_123 : q_TT := o_al 0 (o_getf 3 0 (o_il 2 (o_al 0 (o_getf 3 1 (o_str 2 (o_callV 7 3 wX7_spells (o_ifeq BX3_readClause_162 BX3_readClause_140)))))))
def BX3_readClause_115 : q_TT := o_al 0 (o_al 1 (o_callV 3 1 wX3_readPlace (BX3_readClause_206)))
def BX3_readClause_101 : q_TT := o_al 0 (o_al 1 (o_getf 4 1 (o_ic 8 (o_il 2 (o_callV 3 3 wX3_hasRoom (o_ifeq BX3_readClause_206 BX3_readClause_115))))))
def BX3_readClause_84 : q_TT := o_al 0 (o_getf 3 0 (o_il 2 (o_al 0 (o_getf 3 1 (o_str 1 (o_callV 7 3 wX7_spells (o_ifeq BX3_readClause_123 BX3_readClause_101)))))))
def BX3_readClause_76 : q_TT := o_al 0 (o_al 1 (o_callV 3 1 wX3_readTurning (BX3_readClause_206)))
def BX3_readClause_63 : q_TT := o_al 0 (o_al 1 (o_getf 4 0 (o_ic 3 (o_il 2 (o_callV 3 3 wX3_hasRoom (o_ifeq BX3_readClause_206 BX3_readClause_76))))))
def BX3_readClause_46 : q_TT := o_al 0 (o_getf 3 0 (o_il 2 (o_al 0 (o_getf 3 1 (o_str 0 (o_callV 7 3 wX7_spells (o_ifeq BX3_readClause_84 BX3_readClause_63)))))))
def TX3_readClause : Nat → q_TT := fun pc => if pc = 0 then BX3_readClause_0 else if pc = 5 then BX3_readClause_5 else if pc = 46 then BX3_readClause_46 else o_no
def wX3_readClause : q_WT := fun as sh m R => (q_loA as).length ≤ 3 ∧ q_WP TX3_readClause 0 (q_lo 3 as) [] sh m (q_R0 sh rmX3_readClause R)
/-! TumblingRock$Reader.reads(LTumblingRock$Rock;)Z -/
def rmX3_reads : Room := { frames := 6, cells := 0, slots := 0, locals := 131 }
def BX3_reads_0 : q_TT := o_al 0 (o_ic 0 (o_putf 3 1 (o_al 0 (o_ic 0 (o_putf 3 2 (o_al 0 (o_ic (-1) (o_putf 3 3 (o_al 1 (o_callV 4 0 wX4_clear (o_al 0 (o_callV 3 0 wX3_passBlanks (o_ic 0 (o_is 2 ((o_cut 25))))))))))))))))
def BX3_reads_80 : q_TT := o_zret
def BX3_reads_79 : q_TT := o_ic 0 (BX3_reads_80)
def BX3_reads_75 : q_TT := o_ic 1 (BX3_reads_80)
def BX3_reads_68 : q_TT := o_al 0 (o_getf 3 2 (o_ifne BX3_reads_79 BX3_reads_75))
def BX3_reads_53 : q_TT := o_al 0 (o_al 1 (o_callV 3 1 wX3_readClause (o_al 0 (o_callV 3 0 wX3_passBlanks (o_inc 2 1 ((o_cut 25)))))))
def BX3_reads_39 : q_TT := o_al 0 (o_getf 3 1 (o_al 0 (o_getf 3 0 (o_getf 7 1 (o_icge BX3_reads_68 BX3_reads_53)))))
def BX3_reads_32 : q_TT := o_al 0 (o_getf 3 2 (o_ifne BX3_reads_68 BX3_reads_39))
def BX3_reads_25 : q_TT := o_il 2 (o_ic 400 (o_icge BX3_reads_68 BX3_reads_32))
def TX3_reads : Nat → q_TT := fun pc => if pc = 0 then BX3_reads_0 else if pc = 25 then BX3_reads_25 else o_no
def wX3_reads : q_WT := fun as sh m R => (q_loA as).length ≤ 3 ∧ q_WP TX3_reads 0 (q_lo 3 as) [] sh m (q_R0 sh rmX3_reads R)
/-! TumblingRock$Farm.begin()V -/
def rmX1_begin : Room := { frames := 0, cells := 0, slots := 0, locals := 0 }
def BX1_begin_0 : q_TT := o_al 0 (o_ic 0 (o_putf 1 0 (o_al 0 (o_ic 0 (o_putf 1 1 (o_al 0 (o_ic 0 (o_putf 1 2 (o_al 0 (o_ic 0 (o_putf 1 3 (o_vret))))))))))))
def TX1_begin : Nat → q_TT := fun pc => if pc = 0 then BX1_begin_0 else o_no
def wX1_begin : q_WT := fun as sh m R => (q_loA as).length ≤ 1 ∧ q_WP TX1_begin 0 (q_lo 1 as) [] sh m (q_R0 sh rmX1_begin R)
/-! TumblingRock$Sight.forget(LTumblingRock$Rock;)V -/
def rmX6_forget : Room := { frames := 1, cells := 0, slots := 0, locals := 22 }
def BX6_forget_0 : q_TT := o_al 0 (o_ic 0 (o_putf 6 0 (o_al 0 (o_ic 0 (o_putz 6 5 (o_al 0 (o_al 1 (o_getf 4 4 (o_ic 1728 (o_mmin (o_putf 6 1 (o_ic 0 (o_is 2 ((o_cut 26)))))))))))))))
def BX6_forget_49 : q_TT := o_vret
def BX6_forget_34 : q_TT := o_al 0 (o_getf 6 6 (o_il 2 (o_il 2 (o_call 3 wX8_put (o_inc 2 1 ((o_cut 26)))))))
def BX6_forget_26 : q_TT := o_il 2 (o_al 0 (o_getf 6 1 (o_icge BX6_forget_49 BX6_forget_34)))
def TX6_forget : Nat → q_TT := fun pc => if pc = 0 then BX6_forget_0 else if pc = 26 then BX6_forget_26 else o_no
def wX6_forget : q_WT := fun as sh m R => (q_loA as).length ≤ 3 ∧ q_WP TX6_forget 0 (q_lo 3 as) [] sh m (q_R0 sh rmX6_forget R)
/-! TumblingRock.beginAnew()V -/
def rmX8_beginAnew : Room := { frames := 2, cells := 0, slots := 0, locals := 44 }
def BX8_beginAnew_0 : q_TT := o_al 0 (o_getf 8 2 (o_callV 1 0 wX1_begin (o_al 0 (o_getf 8 5 (o_al 0 (o_getf 8 9 (o_callV 6 1 wX6_forget (o_al 0 (o_getf 8 8 (o_ic 0 (o_putf 0 1 (o_ic 0 (o_is 1 ((o_cut 28)))))))))))))))
def BX8_beginAnew_46 : q_TT := o_vret
def BX8_beginAnew_33 : q_TT := o_al 0 (o_getf 8 4 (o_il 1 (o_ic 0 (o_zast (o_inc 1 1 ((o_cut 28)))))))
def BX8_beginAnew_28 : q_TT := o_il 1 (o_ic 2 (o_icge BX8_beginAnew_46 BX8_beginAnew_33))
def TX8_beginAnew : Nat → q_TT := fun pc => if pc = 0 then BX8_beginAnew_0 else if pc = 28 then BX8_beginAnew_28 else o_no
def wX8_beginAnew : q_WT := fun as sh m R => (q_loA as).length ≤ 2 ∧ q_WP TX8_beginAnew 0 (q_lo 2 as) [] sh m (q_R0 sh rmX8_beginAnew R)
/-! TumblingRock.rock()I -/
def rmX8_rock : Room := { frames := 7, cells := 0, slots := 0, locals := 153 }
def BX8_rock_35 : q_TT := o_al 0 (o_getf 8 10 (o_as 2 (o_al 0 (o_al 0 (o_getf 8 9 (o_putr 8 10 (o_al 0 (o_al 2 (o_putr 8 9 (o_al 0 (o_getf 8 9 (o_callV 4 0 wX4_settle (o_al 0 (o_callV 8 0 wX8_beginAnew (o_al 0 (o_getf 8 9 (o_getf 4 1 (o_iret))))))))))))))))))
def BX8_rock_24 : q_TT := o_ic (-10) (o_al 0 (o_getf 8 1 (o_getf 3 2 (o_isub (o_iret)))))
def BX8_rock_0 : q_TT := o_al 0 (o_getf 8 1 (o_al 0 (o_getf 8 10 (o_callV 3 1 wX3_reads (o_is 1 (o_al 0 (o_getf 8 0 (o_ic 0 (o_putf 7 1 (o_il 1 (o_ifne BX8_rock_35 BX8_rock_24)))))))))))
def TX8_rock : Nat → q_TT := fun pc => if pc = 0 then BX8_rock_0 else o_no
def wX8_rock : q_WT := fun as sh m R => (q_loA as).length ≤ 3 ∧ q_WP TX8_rock 0 (q_lo 3 as) [] sh m (q_R0 sh rmX8_rock R)
/-! TumblingRock.fault()I -/
def rmX8_fault : Room := { frames := 0, cells := 0, slots := 0, locals := 0 }
def BX8_fault_0 : q_TT := o_al 0 (o_getf 8 1 (o_getf 3 3 (o_iret)))
def TX8_fault : Nat → q_TT := fun pc => if pc = 0 then BX8_fault_0 else o_no
def wX8_fault : q_WT := fun as sh m R => (q_loA as).length ≤ 1 ∧ q_WP TX8_fault 0 (q_lo 1 as) [] sh m (q_R0 sh rmX8_fault R)
/-! TumblingRock.standingAt(I)I -/
def rmX8_standingAt : Room := { frames := 3, cells := 0, slots := 0, locals := 69 }
def BX8_standingAt_0 : q_TT := o_al 0 (o_getf 8 9 (o_al 0 (o_getf 8 2 (o_getf 1 0 (o_il 1 (o_il 1 (o_il 1 (o_callV 4 4 wX4_moved (o_iret)))))))))
def TX8_standingAt : Nat → q_TT := fun pc => if pc = 0 then BX8_standingAt_0 else o_no
def wX8_standingAt : q_WT := fun as sh m R => (q_loA as).length ≤ 2 ∧ q_WP TX8_standingAt 0 (q_lo 2 as) [] sh m (q_R0 sh rmX8_standingAt R)
/-! TumblingRock$Rock.litSet(I)I -/
def rmX4_litSet : Room := { frames := 1, cells := 0, slots := 0, locals := 21 }
def BX4_litSet_0 : q_TT := o_al 0 (o_getf 4 12 (o_il 1 (o_call 2 wX8_at (o_iret))))
def TX4_litSet : Nat → q_TT := fun pc => if pc = 0 then BX4_litSet_0 else o_no
def wX4_litSet : q_WT := fun as sh m R => (q_loA as).length ≤ 2 ∧ q_WP TX4_litSet 0 (q_lo 2 as) [] sh m (q_R0 sh rmX4_litSet R)
/-! TumblingRock.told(I)I -/
def rmX8_told : Room := { frames := 4, cells := 0, slots := 0, locals := 90 }
def BX8_told_64 : q_TT := o_al 0 (o_getf 8 9 (o_getf 4 0 (o_iret)))
def BX8_told_72 : q_TT := o_al 0 (o_getf 8 9 (o_getf 4 1 (o_iret)))
def BX8_told_80 : q_TT := o_al 0 (o_getf 8 9 (o_getf 4 2 (o_iret)))
def BX8_told_88 : q_TT := o_al 0 (o_getf 8 9 (o_getf 4 3 (o_iret)))
def BX8_told_96 : q_TT := o_al 0 (o_getf 8 0 (o_getf 7 1 (o_iret)))
def BX8_told_104 : q_TT := o_al 0 (o_getf 8 9 (o_getf 4 5 (o_iret)))
def BX8_told_112 : q_TT := o_al 0 (o_getf 8 2 (o_getf 1 2 (o_iret)))
def BX8_told_141 : q_TT := o_iret
def BX8_told_140 : q_TT := o_ic (-1) (BX8_told_141)
def BX8_told_130 : q_TT := o_al 0 (o_getf 8 2 (o_getf 1 1 (BX8_told_141)))
def BX8_told_120 : q_TT := o_al 0 (o_getf 8 9 (o_getf 4 1 (o_ifle BX8_told_140 BX8_told_130)))
def BX8_told_142 : q_TT := o_al 0 (o_getf 8 2 (o_getf 1 3 (o_iret)))
def BX8_told_150 : q_TT := o_al 0 (o_getf 8 5 (o_getf 6 0 (o_iret)))
def BX8_told_158 : q_TT := o_al 0 (o_getf 8 8 (o_getf 0 1 (o_iret)))
def BX8_told_166 : q_TT := o_al 0 (o_getf 8 9 (o_al 0 (o_al 0 (o_getf 8 2 (o_getf 1 2 (o_callV 8 1 wX8_standingAt (o_callV 4 1 wX4_litSet (o_iret))))))))
def BX8_told_185 : q_TT := o_ic (-1000000002) (o_iret)
def BX8_told_0 : q_TT := o_il 1 (o_sw 0 [BX8_told_64, BX8_told_72, BX8_told_80, BX8_told_88, BX8_told_96, BX8_told_104, BX8_told_112, BX8_told_120, BX8_told_142, BX8_told_150, BX8_told_158, BX8_told_166] BX8_told_185)
def TX8_told : Nat → q_TT := fun pc => if pc = 0 then BX8_told_0 else o_no
def wX8_told : q_WT := fun as sh m R => (q_loA as).length ≤ 2 ∧ q_WP TX8_told 0 (q_lo 2 as) [] sh m (q_R0 sh rmX8_told R)
/-! TumblingRock.isTurning(I)Z -/
def rmX8_isTurning : Room := { frames := 1, cells := 0, slots := 0, locals := 22 }
def BX8_isTurning_0 : q_TT := o_il 1 (o_ic 0 (o_al 0 (o_getf 8 9 (o_getf 4 0 (o_ic 1 (o_isub (o_call 3 wX8_inside (o_zret))))))))
def TX8_isTurning : Nat → q_TT := fun pc => if pc = 0 then BX8_isTurning_0 else o_no
def wX8_isTurning : q_WT := fun as sh m R => (q_loA as).length ≤ 2 ∧ q_WP TX8_isTurning 0 (q_lo 2 as) [] sh m (q_R0 sh rmX8_isTurning R)
/-! TumblingRock.turning(II)I -/
def rmX8_turning : Room := { frames := 4, cells := 0, slots := 0, locals := 90 }
def BX8_turning_64 : q_TT := o_al 0 (o_getf 8 9 (o_il 1 (o_callV 4 1 wX4_size (o_iret))))
def BX8_turning_73 : q_TT := o_al 0 (o_getf 8 9 (o_al 0 (o_getf 8 2 (o_getf 1 0 (o_il 1 (o_callV 4 2 wX4_digit (o_iret)))))))
def BX8_turning_89 : q_TT := o_il 3 (o_iret)
def BX8_turning_91 : q_TT := o_al 0 (o_getf 8 9 (o_il 1 (o_il 3 (o_callV 4 2 wX4_part (o_iret)))))
def BX8_turning_101 : q_TT := o_ic (-1000000002) (o_iret)
def BX8_turning_11 : q_TT := o_al 0 (o_getf 8 9 (o_al 0 (o_al 0 (o_getf 8 2 (o_getf 1 2 (o_callV 8 1 wX8_standingAt (o_il 1 (o_callV 4 2 wX4_digit (o_is 3 (o_il 2 (o_sw 0 [BX8_turning_64, BX8_turning_73, BX8_turning_89, BX8_turning_91] BX8_turning_101)))))))))))
def BX8_turning_8 : q_TT := o_ic (-1000000001) (o_iret)
def BX8_turning_0 : q_TT := o_al 0 (o_il 1 (o_callV 8 1 wX8_isTurning (o_ifne BX8_turning_11 BX8_turning_8)))
def TX8_turning : Nat → q_TT := fun pc => if pc = 0 then BX8_turning_0 else o_no
def wX8_turning : q_WT := fun as sh m R => (q_loA as).length ≤ 4 ∧ q_WP TX8_turning 0 (q_lo 4 as) [] sh m (q_R0 sh rmX8_turning R)
/-! TumblingRock.isPlace(I)Z -/
def rmX8_isPlace : Room := { frames := 1, cells := 0, slots := 0, locals := 22 }
def BX8_isPlace_0 : q_TT := o_il 1 (o_ic 0 (o_al 0 (o_getf 8 9 (o_getf 4 1 (o_ic 1 (o_isub (o_call 3 wX8_inside (o_zret))))))))
def TX8_isPlace : Nat → q_TT := fun pc => if pc = 0 then BX8_isPlace_0 else o_no
def wX8_isPlace : q_WT := fun as sh m R => (q_loA as).length ≤ 2 ∧ q_WP TX8_isPlace 0 (q_lo 2 as) [] sh m (q_R0 sh rmX8_isPlace R)
/-! TumblingRock$Rock.litBit(II)I -/
def rmX4_litBit : Room := { frames := 2, cells := 0, slots := 0, locals := 42 }
def BX4_litBit_0 : q_TT := o_al 0 (o_il 2 (o_callV 4 1 wX4_litSet (o_il 1 (o_call 2 wX8_bit (o_iret)))))
def TX4_litBit : Nat → q_TT := fun pc => if pc = 0 then BX4_litBit_0 else o_no
def wX4_litBit : q_WT := fun as sh m R => (q_loA as).length ≤ 3 ∧ q_WP TX4_litBit 0 (q_lo 3 as) [] sh m (q_R0 sh rmX4_litBit R)
/-! TumblingRock$Rock.stepLater(I)I -/
def rmX4_stepLater : Room := { frames := 1, cells := 0, slots := 0, locals := 21 }
def BX4_stepLater_0 : q_TT := o_al 0 (o_getf 4 13 (o_il 1 (o_call 2 wX8_at (o_iret))))
def TX4_stepLater : Nat → q_TT := fun pc => if pc = 0 then BX4_stepLater_0 else o_no
def wX4_stepLater : q_WT := fun as sh m R => (q_loA as).length ≤ 2 ∧ q_WP TX4_stepLater 0 (q_lo 2 as) [] sh m (q_R0 sh rmX4_stepLater R)
/-! TumblingRock$Rock.longestDark(II)I -/
def rmX4_longestDark : Room := { frames := 3, cells := 0, slots := 0, locals := 64 }
def BX4_longestDark_0 : q_TT := o_ic 0 (o_is 3 (o_ic 0 (o_is 4 (o_il 2 (o_is 5 (o_ic 0 (o_is 6 ((o_cut 11)))))))))
def BX4_longestDark_64 : q_TT := o_il 3 (o_al 0 (o_getf 4 5 (o_mmin (o_iret))))
def BX4_longestDark_41 : q_TT := o_is 4 (o_il 3 (o_il 4 (o_mmax (o_is 3 (o_al 0 (o_il 5 (o_callV 4 1 wX4_stepLater (o_is 5 (o_inc 6 1 ((o_cut 11)))))))))))
def BX4_longestDark_37 : q_TT := o_il 4 (o_ic 1 (o_iadd (BX4_longestDark_41)))
def BX4_longestDark_33 : q_TT := o_ic 0 (BX4_longestDark_41)
def BX4_longestDark_22 : q_TT := o_al 0 (o_il 1 (o_il 5 (o_callV 4 2 wX4_litBit (o_ic 1 (o_icne BX4_longestDark_37 BX4_longestDark_33)))))
def BX4_longestDark_11 : q_TT := o_il 6 (o_ic 2 (o_al 0 (o_getf 4 5 (o_imul (o_icge BX4_longestDark_64 BX4_longestDark_22)))))
def TX4_longestDark : Nat → q_TT := fun pc => if pc = 0 then BX4_longestDark_0 else if pc = 11 then BX4_longestDark_11 else o_no
def wX4_longestDark : q_WT := fun as sh m R => (q_loA as).length ≤ 7 ∧ q_WP TX4_longestDark 0 (q_lo 7 as) [] sh m (q_R0 sh rmX4_longestDark R)
/-! TumblingRock$Rock.litSteps(II)I -/
def rmX4_litSteps : Room := { frames := 3, cells := 0, slots := 0, locals := 64 }
def BX4_litSteps_0 : q_TT := o_ic 0 (o_is 3 (o_il 2 (o_is 4 (o_ic 0 (o_is 5 ((o_cut 8)))))))
def BX4_litSteps_41 : q_TT := o_il 3 (o_iret)
def BX4_litSteps_17 : q_TT := o_il 3 (o_al 0 (o_il 1 (o_il 4 (o_callV 4 2 wX4_litBit (o_iadd (o_is 3 (o_al 0 (o_il 4 (o_callV 4 1 wX4_stepLater (o_is 4 (o_inc 5 1 ((o_cut 8)))))))))))))
def BX4_litSteps_8 : q_TT := o_il 5 (o_al 0 (o_getf 4 5 (o_icge BX4_litSteps_41 BX4_litSteps_17)))
def TX4_litSteps : Nat → q_TT := fun pc => if pc = 0 then BX4_litSteps_0 else if pc = 8 then BX4_litSteps_8 else o_no
def wX4_litSteps : q_WT := fun as sh m R => (q_loA as).length ≤ 6 ∧ q_WP TX4_litSteps 0 (q_lo 6 as) [] sh m (q_R0 sh rmX4_litSteps R)
/-! TumblingRock.place(II)I -/
def rmX8_place : Room := { frames := 4, cells := 0, slots := 0, locals := 90 }
def BX8_place_52 : q_TT := o_al 0 (o_getf 8 9 (o_il 1 (o_il 2 (o_callV 4 2 wX4_face (o_iret)))))
def BX8_place_62 : q_TT := o_al 0 (o_getf 8 9 (o_il 1 (o_callV 4 1 wX4_road (o_iret))))
def BX8_place_71 : q_TT := o_al 0 (o_getf 8 9 (o_il 1 (o_al 0 (o_getf 8 2 (o_getf 1 0 (o_callV 4 2 wX4_longestDark (o_iret)))))))
def BX8_place_87 : q_TT := o_al 0 (o_getf 8 9 (o_il 1 (o_al 0 (o_getf 8 2 (o_getf 1 0 (o_callV 4 2 wX4_litSteps (o_iret)))))))
def BX8_place_103 : q_TT := o_ic (-1000000002) (o_iret)
def BX8_place_11 : q_TT := o_il 2 (o_sw 0 [BX8_place_52, BX8_place_52, BX8_place_52, BX8_place_62, BX8_place_71, BX8_place_87] BX8_place_103)
def BX8_place_8 : q_TT := o_ic (-1000000001) (o_iret)
def BX8_place_0 : q_TT := o_al 0 (o_il 1 (o_callV 8 1 wX8_isPlace (o_ifne BX8_place_11 BX8_place_8)))
def TX8_place : Nat → q_TT := fun pc => if pc = 0 then BX8_place_0 else o_no
def wX8_place : q_WT := fun as sh m R => (q_loA as).length ≤ 3 ∧ q_WP TX8_place 0 (q_lo 3 as) [] sh m (q_R0 sh rmX8_place R)
/-! TumblingRock.isStep(I)Z -/
def rmX8_isStep : Room := { frames := 1, cells := 0, slots := 0, locals := 22 }
def BX8_isStep_0 : q_TT := o_il 0 (o_ic 0 (o_ic 999999 (o_call 3 wX8_inside (o_zret))))
def TX8_isStep : Nat → q_TT := fun pc => if pc = 0 then BX8_isStep_0 else o_no
def wX8_isStep : q_WT := fun as sh m R => (q_loA as).length ≤ 1 ∧ q_WP TX8_isStep 0 (q_lo 1 as) [] sh m (q_R0 sh rmX8_isStep R)
/-! TumblingRock.height(II)I -/
def rmX8_height : Room := { frames := 4, cells := 0, slots := 0, locals := 90 }
def BX8_height_21 : q_TT := o_al 0 (o_getf 8 9 (o_il 1 (o_al 0 (o_il 2 (o_callV 8 1 wX8_standingAt (o_callV 4 2 wX4_heightOf (o_iret)))))))
def BX8_height_18 : q_TT := o_ic (-1000000002) (o_iret)
def BX8_height_11 : q_TT := o_il 2 (o_call 1 wX8_isStep (o_ifne BX8_height_21 BX8_height_18))
def BX8_height_8 : q_TT := o_ic (-1000000001) (o_iret)
def BX8_height_0 : q_TT := o_al 0 (o_il 1 (o_callV 8 1 wX8_isPlace (o_ifne BX8_height_11 BX8_height_8)))
def TX8_height : Nat → q_TT := fun pc => if pc = 0 then BX8_height_0 else o_no
def wX8_height : q_WT := fun as sh m R => (q_loA as).length ≤ 3 ∧ q_WP TX8_height 0 (q_lo 3 as) [] sh m (q_R0 sh rmX8_height R)
/-! TumblingRock$Farm.goOn(LTumblingRock$Rock;)I -/
def rmX1_goOn : Room := { frames := 3, cells := 0, slots := 0, locals := 69 }
def BX1_goOn_0 : q_TT := o_al 0 (o_dup (o_getf 1 2 (o_ic 1 (o_iadd (o_putf 1 2 (o_al 1 (o_al 0 (o_getf 1 1 (o_al 1 (o_al 0 (o_getf 1 0 (o_al 0 (o_getf 1 2 (o_al 0 (o_getf 1 2 (o_al 0 (o_getf 1 2 (o_callV 4 4 wX4_moved (o_callV 4 2 wX4_litBit (o_is 2 (o_al 0 (o_dup (o_getf 1 3 (o_il 2 (o_iadd (o_putf 1 3 (o_il 2 (o_iret))))))))))))))))))))))))))))
def TX1_goOn : Nat → q_TT := fun pc => if pc = 0 then BX1_goOn_0 else o_no
def wX1_goOn : q_WT := fun as sh m R => (q_loA as).length ≤ 3 ∧ q_WP TX1_goOn 0 (q_lo 3 as) [] sh m (q_R0 sh rmX1_goOn R)
/-! TumblingRock.stay(I)I -/
def rmX8_stay : Room := { frames := 4, cells := 0, slots := 0, locals := 91 }
def BX8_stay_27 : q_TT := o_ic 0 (o_is 2 (o_ic 0 (o_is 3 ((o_cut 31)))))
def BX8_stay_24 : q_TT := o_ic (-1000000003) (o_iret)
def BX8_stay_14 : q_TT := o_al 0 (o_getf 8 9 (o_getf 4 1 (o_ifne BX8_stay_27 BX8_stay_24)))
def BX8_stay_11 : q_TT := o_ic (-1000000002) (o_iret)
def BX8_stay_0 : q_TT := o_il 1 (o_ic 1 (o_ic 999 (o_call 3 wX8_inside (o_ifne BX8_stay_14 BX8_stay_11))))
def BX8_stay_56 : q_TT := o_il 2 (o_iret)
def BX8_stay_36 : q_TT := o_il 2 (o_al 0 (o_getf 8 2 (o_al 0 (o_getf 8 9 (o_callV 1 1 wX1_goOn (o_iadd (o_is 2 (o_inc 3 1 ((o_cut 31))))))))))
def BX8_stay_31 : q_TT := o_il 3 (o_il 1 (o_icge BX8_stay_56 BX8_stay_36))
def TX8_stay : Nat → q_TT := fun pc => if pc = 0 then BX8_stay_0 else if pc = 31 then BX8_stay_31 else o_no
def wX8_stay : q_WT := fun as sh m R => (q_loA as).length ≤ 4 ∧ q_WP TX8_stay 0 (q_lo 4 as) [] sh m (q_R0 sh rmX8_stay R)
/-! TumblingRock.go(I)I -/
def rmX8_go : Room := { frames := 4, cells := 0, slots := 0, locals := 91 }
def BX8_go_32 : q_TT := o_al 0 (o_getf 8 2 (o_il 1 (o_putf 1 1 (o_al 0 (o_getf 8 2 (o_al 0 (o_getf 8 9 (o_callV 1 1 wX1_goOn (o_iret)))))))))
def BX8_go_29 : q_TT := o_ic (-1000000003) (o_iret)
def BX8_go_11 : q_TT := o_al 0 (o_getf 8 9 (o_al 0 (o_getf 8 2 (o_getf 1 1 (o_il 1 (o_callV 4 2 wX4_leads (o_ifne BX8_go_32 BX8_go_29)))))))
def BX8_go_8 : q_TT := o_ic (-1000000001) (o_iret)
def BX8_go_0 : q_TT := o_al 0 (o_il 1 (o_callV 8 1 wX8_isPlace (o_ifne BX8_go_11 BX8_go_8)))
def TX8_go : Nat → q_TT := fun pc => if pc = 0 then BX8_go_0 else o_no
def wX8_go : q_WT := fun as sh m R => (q_loA as).length ≤ 2 ∧ q_WP TX8_go 0 (q_lo 2 as) [] sh m (q_R0 sh rmX8_go R)
/-! TumblingRock$Rock.knocked(III)I -/
def rmX4_knocked : Room := { frames := 3, cells := 0, slots := 0, locals := 69 }
def BX4_knocked_10 : q_TT := o_ic 0 ((o_cut 11))
def BX4_knocked_6 : q_TT := o_il 3 ((o_cut 11))
def BX4_knocked_0 : q_TT := o_al 0 (o_il 1 (o_il 2 (o_ifne BX4_knocked_10 BX4_knocked_6)))
def BX4_knocked_31 : q_TT := o_callV 4 4 wX4_moved (o_iret)
def BX4_knocked_30 : q_TT := o_ic 0 (BX4_knocked_31)
def BX4_knocked_26 : q_TT := o_il 3 (BX4_knocked_31)
def BX4_knocked_21 : q_TT := o_il 2 (o_ic 2 (o_icne BX4_knocked_30 BX4_knocked_26))
def BX4_knocked_20 : q_TT := o_ic 0 (BX4_knocked_21)
def BX4_knocked_16 : q_TT := o_il 3 (BX4_knocked_21)
def BX4_knocked_11 : q_TT := o_il 2 (o_ic 1 (o_icne BX4_knocked_20 BX4_knocked_16))
def TX4_knocked : Nat → q_TT := fun pc => if pc = 0 then BX4_knocked_0 else if pc = 11 then BX4_knocked_11 else o_no
def wX4_knocked : q_WT := fun as sh m R => (q_loA as).length ≤ 4 ∧ q_WP TX4_knocked 0 (q_lo 4 as) [] sh m (q_R0 sh rmX4_knocked R)
/-! TumblingRock.knock(II)I -/
def rmX8_knock : Room := { frames := 4, cells := 0, slots := 0, locals := 92 }
def BX8_knock_24 : q_TT := o_al 0 (o_getf 8 2 (o_al 0 (o_getf 8 9 (o_al 0 (o_getf 8 2 (o_getf 1 0 (o_il 1 (o_il 2 (o_callV 4 3 wX4_knocked (o_putf 1 0 (o_al 0 (o_getf 8 9 (o_al 0 (o_getf 8 2 (o_getf 1 0 (o_il 1 (o_callV 4 2 wX4_digit (o_iret))))))))))))))))))
def BX8_knock_21 : q_TT := o_ic (-1000000002) (o_iret)
def BX8_knock_11 : q_TT := o_il 2 (o_ic 0 (o_ic 11 (o_call 3 wX8_inside (o_ifne BX8_knock_24 BX8_knock_21))))
def BX8_knock_8 : q_TT := o_ic (-1000000001) (o_iret)
def BX8_knock_0 : q_TT := o_al 0 (o_il 1 (o_callV 8 1 wX8_isTurning (o_ifne BX8_knock_11 BX8_knock_8)))
def TX8_knock : Nat → q_TT := fun pc => if pc = 0 then BX8_knock_0 else o_no
def wX8_knock : q_WT := fun as sh m R => (q_loA as).length ≤ 3 ∧ q_WP TX8_knock 0 (q_lo 3 as) [] sh m (q_R0 sh rmX8_knock R)
/-! TumblingRock$Rock.shove(II)I -/
def rmX4_shove : Room := { frames := 1, cells := 0, slots := 0, locals := 21 }
def BX4_shove_0 : q_TT := o_al 0 (o_getf 4 11 (o_il 1 (o_ic 3 (o_imul (o_il 2 (o_iadd (o_call 2 wX8_at (o_iret))))))))
def TX4_shove : Nat → q_TT := fun pc => if pc = 0 then BX4_shove_0 else o_no
def wX4_shove : q_WT := fun as sh m R => (q_loA as).length ≤ 3 ∧ q_WP TX4_shove 0 (q_lo 3 as) [] sh m (q_R0 sh rmX4_shove R)
/-! TumblingRock$Rock.pushed(II)I -/
def rmX4_pushed : Room := { frames := 3, cells := 0, slots := 0, locals := 69 }
def BX4_pushed_0 : q_TT := o_al 0 (o_il 1 (o_al 0 (o_il 2 (o_ic 0 (o_callV 4 2 wX4_shove (o_al 0 (o_il 2 (o_ic 1 (o_callV 4 2 wX4_shove (o_al 0 (o_il 2 (o_ic 2 (o_callV 4 2 wX4_shove (o_callV 4 4 wX4_moved (o_iret)))))))))))))))
def TX4_pushed : Nat → q_TT := fun pc => if pc = 0 then BX4_pushed_0 else o_no
def wX4_pushed : q_WT := fun as sh m R => (q_loA as).length ≤ 3 ∧ q_WP TX4_pushed 0 (q_lo 3 as) [] sh m (q_R0 sh rmX4_pushed R)
/-! TumblingRock$Rock.shiftedBy(I)I -/
def rmX4_shiftedBy : Room := { frames := 2, cells := 0, slots := 0, locals := 43 }
def BX4_shiftedBy_0 : q_TT := o_ic 0 (o_is 2 (o_ic 0 (o_is 3 ((o_cut 4)))))
def BX4_shiftedBy_38 : q_TT := o_il 2 (o_iret)
def BX4_shiftedBy_32 : q_TT := o_inc 3 1 ((o_cut 4))
def BX4_shiftedBy_29 : q_TT := o_inc 2 1 (BX4_shiftedBy_32)
def BX4_shiftedBy_12 : q_TT := o_al 0 (o_il 1 (o_il 3 (o_callV 4 2 wX4_shove (o_al 0 (o_il 3 (o_callV 4 1 wX4_size (o_call 2 wX8_leftOver (o_ifeq BX4_shiftedBy_32 BX4_shiftedBy_29))))))))
def BX4_shiftedBy_4 : q_TT := o_il 3 (o_al 0 (o_getf 4 0 (o_icge BX4_shiftedBy_38 BX4_shiftedBy_12)))
def TX4_shiftedBy : Nat → q_TT := fun pc => if pc = 0 then BX4_shiftedBy_0 else if pc = 4 then BX4_shiftedBy_4 else o_no
def wX4_shiftedBy : q_WT := fun as sh m R => (q_loA as).length ≤ 4 ∧ q_WP TX4_shiftedBy 0 (q_lo 4 as) [] sh m (q_R0 sh rmX4_shiftedBy R)
/-! TumblingRock.push(I)I -/
def rmX8_push : Room := { frames := 4, cells := 0, slots := 0, locals := 91 }
def BX8_push_20 : q_TT := o_al 0 (o_getf 8 2 (o_al 0 (o_getf 8 9 (o_al 0 (o_getf 8 2 (o_getf 1 0 (o_il 1 (o_callV 4 2 wX4_pushed (o_putf 1 0 (o_al 0 (o_getf 8 9 (o_il 1 (o_callV 4 1 wX4_shiftedBy (o_iret))))))))))))))
def BX8_push_17 : q_TT := o_ic (-1000000001) (o_iret)
def BX8_push_0 : q_TT := o_il 1 (o_ic 0 (o_al 0 (o_getf 8 9 (o_getf 4 3 (o_ic 1 (o_isub (o_call 3 wX8_inside (o_ifne BX8_push_20 BX8_push_17))))))))
def TX8_push : Nat → q_TT := fun pc => if pc = 0 then BX8_push_0 else o_no
def wX8_push : q_WT := fun as sh m R => (q_loA as).length ≤ 2 ∧ q_WP TX8_push 0 (q_lo 2 as) [] sh m (q_R0 sh rmX8_push R)
/-! TumblingRock$Farm.draw(I)I -/
def rmX1_draw : Room := { frames := 1, cells := 0, slots := 0, locals := 21 }
def BX1_draw_0 : q_TT := o_al 0 (o_al 0 (o_getf 1 4 (o_i2l (o_lc 1103515245 (o_lmul (o_lc 12345 (o_ladd (o_lc 2147483647 (o_land (o_l2i (o_putf 1 4 (o_al 0 (o_getf 1 4 (o_ic 65536 (o_idiv (o_il 1 (o_call 2 wX8_leftOver (o_iret))))))))))))))))))
def TX1_draw : Nat → q_TT := fun pc => if pc = 0 then BX1_draw_0 else o_no
def wX1_draw : q_WT := fun as sh m R => (q_loA as).length ≤ 2 ∧ q_WP TX1_draw 0 (q_lo 2 as) [] sh m (q_R0 sh rmX1_draw R)
/-! java/lang/Integer.bitCount(I)I -/
def rmJ6_bitCount_0f7a4 : Room := { frames := 0, cells := 0, slots := 0, locals := 0 }
def BJ6_bitCount_0f7a4_0 : q_TT := o_il 0 (o_il 0 (o_ic 1 (o_iushr (o_ic 1431655765 (o_iand (o_isub (o_is 0 (o_il 0 (o_ic 858993459 (o_iand (o_il 0 (o_ic 2 (o_iushr (o_ic 858993459 (o_iand (o_iadd (o_is 0 (o_il 0 (o_il 0 (o_ic 4 (o_iushr (o_iadd (o_ic 252645135 (o_iand (o_is 0 (o_il 0 (o_il 0 (o_ic 8 (o_iushr (o_iadd (o_is 0 (o_il 0 (o_il 0 (o_ic 16 (o_iushr (o_iadd (o_is 0 (o_il 0 (o_ic 63 (o_iand (o_iret)))))))))))))))))))))))))))))))))))))))))
def TJ6_bitCount_0f7a4 : Nat → q_TT := fun pc => if pc = 0 then BJ6_bitCount_0f7a4_0 else o_no
def wJ6_bitCount_0f7a4 : q_WT := fun as sh m R => (q_loA as).length ≤ 1 ∧ q_WP TJ6_bitCount_0f7a4 0 (q_lo 1 as) [] sh m (q_R0 sh rmJ6_bitCount_0f7a4 R)
/-! TumblingRock.memberAt(II)I -/
def rmX8_memberAt : Room := { frames := 1, cells := 0, slots := 0, locals := 21 }
def BX8_memberAt_0 : q_TT := o_ic 0 (o_is 2 (o_ic 0 (o_is 3 ((o_cut 4)))))
def BX8_memberAt_37 : q_TT := o_ic (-1) (o_iret)
def BX8_memberAt_31 : q_TT := o_inc 3 1 ((o_cut 4))
def BX8_memberAt_28 : q_TT := o_inc 2 1 (BX8_memberAt_31)
def BX8_memberAt_26 : q_TT := o_il 3 (o_iret)
def BX8_memberAt_21 : q_TT := o_il 2 (o_il 1 (o_icne BX8_memberAt_28 BX8_memberAt_26))
def BX8_memberAt_18 : q_TT := BX8_memberAt_31
def BX8_memberAt_10 : q_TT := o_il 0 (o_il 3 (o_call 2 wX8_bit (o_ifne BX8_memberAt_21 BX8_memberAt_18)))
def BX8_memberAt_4 : q_TT := o_il 3 (o_ic 8 (o_icge BX8_memberAt_37 BX8_memberAt_10))
def TX8_memberAt : Nat → q_TT := fun pc => if pc = 0 then BX8_memberAt_0 else if pc = 4 then BX8_memberAt_4 else o_no
def wX8_memberAt : q_WT := fun as sh m R => (q_loA as).length ≤ 4 ∧ q_WP TX8_memberAt 0 (q_lo 4 as) [] sh m (q_R0 sh rmX8_memberAt R)
/-! TumblingRock$Farm.goByDraw(I)V -/
def rmX1_goByDraw : Room := { frames := 2, cells := 0, slots := 0, locals := 44 }
def BX1_goByDraw_5 : q_TT := o_al 0 (o_il 1 (o_al 0 (o_il 1 (o_call 1 wJ6_bitCount_0f7a4 (o_callV 1 1 wX1_draw (o_call 2 wX8_memberAt (o_putf 1 1 (o_vret))))))))
def BX1_goByDraw_4 : q_TT := o_vret
def BX1_goByDraw_0 : q_TT := o_il 1 (o_ifne BX1_goByDraw_5 BX1_goByDraw_4)
def TX1_goByDraw : Nat → q_TT := fun pc => if pc = 0 then BX1_goByDraw_0 else o_no
def wX1_goByDraw : q_WT := fun as sh m R => (q_loA as).length ≤ 2 ∧ q_WP TX1_goByDraw 0 (q_lo 2 as) [] sh m (q_R0 sh rmX1_goByDraw R)
/-! TumblingRock$Farm.goByDraws(LTumblingRock$Rock;)I -/
def rmX1_goByDraws : Room := { frames := 4, cells := 0, slots := 0, locals := 92 }
def BX1_goByDraws_55 : q_TT := o_al 0 (o_al 1 (o_callV 1 1 wX1_goOn (o_iret)))
def BX1_goByDraws_43 : q_TT := o_al 0 (o_al 1 (o_al 0 (o_getf 1 1 (o_callV 4 1 wX4_road (o_callV 1 1 wX1_goByDraw (BX1_goByDraws_55))))))
def BX1_goByDraws_9 : q_TT := o_al 0 (o_al 1 (o_getf 4 0 (o_callV 1 1 wX1_draw (o_is 2 (o_al 0 (o_al 1 (o_al 0 (o_getf 1 0 (o_il 2 (o_al 0 (o_al 1 (o_il 2 (o_callV 4 1 wX4_size (o_callV 1 1 wX1_draw (o_callV 4 3 wX4_knocked (o_putf 1 0 (BX1_goByDraws_55)))))))))))))))))
def BX1_goByDraws_0 : q_TT := o_al 0 (o_ic 8 (o_callV 1 1 wX1_draw (o_ifne BX1_goByDraws_43 BX1_goByDraws_9)))
def TX1_goByDraws : Nat → q_TT := fun pc => if pc = 0 then BX1_goByDraws_0 else o_no
def wX1_goByDraws : q_WT := fun as sh m R => (q_loA as).length ≤ 3 ∧ q_WP TX1_goByDraws 0 (q_lo 3 as) [] sh m (q_R0 sh rmX1_goByDraws R)
/-! TumblingRock.drift(I)I -/
def rmX8_drift : Room := { frames := 5, cells := 0, slots := 0, locals := 114 }
def BX8_drift_33 : q_TT := o_ic (-1000000003) (o_iret)
def BX8_drift_36 : q_TT := o_ic 0 (o_is 2 (o_ic 0 (o_is 3 ((o_cut 40)))))
def BX8_drift_23 : q_TT := o_al 0 (o_getf 8 9 (o_getf 4 1 (o_ifne BX8_drift_36 BX8_drift_33)))
def BX8_drift_13 : q_TT := o_al 0 (o_getf 8 9 (o_getf 4 0 (o_ifeq BX8_drift_33 BX8_drift_23)))
def BX8_drift_10 : q_TT := o_ic (-1000000002) (o_iret)
def BX8_drift_0 : q_TT := o_il 1 (o_ic 1 (o_ic 99 (o_call 3 wX8_inside (o_ifne BX8_drift_13 BX8_drift_10))))
def BX8_drift_65 : q_TT := o_il 2 (o_iret)
def BX8_drift_45 : q_TT := o_il 2 (o_al 0 (o_getf 8 2 (o_al 0 (o_getf 8 9 (o_callV 1 1 wX1_goByDraws (o_iadd (o_is 2 (o_inc 3 1 ((o_cut 40))))))))))
def BX8_drift_40 : q_TT := o_il 3 (o_il 1 (o_icge BX8_drift_65 BX8_drift_45))
def TX8_drift : Nat → q_TT := fun pc => if pc = 0 then BX8_drift_0 else if pc = 40 then BX8_drift_40 else o_no
def wX8_drift : q_WT := fun as sh m R => (q_loA as).length ≤ 4 ∧ q_WP TX8_drift 0 (q_lo 4 as) [] sh m (q_R0 sh rmX8_drift R)
/-! TumblingRock$Rock.stepsTillLit(II)I -/
def rmX4_stepsTillLit : Room := { frames := 3, cells := 0, slots := 0, locals := 64 }
def BX4_stepsTillLit_0 : q_TT := o_il 2 (o_is 3 (o_ic 0 (o_is 4 ((o_cut 5)))))
def BX4_stepsTillLit_39 : q_TT := o_ic (-1) (o_iret)
def BX4_stepsTillLit_27 : q_TT := o_al 0 (o_il 3 (o_callV 4 1 wX4_stepLater (o_is 3 (o_inc 4 1 ((o_cut 5))))))
def BX4_stepsTillLit_24 : q_TT := o_il 4 (o_iret)
def BX4_stepsTillLit_14 : q_TT := o_al 0 (o_il 1 (o_il 3 (o_callV 4 2 wX4_litBit (o_ic 1 (o_icne BX4_stepsTillLit_27 BX4_stepsTillLit_24)))))
def BX4_stepsTillLit_5 : q_TT := o_il 4 (o_al 0 (o_getf 4 5 (o_icge BX4_stepsTillLit_39 BX4_stepsTillLit_14)))
def TX4_stepsTillLit : Nat → q_TT := fun pc => if pc = 0 then BX4_stepsTillLit_0 else if pc = 5 then BX4_stepsTillLit_5 else o_no
def wX4_stepsTillLit : q_WT := fun as sh m R => (q_loA as).length ≤ 5 ∧ q_WP TX4_stepsTillLit 0 (q_lo 5 as) [] sh m (q_R0 sh rmX4_stepsTillLit R)
/-! TumblingRock$Rock.stepsOfLight(II)I -/
def rmX4_stepsOfLight : Room := { frames := 4, cells := 0, slots := 0, locals := 88 }
def BX4_stepsOfLight_14 : q_TT := o_al 0 (o_il 2 (o_il 3 (o_il 3 (o_il 3 (o_callV 4 4 wX4_moved (o_is 4 (o_ic 0 (o_is 5 ((o_cut 27))))))))))
def BX4_stepsOfLight_12 : q_TT := o_ic (-1) (o_iret)
def BX4_stepsOfLight_0 : q_TT := o_al 0 (o_il 1 (o_il 2 (o_callV 4 2 wX4_stepsTillLit (o_is 3 (o_il 3 (o_ic (-1) (o_icne BX4_stepsOfLight_14 BX4_stepsOfLight_12)))))))
def BX4_stepsOfLight_63 : q_TT := o_al 0 (o_getf 4 5 (o_iret))
def BX4_stepsOfLight_49 : q_TT := o_al 0 (o_il 4 (o_callV 4 1 wX4_stepLater (o_is 4 (o_inc 5 1 ((o_cut 27))))))
def BX4_stepsOfLight_46 : q_TT := o_il 5 (o_iret)
def BX4_stepsOfLight_36 : q_TT := o_al 0 (o_il 1 (o_il 4 (o_callV 4 2 wX4_litBit (o_ifne BX4_stepsOfLight_49 BX4_stepsOfLight_46))))
def BX4_stepsOfLight_27 : q_TT := o_il 5 (o_al 0 (o_getf 4 5 (o_icge BX4_stepsOfLight_63 BX4_stepsOfLight_36)))
def TX4_stepsOfLight : Nat → q_TT := fun pc => if pc = 0 then BX4_stepsOfLight_0 else if pc = 27 then BX4_stepsOfLight_27 else o_no
def wX4_stepsOfLight : q_WT := fun as sh m R => (q_loA as).length ≤ 6 ∧ q_WP TX4_stepsOfLight 0 (q_lo 6 as) [] sh m (q_R0 sh rmX4_stepsOfLight R)
/-! TumblingRock.next(III)I -/
def rmX8_next : Room := { frames := 5, cells := 0, slots := 0, locals := 113 }
def BX8_next_27 : q_TT := o_ic (-1000000002) (o_iret)
def BX8_next_64 : q_TT := o_iret
def BX8_next_54 : q_TT := o_al 0 (o_getf 8 9 (o_il 1 (o_il 4 (o_callV 4 2 wX4_stepsOfLight (BX8_next_64)))))
def BX8_next_41 : q_TT := o_al 0 (o_getf 8 9 (o_il 1 (o_il 4 (o_callV 4 2 wX4_stepsTillLit (BX8_next_64)))))
def BX8_next_30 : q_TT := o_al 0 (o_il 2 (o_callV 8 1 wX8_standingAt (o_is 4 (o_il 3 (o_ifne BX8_next_54 BX8_next_41)))))
def BX8_next_18 : q_TT := o_il 3 (o_ic 0 (o_ic 1 (o_call 3 wX8_inside (o_ifne BX8_next_30 BX8_next_27))))
def BX8_next_11 : q_TT := o_il 2 (o_call 1 wX8_isStep (o_ifeq BX8_next_27 BX8_next_18))
def BX8_next_8 : q_TT := o_ic (-1000000001) (o_iret)
def BX8_next_0 : q_TT := o_al 0 (o_il 1 (o_callV 8 1 wX8_isPlace (o_ifne BX8_next_11 BX8_next_8)))
def TX8_next : Nat → q_TT := fun pc => if pc = 0 then BX8_next_0 else o_no
def wX8_next : q_WT := fun as sh m R => (q_loA as).length ≤ 5 ∧ q_WP TX8_next 0 (q_lo 5 as) [] sh m (q_R0 sh rmX8_next R)
/-! TumblingRock.commonDivisor(II)I -/
def rmX8_commonDivisor : Room := { frames := 1, cells := 0, slots := 0, locals := 21 }
def BX8_commonDivisor_0 : q_TT := o_il 0 (o_il 1 (o_mmax (o_is 2 ((o_cut 6)))))
def BX8_commonDivisor_31 : q_TT := o_ic 1 (o_iret)
def BX8_commonDivisor_25 : q_TT := o_inc 2 (-1) ((o_cut 6))
def BX8_commonDivisor_23 : q_TT := o_il 2 (o_iret)
def BX8_commonDivisor_17 : q_TT := o_il 1 (o_il 2 (o_irem (o_ifne BX8_commonDivisor_25 BX8_commonDivisor_23)))
def BX8_commonDivisor_11 : q_TT := o_il 0 (o_il 2 (o_irem (o_ifne BX8_commonDivisor_25 BX8_commonDivisor_17)))
def BX8_commonDivisor_6 : q_TT := o_il 2 (o_ic 1 (o_icle BX8_commonDivisor_31 BX8_commonDivisor_11))
def TX8_commonDivisor : Nat → q_TT := fun pc => if pc = 0 then BX8_commonDivisor_0 else if pc = 6 then BX8_commonDivisor_6 else o_no
def wX8_commonDivisor : q_WT := fun as sh m R => (q_loA as).length ≤ 3 ∧ q_WP TX8_commonDivisor 0 (q_lo 3 as) [] sh m (q_R0 sh rmX8_commonDivisor R)
/-! TumblingRock.share(II)I -/
def rmX8_share : Room := { frames := 4, cells := 0, slots := 0, locals := 89 }
def BX8_share_75 : q_TT := o_il 4 (o_idiv (o_iret))
def BX8_share_68 : q_TT := o_al 0 (o_getf 8 9 (o_getf 4 5 (BX8_share_75)))
def BX8_share_64 : q_TT := o_il 3 (BX8_share_75)
def BX8_share_60 : q_TT := o_il 2 (o_ifne BX8_share_68 BX8_share_64)
def BX8_share_58 : q_TT := o_ic 0 (o_iret)
def BX8_share_23 : q_TT := o_al 0 (o_getf 8 9 (o_il 1 (o_al 0 (o_getf 8 2 (o_getf 1 0 (o_callV 4 2 wX4_litSteps (o_is 3 (o_il 3 (o_al 0 (o_getf 8 9 (o_getf 4 5 (o_call 2 wX8_commonDivisor (o_is 4 (o_il 4 (o_ic 1 (o_icge BX8_share_60 BX8_share_58))))))))))))))))
def BX8_share_20 : q_TT := o_ic (-1000000002) (o_iret)
def BX8_share_11 : q_TT := o_il 2 (o_ic 0 (o_ic 1 (o_call 3 wX8_inside (o_ifne BX8_share_23 BX8_share_20))))
def BX8_share_8 : q_TT := o_ic (-1000000001) (o_iret)
def BX8_share_0 : q_TT := o_al 0 (o_il 1 (o_callV 8 1 wX8_isPlace (o_ifne BX8_share_11 BX8_share_8)))
def TX8_share : Nat → q_TT := fun pc => if pc = 0 then BX8_share_0 else o_no
def wX8_share : q_WT := fun as sh m R => (q_loA as).length ≤ 5 ∧ q_WP TX8_share 0 (q_lo 5 as) [] sh m (q_R0 sh rmX8_share R)
/-! TumblingRock.areShifts(III)Z -/
def rmX8_areShifts : Room := { frames := 1, cells := 0, slots := 0, locals := 22 }
def BX8_areShifts_35 : q_TT := o_zret
def BX8_areShifts_34 : q_TT := o_ic 0 (BX8_areShifts_35)
def BX8_areShifts_30 : q_TT := o_ic 1 (BX8_areShifts_35)
def BX8_areShifts_20 : q_TT := o_il 2 (o_ic 0 (o_ic 11 (o_call 3 wX8_inside (o_ifeq BX8_areShifts_34 BX8_areShifts_30))))
def BX8_areShifts_10 : q_TT := o_il 1 (o_ic 0 (o_ic 11 (o_call 3 wX8_inside (o_ifeq BX8_areShifts_34 BX8_areShifts_20))))
def BX8_areShifts_0 : q_TT := o_il 0 (o_ic 0 (o_ic 11 (o_call 3 wX8_inside (o_ifeq BX8_areShifts_34 BX8_areShifts_10))))
def TX8_areShifts : Nat → q_TT := fun pc => if pc = 0 then BX8_areShifts_0 else o_no
def wX8_areShifts : q_WT := fun as sh m R => (q_loA as).length ≤ 3 ∧ q_WP TX8_areShifts 0 (q_lo 3 as) [] sh m (q_R0 sh rmX8_areShifts R)
/-! TumblingRock$Rock.canStand(II)Z -/
def rmX4_canStand : Room := { frames := 2, cells := 0, slots := 0, locals := 42 }
def BX4_canStand_22 : q_TT := o_zret
def BX4_canStand_17 : q_TT := o_ic 1 (BX4_canStand_22)
def BX4_canStand_21 : q_TT := o_ic 0 (BX4_canStand_22)
def BX4_canStand_8 : q_TT := o_il 2 (o_al 0 (o_il 1 (o_callV 4 1 wX4_size (o_icge BX4_canStand_21 BX4_canStand_17))))
def BX4_canStand_0 : q_TT := o_il 1 (o_al 0 (o_getf 4 0 (o_icge BX4_canStand_17 BX4_canStand_8)))
def TX4_canStand : Nat → q_TT := fun pc => if pc = 0 then BX4_canStand_0 else o_no
def wX4_canStand : q_WT := fun as sh m R => (q_loA as).length ≤ 3 ∧ q_WP TX4_canStand 0 (q_lo 3 as) [] sh m (q_R0 sh rmX4_canStand R)
/-! TumblingRock$Rock.standingOf(III)I -/
def rmX4_standingOf : Room := { frames := 3, cells := 0, slots := 0, locals := 69 }
def BX4_standingOf_27 : q_TT := o_ic (-1) (o_iret)
def BX4_standingOf_29 : q_TT := o_al 0 (o_ic 0 (o_il 1 (o_il 2 (o_il 3 (o_callV 4 4 wX4_moved (o_iret))))))
def BX4_standingOf_18 : q_TT := o_al 0 (o_ic 2 (o_il 3 (o_callV 4 2 wX4_canStand (o_ifne BX4_standingOf_29 BX4_standingOf_27))))
def BX4_standingOf_9 : q_TT := o_al 0 (o_ic 1 (o_il 2 (o_callV 4 2 wX4_canStand (o_ifeq BX4_standingOf_27 BX4_standingOf_18))))
def BX4_standingOf_0 : q_TT := o_al 0 (o_ic 0 (o_il 1 (o_callV 4 2 wX4_canStand (o_ifeq BX4_standingOf_27 BX4_standingOf_9))))
def TX4_standingOf : Nat → q_TT := fun pc => if pc = 0 then BX4_standingOf_0 else o_no
def wX4_standingOf : q_WT := fun as sh m R => (q_loA as).length ≤ 4 ∧ q_WP TX4_standingOf 0 (q_lo 4 as) [] sh m (q_R0 sh rmX4_standingOf R)
/-! TumblingRock$Rock.stepsTillStanding(II)I -/
def rmX4_stepsTillStanding : Room := { frames := 2, cells := 0, slots := 0, locals := 42 }
def BX4_stepsTillStanding_0 : q_TT := o_il 1 (o_is 3 (o_ic 0 (o_is 4 ((o_cut 5)))))
def BX4_stepsTillStanding_34 : q_TT := o_ic (-1) (o_iret)
def BX4_stepsTillStanding_22 : q_TT := o_al 0 (o_il 3 (o_callV 4 1 wX4_stepLater (o_is 3 (o_inc 4 1 ((o_cut 5))))))
def BX4_stepsTillStanding_19 : q_TT := o_il 4 (o_iret)
def BX4_stepsTillStanding_14 : q_TT := o_il 3 (o_il 2 (o_icne BX4_stepsTillStanding_22 BX4_stepsTillStanding_19))
def BX4_stepsTillStanding_5 : q_TT := o_il 4 (o_al 0 (o_getf 4 5 (o_icge BX4_stepsTillStanding_34 BX4_stepsTillStanding_14)))
def TX4_stepsTillStanding : Nat → q_TT := fun pc => if pc = 0 then BX4_stepsTillStanding_0 else if pc = 5 then BX4_stepsTillStanding_5 else o_no
def wX4_stepsTillStanding : q_WT := fun as sh m R => (q_loA as).length ≤ 5 ∧ q_WP TX4_stepsTillStanding 0 (q_lo 5 as) [] sh m (q_R0 sh rmX4_stepsTillStanding R)
/-! TumblingRock.stand(IIII)I -/
def rmX8_stand : Room := { frames := 4, cells := 0, slots := 0, locals := 92 }
def BX8_stand_17 : q_TT := o_ic (-1000000002) (o_iret)
def BX8_stand_60 : q_TT := o_iret
def BX8_stand_55 : q_TT := o_il 4 (o_il 5 (o_iadd (BX8_stand_60)))
def BX8_stand_51 : q_TT := o_ic (-1) (BX8_stand_60)
def BX8_stand_20 : q_TT := o_al 0 (o_getf 8 9 (o_al 0 (o_il 4 (o_callV 8 1 wX8_standingAt (o_al 0 (o_getf 8 9 (o_il 1 (o_il 2 (o_il 3 (o_callV 4 3 wX4_standingOf (o_callV 4 2 wX4_stepsTillStanding (o_is 5 (o_il 5 (o_ic (-1) (o_icne BX8_stand_55 BX8_stand_51)))))))))))))))
def BX8_stand_9 : q_TT := o_il 4 (o_call 1 wX8_isStep (o_ifne BX8_stand_20 BX8_stand_17))
def BX8_stand_0 : q_TT := o_il 1 (o_il 2 (o_il 3 (o_call 3 wX8_areShifts (o_ifeq BX8_stand_17 BX8_stand_9))))
def TX8_stand : Nat → q_TT := fun pc => if pc = 0 then BX8_stand_0 else o_no
def wX8_stand : q_WT := fun as sh m R => (q_loA as).length ≤ 6 ∧ q_WP TX8_stand 0 (q_lo 6 as) [] sh m (q_R0 sh rmX8_stand R)
/-! TumblingRock$Route.mostLight(II)I -/
def rmX5_mostLight : Room := { frames := 1, cells := 0, slots := 0, locals := 21 }
def BX5_mostLight_0 : q_TT := o_al 0 (o_getf 5 0 (o_il 1 (o_ic 8 (o_imul (o_il 2 (o_iadd (o_call 2 wX8_at (o_iret))))))))
def TX5_mostLight : Nat → q_TT := fun pc => if pc = 0 then BX5_mostLight_0 else o_no
def wX5_mostLight : q_WT := fun as sh m R => (q_loA as).length ≤ 3 ∧ q_WP TX5_mostLight 0 (q_lo 3 as) [] sh m (q_R0 sh rmX5_mostLight R)
/-! TumblingRock$Route.lightBy(II)I -/
def rmX5_lightBy : Room := { frames := 2, cells := 0, slots := 0, locals := 43 }
def BX5_lightBy_0 : q_TT := o_al 0 (o_getf 5 1 (o_il 1 (o_ic 1 (o_iadd (o_call 2 wX8_at (o_il 2 (o_call 2 wX8_bit (o_al 0 (o_il 1 (o_ic 1 (o_iadd (o_il 2 (o_callV 5 2 wX5_mostLight (o_iadd (o_iret)))))))))))))))
def TX5_lightBy : Nat → q_TT := fun pc => if pc = 0 then BX5_lightBy_0 else o_no
def wX5_lightBy : q_WT := fun as sh m R => (q_loA as).length ≤ 3 ∧ q_WP TX5_lightBy 0 (q_lo 3 as) [] sh m (q_R0 sh rmX5_lightBy R)
/-! TumblingRock$Route.bestFrom(LTumblingRock$Rock;II)I -/
def rmX5_bestFrom : Room := { frames := 3, cells := 0, slots := 0, locals := 65 }
def BX5_bestFrom_0 : q_TT := o_ic 0 (o_is 4 (o_al 1 (o_il 3 (o_callV 4 1 wX4_road (o_ic 1 (o_il 3 (o_ishl (o_ior (o_is 5 (o_ic 0 (o_is 6 ((o_cut 17)))))))))))))
def BX5_bestFrom_57 : q_TT := o_il 4 (o_iret)
def BX5_bestFrom_51 : q_TT := o_inc 6 1 ((o_cut 17))
def BX5_bestFrom_37 : q_TT := o_il 4 (o_al 0 (o_il 2 (o_il 6 (o_callV 5 2 wX5_lightBy (o_mmax (o_is 4 (BX5_bestFrom_51)))))))
def BX5_bestFrom_26 : q_TT := o_il 5 (o_il 6 (o_call 2 wX8_bit (o_ic 1 (o_icne BX5_bestFrom_51 BX5_bestFrom_37))))
def BX5_bestFrom_17 : q_TT := o_il 6 (o_al 1 (o_getf 4 1 (o_icge BX5_bestFrom_57 BX5_bestFrom_26)))
def TX5_bestFrom : Nat → q_TT := fun pc => if pc = 0 then BX5_bestFrom_0 else if pc = 17 then BX5_bestFrom_17 else o_no
def wX5_bestFrom : q_WT := fun as sh m R => (q_loA as).length ≤ 7 ∧ q_WP TX5_bestFrom 0 (q_lo 7 as) [] sh m (q_R0 sh rmX5_bestFrom R)
/-! TumblingRock$Route.weigh(LTumblingRock$Rock;II)V -/
def rmX5_weigh : Room := { frames := 4, cells := 0, slots := 0, locals := 91 }
def BX5_weigh_0 : q_TT := o_il 2 (o_is 4 (o_ic 0 (o_is 5 ((o_cut 6)))))
def BX5_weigh_41 : q_TT := o_ic 0 (o_is 5 ((o_cut 44)))
def BX5_weigh_12 : q_TT := o_al 0 (o_getf 5 1 (o_il 5 (o_al 1 (o_il 4 (o_callV 4 1 wX4_litSet (o_call 3 wX8_put (o_al 1 (o_il 4 (o_callV 4 1 wX4_stepLater (o_is 4 (o_inc 5 1 ((o_cut 6)))))))))))))
def BX5_weigh_6 : q_TT := o_il 5 (o_il 3 (o_icgt BX5_weigh_41 BX5_weigh_12))
def BX5_weigh_72 : q_TT := o_il 3 (o_ic 1 (o_isub (o_is 5 ((o_cut 77)))))
def BX5_weigh_51 : q_TT := o_al 0 (o_getf 5 0 (o_il 3 (o_ic 8 (o_imul (o_il 5 (o_iadd (o_ic 0 (o_call 3 wX8_put (o_inc 5 1 ((o_cut 44)))))))))))
def BX5_weigh_44 : q_TT := o_il 5 (o_ic 8 (o_icge BX5_weigh_72 BX5_weigh_51))
def BX5_weigh_130 : q_TT := o_vret
def BX5_weigh_82 : q_TT := o_ic 0 (o_is 6 ((o_cut 85)))
def BX5_weigh_77 : q_TT := o_il 5 (o_iflt BX5_weigh_130 BX5_weigh_82)
def BX5_weigh_124 : q_TT := o_inc 5 (-1) ((o_cut 77))
def BX5_weigh_94 : q_TT := o_al 0 (o_getf 5 0 (o_il 5 (o_ic 8 (o_imul (o_il 6 (o_iadd (o_al 0 (o_al 1 (o_il 5 (o_il 6 (o_callV 5 3 wX5_bestFrom (o_call 3 wX8_put (o_inc 6 1 ((o_cut 85)))))))))))))))
def BX5_weigh_85 : q_TT := o_il 6 (o_al 1 (o_getf 4 1 (o_icge BX5_weigh_124 BX5_weigh_94)))
def TX5_weigh : Nat → q_TT := fun pc => if pc = 0 then BX5_weigh_0 else if pc = 6 then BX5_weigh_6 else if pc = 44 then BX5_weigh_44 else if pc = 77 then BX5_weigh_77 else if pc = 85 then BX5_weigh_85 else o_no
def wX5_weigh : q_WT := fun as sh m R => (q_loA as).length ≤ 7 ∧ q_WP TX5_weigh 0 (q_lo 7 as) [] sh m (q_R0 sh rmX5_weigh R)
/-! TumblingRock$Route.leastGood(LTumblingRock$Rock;II)I -/
def rmX5_leastGood : Room := { frames := 3, cells := 0, slots := 0, locals := 65 }
def BX5_leastGood_0 : q_TT := o_al 1 (o_il 3 (o_callV 4 1 wX4_road (o_ic 1 (o_il 3 (o_ishl (o_ior (o_is 4 (o_ic 0 (o_is 5 ((o_cut 14)))))))))))
def BX5_leastGood_59 : q_TT := o_il 3 (o_iret)
def BX5_leastGood_53 : q_TT := o_inc 5 1 ((o_cut 14))
def BX5_leastGood_50 : q_TT := o_il 5 (o_iret)
def BX5_leastGood_34 : q_TT := o_al 0 (o_il 2 (o_il 5 (o_callV 5 2 wX5_lightBy (o_al 0 (o_il 2 (o_il 3 (o_callV 5 2 wX5_mostLight (o_icne BX5_leastGood_53 BX5_leastGood_50))))))))
def BX5_leastGood_23 : q_TT := o_il 4 (o_il 5 (o_call 2 wX8_bit (o_ic 1 (o_icne BX5_leastGood_53 BX5_leastGood_34))))
def BX5_leastGood_14 : q_TT := o_il 5 (o_al 1 (o_getf 4 1 (o_icge BX5_leastGood_59 BX5_leastGood_23)))
def TX5_leastGood : Nat → q_TT := fun pc => if pc = 0 then BX5_leastGood_0 else if pc = 14 then BX5_leastGood_14 else o_no
def wX5_leastGood : q_WT := fun as sh m R => (q_loA as).length ≤ 6 ∧ q_WP TX5_leastGood 0 (q_lo 6 as) [] sh m (q_R0 sh rmX5_leastGood R)
/-! TumblingRock$Route.placeBehind(LTumblingRock$Rock;II)I -/
def rmX5_placeBehind : Room := { frames := 4, cells := 0, slots := 0, locals := 90 }
def BX5_placeBehind_0 : q_TT := o_il 2 (o_is 4 (o_ic 0 (o_is 5 ((o_cut 6)))))
def BX5_placeBehind_29 : q_TT := o_il 4 (o_iret)
def BX5_placeBehind_12 : q_TT := o_al 0 (o_al 1 (o_il 5 (o_il 4 (o_callV 5 3 wX5_leastGood (o_is 4 (o_inc 5 1 ((o_cut 6))))))))
def BX5_placeBehind_6 : q_TT := o_il 5 (o_il 3 (o_icge BX5_placeBehind_29 BX5_placeBehind_12))
def TX5_placeBehind : Nat → q_TT := fun pc => if pc = 0 then BX5_placeBehind_0 else if pc = 6 then BX5_placeBehind_6 else o_no
def wX5_placeBehind : q_WT := fun as sh m R => (q_loA as).length ≤ 6 ∧ q_WP TX5_placeBehind 0 (q_lo 6 as) [] sh m (q_R0 sh rmX5_placeBehind R)
/-! TumblingRock.way(IIII)I -/
def rmX8_way : Room := { frames := 5, cells := 0, slots := 0, locals := 117 }
def BX8_way_38 : q_TT := o_ic (-1000000002) (o_iret)
def BX8_way_90 : q_TT := o_iret
def BX8_way_76 : q_TT := o_al 0 (o_getf 8 6 (o_al 0 (o_getf 8 9 (o_il 1 (o_il 4 (o_callV 5 3 wX5_placeBehind (BX8_way_90)))))))
def BX8_way_64 : q_TT := o_al 0 (o_getf 8 6 (o_ic 0 (o_il 1 (o_callV 5 2 wX5_mostLight (BX8_way_90)))))
def BX8_way_41 : q_TT := o_al 0 (o_getf 8 6 (o_al 0 (o_getf 8 9 (o_al 0 (o_il 2 (o_callV 8 1 wX8_standingAt (o_il 3 (o_callV 5 3 wX5_weigh (o_il 4 (o_ic (-1) (o_icne BX8_way_76 BX8_way_64)))))))))))
def BX8_way_28 : q_TT := o_il 4 (o_ic (-1) (o_il 3 (o_call 3 wX8_inside (o_ifne BX8_way_41 BX8_way_38))))
def BX8_way_18 : q_TT := o_il 3 (o_ic 1 (o_ic 40 (o_call 3 wX8_inside (o_ifeq BX8_way_38 BX8_way_28))))
def BX8_way_11 : q_TT := o_il 2 (o_call 1 wX8_isStep (o_ifeq BX8_way_38 BX8_way_18))
def BX8_way_8 : q_TT := o_ic (-1000000001) (o_iret)
def BX8_way_0 : q_TT := o_al 0 (o_il 1 (o_callV 8 1 wX8_isPlace (o_ifne BX8_way_11 BX8_way_8)))
def TX8_way : Nat → q_TT := fun pc => if pc = 0 then BX8_way_0 else o_no
def wX8_way : q_WT := fun as sh m R => (q_loA as).length ≤ 5 ∧ q_WP TX8_way 0 (q_lo 5 as) [] sh m (q_R0 sh rmX8_way R)
/-! TumblingRock$Route.spread(LTumblingRock$Rock;I)I -/
def rmX5_spread : Room := { frames := 2, cells := 0, slots := 0, locals := 42 }
def BX5_spread_0 : q_TT := o_il 2 (o_is 3 (o_ic 0 (o_is 4 ((o_cut 5)))))
def BX5_spread_39 : q_TT := o_il 3 (o_iret)
def BX5_spread_33 : q_TT := o_inc 4 1 ((o_cut 5))
def BX5_spread_24 : q_TT := o_il 3 (o_al 1 (o_il 4 (o_callV 4 1 wX4_road (o_ior (o_is 3 (BX5_spread_33))))))
def BX5_spread_14 : q_TT := o_il 2 (o_il 4 (o_call 2 wX8_bit (o_ic 1 (o_icne BX5_spread_33 BX5_spread_24))))
def BX5_spread_5 : q_TT := o_il 4 (o_al 1 (o_getf 4 1 (o_icge BX5_spread_39 BX5_spread_14)))
def TX5_spread : Nat → q_TT := fun pc => if pc = 0 then BX5_spread_0 else if pc = 5 then BX5_spread_5 else o_no
def wX5_spread : q_WT := fun as sh m R => (q_loA as).length ≤ 5 ∧ q_WP TX5_spread 0 (q_lo 5 as) [] sh m (q_R0 sh rmX5_spread R)
/-! TumblingRock$Route.fewestLitSteps(LTumblingRock$Rock;III)I -/
def rmX5_fewestLitSteps : Room := { frames := 3, cells := 0, slots := 0, locals := 66 }
def BX5_fewestLitSteps_0 : q_TT := o_il 4 (o_is 5 (o_ic 1 (o_il 2 (o_ishl (o_al 1 (o_il 5 (o_callV 4 1 wX4_litSet (o_iand (o_is 6 (o_ic 0 (o_is 7 ((o_cut 19)))))))))))))
def BX5_fewestLitSteps_79 : q_TT := o_ic (-1) (o_iret)
def BX5_fewestLitSteps_49 : q_TT := o_al 1 (o_il 5 (o_callV 4 1 wX4_stepLater (o_is 5 (o_al 0 (o_al 1 (o_il 6 (o_callV 5 2 wX5_spread (o_al 1 (o_il 5 (o_callV 4 1 wX4_litSet (o_iand (o_is 6 (o_inc 7 1 ((o_cut 19)))))))))))))))
def BX5_fewestLitSteps_46 : q_TT := o_il 7 (o_iret)
def BX5_fewestLitSteps_36 : q_TT := o_il 6 (o_il 3 (o_call 2 wX8_bit (o_ic 1 (o_icne BX5_fewestLitSteps_49 BX5_fewestLitSteps_46))))
def BX5_fewestLitSteps_31 : q_TT := o_il 6 (o_ifeq BX5_fewestLitSteps_79 BX5_fewestLitSteps_36)
def BX5_fewestLitSteps_19 : q_TT := o_il 7 (o_ic 8 (o_al 1 (o_getf 4 5 (o_imul (o_icge BX5_fewestLitSteps_79 BX5_fewestLitSteps_31)))))
def TX5_fewestLitSteps : Nat → q_TT := fun pc => if pc = 0 then BX5_fewestLitSteps_0 else if pc = 19 then BX5_fewestLitSteps_19 else o_no
def wX5_fewestLitSteps : q_WT := fun as sh m R => (q_loA as).length ≤ 8 ∧ q_WP TX5_fewestLitSteps 0 (q_lo 8 as) [] sh m (q_R0 sh rmX5_fewestLitSteps R)
/-! TumblingRock.mail(III)I -/
def rmX8_mail : Room := { frames := 4, cells := 0, slots := 0, locals := 93 }
def BX8_mail_16 : q_TT := o_ic (-1000000001) (o_iret)
def BX8_mail_29 : q_TT := o_al 0 (o_getf 8 6 (o_al 0 (o_getf 8 9 (o_il 1 (o_il 2 (o_al 0 (o_il 3 (o_callV 8 1 wX8_standingAt (o_callV 5 4 wX5_fewestLitSteps (o_iret))))))))))
def BX8_mail_26 : q_TT := o_ic (-1000000002) (o_iret)
def BX8_mail_19 : q_TT := o_il 3 (o_call 1 wX8_isStep (o_ifne BX8_mail_29 BX8_mail_26))
def BX8_mail_8 : q_TT := o_al 0 (o_il 2 (o_callV 8 1 wX8_isPlace (o_ifne BX8_mail_19 BX8_mail_16)))
def BX8_mail_0 : q_TT := o_al 0 (o_il 1 (o_callV 8 1 wX8_isPlace (o_ifeq BX8_mail_16 BX8_mail_8)))
def TX8_mail : Nat → q_TT := fun pc => if pc = 0 then BX8_mail_0 else o_no
def wX8_mail : q_WT := fun as sh m R => (q_loA as).length ≤ 4 ∧ q_WP TX8_mail 0 (q_lo 4 as) [] sh m (q_R0 sh rmX8_mail R)
/-! TumblingRock$Rock.stepsTillCross(III)I -/
def rmX4_stepsTillCross : Room := { frames := 3, cells := 0, slots := 0, locals := 68 }
def BX4_stepsTillCross_0 : q_TT := o_il 3 (o_is 4 (o_ic 0 (o_is 5 ((o_cut 6)))))
def BX4_stepsTillCross_83 : q_TT := o_ic (-1) (o_iret)
def BX4_stepsTillCross_41 : q_TT := o_ic 0 ((o_cut 42))
def BX4_stepsTillCross_37 : q_TT := o_ic 1 ((o_cut 42))
def BX4_stepsTillCross_26 : q_TT := o_al 0 (o_il 2 (o_il 4 (o_callV 4 2 wX4_litBit (o_ic 1 (o_icne BX4_stepsTillCross_41 BX4_stepsTillCross_37)))))
def BX4_stepsTillCross_15 : q_TT := o_al 0 (o_il 1 (o_il 4 (o_callV 4 2 wX4_litBit (o_ic 1 (o_icne BX4_stepsTillCross_41 BX4_stepsTillCross_26)))))
def BX4_stepsTillCross_6 : q_TT := o_il 5 (o_al 0 (o_getf 4 5 (o_icge BX4_stepsTillCross_83 BX4_stepsTillCross_15)))
def BX4_stepsTillCross_69 : q_TT := o_al 0 (o_il 4 (o_callV 4 1 wX4_stepLater (o_is 4 (o_inc 5 1 ((o_cut 6))))))
def BX4_stepsTillCross_66 : q_TT := o_il 5 (o_iret)
def BX4_stepsTillCross_49 : q_TT := o_al 0 (o_il 1 (o_il 4 (o_callV 4 2 wX4_heightOf (o_al 0 (o_il 2 (o_il 4 (o_callV 4 2 wX4_heightOf (o_icne BX4_stepsTillCross_69 BX4_stepsTillCross_66))))))))
def BX4_stepsTillCross_42 : q_TT := o_is 6 (o_il 6 (o_ifeq BX4_stepsTillCross_69 BX4_stepsTillCross_49))
def TX4_stepsTillCross : Nat → q_TT := fun pc => if pc = 0 then BX4_stepsTillCross_0 else if pc = 6 then BX4_stepsTillCross_6 else if pc = 42 then BX4_stepsTillCross_42 else o_no
def wX4_stepsTillCross : q_WT := fun as sh m R => (q_loA as).length ≤ 7 ∧ q_WP TX4_stepsTillCross 0 (q_lo 7 as) [] sh m (q_R0 sh rmX4_stepsTillCross R)
/-! TumblingRock.cross(III)I -/
def rmX8_cross : Room := { frames := 4, cells := 0, slots := 0, locals := 94 }
def BX8_cross_21 : q_TT := o_ic (-1000000001) (o_iret)
def BX8_cross_64 : q_TT := o_iret
def BX8_cross_60 : q_TT := o_il 3 (o_il 4 (o_iadd (BX8_cross_64)))
def BX8_cross_56 : q_TT := o_ic (-1) (BX8_cross_64)
def BX8_cross_34 : q_TT := o_al 0 (o_getf 8 9 (o_il 1 (o_il 2 (o_al 0 (o_il 3 (o_callV 8 1 wX8_standingAt (o_callV 4 3 wX4_stepsTillCross (o_is 4 (o_il 4 (o_ic (-1) (o_icne BX8_cross_60 BX8_cross_56)))))))))))
def BX8_cross_31 : q_TT := o_ic (-1000000002) (o_iret)
def BX8_cross_24 : q_TT := o_il 3 (o_call 1 wX8_isStep (o_ifne BX8_cross_34 BX8_cross_31))
def BX8_cross_16 : q_TT := o_il 1 (o_il 2 (o_icne BX8_cross_24 BX8_cross_21))
def BX8_cross_8 : q_TT := o_al 0 (o_il 2 (o_callV 8 1 wX8_isPlace (o_ifeq BX8_cross_21 BX8_cross_16)))
def BX8_cross_0 : q_TT := o_al 0 (o_il 1 (o_callV 8 1 wX8_isPlace (o_ifeq BX8_cross_21 BX8_cross_8)))
def TX8_cross : Nat → q_TT := fun pc => if pc = 0 then BX8_cross_0 else o_no
def wX8_cross : q_WT := fun as sh m R => (q_loA as).length ≤ 5 ∧ q_WP TX8_cross 0 (q_lo 5 as) [] sh m (q_R0 sh rmX8_cross R)
/-! TumblingRock.store()I -/
def rmX8_store : Room := { frames := 4, cells := 0, slots := 0, locals := 90 }
def BX8_store_0 : q_TT := o_ic (-1) (o_is 1 (o_al 0 (o_getf 8 9 (o_getf 4 5 (o_ic 1 (o_iadd (o_is 2 (o_ic 0 (o_is 3 ((o_cut 14)))))))))))
def BX8_store_59 : q_TT := o_il 1 (o_iret)
def BX8_store_53 : q_TT := o_inc 3 1 ((o_cut 14))
def BX8_store_48 : q_TT := o_il 4 (o_is 2 (o_il 3 (o_is 1 (BX8_store_53))))
def BX8_store_25 : q_TT := o_al 0 (o_getf 8 9 (o_il 3 (o_al 0 (o_getf 8 2 (o_getf 1 0 (o_callV 4 2 wX4_longestDark (o_is 4 (o_il 4 (o_il 2 (o_icge BX8_store_53 BX8_store_48))))))))))
def BX8_store_14 : q_TT := o_il 3 (o_al 0 (o_getf 8 9 (o_getf 4 1 (o_icge BX8_store_59 BX8_store_25))))
def TX8_store : Nat → q_TT := fun pc => if pc = 0 then BX8_store_0 else if pc = 14 then BX8_store_14 else o_no
def wX8_store : q_WT := fun as sh m R => (q_loA as).length ≤ 5 ∧ q_WP TX8_store 0 (q_lo 5 as) [] sh m (q_R0 sh rmX8_store R)
/-! TumblingRock$Sight.fitAt(I)I -/
def rmX6_fitAt : Room := { frames := 1, cells := 0, slots := 0, locals := 21 }
def BX6_fitAt_0 : q_TT := o_al 0 (o_getf 6 6 (o_il 1 (o_call 2 wX8_at (o_iret))))
def TX6_fitAt : Nat → q_TT := fun pc => if pc = 0 then BX6_fitAt_0 else o_no
def wX6_fitAt : q_WT := fun as sh m R => (q_loA as).length ≤ 2 ∧ q_WP TX6_fitAt 0 (q_lo 2 as) [] sh m (q_R0 sh rmX6_fitAt R)
/-! TumblingRock$Sight.narrow(LTumblingRock$Rock;IIZ)V -/
def rmX6_narrow : Room := { frames := 3, cells := 0, slots := 0, locals := 69 }
def BX6_narrow_10 : q_TT := o_is 5 (o_ic 0 (o_is 6 (o_ic 0 (o_is 7 ((o_cut 18))))))
def BX6_narrow_9 : q_TT := o_ic 0 (BX6_narrow_10)
def BX6_narrow_5 : q_TT := o_ic 1 (BX6_narrow_10)
def BX6_narrow_0 : q_TT := o_il 4 (o_ifeq BX6_narrow_9 BX6_narrow_5)
def BX6_narrow_77 : q_TT := o_al 0 (o_il 6 (o_putf 6 1 (o_al 0 (o_dup (o_getf 6 0 (o_ic 1 (o_iadd (o_putf 6 0 (o_al 0 (o_ic 0 (o_putz 6 5 (o_vret))))))))))))
def BX6_narrow_71 : q_TT := o_inc 7 1 ((o_cut 18))
def BX6_narrow_57 : q_TT := o_al 0 (o_getf 6 6 (o_il 6 (o_il 8 (o_call 3 wX8_put (o_inc 6 1 (BX6_narrow_71))))))
def BX6_narrow_54 : q_TT := BX6_narrow_71
def BX6_narrow_27 : q_TT := o_al 0 (o_il 7 (o_callV 6 1 wX6_fitAt (o_is 8 (o_al 1 (o_il 2 (o_al 1 (o_il 8 (o_il 3 (o_il 3 (o_il 3 (o_callV 4 4 wX4_moved (o_callV 4 2 wX4_litBit (o_il 5 (o_iceq BX6_narrow_57 BX6_narrow_54))))))))))))))
def BX6_narrow_18 : q_TT := o_il 7 (o_al 0 (o_getf 6 1 (o_icge BX6_narrow_77 BX6_narrow_27)))
def TX6_narrow : Nat → q_TT := fun pc => if pc = 0 then BX6_narrow_0 else if pc = 18 then BX6_narrow_18 else o_no
def wX6_narrow : q_WT := fun as sh m R => (q_loA as).length ≤ 9 ∧ q_WP TX6_narrow 0 (q_lo 9 as) [] sh m (q_R0 sh rmX6_narrow R)
/-! TumblingRock.see(IIZ)I -/
def rmX8_see : Room := { frames := 4, cells := 0, slots := 0, locals := 97 }
def BX8_see_40 : q_TT := o_al 0 (o_getf 8 5 (o_al 0 (o_getf 8 9 (o_il 1 (o_il 2 (o_il 3 (o_callV 6 4 wX6_narrow (o_al 0 (o_getf 8 5 (o_getf 6 0 (o_iret)))))))))))
def BX8_see_37 : q_TT := o_ic (-1000000004) (o_iret)
def BX8_see_25 : q_TT := o_al 0 (o_getf 8 5 (o_getf 6 0 (o_ic 20 (o_iclt BX8_see_40 BX8_see_37))))
def BX8_see_22 : q_TT := o_ic (-1000000002) (o_iret)
def BX8_see_11 : q_TT := o_il 2 (o_ic 0 (o_ic 9999 (o_call 3 wX8_inside (o_ifne BX8_see_25 BX8_see_22))))
def BX8_see_8 : q_TT := o_ic (-1000000001) (o_iret)
def BX8_see_0 : q_TT := o_al 0 (o_il 1 (o_callV 8 1 wX8_isPlace (o_ifne BX8_see_11 BX8_see_8)))
def TX8_see : Nat → q_TT := fun pc => if pc = 0 then BX8_see_0 else o_no
def wX8_see : q_WT := fun as sh m R => (q_loA as).length ≤ 4 ∧ q_WP TX8_see 0 (q_lo 4 as) [] sh m (q_R0 sh rmX8_see R)
/-! TumblingRock.fits(II)I -/
def rmX8_fits : Room := { frames := 2, cells := 0, slots := 0, locals := 44 }
def BX8_fits_43 : q_TT := o_al 0 (o_getf 8 9 (o_al 0 (o_getf 8 5 (o_il 1 (o_callV 6 1 wX6_fitAt (o_il 2 (o_callV 4 2 wX4_digit (o_iret))))))))
def BX8_fits_41 : q_TT := o_ic (-1) (o_iret)
def BX8_fits_24 : q_TT := o_il 1 (o_ic 0 (o_al 0 (o_getf 8 5 (o_getf 6 1 (o_ic 1 (o_isub (o_call 3 wX8_inside (o_ifne BX8_fits_43 BX8_fits_41))))))))
def BX8_fits_21 : q_TT := o_ic (-1000000001) (o_iret)
def BX8_fits_13 : q_TT := o_al 0 (o_il 2 (o_callV 8 1 wX8_isTurning (o_ifne BX8_fits_24 BX8_fits_21)))
def BX8_fits_5 : q_TT := o_al 0 (o_getf 8 5 (o_getf 6 1 (o_iret)))
def BX8_fits_0 : q_TT := o_il 1 (o_ic (-1) (o_icne BX8_fits_13 BX8_fits_5))
def TX8_fits : Nat → q_TT := fun pc => if pc = 0 then BX8_fits_0 else o_no
def wX8_fits : q_WT := fun as sh m R => (q_loA as).length ≤ 3 ∧ q_WP TX8_fits 0 (q_lo 3 as) [] sh m (q_R0 sh rmX8_fits R)
/-! TumblingRock$Sight.addLit(II)V -/
def rmX6_addLit : Room := { frames := 0, cells := 0, slots := 0, locals := 0 }
def BX6_addLit_0 : q_TT := o_ic 0 (o_is 3 ((o_cut 2)))
def BX6_addLit_49 : q_TT := o_vret
def BX6_addLit_43 : q_TT := o_inc 3 1 ((o_cut 2))
def BX6_addLit_28 : q_TT := o_al 0 (o_getf 6 7 (o_il 4 (o_dup2 (o_iald (o_il 2 (o_il 3 (o_ishr (o_ic 1 (o_iand (o_iadd (o_iast (BX6_addLit_43))))))))))))
def BX6_addLit_18 : q_TT := o_il 4 (o_al 0 (o_getf 6 7 (o_alen (o_icge BX6_addLit_43 BX6_addLit_28))))
def BX6_addLit_8 : q_TT := o_il 1 (o_il 3 (o_iadd (o_is 4 (o_il 4 (o_iflt BX6_addLit_43 BX6_addLit_18)))))
def BX6_addLit_2 : q_TT := o_il 3 (o_ic 8 (o_icge BX6_addLit_49 BX6_addLit_8))
def TX6_addLit : Nat → q_TT := fun pc => if pc = 0 then BX6_addLit_0 else if pc = 2 then BX6_addLit_2 else o_no
def wX6_addLit : q_WT := fun as sh m R => (q_loA as).length ≤ 5 ∧ q_WP TX6_addLit 0 (q_lo 5 as) [] sh m (q_R0 sh rmX6_addLit R)
/-! TumblingRock$Sight.countLit(LTumblingRock$Rock;)V -/
def rmX6_countLit : Room := { frames := 2, cells := 0, slots := 0, locals := 42 }
def BX6_countLit_0 : q_TT := o_ic 0 (o_is 2 ((o_cut 2)))
def BX6_countLit_24 : q_TT := o_ic 0 (o_is 2 ((o_cut 26)))
def BX6_countLit_11 : q_TT := o_al 0 (o_getf 6 7 (o_il 2 (o_ic 0 (o_iast (o_inc 2 1 ((o_cut 2)))))))
def BX6_countLit_2 : q_TT := o_il 2 (o_al 0 (o_getf 6 7 (o_alen (o_icge BX6_countLit_24 BX6_countLit_11))))
def BX6_countLit_82 : q_TT := o_vret
def BX6_countLit_34 : q_TT := o_al 0 (o_il 2 (o_callV 6 1 wX6_fitAt (o_is 3 (o_ic 0 (o_is 4 ((o_cut 43)))))))
def BX6_countLit_26 : q_TT := o_il 2 (o_al 0 (o_getf 6 1 (o_icge BX6_countLit_82 BX6_countLit_34)))
def BX6_countLit_76 : q_TT := o_inc 2 1 ((o_cut 26))
def BX6_countLit_50 : q_TT := o_al 0 (o_il 4 (o_ic 8 (o_imul (o_al 1 (o_il 3 (o_callV 4 1 wX4_litSet (o_callV 6 2 wX6_addLit (o_al 1 (o_il 3 (o_callV 4 1 wX4_stepLater (o_is 3 (o_inc 4 1 ((o_cut 43))))))))))))))
def BX6_countLit_43 : q_TT := o_il 4 (o_ic 24 (o_icge BX6_countLit_76 BX6_countLit_50))
def TX6_countLit : Nat → q_TT := fun pc => if pc = 0 then BX6_countLit_0 else if pc = 2 then BX6_countLit_2 else if pc = 26 then BX6_countLit_26 else if pc = 43 then BX6_countLit_43 else o_no
def wX6_countLit : q_WT := fun as sh m R => (q_loA as).length ≤ 5 ∧ q_WP TX6_countLit 0 (q_lo 5 as) [] sh m (q_R0 sh rmX6_countLit R)
/-! TumblingRock$Sight.tryLook(II)V -/
def rmX6_tryLook : Room := { frames := 1, cells := 0, slots := 0, locals := 21 }
def BX6_tryLook_52 : q_TT := o_vret
def BX6_tryLook_53 : q_TT := o_al 0 (o_il 4 (o_putf 6 4 (o_al 0 (o_il 1 (o_putf 6 3 (o_al 0 (o_il 2 (o_putf 6 2 (o_vret)))))))))
def BX6_tryLook_43 : q_TT := o_il 4 (o_al 0 (o_getf 6 4 (o_iclt BX6_tryLook_53 BX6_tryLook_52)))
def BX6_tryLook_35 : q_TT := o_al 0 (o_getf 6 4 (o_ic (-1) (o_iceq BX6_tryLook_53 BX6_tryLook_43)))
def BX6_tryLook_0 : q_TT := o_al 0 (o_getf 6 7 (o_il 1 (o_ic 8 (o_imul (o_il 2 (o_iadd (o_call 2 wX8_at (o_is 3 (o_il 3 (o_al 0 (o_getf 6 1 (o_il 3 (o_isub (o_mmax (o_is 4 (o_il 4 (o_al 0 (o_getf 6 1 (o_iceq BX6_tryLook_52 BX6_tryLook_35)))))))))))))))))))
def TX6_tryLook : Nat → q_TT := fun pc => if pc = 0 then BX6_tryLook_0 else o_no
def wX6_tryLook : q_WT := fun as sh m R => (q_loA as).length ≤ 5 ∧ q_WP TX6_tryLook 0 (q_lo 5 as) [] sh m (q_R0 sh rmX6_tryLook R)
/-! TumblingRock$Sight.findLook(LTumblingRock$Rock;)V -/
def rmX6_findLook : Room := { frames := 3, cells := 0, slots := 0, locals := 66 }
def BX6_findLook_8 : q_TT := o_al 0 (o_ic 1 (o_putz 6 5 (o_al 0 (o_ic (-1) (o_putf 6 2 (o_al 0 (o_ic (-1) (o_putf 6 3 (o_al 0 (o_ic (-1) (o_putf 6 4 (o_al 0 (o_al 1 (o_callV 6 1 wX6_countLit (o_ic 0 (o_is 2 ((o_cut 35))))))))))))))))))
def BX6_findLook_7 : q_TT := o_vret
def BX6_findLook_0 : q_TT := o_al 0 (o_getf 6 5 (o_ifeq BX6_findLook_8 BX6_findLook_7))
def BX6_findLook_69 : q_TT := o_vret
def BX6_findLook_41 : q_TT := o_ic 0 (o_is 3 ((o_cut 43)))
def BX6_findLook_35 : q_TT := o_il 2 (o_ic 24 (o_icge BX6_findLook_69 BX6_findLook_41))
def BX6_findLook_63 : q_TT := o_inc 2 1 ((o_cut 35))
def BX6_findLook_51 : q_TT := o_al 0 (o_il 2 (o_il 3 (o_callV 6 2 wX6_tryLook (o_inc 3 1 ((o_cut 43))))))
def BX6_findLook_43 : q_TT := o_il 3 (o_al 1 (o_getf 4 1 (o_icge BX6_findLook_63 BX6_findLook_51)))
def TX6_findLook : Nat → q_TT := fun pc => if pc = 0 then BX6_findLook_0 else if pc = 35 then BX6_findLook_35 else if pc = 43 then BX6_findLook_43 else o_no
def wX6_findLook : q_WT := fun as sh m R => (q_loA as).length ≤ 4 ∧ q_WP TX6_findLook 0 (q_lo 4 as) [] sh m (q_R0 sh rmX6_findLook R)
/-! TumblingRock.look(I)I -/
def rmX8_look : Room := { frames := 4, cells := 0, slots := 0, locals := 89 }
def BX8_look_57 : q_TT := o_iret
def BX8_look_50 : q_TT := o_al 0 (o_getf 8 5 (o_getf 6 4 (BX8_look_57)))
def BX8_look_40 : q_TT := o_al 0 (o_getf 8 5 (o_getf 6 3 (BX8_look_57)))
def BX8_look_35 : q_TT := o_il 1 (o_ic 1 (o_icne BX8_look_50 BX8_look_40))
def BX8_look_27 : q_TT := o_al 0 (o_getf 8 5 (o_getf 6 2 (o_iret)))
def BX8_look_12 : q_TT := o_al 0 (o_getf 8 5 (o_al 0 (o_getf 8 9 (o_callV 6 1 wX6_findLook (o_il 1 (o_ifne BX8_look_35 BX8_look_27))))))
def BX8_look_9 : q_TT := o_ic (-1000000002) (o_iret)
def BX8_look_0 : q_TT := o_il 1 (o_ic 0 (o_ic 2 (o_call 3 wX8_inside (o_ifne BX8_look_12 BX8_look_9))))
def TX8_look : Nat → q_TT := fun pc => if pc = 0 then BX8_look_0 else o_no
def wX8_look : q_WT := fun as sh m R => (q_loA as).length ≤ 2 ∧ q_WP TX8_look 0 (q_lo 2 as) [] sh m (q_R0 sh rmX8_look R)
/-! TumblingRock$Mender.reach(II)V -/
def rmX2_reach : Room := { frames := 1, cells := 0, slots := 0, locals := 22 }
def BX2_reach_13 : q_TT := o_al 0 (o_getf 2 0 (o_il 1 (o_il 2 (o_call 3 wX8_put (o_al 0 (o_getf 2 1 (o_al 0 (o_getf 2 2 (o_il 1 (o_call 3 wX8_put (o_al 0 (o_dup (o_getf 2 2 (o_ic 1 (o_iadd (o_putf 2 2 (o_vret)))))))))))))))))
def BX2_reach_12 : q_TT := o_vret
def BX2_reach_0 : q_TT := o_al 0 (o_getf 2 0 (o_il 1 (o_call 2 wX8_at (o_ic (-1) (o_iceq BX2_reach_13 BX2_reach_12)))))
def TX2_reach : Nat → q_TT := fun pc => if pc = 0 then BX2_reach_0 else o_no
def wX2_reach : q_WT := fun as sh m R => (q_loA as).length ≤ 3 ∧ q_WP TX2_reach 0 (q_lo 3 as) [] sh m (q_R0 sh rmX2_reach R)
/-! TumblingRock$Rock.backBy(II)I -/
def rmX4_backBy : Room := { frames := 2, cells := 0, slots := 0, locals := 43 }
def BX4_backBy_0 : q_TT := o_ic 12 (o_al 0 (o_il 2 (o_callV 4 1 wX4_size (o_imul (o_al 0 (o_il 1 (o_il 2 (o_callV 4 2 wX4_shove (o_isub (o_iret))))))))))
def TX4_backBy : Nat → q_TT := fun pc => if pc = 0 then BX4_backBy_0 else o_no
def wX4_backBy : q_WT := fun as sh m R => (q_loA as).length ≤ 3 ∧ q_WP TX4_backBy 0 (q_lo 3 as) [] sh m (q_R0 sh rmX4_backBy R)
/-! TumblingRock$Rock.unpushed(II)I -/
def rmX4_unpushed : Room := { frames := 3, cells := 0, slots := 0, locals := 69 }
def BX4_unpushed_0 : q_TT := o_al 0 (o_il 1 (o_al 0 (o_il 2 (o_ic 0 (o_callV 4 2 wX4_backBy (o_al 0 (o_il 2 (o_ic 1 (o_callV 4 2 wX4_backBy (o_al 0 (o_il 2 (o_ic 2 (o_callV 4 2 wX4_backBy (o_callV 4 4 wX4_moved (o_iret)))))))))))))))
def TX4_unpushed : Nat → q_TT := fun pc => if pc = 0 then BX4_unpushed_0 else o_no
def wX4_unpushed : q_WT := fun as sh m R => (q_loA as).length ≤ 3 ∧ q_WP TX4_unpushed 0 (q_lo 3 as) [] sh m (q_R0 sh rmX4_unpushed R)
/-! TumblingRock$Mender.fewest(LTumblingRock$Rock;II)I -/
def rmX2_fewest : Room := { frames := 4, cells := 0, slots := 0, locals := 91 }
def BX2_fewest_7 : q_TT := o_ic 0 (o_is 4 ((o_cut 10)))
def BX2_fewest_5 : q_TT := o_ic (-1) (o_iret)
def BX2_fewest_0 : q_TT := o_il 3 (o_ic (-1) (o_icne BX2_fewest_7 BX2_fewest_5))
def BX2_fewest_32 : q_TT := o_al 0 (o_ic 0 (o_putf 2 2 (o_al 0 (o_il 3 (o_ic 0 (o_callV 2 2 wX2_reach (o_ic 0 (o_is 4 ((o_cut 46))))))))))
def BX2_fewest_18 : q_TT := o_al 0 (o_getf 2 0 (o_il 4 (o_ic (-1) (o_iast (o_inc 4 1 ((o_cut 10)))))))
def BX2_fewest_10 : q_TT := o_il 4 (o_ic 1728 (o_icge BX2_fewest_32 BX2_fewest_18))
def BX2_fewest_119 : q_TT := o_al 0 (o_getf 2 0 (o_il 2 (o_call 2 wX8_at (o_iret))))
def BX2_fewest_63 : q_TT := o_al 0 (o_getf 2 1 (o_il 4 (o_iald (o_is 5 (o_ic 0 (o_is 6 ((o_cut 75))))))))
def BX2_fewest_55 : q_TT := o_il 4 (o_ic 1728 (o_icge BX2_fewest_119 BX2_fewest_63))
def BX2_fewest_46 : q_TT := o_il 4 (o_al 0 (o_getf 2 2 (o_icge BX2_fewest_119 BX2_fewest_55)))
def BX2_fewest_113 : q_TT := o_inc 4 1 ((o_cut 46))
def BX2_fewest_84 : q_TT := o_al 0 (o_al 1 (o_il 5 (o_il 6 (o_callV 4 2 wX4_unpushed (o_al 0 (o_getf 2 0 (o_il 5 (o_call 2 wX8_at (o_ic 1 (o_iadd (o_callV 2 2 wX2_reach (o_inc 6 1 ((o_cut 75))))))))))))))
def BX2_fewest_75 : q_TT := o_il 6 (o_al 1 (o_getf 4 3 (o_icge BX2_fewest_113 BX2_fewest_84)))
def TX2_fewest : Nat → q_TT := fun pc => if pc = 0 then BX2_fewest_0 else if pc = 10 then BX2_fewest_10 else if pc = 46 then BX2_fewest_46 else if pc = 75 then BX2_fewest_75 else o_no
def wX2_fewest : q_WT := fun as sh m R => (q_loA as).length ≤ 7 ∧ q_WP TX2_fewest 0 (q_lo 7 as) [] sh m (q_R0 sh rmX2_fewest R)
/-! TumblingRock$Mender.leastNearer(LTumblingRock$Rock;I)I -/
def rmX2_leastNearer : Room := { frames := 4, cells := 0, slots := 0, locals := 91 }
def BX2_leastNearer_0 : q_TT := o_ic 0 (o_is 3 ((o_cut 2)))
def BX2_leastNearer_44 : q_TT := o_ic (-1) (o_iret)
def BX2_leastNearer_38 : q_TT := o_inc 3 1 ((o_cut 2))
def BX2_leastNearer_36 : q_TT := o_il 3 (o_iret)
def BX2_leastNearer_10 : q_TT := o_al 0 (o_getf 2 0 (o_al 1 (o_il 2 (o_il 3 (o_callV 4 2 wX4_pushed (o_call 2 wX8_at (o_al 0 (o_getf 2 0 (o_il 2 (o_call 2 wX8_at (o_ic 1 (o_isub (o_icne BX2_leastNearer_38 BX2_leastNearer_36)))))))))))))
def BX2_leastNearer_2 : q_TT := o_il 3 (o_al 1 (o_getf 4 3 (o_icge BX2_leastNearer_44 BX2_leastNearer_10)))
def TX2_leastNearer : Nat → q_TT := fun pc => if pc = 0 then BX2_leastNearer_0 else if pc = 2 then BX2_leastNearer_2 else o_no
def wX2_leastNearer : q_WT := fun as sh m R => (q_loA as).length ≤ 4 ∧ q_WP TX2_leastNearer 0 (q_lo 4 as) [] sh m (q_R0 sh rmX2_leastNearer R)
/-! TumblingRock$Mender.pushAt(LTumblingRock$Rock;II)I -/
def rmX2_pushAt : Room := { frames := 5, cells := 0, slots := 0, locals := 114 }
def BX2_pushAt_0 : q_TT := o_il 2 (o_is 4 (o_ic (-1) (o_is 5 (o_ic 0 (o_is 6 ((o_cut 9)))))))
def BX2_pushAt_40 : q_TT := o_il 5 (o_iret)
def BX2_pushAt_15 : q_TT := o_al 0 (o_al 1 (o_il 4 (o_callV 2 2 wX2_leastNearer (o_is 5 (o_al 1 (o_il 4 (o_il 5 (o_callV 4 2 wX4_pushed (o_is 4 (o_inc 6 1 ((o_cut 9))))))))))))
def BX2_pushAt_9 : q_TT := o_il 6 (o_il 3 (o_icgt BX2_pushAt_40 BX2_pushAt_15))
def TX2_pushAt : Nat → q_TT := fun pc => if pc = 0 then BX2_pushAt_0 else if pc = 9 then BX2_pushAt_9 else o_no
def wX2_pushAt : q_WT := fun as sh m R => (q_loA as).length ≤ 7 ∧ q_WP TX2_pushAt 0 (q_lo 7 as) [] sh m (q_R0 sh rmX2_pushAt R)
/-! TumblingRock.mend(IIII)I -/
def rmX8_mend : Room := { frames := 6, cells := 0, slots := 0, locals := 140 }
def BX8_mend_88 : q_TT := o_iret
def BX8_mend_87 : q_TT := o_ic (-1) (BX8_mend_88)
def BX8_mend_64 : q_TT := o_al 0 (o_getf 8 7 (o_al 0 (o_getf 8 9 (o_al 0 (o_getf 8 2 (o_getf 1 0 (o_il 4 (o_callV 2 3 wX2_pushAt (BX8_mend_88)))))))))
def BX8_mend_51 : q_TT := o_il 4 (o_ic 0 (o_il 5 (o_ic 1 (o_isub (o_call 3 wX8_inside (o_ifeq BX8_mend_87 BX8_mend_64))))))
def BX8_mend_48 : q_TT := o_il 5 (o_iret)
def BX8_mend_12 : q_TT := o_al 0 (o_getf 8 7 (o_al 0 (o_getf 8 9 (o_al 0 (o_getf 8 2 (o_getf 1 0 (o_al 0 (o_getf 8 9 (o_il 1 (o_il 2 (o_il 3 (o_callV 4 3 wX4_standingOf (o_callV 2 3 wX2_fewest (o_is 5 (o_il 4 (o_ic (-1) (o_icne BX8_mend_51 BX8_mend_48)))))))))))))))))
def BX8_mend_9 : q_TT := o_ic (-1000000002) (o_iret)
def BX8_mend_0 : q_TT := o_il 1 (o_il 2 (o_il 3 (o_call 3 wX8_areShifts (o_ifne BX8_mend_12 BX8_mend_9))))
def TX8_mend : Nat → q_TT := fun pc => if pc = 0 then BX8_mend_0 else o_no
def wX8_mend : q_WT := fun as sh m R => (q_loA as).length ≤ 6 ∧ q_WP TX8_mend 0 (q_lo 6 as) [] sh m (q_R0 sh rmX8_mend R)
/-! TumblingRock$Book.add(I)Z -/
def rmX0_add : Room := { frames := 1, cells := 0, slots := 0, locals := 22 }
def BX0_add_11 : q_TT := o_al 0 (o_getf 0 0 (o_al 0 (o_getf 0 1 (o_il 1 (o_call 3 wX8_put (o_al 0 (o_dup (o_getf 0 1 (o_ic 1 (o_iadd (o_putf 0 1 (o_ic 1 (o_zret)))))))))))))
def BX0_add_9 : q_TT := o_ic 0 (o_zret)
def BX0_add_0 : q_TT := o_al 0 (o_getf 0 1 (o_ic 30 (o_iclt BX0_add_11 BX0_add_9)))
def TX0_add : Nat → q_TT := fun pc => if pc = 0 then BX0_add_0 else o_no
def wX0_add : q_WT := fun as sh m R => (q_loA as).length ≤ 2 ∧ q_WP TX0_add 0 (q_lo 2 as) [] sh m (q_R0 sh rmX0_add R)
/-! TumblingRock.write(I)I -/
def rmX8_write : Room := { frames := 2, cells := 0, slots := 0, locals := 43 }
def BX8_write_34 : q_TT := o_iret
def BX8_write_32 : q_TT := o_ic (-1000000004) (BX8_write_34)
def BX8_write_22 : q_TT := o_al 0 (o_getf 8 8 (o_getf 0 1 (BX8_write_34)))
def BX8_write_11 : q_TT := o_al 0 (o_getf 8 8 (o_il 1 (o_callV 0 1 wX0_add (o_ifeq BX8_write_32 BX8_write_22))))
def BX8_write_8 : q_TT := o_ic (-1000000001) (o_iret)
def BX8_write_0 : q_TT := o_al 0 (o_il 1 (o_callV 8 1 wX8_isPlace (o_ifne BX8_write_11 BX8_write_8)))
def TX8_write : Nat → q_TT := fun pc => if pc = 0 then BX8_write_0 else o_no
def wX8_write : q_WT := fun as sh m R => (q_loA as).length ≤ 2 ∧ q_WP TX8_write 0 (q_lo 2 as) [] sh m (q_R0 sh rmX8_write R)
/-! TumblingRock.tear()I -/
def rmX8_tear : Room := { frames := 2, cells := 0, slots := 0, locals := 44 }
def BX8_tear_0 : q_TT := o_al 0 (o_getf 8 8 (o_getf 0 1 (o_al 0 (o_getf 8 5 (o_getf 6 0 (o_iadd (o_is 1 (o_al 0 (o_getf 8 8 (o_ic 0 (o_putf 0 1 (o_al 0 (o_getf 8 5 (o_al 0 (o_getf 8 9 (o_callV 6 1 wX6_forget (o_il 1 (o_iret))))))))))))))))))
def TX8_tear : Nat → q_TT := fun pc => if pc = 0 then BX8_tear_0 else o_no
def wX8_tear : q_WT := fun as sh m R => (q_loA as).length ≤ 2 ∧ q_WP TX8_tear 0 (q_lo 2 as) [] sh m (q_R0 sh rmX8_tear R)
/-! TumblingRock$Book.firstWrong(LTumblingRock$Rock;)I -/
def rmX0_firstWrong : Room := { frames := 3, cells := 0, slots := 0, locals := 64 }
def BX0_firstWrong_0 : q_TT := o_ic 1 (o_is 2 ((o_cut 2)))
def BX0_firstWrong_55 : q_TT := o_ic (-1) (o_iret)
def BX0_firstWrong_49 : q_TT := o_inc 2 1 ((o_cut 2))
def BX0_firstWrong_47 : q_TT := o_il 2 (o_iret)
def BX0_firstWrong_37 : q_TT := o_al 1 (o_il 3 (o_il 4 (o_callV 4 2 wX4_leads (o_ifne BX0_firstWrong_49 BX0_firstWrong_47))))
def BX0_firstWrong_10 : q_TT := o_al 0 (o_getf 0 0 (o_il 2 (o_ic 1 (o_isub (o_call 2 wX8_at (o_is 3 (o_al 0 (o_getf 0 0 (o_il 2 (o_call 2 wX8_at (o_is 4 (o_il 3 (o_il 4 (o_iceq BX0_firstWrong_49 BX0_firstWrong_37))))))))))))))
def BX0_firstWrong_2 : q_TT := o_il 2 (o_al 0 (o_getf 0 1 (o_icge BX0_firstWrong_55 BX0_firstWrong_10)))
def TX0_firstWrong : Nat → q_TT := fun pc => if pc = 0 then BX0_firstWrong_0 else if pc = 2 then BX0_firstWrong_2 else o_no
def wX0_firstWrong : q_WT := fun as sh m R => (q_loA as).length ≤ 5 ∧ q_WP TX0_firstWrong 0 (q_lo 5 as) [] sh m (q_R0 sh rmX0_firstWrong R)
/-! TumblingRock$Book.lightOf(LTumblingRock$Rock;I)I -/
def rmX0_lightOf : Room := { frames := 3, cells := 0, slots := 0, locals := 69 }
def BX0_lightOf_0 : q_TT := o_ic 0 (o_is 3 (o_ic 0 (o_is 4 ((o_cut 5)))))
def BX0_lightOf_47 : q_TT := o_il 3 (o_iret)
def BX0_lightOf_14 : q_TT := o_il 3 (o_al 1 (o_al 0 (o_getf 0 0 (o_il 4 (o_call 2 wX8_at (o_al 1 (o_il 2 (o_il 4 (o_il 4 (o_il 4 (o_callV 4 4 wX4_moved (o_callV 4 2 wX4_litBit (o_iadd (o_is 3 (o_inc 4 1 ((o_cut 5)))))))))))))))))
def BX0_lightOf_5 : q_TT := o_il 4 (o_al 0 (o_getf 0 1 (o_icge BX0_lightOf_47 BX0_lightOf_14)))
def TX0_lightOf : Nat → q_TT := fun pc => if pc = 0 then BX0_lightOf_0 else if pc = 5 then BX0_lightOf_5 else o_no
def wX0_lightOf : q_WT := fun as sh m R => (q_loA as).length ≤ 5 ∧ q_WP TX0_lightOf 0 (q_lo 5 as) [] sh m (q_R0 sh rmX0_lightOf R)
/-! TumblingRock.judge(I)I -/
def rmX8_judge : Room := { frames := 4, cells := 0, slots := 0, locals := 93 }
def BX8_judge_48 : q_TT := o_iret
def BX8_judge_30 : q_TT := o_al 0 (o_getf 8 8 (o_al 0 (o_getf 8 9 (o_al 0 (o_getf 8 2 (o_getf 1 0 (o_callV 0 2 wX0_lightOf (BX8_judge_48))))))))
def BX8_judge_16 : q_TT := o_al 0 (o_getf 8 8 (o_al 0 (o_getf 8 9 (o_callV 0 1 wX0_firstWrong (BX8_judge_48)))))
def BX8_judge_12 : q_TT := o_il 1 (o_ifne BX8_judge_30 BX8_judge_16)
def BX8_judge_9 : q_TT := o_ic (-1000000002) (o_iret)
def BX8_judge_0 : q_TT := o_il 1 (o_ic 0 (o_ic 1 (o_call 3 wX8_inside (o_ifne BX8_judge_12 BX8_judge_9))))
def TX8_judge : Nat → q_TT := fun pc => if pc = 0 then BX8_judge_0 else o_no
def wX8_judge : q_WT := fun as sh m R => (q_loA as).length ≤ 2 ∧ q_WP TX8_judge 0 (q_lo 2 as) [] sh m (q_R0 sh rmX8_judge R)
/-! TumblingRock.seed(I)I -/
def rmX8_seed : Room := { frames := 0, cells := 0, slots := 0, locals := 0 }
def BX8_seed_7 : q_TT := o_al 0 (o_getf 8 2 (o_getf 1 4 (o_is 2 (o_al 0 (o_getf 8 2 (o_il 1 (o_putf 1 4 (o_il 2 (o_iret)))))))))
def BX8_seed_4 : q_TT := o_ic (-1000000002) (o_iret)
def BX8_seed_0 : q_TT := o_il 1 (o_ifge BX8_seed_7 BX8_seed_4)
def TX8_seed : Nat → q_TT := fun pc => if pc = 0 then BX8_seed_0 else o_no
def wX8_seed : q_WT := fun as sh m R => (q_loA as).length ≤ 3 ∧ q_WP TX8_seed 0 (q_lo 3 as) [] sh m (q_R0 sh rmX8_seed R)
/-! TumblingRock$Farm.become(LTumblingRock$Farm;)V -/
def rmX1_become : Room := { frames := 0, cells := 0, slots := 0, locals := 0 }
def BX1_become_0 : q_TT := o_al 0 (o_al 1 (o_getf 1 0 (o_putf 1 0 (o_al 0 (o_al 1 (o_getf 1 1 (o_putf 1 1 (o_al 0 (o_al 1 (o_getf 1 2 (o_putf 1 2 (o_al 0 (o_al 1 (o_getf 1 3 (o_putf 1 3 (o_al 0 (o_al 1 (o_getf 1 4 (o_putf 1 4 (o_vret))))))))))))))))))))
def TX1_become : Nat → q_TT := fun pc => if pc = 0 then BX1_become_0 else o_no
def wX1_become : q_WT := fun as sh m R => (q_loA as).length ≤ 2 ∧ q_WP TX1_become 0 (q_lo 2 as) [] sh m (q_R0 sh rmX1_become R)
/-! TumblingRock.keep(I)I -/
def rmX8_keep : Room := { frames := 1, cells := 0, slots := 0, locals := 22 }
def BX8_keep_12 : q_TT := o_al 0 (o_getf 8 3 (o_il 1 (o_aald (o_al 0 (o_getf 8 2 (o_callV 1 1 wX1_become (o_al 0 (o_getf 8 4 (o_il 1 (o_ic 1 (o_zast (o_ic 1 (o_iret)))))))))))))
def BX8_keep_9 : q_TT := o_ic (-1000000001) (o_iret)
def BX8_keep_0 : q_TT := o_il 1 (o_ic 0 (o_ic 1 (o_call 3 wX8_inside (o_ifne BX8_keep_12 BX8_keep_9))))
def TX8_keep : Nat → q_TT := fun pc => if pc = 0 then BX8_keep_0 else o_no
def wX8_keep : q_WT := fun as sh m R => (q_loA as).length ≤ 2 ∧ q_WP TX8_keep 0 (q_lo 2 as) [] sh m (q_R0 sh rmX8_keep R)
/-! TumblingRock.goBack(I)I -/
def rmX8_goBack : Room := { frames := 1, cells := 0, slots := 0, locals := 22 }
def BX8_goBack_24 : q_TT := o_al 0 (o_getf 8 2 (o_al 0 (o_getf 8 3 (o_il 1 (o_aald (o_callV 1 1 wX1_become (o_ic 1 (o_iret))))))))
def BX8_goBack_21 : q_TT := o_ic (-1000000003) (o_iret)
def BX8_goBack_12 : q_TT := o_al 0 (o_getf 8 4 (o_il 1 (o_zald (o_ifne BX8_goBack_24 BX8_goBack_21))))
def BX8_goBack_9 : q_TT := o_ic (-1000000001) (o_iret)
def BX8_goBack_0 : q_TT := o_il 1 (o_ic 0 (o_ic 1 (o_call 3 wX8_inside (o_ifne BX8_goBack_12 BX8_goBack_9))))
def TX8_goBack : Nat → q_TT := fun pc => if pc = 0 then BX8_goBack_0 else o_no
def wX8_goBack : q_WT := fun as sh m R => (q_loA as).length ≤ 2 ∧ q_WP TX8_goBack 0 (q_lo 2 as) [] sh m (q_R0 sh rmX8_goBack R)
/-! TumblingRockModel.<init>()V -/
def rmX9_init : Room := { frames := 1, cells := 16, slots := 2933, locals := 20 }
def BX9_init_0 (cap : Nat × Nat) : q_TT := o_al 0 (o_obj (o_al 0 (o_ic 24 (o_newa 0 24 cap (o_putr 9 0 (o_al 0 (o_ic 2 (o_newa 1 2 cap (o_putr 9 1 (o_al 0 (o_ic 72 (o_newa 0 72 cap (o_putr 9 2 (o_al 0 (o_ic 6 (o_newa 0 6 cap (o_putr 9 3 (o_al 0 (o_ic 48 (o_newa 0 48 cap (o_putr 9 4 (o_al 0 (o_ic 16 (o_newa 0 16 cap (o_putr 9 5 (o_al 0 (o_ic 24 (o_newa 0 24 cap (o_putr 9 6 (o_al 0 (o_ic 400 (o_newa 0 400 cap (o_putr 9 15 (o_al 0 (o_ic (-1) (o_putf 9 21 (o_al 0 (o_ic 1 (o_putf 9 22 (o_al 0 (o_ic 3 (o_newa 0 3 cap (o_putr 9 23 (o_al 0 (o_ic 328 (o_newa 0 328 cap (o_putr 9 24 (o_al 0 (o_ic 20 (o_newa 0 20 cap (o_putr 9 25 (o_al 0 (o_ic 20 (o_newa 0 20 cap (o_putr 9 26 (o_al 0 (o_ic 20 (o_newa 1 20 cap (o_putr 9 27 (o_al 0 (o_ic 192 (o_newa 0 192 cap (o_putr 9 29 (o_al 0 (o_ic 1728 (o_newa 0 1728 cap (o_putr 9 30 (o_al 0 (o_ic 30 (o_newa 0 30 cap (o_putr 9 31 (o_vret))))))))))))))))))))))))))))))))))))))))))))))))))))))))))))))))))))))))
def TX9_init (cap : Nat × Nat) : Nat → q_TT := fun pc => if pc = 0 then BX9_init_0 cap else o_no
def wX9_init : q_WT := fun as sh m R => (q_loA as).length ≤ 1 ∧ q_WP (TX9_init (sh.length + rmX9_init.cells, q_sl sh + rmX9_init.slots)) 0 (q_lo 1 as) [] sh m (q_R0 sh rmX9_init R)
/-! TumblingRockModel.in(JJJ)Z -/
def rmX9_in : Room := { frames := 0, cells := 0, slots := 0, locals := 0 }
def BX9_in_18 : q_TT := o_zret
def BX9_in_17 : q_TT := o_ic 0 (BX9_in_18)
def BX9_in_13 : q_TT := o_ic 1 (BX9_in_18)
def BX9_in_6 : q_TT := o_ll 0 (o_ll 4 (o_lcmp (o_ifgt BX9_in_17 BX9_in_13)))
def BX9_in_0 : q_TT := o_ll 0 (o_ll 2 (o_lcmp (o_iflt BX9_in_17 BX9_in_6)))
def TX9_in : Nat → q_TT := fun pc => if pc = 0 then BX9_in_0 else o_no
def wX9_in : q_WT := fun as sh m R => (q_loA as).length ≤ 6 ∧ q_WP TX9_in 0 (q_lo 6 as) [] sh m (q_R0 sh rmX9_in R)
/-! TumblingRockModel.one(Z)I -/
def rmX9_one : Room := { frames := 0, cells := 0, slots := 0, locals := 0 }
def BX9_one_9 : q_TT := o_iret
def BX9_one_8 : q_TT := o_ic 0 (BX9_one_9)
def BX9_one_4 : q_TT := o_ic 1 (BX9_one_9)
def BX9_one_0 : q_TT := o_il 0 (o_ifeq BX9_one_8 BX9_one_4)
def TX9_one : Nat → q_TT := fun pc => if pc = 0 then BX9_one_0 else o_no
def wX9_one : q_WT := fun as sh m R => (q_loA as).length ≤ 1 ∧ q_WP TX9_one 0 (q_lo 1 as) [] sh m (q_R0 sh rmX9_one R)
/-! TumblingRockModel.has(II)Z -/
def rmX9_has : Room := { frames := 0, cells := 0, slots := 0, locals := 0 }
def BX9_has_14 : q_TT := o_zret
def BX9_has_13 : q_TT := o_ic 0 (BX9_has_14)
def BX9_has_9 : q_TT := o_ic 1 (BX9_has_14)
def BX9_has_0 : q_TT := o_il 0 (o_il 1 (o_ishr (o_ic 1 (o_iand (o_ic 1 (o_icne BX9_has_13 BX9_has_9))))))
def TX9_has : Nat → q_TT := fun pc => if pc = 0 then BX9_has_0 else o_no
def wX9_has : q_WT := fun as sh m R => (q_loA as).length ≤ 2 ∧ q_WP TX9_has 0 (q_lo 2 as) [] sh m (q_R0 sh rmX9_has R)
/-! TumblingRockModel.feed(IJ)I -/
def rmX9_feed : Room := { frames := 1, cells := 0, slots := 0, locals := 25 }
def BX9_feed_30 : q_TT := o_il 1 (o_ic 1 (o_isub (o_is 4 ((o_cut 35)))))
def BX9_feed_27 : q_TT := o_ic (-1000000004) (o_iret)
def BX9_feed_15 : q_TT := o_al 0 (o_getf 9 16 (o_il 1 (o_iadd (o_ic 400 (o_icle BX9_feed_30 BX9_feed_27)))))
def BX9_feed_12 : q_TT := o_ic (-1000000002) (o_iret)
def BX9_feed_0 : q_TT := o_il 1 (o_i2l (o_lc 1 (o_lc 8 (o_call 3 wX9_in (o_ifne BX9_feed_15 BX9_feed_12)))))
def BX9_feed_77 : q_TT := o_al 0 (o_getf 9 16 (o_iret))
def BX9_feed_40 : q_TT := o_al 0 (o_getf 9 15 (o_al 0 (o_getf 9 16 (o_ll 2 (o_ic 8 (o_il 4 (o_imul (o_lshr (o_lc 255 (o_land (o_l2i (o_iast (o_al 0 (o_dup (o_getf 9 16 (o_ic 1 (o_iadd (o_putf 9 16 (o_inc 4 (-1) ((o_cut 35)))))))))))))))))))))
def BX9_feed_35 : q_TT := o_il 4 (o_iflt BX9_feed_77 BX9_feed_40)
def TX9_feed : Nat → q_TT := fun pc => if pc = 0 then BX9_feed_0 else if pc = 35 then BX9_feed_35 else o_no
def wX9_feed : q_WT := fun as sh m R => (q_loA as).length ≤ 5 ∧ q_WP TX9_feed 0 (q_lo 5 as) [] sh m (q_R0 sh rmX9_feed R)
/-! TumblingRockModel.here()I -/
def rmX9_here : Room := { frames := 0, cells := 0, slots := 0, locals := 0 }
def BX9_here_62 : q_TT := o_iret
def BX9_here_61 : q_TT := o_ic (-1) (BX9_here_62)
def BX9_here_49 : q_TT := o_al 0 (o_getf 9 15 (o_al 0 (o_getf 9 17 (o_iald (BX9_here_62)))))
def BX9_here_38 : q_TT := o_al 0 (o_getf 9 17 (o_al 0 (o_getf 9 16 (o_icge BX9_here_61 BX9_here_49))))
def BX9_here_25 : q_TT := o_al 0 (o_dup (o_getf 9 17 (o_ic 1 (o_iadd (o_putf 9 17 ((o_cut 0)))))))
def BX9_here_11 : q_TT := o_al 0 (o_getf 9 15 (o_al 0 (o_getf 9 17 (o_iald (o_ic 32 (o_icne BX9_here_38 BX9_here_25))))))
def BX9_here_0 : q_TT := o_al 0 (o_getf 9 17 (o_al 0 (o_getf 9 16 (o_icge BX9_here_38 BX9_here_11))))
def TX9_here : Nat → q_TT := fun pc => if pc = 0 then BX9_here_0 else o_no
def wX9_here : q_WT := fun as sh m R => (q_loA as).length ≤ 1 ∧ q_WP TX9_here 0 (q_lo 1 as) [] sh m (q_R0 sh rmX9_here R)
/-! TumblingRockModel.want(ZII)Z -/
def rmX9_want : Room := { frames := 0, cells := 0, slots := 0, locals := 0 }
def BX9_want_33 : q_TT := o_zret
def BX9_want_32 : q_TT := o_ic 0 (BX9_want_33)
def BX9_want_28 : q_TT := o_ic 1 (BX9_want_33)
def BX9_want_21 : q_TT := o_al 0 (o_getf 9 20 (o_ifne BX9_want_32 BX9_want_28))
def BX9_want_11 : q_TT := o_al 0 (o_il 2 (o_putf 9 20 (o_al 0 (o_il 3 (o_putf 9 21 (BX9_want_21))))))
def BX9_want_4 : q_TT := o_al 0 (o_getf 9 20 (o_ifne BX9_want_21 BX9_want_11))
def BX9_want_0 : q_TT := o_il 1 (o_ifne BX9_want_21 BX9_want_4)
def TX9_want : Nat → q_TT := fun pc => if pc = 0 then BX9_want_0 else o_no
def wX9_want : q_WT := fun as sh m R => (q_loA as).length ≤ 4 ∧ q_WP TX9_want 0 (q_lo 4 as) [] sh m (q_R0 sh rmX9_want R)
/-! TumblingRockModel.takeWord()V -/
def rmX9_takeWord : Room := { frames := 1, cells := 0, slots := 0, locals := 25 }
def BX9_takeWord_0 : q_TT := o_al 0 (o_callV 9 0 wX9_here (o_is 1 (o_al 0 (o_al 0 (o_getf 9 17 (o_putf 9 18 ((o_cut 13))))))))
def BX9_takeWord_59 : q_TT := o_al 0 (o_al 0 (o_getf 9 17 (o_al 0 (o_getf 9 18 (o_isub (o_putf 9 19 (o_vret)))))))
def BX9_takeWord_46 : q_TT := o_al 0 (o_dup (o_getf 9 17 (o_ic 1 (o_iadd (o_putf 9 17 ((o_cut 13)))))))
def BX9_takeWord_24 : q_TT := o_al 0 (o_getf 9 15 (o_al 0 (o_getf 9 17 (o_iald (o_i2l (o_lc 97 (o_lc 122 (o_call 3 wX9_in (o_ifeq BX9_takeWord_59 BX9_takeWord_46)))))))))
def BX9_takeWord_13 : q_TT := o_al 0 (o_getf 9 17 (o_al 0 (o_getf 9 16 (o_icge BX9_takeWord_59 BX9_takeWord_24))))
def TX9_takeWord : Nat → q_TT := fun pc => if pc = 0 then BX9_takeWord_0 else if pc = 13 then BX9_takeWord_13 else o_no
def wX9_takeWord : q_WT := fun as sh m R => (q_loA as).length ≤ 2 ∧ q_WP TX9_takeWord 0 (q_lo 2 as) [] sh m (q_R0 sh rmX9_takeWord R)
/-! TumblingRockModel.isWord(IIIIII)Z -/
def rmX9_isWord : Room := { frames := 0, cells := 0, slots := 0, locals := 0 }
def BX9_isWord_13 : q_TT := o_is 7 (o_ic 0 (o_is 8 ((o_cut 18))))
def BX9_isWord_12 : q_TT := o_ic 0 (BX9_isWord_13)
def BX9_isWord_8 : q_TT := o_ic 1 (BX9_isWord_13)
def BX9_isWord_0 : q_TT := o_al 0 (o_getf 9 19 (o_il 1 (o_icne BX9_isWord_12 BX9_isWord_8)))
def BX9_isWord_100 : q_TT := o_il 7 (o_zret)
def BX9_isWord_92 : q_TT := o_is 7 (o_inc 8 1 ((o_cut 18)))
def BX9_isWord_91 : q_TT := o_ic 0 (BX9_isWord_92)
def BX9_isWord_87 : q_TT := o_ic 1 (BX9_isWord_92)
def BX9_isWord_84 : q_TT := o_icne BX9_isWord_91 BX9_isWord_87
def BX9_isWord_82 : q_TT := o_il 6 (BX9_isWord_84)
def BX9_isWord_77 : q_TT := o_il 5 (BX9_isWord_84)
def BX9_isWord_71 : q_TT := o_il 8 (o_ic 3 (o_icne BX9_isWord_82 BX9_isWord_77))
def BX9_isWord_66 : q_TT := o_il 4 (BX9_isWord_84)
def BX9_isWord_60 : q_TT := o_il 8 (o_ic 2 (o_icne BX9_isWord_71 BX9_isWord_66))
def BX9_isWord_56 : q_TT := o_il 3 (BX9_isWord_84)
def BX9_isWord_50 : q_TT := o_il 8 (o_ic 1 (o_icne BX9_isWord_60 BX9_isWord_56))
def BX9_isWord_46 : q_TT := o_il 2 (BX9_isWord_84)
def BX9_isWord_29 : q_TT := o_al 0 (o_getf 9 15 (o_al 0 (o_getf 9 18 (o_il 8 (o_iadd (o_iald (o_il 8 (o_ifne BX9_isWord_50 BX9_isWord_46))))))))
def BX9_isWord_24 : q_TT := o_il 7 (o_ifeq BX9_isWord_100 BX9_isWord_29)
def BX9_isWord_18 : q_TT := o_il 8 (o_il 1 (o_icge BX9_isWord_100 BX9_isWord_24))
def TX9_isWord : Nat → q_TT := fun pc => if pc = 0 then BX9_isWord_0 else if pc = 18 then BX9_isWord_18 else o_no
def wX9_isWord : q_WT := fun as sh m R => (q_loA as).length ≤ 9 ∧ q_WP TX9_isWord 0 (q_lo 9 as) [] sh m (q_R0 sh rmX9_isWord R)
/-! TumblingRockModel.takeNumber(II)I -/
def rmX9_takeNumber : Room := { frames := 1, cells := 0, slots := 0, locals := 25 }
def BX9_takeNumber_47 : q_TT := o_ic 0 (o_is 4 ((o_cut 50)))
def BX9_takeNumber_45 : q_TT := o_ic 0 (o_iret)
def BX9_takeNumber_9 : q_TT := o_al 0 (o_callV 9 0 wX9_here (o_is 3 (o_al 0 (o_al 0 (o_getf 9 17 (o_putf 9 18 (o_al 0 (o_il 3 (o_i2l (o_lc 48 (o_lc 57 (o_call 3 wX9_in (o_ic 1 (o_al 0 (o_getf 9 17 (o_callV 9 3 wX9_want (o_ifne BX9_takeNumber_47 BX9_takeNumber_45)))))))))))))))))
def BX9_takeNumber_7 : q_TT := o_ic 0 (o_iret)
def BX9_takeNumber_0 : q_TT := o_al 0 (o_getf 9 20 (o_ifle BX9_takeNumber_9 BX9_takeNumber_7))
def BX9_takeNumber_113 : q_TT := o_is 4 (o_al 0 (o_dup (o_getf 9 17 (o_ic 1 (o_iadd (o_putf 9 17 ((o_cut 50))))))))
def BX9_takeNumber_95 : q_TT := o_ic 10 (o_il 4 (o_imul (o_al 0 (o_getf 9 15 (o_al 0 (o_getf 9 17 (o_iald (o_iadd (o_ic 48 (o_isub (BX9_takeNumber_113)))))))))))
def BX9_takeNumber_90 : q_TT := o_il 4 (BX9_takeNumber_113)
def BX9_takeNumber_83 : q_TT := o_il 4 (o_ic 99999 (o_icle BX9_takeNumber_95 BX9_takeNumber_90))
def BX9_takeNumber_61 : q_TT := o_al 0 (o_getf 9 15 (o_al 0 (o_getf 9 17 (o_iald (o_i2l (o_lc 48 (o_lc 57 (o_call 3 wX9_in (o_ifeq (o_cut 128) BX9_takeNumber_83)))))))))
def BX9_takeNumber_50 : q_TT := o_al 0 (o_getf 9 17 (o_al 0 (o_getf 9 16 (o_icge (o_cut 128) BX9_takeNumber_61))))
def BX9_takeNumber_160 : q_TT := o_ic 2 (o_al 0 (o_getf 9 18 (o_callV 9 3 wX9_want (o_is 5 (o_il 4 (o_iret))))))
def BX9_takeNumber_159 : q_TT := o_ic 0 (BX9_takeNumber_160)
def BX9_takeNumber_155 : q_TT := o_ic 1 (BX9_takeNumber_160)
def BX9_takeNumber_142 : q_TT := o_il 4 (o_i2l (o_il 1 (o_i2l (o_il 2 (o_i2l (o_call 3 wX9_in (o_ifeq BX9_takeNumber_159 BX9_takeNumber_155)))))))
def BX9_takeNumber_128 : q_TT := o_al 0 (o_al 0 (o_getf 9 17 (o_al 0 (o_getf 9 18 (o_isub (o_ic 4 (o_icge BX9_takeNumber_159 BX9_takeNumber_142)))))))
def TX9_takeNumber : Nat → q_TT := fun pc => if pc = 0 then BX9_takeNumber_0 else if pc = 50 then BX9_takeNumber_50 else if pc = 128 then BX9_takeNumber_128 else o_no
def wX9_takeNumber : q_WT := fun as sh m R => (q_loA as).length ≤ 6 ∧ q_WP TX9_takeNumber 0 (q_lo 6 as) [] sh m (q_R0 sh rmX9_takeNumber R)
/-! TumblingRockModel.takeTurn()V -/
def rmX9_takeTurn : Room := { frames := 2, cells := 0, slots := 0, locals := 50 }
def BX9_takeTurn_0 : q_TT := o_ic 3 (o_al 0 (o_getf 9 11 (o_iadd (o_is 1 (o_al 0 (o_getf 9 3 (o_il 1 (o_ic 0 (o_iast (o_ic 1 (o_is 2 ((o_cut 16)))))))))))))
def BX9_takeTurn_154 : q_TT := o_al 0 (o_dup (o_getf 9 11 (o_ic 1 (o_iadd (o_putf 9 11 (o_vret))))))
def BX9_takeTurn_138 : q_TT := o_al 0 (o_callV 9 0 wX9_here (o_is 3 (o_al 0 (o_ic 0 (o_ic 1 (o_al 0 (o_getf 9 17 (o_callV 9 3 wX9_want (o_is 2 (BX9_takeTurn_154))))))))))
def BX9_takeTurn_128 : q_TT := o_al 0 (o_getf 9 3 (o_il 1 (o_iald (o_ic 1 (o_icne BX9_takeTurn_154 BX9_takeTurn_138)))))
def BX9_takeTurn_121 : q_TT := o_al 0 (o_getf 9 20 (o_ifne BX9_takeTurn_154 BX9_takeTurn_128))
def BX9_takeTurn_76 : q_TT := o_ic 0 ((o_cut 77))
def BX9_takeTurn_72 : q_TT := o_ic 1 ((o_cut 77))
def BX9_takeTurn_63 : q_TT := o_al 0 (o_callV 9 0 wX9_here (o_ic 44 (o_icne BX9_takeTurn_76 BX9_takeTurn_72)))
def BX9_takeTurn_20 : q_TT := o_al 0 (o_getf 9 2 (o_ic 12 (o_il 1 (o_imul (o_al 0 (o_getf 9 3 (o_il 1 (o_iald (o_iadd (o_al 0 (o_ic 0 (o_ic 18 (o_callV 9 2 wX9_takeNumber (o_ic 9 (o_isub (o_iast (o_al 0 (o_getf 9 3 (o_il 1 (o_dup2 (o_iald (o_ic 1 (o_iadd (o_iast (o_al 0 (o_getf 9 20 (o_ifne BX9_takeTurn_76 BX9_takeTurn_63)))))))))))))))))))))))))))
def BX9_takeTurn_16 : q_TT := o_il 2 (o_ifeq BX9_takeTurn_121 BX9_takeTurn_20)
def BX9_takeTurn_99 : q_TT := o_ic 1 (o_al 0 (o_getf 9 17 (o_callV 9 3 wX9_want (o_is 2 (o_al 0 (o_dup (o_getf 9 17 (o_ic 1 (o_iadd (o_putf 9 17 ((o_cut 16))))))))))))
def BX9_takeTurn_98 : q_TT := o_ic 0 (BX9_takeTurn_99)
def BX9_takeTurn_94 : q_TT := o_ic 1 (BX9_takeTurn_99)
def BX9_takeTurn_82 : q_TT := o_al 0 (o_al 0 (o_getf 9 3 (o_il 1 (o_iald (o_ic 12 (o_icge BX9_takeTurn_98 BX9_takeTurn_94))))))
def BX9_takeTurn_77 : q_TT := o_is 2 (o_il 2 (o_ifeq (o_cut 16) BX9_takeTurn_82))
def TX9_takeTurn : Nat → q_TT := fun pc => if pc = 0 then BX9_takeTurn_0 else if pc = 16 then BX9_takeTurn_16 else if pc = 77 then BX9_takeTurn_77 else o_no
def wX9_takeTurn : q_WT := fun as sh m R => (q_loA as).length ≤ 4 ∧ q_WP TX9_takeTurn 0 (q_lo 4 as) [] sh m (q_R0 sh rmX9_takeTurn R)
/-! TumblingRockModel.takePlace()V -/
def rmX9_takePlace : Room := { frames := 2, cells := 0, slots := 0, locals := 50 }
def BX9_takePlace_0 : q_TT := o_ic 8 (o_al 0 (o_getf 9 12 (o_iadd (o_is 1 (o_ic 0 (o_is 2 ((o_cut 10))))))))
def BX9_takePlace_41 : q_TT := o_al 0 (o_getf 9 5 (o_il 1 (o_ic 0 (o_iast (o_al 0 (o_dup (o_getf 9 12 (o_ic 1 (o_iadd (o_putf 9 12 (o_vret)))))))))))
def BX9_takePlace_15 : q_TT := o_al 0 (o_getf 9 4 (o_ic 3 (o_il 1 (o_imul (o_il 2 (o_iadd (o_al 0 (o_ic 0 (o_ic 18 (o_callV 9 2 wX9_takeNumber (o_ic 9 (o_isub (o_iast (o_inc 2 1 ((o_cut 10))))))))))))))))
def BX9_takePlace_10 : q_TT := o_il 2 (o_ic 3 (o_icge BX9_takePlace_41 BX9_takePlace_15))
def TX9_takePlace : Nat → q_TT := fun pc => if pc = 0 then BX9_takePlace_0 else if pc = 10 then BX9_takePlace_10 else o_no
def wX9_takePlace : q_WT := fun as sh m R => (q_loA as).length ≤ 3 ∧ q_WP TX9_takePlace 0 (q_lo 3 as) [] sh m (q_R0 sh rmX9_takePlace R)
/-! TumblingRockModel.takeWay()V -/
def rmX9_takeWay : Room := { frames := 2, cells := 0, slots := 0, locals := 50 }
def BX9_takeWay_109 : q_TT := o_vret
def BX9_takeWay_57 : q_TT := o_ic 0 ((o_cut 58))
def BX9_takeWay_53 : q_TT := o_ic 1 ((o_cut 58))
def BX9_takeWay_37 : q_TT := o_al 0 (o_getf 9 5 (o_ic 8 (o_il 1 (o_iadd (o_iald (o_il 2 (o_call 2 wX9_has (o_ifne BX9_takeWay_57 BX9_takeWay_53))))))))
def BX9_takeWay_31 : q_TT := o_al 0 (o_il 1 (o_il 2 (o_iceq BX9_takeWay_57 BX9_takeWay_37)))
def BX9_takeWay_0 : q_TT := o_al 0 (o_ic 0 (o_al 0 (o_getf 9 12 (o_ic 1 (o_isub (o_callV 9 2 wX9_takeNumber (o_is 1 (o_al 0 (o_ic 0 (o_al 0 (o_getf 9 12 (o_ic 1 (o_isub (o_callV 9 2 wX9_takeNumber (o_is 2 (o_al 0 (o_getf 9 20 (o_ifne BX9_takeWay_109 BX9_takeWay_31))))))))))))))))))
def BX9_takeWay_69 : q_TT := o_al 0 (o_getf 9 5 (o_ic 8 (o_il 1 (o_iadd (o_dup2 (o_iald (o_ic 1 (o_il 2 (o_ishl (o_ior (o_iast (o_al 0 (o_getf 9 5 (o_ic 8 (o_il 2 (o_iadd (o_dup2 (o_iald (o_ic 1 (o_il 1 (o_ishl (o_ior (o_iast (o_al 0 (o_dup (o_getf 9 13 (o_ic 1 (o_iadd (o_putf 9 13 (BX9_takeWay_109))))))))))))))))))))))))))))))
def BX9_takeWay_58 : q_TT := o_ic 4 (o_al 0 (o_getf 9 18 (o_callV 9 3 wX9_want (o_ifeq BX9_takeWay_109 BX9_takeWay_69))))
def TX9_takeWay : Nat → q_TT := fun pc => if pc = 0 then BX9_takeWay_0 else if pc = 58 then BX9_takeWay_58 else o_no
def wX9_takeWay : q_WT := fun as sh m R => (q_loA as).length ≤ 3 ∧ q_WP TX9_takeWay 0 (q_lo 3 as) [] sh m (q_R0 sh rmX9_takeWay R)
/-! TumblingRockModel.takePush()V -/
def rmX9_takePush : Room := { frames := 2, cells := 0, slots := 0, locals := 50 }
def BX9_takePush_0 : q_TT := o_ic 0 (o_is 1 ((o_cut 2)))
def BX9_takePush_35 : q_TT := o_al 0 (o_dup (o_getf 9 14 (o_ic 1 (o_iadd (o_putf 9 14 (o_vret))))))
def BX9_takePush_7 : q_TT := o_al 0 (o_getf 9 6 (o_ic 3 (o_ic 4 (o_al 0 (o_getf 9 14 (o_iadd (o_imul (o_il 1 (o_iadd (o_al 0 (o_ic 0 (o_ic 11 (o_callV 9 2 wX9_takeNumber (o_iast (o_inc 1 1 ((o_cut 2)))))))))))))))))
def BX9_takePush_2 : q_TT := o_il 1 (o_ic 3 (o_icge BX9_takePush_35 BX9_takePush_7))
def TX9_takePush : Nat → q_TT := fun pc => if pc = 0 then BX9_takePush_0 else if pc = 2 then BX9_takePush_2 else o_no
def wX9_takePush : q_WT := fun as sh m R => (q_loA as).length ≤ 2 ∧ q_WP TX9_takePush 0 (q_lo 2 as) [] sh m (q_R0 sh rmX9_takePush R)
/-! TumblingRockModel.takeClause()V -/
def rmX9_takeClause : Room := { frames := 3, cells := 0, slots := 0, locals := 73 }
def BX9_takeClause_198 : q_TT := o_vret
def BX9_takeClause_194 : q_TT := o_al 0 (o_callV 9 0 wX9_takePush (BX9_takeClause_198))
def BX9_takeClause_186 : q_TT := o_ic 3 (o_il 1 (o_callV 9 3 wX9_want (o_ifeq BX9_takeClause_198 BX9_takeClause_194)))
def BX9_takeClause_185 : q_TT := o_ic 0 (BX9_takeClause_186)
def BX9_takeClause_181 : q_TT := o_ic 1 (BX9_takeClause_186)
def BX9_takeClause_172 : q_TT := o_al 0 (o_al 0 (o_getf 9 14 (o_ic 4 (o_icge BX9_takeClause_185 BX9_takeClause_181))))
def BX9_takeClause_149 : q_TT := o_al 0 (o_al 0 (o_ic 4 (o_ic 112 (o_ic 117 (o_ic 115 (o_ic 104 (o_ic 0 (o_callV 9 6 wX9_isWord (o_ic 1 (o_il 1 (o_callV 9 3 wX9_want (o_ifeq BX9_takeClause_198 BX9_takeClause_172))))))))))))
def BX9_takeClause_142 : q_TT := o_al 0 (o_callV 9 0 wX9_takeWay (BX9_takeClause_198))
def BX9_takeClause_134 : q_TT := o_ic 3 (o_il 1 (o_callV 9 3 wX9_want (o_ifeq BX9_takeClause_198 BX9_takeClause_142)))
def BX9_takeClause_133 : q_TT := o_ic 0 (BX9_takeClause_134)
def BX9_takeClause_129 : q_TT := o_ic 1 (BX9_takeClause_134)
def BX9_takeClause_119 : q_TT := o_al 0 (o_al 0 (o_getf 9 13 (o_ic 12 (o_icge BX9_takeClause_133 BX9_takeClause_129))))
def BX9_takeClause_103 : q_TT := o_al 0 (o_ic 3 (o_ic 119 (o_ic 97 (o_ic 121 (o_ic 0 (o_ic 0 (o_callV 9 6 wX9_isWord (o_ifeq BX9_takeClause_149 BX9_takeClause_119))))))))
def BX9_takeClause_96 : q_TT := o_al 0 (o_callV 9 0 wX9_takePlace (BX9_takeClause_198))
def BX9_takeClause_88 : q_TT := o_ic 3 (o_il 1 (o_callV 9 3 wX9_want (o_ifeq BX9_takeClause_198 BX9_takeClause_96)))
def BX9_takeClause_87 : q_TT := o_ic 0 (BX9_takeClause_88)
def BX9_takeClause_83 : q_TT := o_ic 1 (BX9_takeClause_88)
def BX9_takeClause_73 : q_TT := o_al 0 (o_al 0 (o_getf 9 12 (o_ic 8 (o_icge BX9_takeClause_87 BX9_takeClause_83))))
def BX9_takeClause_55 : q_TT := o_al 0 (o_ic 5 (o_ic 112 (o_ic 108 (o_ic 97 (o_ic 99 (o_ic 101 (o_callV 9 6 wX9_isWord (o_ifeq BX9_takeClause_103 BX9_takeClause_73))))))))
def BX9_takeClause_48 : q_TT := o_al 0 (o_callV 9 0 wX9_takeTurn (BX9_takeClause_198))
def BX9_takeClause_40 : q_TT := o_ic 3 (o_il 1 (o_callV 9 3 wX9_want (o_ifeq BX9_takeClause_198 BX9_takeClause_48)))
def BX9_takeClause_39 : q_TT := o_ic 0 (BX9_takeClause_40)
def BX9_takeClause_35 : q_TT := o_ic 1 (BX9_takeClause_40)
def BX9_takeClause_26 : q_TT := o_al 0 (o_al 0 (o_getf 9 11 (o_ic 3 (o_icge BX9_takeClause_39 BX9_takeClause_35))))
def BX9_takeClause_0 : q_TT := o_al 0 (o_callV 9 0 wX9_takeWord (o_al 0 (o_getf 9 18 (o_is 1 (o_al 0 (o_ic 4 (o_ic 116 (o_ic 117 (o_ic 114 (o_ic 110 (o_ic 0 (o_callV 9 6 wX9_isWord (o_ifeq BX9_takeClause_55 BX9_takeClause_26)))))))))))))
def TX9_takeClause : Nat → q_TT := fun pc => if pc = 0 then BX9_takeClause_0 else o_no
def wX9_takeClause : q_WT := fun as sh m R => (q_loA as).length ≤ 2 ∧ q_WP TX9_takeClause 0 (q_lo 2 as) [] sh m (q_R0 sh rmX9_takeClause R)
/-! TumblingRockModel.common(II)I -/
def rmX9_common : Room := { frames := 0, cells := 0, slots := 0, locals := 0 }
def BX9_common_0 : q_TT := o_il 0 (o_is 2 (o_il 1 (o_is 3 ((o_cut 4)))))
def BX9_common_21 : q_TT := o_il 2 (o_iret)
def BX9_common_8 : q_TT := o_il 2 (o_il 3 (o_irem (o_is 4 (o_il 3 (o_is 2 (o_il 4 (o_is 3 ((o_cut 4)))))))))
def BX9_common_4 : q_TT := o_il 3 (o_ifle BX9_common_21 BX9_common_8)
def TX9_common : Nat → q_TT := fun pc => if pc = 0 then BX9_common_0 else if pc = 4 then BX9_common_4 else o_no
def wX9_common : q_WT := fun as sh m R => (q_loA as).length ≤ 5 ∧ q_WP TX9_common 0 (q_lo 5 as) [] sh m (q_R0 sh rmX9_common R)
/-! TumblingRockModel.rock()I -/
def rmX9_rock : Room := { frames := 4, cells := 0, slots := 0, locals := 94 }
def BX9_rock_0 : q_TT := o_al 0 (o_ic 0 (o_putf 9 17 (o_al 0 (o_ic 0 (o_putf 9 20 (o_al 0 (o_ic (-1) (o_putf 9 21 (o_al 0 (o_ic 0 (o_putf 9 11 (o_al 0 (o_ic 0 (o_putf 9 12 (o_al 0 (o_ic 0 (o_putf 9 13 (o_al 0 (o_ic 0 (o_putf 9 14 ((o_cut 35))))))))))))))))))))))
def BX9_rock_86 : q_TT := o_al 0 (o_dup (o_getf 9 17 (o_ic 1 (o_iadd (o_putf 9 17 ((o_cut 35)))))))
def BX9_rock_75 : q_TT := o_ic 1 (o_al 0 (o_getf 9 17 (o_callV 9 3 wX9_want (o_ifeq (o_cut 35) BX9_rock_86))))
def BX9_rock_74 : q_TT := o_ic 0 (BX9_rock_75)
def BX9_rock_70 : q_TT := o_ic 1 (BX9_rock_75)
def BX9_rock_60 : q_TT := o_al 0 (o_al 0 (o_callV 9 0 wX9_here (o_ic 59 (o_icne BX9_rock_74 BX9_rock_70))))
def BX9_rock_49 : q_TT := o_al 0 (o_callV 9 0 wX9_takeClause (o_al 0 (o_getf 9 20 (o_ifne (o_cut 35) BX9_rock_60))))
def BX9_rock_42 : q_TT := o_al 0 (o_callV 9 0 wX9_here (o_iflt (o_cut 99) BX9_rock_49))
def BX9_rock_35 : q_TT := o_al 0 (o_getf 9 20 (o_ifne (o_cut 99) BX9_rock_42))
def BX9_rock_119 : q_TT := o_al 0 (o_al 0 (o_getf 9 11 (o_putf 9 7 (o_al 0 (o_al 0 (o_getf 9 12 (o_putf 9 8 (o_al 0 (o_al 0 (o_getf 9 13 (o_putf 9 9 (o_al 0 (o_al 0 (o_getf 9 14 (o_putf 9 10 (o_ic 0 (o_is 1 ((o_cut 153)))))))))))))))))))
def BX9_rock_111 : q_TT := o_ic (-10) (o_al 0 (o_getf 9 20 (o_isub (o_iret))))
def BX9_rock_99 : q_TT := o_al 0 (o_ic 0 (o_putf 9 16 (o_al 0 (o_getf 9 20 (o_ifle BX9_rock_119 BX9_rock_111)))))
def BX9_rock_180 : q_TT := o_ic 0 (o_is 1 ((o_cut 182)))
def BX9_rock_159 : q_TT := o_al 0 (o_getf 9 2 (o_il 1 (o_al 0 (o_getf 9 2 (o_ic 36 (o_il 1 (o_iadd (o_iald (o_iast (o_inc 1 1 ((o_cut 153))))))))))))
def BX9_rock_153 : q_TT := o_il 1 (o_ic 36 (o_icge BX9_rock_180 BX9_rock_159))
def BX9_rock_209 : q_TT := o_ic 0 (o_is 1 ((o_cut 211)))
def BX9_rock_188 : q_TT := o_al 0 (o_getf 9 4 (o_il 1 (o_al 0 (o_getf 9 4 (o_ic 24 (o_il 1 (o_iadd (o_iald (o_iast (o_inc 1 1 ((o_cut 182))))))))))))
def BX9_rock_182 : q_TT := o_il 1 (o_ic 24 (o_icge BX9_rock_209 BX9_rock_188))
def BX9_rock_238 : q_TT := o_ic 0 (o_is 1 ((o_cut 240)))
def BX9_rock_217 : q_TT := o_al 0 (o_getf 9 5 (o_il 1 (o_al 0 (o_getf 9 5 (o_ic 8 (o_il 1 (o_iadd (o_iald (o_iast (o_inc 1 1 ((o_cut 211))))))))))))
def BX9_rock_211 : q_TT := o_il 1 (o_ic 8 (o_icge BX9_rock_238 BX9_rock_217))
def BX9_rock_267 : q_TT := o_ic 0 (o_is 1 ((o_cut 269)))
def BX9_rock_246 : q_TT := o_al 0 (o_getf 9 6 (o_il 1 (o_al 0 (o_getf 9 6 (o_ic 12 (o_il 1 (o_iadd (o_iald (o_iast (o_inc 1 1 ((o_cut 240))))))))))))
def BX9_rock_240 : q_TT := o_il 1 (o_ic 12 (o_icge BX9_rock_267 BX9_rock_246))
def BX9_rock_313 : q_TT := o_al 0 (o_getf 9 0 (o_ic 3 (o_ic 0 (o_iast (o_al 0 (o_getf 9 0 (o_ic 4 (o_ic 0 (o_iast (o_al 0 (o_getf 9 0 (o_ic 5 (o_ic 0 (o_iast (o_al 0 (o_ic 0 (o_putf 9 28 (o_al 0 (o_ic 0 (o_putf 9 32 (o_al 0 (o_getf 9 1 (o_ic 0 (o_ic 0 (o_zast (o_al 0 (o_getf 9 1 (o_ic 1 (o_ic 0 (o_zast (o_al 0 (o_ic 1 (o_putf 9 22 (o_ic 0 (o_is 1 ((o_cut 365)))))))))))))))))))))))))))))))))))))
def BX9_rock_299 : q_TT := o_iast (o_al 0 (o_getf 9 0 (o_il 1 (o_ic 0 (o_iast (o_inc 1 1 ((o_cut 269))))))))
def BX9_rock_298 : q_TT := o_ic 1 (BX9_rock_299)
def BX9_rock_287 : q_TT := o_al 0 (o_getf 9 3 (o_ic 3 (o_il 1 (o_iadd (o_iald (BX9_rock_299))))))
def BX9_rock_274 : q_TT := o_al 0 (o_getf 9 3 (o_il 1 (o_il 1 (o_al 0 (o_getf 9 7 (o_icge BX9_rock_298 BX9_rock_287))))))
def BX9_rock_269 : q_TT := o_il 1 (o_ic 3 (o_icge BX9_rock_313 BX9_rock_274))
def BX9_rock_408 : q_TT := o_al 0 (o_getf 9 8 (o_iret))
def BX9_rock_373 : q_TT := o_al 0 (o_al 0 (o_getf 9 22 (o_al 0 (o_getf 9 22 (o_al 0 (o_getf 9 3 (o_il 1 (o_iald (o_call 2 wX9_common (o_idiv (o_al 0 (o_getf 9 3 (o_il 1 (o_iald (o_imul (o_putf 9 22 (o_inc 1 1 ((o_cut 365)))))))))))))))))))
def BX9_rock_365 : q_TT := o_il 1 (o_al 0 (o_getf 9 7 (o_icge BX9_rock_408 BX9_rock_373)))
def TX9_rock : Nat → q_TT := fun pc => if pc = 0 then BX9_rock_0 else if pc = 35 then BX9_rock_35 else if pc = 99 then BX9_rock_99 else if pc = 153 then BX9_rock_153 else if pc = 182 then BX9_rock_182 else if pc = 211 then BX9_rock_211 else if pc = 240 then BX9_rock_240 else if pc = 269 then BX9_rock_269 else if pc = 365 then BX9_rock_365 else o_no
def wX9_rock : q_WT := fun as sh m R => (q_loA as).length ≤ 2 ∧ q_WP TX9_rock 0 (q_lo 2 as) [] sh m (q_R0 sh rmX9_rock R)
/-! TumblingRockModel.fault()I -/
def rmX9_fault : Room := { frames := 0, cells := 0, slots := 0, locals := 0 }
def BX9_fault_0 : q_TT := o_al 0 (o_getf 9 21 (o_iret))
def TX9_fault : Nat → q_TT := fun pc => if pc = 0 then BX9_fault_0 else o_no
def wX9_fault : q_WT := fun as sh m R => (q_loA as).length ≤ 1 ∧ q_WP TX9_fault 0 (q_lo 1 as) [] sh m (q_R0 sh rmX9_fault R)
/-! TumblingRockModel.isPlace(I)Z -/
def rmX9_isPlace : Room := { frames := 1, cells := 0, slots := 0, locals := 25 }
def BX9_isPlace_0 : q_TT := o_il 1 (o_i2l (o_lc 0 (o_al 0 (o_getf 9 8 (o_ic 1 (o_isub (o_i2l (o_call 3 wX9_in (o_zret)))))))))
def TX9_isPlace : Nat → q_TT := fun pc => if pc = 0 then BX9_isPlace_0 else o_no
def wX9_isPlace : q_WT := fun as sh m R => (q_loA as).length ≤ 2 ∧ q_WP TX9_isPlace 0 (q_lo 2 as) [] sh m (q_R0 sh rmX9_isPlace R)
/-! TumblingRockModel.isTurning(I)Z -/
def rmX9_isTurning : Room := { frames := 1, cells := 0, slots := 0, locals := 25 }
def BX9_isTurning_0 : q_TT := o_il 1 (o_i2l (o_lc 0 (o_al 0 (o_getf 9 7 (o_ic 1 (o_isub (o_i2l (o_call 3 wX9_in (o_zret)))))))))
def TX9_isTurning : Nat → q_TT := fun pc => if pc = 0 then BX9_isTurning_0 else o_no
def wX9_isTurning : q_WT := fun as sh m R => (q_loA as).length ≤ 2 ∧ q_WP TX9_isTurning 0 (q_lo 2 as) [] sh m (q_R0 sh rmX9_isTurning R)
/-! TumblingRockModel.isStep(I)Z -/
def rmX9_isStep : Room := { frames := 1, cells := 0, slots := 0, locals := 25 }
def BX9_isStep_0 : q_TT := o_il 0 (o_i2l (o_lc 0 (o_lc 999999 (o_call 3 wX9_in (o_zret)))))
def TX9_isStep : Nat → q_TT := fun pc => if pc = 0 then BX9_isStep_0 else o_no
def wX9_isStep : q_WT := fun as sh m R => (q_loA as).length ≤ 1 ∧ q_WP TX9_isStep 0 (q_lo 1 as) [] sh m (q_R0 sh rmX9_isStep R)
/-! TumblingRockModel.takeShifts()V -/
def rmX9_takeShifts : Room := { frames := 0, cells := 0, slots := 0, locals := 0 }
def BX9_takeShifts_0 : q_TT := o_al 0 (o_getf 9 23 (o_ic 0 (o_al 0 (o_getf 9 0 (o_ic 0 (o_iald (o_iast (o_al 0 (o_getf 9 23 (o_ic 1 (o_al 0 (o_getf 9 0 (o_ic 1 (o_iald (o_iast (o_al 0 (o_getf 9 23 (o_ic 2 (o_al 0 (o_getf 9 0 (o_ic 2 (o_iald (o_iast (o_vret))))))))))))))))))))))))
def TX9_takeShifts : Nat → q_TT := fun pc => if pc = 0 then BX9_takeShifts_0 else o_no
def wX9_takeShifts : q_WT := fun as sh m R => (q_loA as).length ≤ 1 ∧ q_WP TX9_takeShifts 0 (q_lo 1 as) [] sh m (q_R0 sh rmX9_takeShifts R)
/-! TumblingRockModel.heightBy(II)I -/
def rmX9_heightBy : Room := { frames := 0, cells := 0, slots := 0, locals := 0 }
def BX9_heightBy_0 : q_TT := o_ic 0 (o_is 3 (o_ic 0 (o_is 4 ((o_cut 5)))))
def BX9_heightBy_63 : q_TT := o_il 3 (o_iret)
def BX9_heightBy_14 : q_TT := o_il 3 (o_al 0 (o_getf 9 4 (o_ic 3 (o_il 1 (o_imul (o_il 4 (o_iadd (o_iald (o_al 0 (o_getf 9 2 (o_ic 12 (o_il 4 (o_imul (o_il 2 (o_al 0 (o_getf 9 23 (o_il 4 (o_iald (o_iadd (o_al 0 (o_getf 9 3 (o_il 4 (o_iald (o_irem (o_iadd (o_iald (o_imul (o_iadd (o_is 3 (o_inc 4 1 ((o_cut 5))))))))))))))))))))))))))))))))
def BX9_heightBy_5 : q_TT := o_il 4 (o_al 0 (o_getf 9 7 (o_icge BX9_heightBy_63 BX9_heightBy_14)))
def TX9_heightBy : Nat → q_TT := fun pc => if pc = 0 then BX9_heightBy_0 else if pc = 5 then BX9_heightBy_5 else o_no
def wX9_heightBy : q_WT := fun as sh m R => (q_loA as).length ≤ 5 ∧ q_WP TX9_heightBy 0 (q_lo 5 as) [] sh m (q_R0 sh rmX9_heightBy R)
/-! TumblingRockModel.heightNow(II)I -/
def rmX9_heightNow : Room := { frames := 1, cells := 0, slots := 0, locals := 24 }
def BX9_heightNow_0 : q_TT := o_al 0 (o_callV 9 0 wX9_takeShifts (o_al 0 (o_il 1 (o_il 2 (o_callV 9 2 wX9_heightBy (o_iret))))))
def TX9_heightNow : Nat → q_TT := fun pc => if pc = 0 then BX9_heightNow_0 else o_no
def wX9_heightNow : q_WT := fun as sh m R => (q_loA as).length ≤ 3 ∧ q_WP TX9_heightNow 0 (q_lo 3 as) [] sh m (q_R0 sh rmX9_heightNow R)
/-! TumblingRockModel.isLit(II)Z -/
def rmX9_isLit : Room := { frames := 2, cells := 0, slots := 0, locals := 46 }
def BX9_isLit_14 : q_TT := o_zret
def BX9_isLit_13 : q_TT := o_ic 0 (BX9_isLit_14)
def BX9_isLit_9 : q_TT := o_ic 1 (BX9_isLit_14)
def BX9_isLit_0 : q_TT := o_al 0 (o_il 1 (o_il 2 (o_callV 9 2 wX9_heightNow (o_ifle BX9_isLit_13 BX9_isLit_9))))
def TX9_isLit : Nat → q_TT := fun pc => if pc = 0 then BX9_isLit_0 else o_no
def wX9_isLit : q_WT := fun as sh m R => (q_loA as).length ≤ 3 ∧ q_WP TX9_isLit 0 (q_lo 3 as) [] sh m (q_R0 sh rmX9_isLit R)
/-! TumblingRockModel.litNow()I -/
def rmX9_litNow : Room := { frames := 3, cells := 0, slots := 0, locals := 68 }
def BX9_litNow_0 : q_TT := o_ic 0 (o_is 1 (o_ic 0 (o_is 2 ((o_cut 4)))))
def BX9_litNow_37 : q_TT := o_il 1 (o_iret)
def BX9_litNow_12 : q_TT := o_il 1 (o_al 0 (o_il 2 (o_al 0 (o_getf 9 0 (o_ic 4 (o_iald (o_callV 9 2 wX9_isLit (o_call 1 wX9_one (o_il 2 (o_ishl (o_ior (o_is 1 (o_inc 2 1 ((o_cut 4)))))))))))))))
def BX9_litNow_4 : q_TT := o_il 2 (o_al 0 (o_getf 9 8 (o_icge BX9_litNow_37 BX9_litNow_12)))
def TX9_litNow : Nat → q_TT := fun pc => if pc = 0 then BX9_litNow_0 else if pc = 4 then BX9_litNow_4 else o_no
def wX9_litNow : q_WT := fun as sh m R => (q_loA as).length ≤ 3 ∧ q_WP TX9_litNow 0 (q_lo 3 as) [] sh m (q_R0 sh rmX9_litNow R)
/-! TumblingRockModel.told(I)I -/
def rmX9_told : Room := { frames := 4, cells := 0, slots := 0, locals := 90 }
def BX9_told_64 : q_TT := o_al 0 (o_getf 9 7 (o_iret))
def BX9_told_69 : q_TT := o_al 0 (o_getf 9 8 (o_iret))
def BX9_told_74 : q_TT := o_al 0 (o_getf 9 9 (o_iret))
def BX9_told_79 : q_TT := o_al 0 (o_getf 9 10 (o_iret))
def BX9_told_84 : q_TT := o_al 0 (o_getf 9 16 (o_iret))
def BX9_told_89 : q_TT := o_al 0 (o_getf 9 22 (o_iret))
def BX9_told_94 : q_TT := o_al 0 (o_getf 9 0 (o_ic 4 (o_iald (o_iret))))
def BX9_told_118 : q_TT := o_iret
def BX9_told_112 : q_TT := o_al 0 (o_getf 9 0 (o_ic 3 (o_iald (BX9_told_118))))
def BX9_told_108 : q_TT := o_ic (-1) (BX9_told_118)
def BX9_told_101 : q_TT := o_al 0 (o_getf 9 8 (o_ifne BX9_told_112 BX9_told_108))
def BX9_told_119 : q_TT := o_al 0 (o_getf 9 0 (o_ic 5 (o_iald (o_iret))))
def BX9_told_126 : q_TT := o_al 0 (o_getf 9 28 (o_iret))
def BX9_told_131 : q_TT := o_al 0 (o_getf 9 32 (o_iret))
def BX9_told_136 : q_TT := o_al 0 (o_callV 9 0 wX9_litNow (o_iret))
def BX9_told_141 : q_TT := o_ic (-1000000002) (o_iret)
def BX9_told_0 : q_TT := o_il 1 (o_sw 0 [BX9_told_64, BX9_told_69, BX9_told_74, BX9_told_79, BX9_told_84, BX9_told_89, BX9_told_94, BX9_told_101, BX9_told_119, BX9_told_126, BX9_told_131, BX9_told_136] BX9_told_141)
def TX9_told : Nat → q_TT := fun pc => if pc = 0 then BX9_told_0 else o_no
def wX9_told : q_WT := fun as sh m R => (q_loA as).length ≤ 2 ∧ q_WP TX9_told 0 (q_lo 2 as) [] sh m (q_R0 sh rmX9_told R)
/-! TumblingRockModel.turning(II)I -/
def rmX9_turning : Room := { frames := 2, cells := 0, slots := 0, locals := 46 }
def BX9_turning_89 : q_TT := o_iret
def BX9_turning_87 : q_TT := o_ic (-1000000002) (BX9_turning_89)
def BX9_turning_73 : q_TT := o_al 0 (o_getf 9 2 (o_ic 12 (o_il 1 (o_imul (o_il 3 (o_iadd (o_iald (BX9_turning_89))))))))
def BX9_turning_68 : q_TT := o_il 2 (o_ic 3 (o_icne BX9_turning_87 BX9_turning_73))
def BX9_turning_64 : q_TT := o_il 3 (BX9_turning_89)
def BX9_turning_59 : q_TT := o_il 2 (o_ic 2 (o_icne BX9_turning_68 BX9_turning_64))
def BX9_turning_50 : q_TT := o_al 0 (o_getf 9 0 (o_il 1 (o_iald (BX9_turning_89))))
def BX9_turning_45 : q_TT := o_il 2 (o_ic 1 (o_icne BX9_turning_59 BX9_turning_50))
def BX9_turning_36 : q_TT := o_al 0 (o_getf 9 3 (o_il 1 (o_iald (BX9_turning_89))))
def BX9_turning_11 : q_TT := o_al 0 (o_getf 9 0 (o_ic 4 (o_iald (o_al 0 (o_getf 9 0 (o_il 1 (o_iald (o_iadd (o_al 0 (o_getf 9 3 (o_il 1 (o_iald (o_irem (o_is 3 (o_il 2 (o_ifne BX9_turning_45 BX9_turning_36))))))))))))))))
def BX9_turning_8 : q_TT := o_ic (-1000000001) (o_iret)
def BX9_turning_0 : q_TT := o_al 0 (o_il 1 (o_callV 9 1 wX9_isTurning (o_ifne BX9_turning_11 BX9_turning_8)))
def TX9_turning : Nat → q_TT := fun pc => if pc = 0 then BX9_turning_0 else o_no
def wX9_turning : q_WT := fun as sh m R => (q_loA as).length ≤ 4 ∧ q_WP TX9_turning 0 (q_lo 4 as) [] sh m (q_R0 sh rmX9_turning R)
/-! TumblingRockModel.litSteps(I)I -/
def rmX9_litSteps : Room := { frames := 3, cells := 0, slots := 0, locals := 68 }
def BX9_litSteps_0 : q_TT := o_ic 0 (o_is 2 (o_ic 0 (o_is 3 ((o_cut 4)))))
def BX9_litSteps_30 : q_TT := o_il 2 (o_iret)
def BX9_litSteps_12 : q_TT := o_il 2 (o_al 0 (o_il 1 (o_il 3 (o_callV 9 2 wX9_isLit (o_call 1 wX9_one (o_iadd (o_is 2 (o_inc 3 1 ((o_cut 4))))))))))
def BX9_litSteps_4 : q_TT := o_il 3 (o_al 0 (o_getf 9 22 (o_icge BX9_litSteps_30 BX9_litSteps_12)))
def TX9_litSteps : Nat → q_TT := fun pc => if pc = 0 then BX9_litSteps_0 else if pc = 4 then BX9_litSteps_4 else o_no
def wX9_litSteps : q_WT := fun as sh m R => (q_loA as).length ≤ 4 ∧ q_WP TX9_litSteps 0 (q_lo 4 as) [] sh m (q_R0 sh rmX9_litSteps R)
/-! TumblingRockModel.dark(I)I -/
def rmX9_dark : Room := { frames := 3, cells := 0, slots := 0, locals := 68 }
def BX9_dark_0 : q_TT := o_ic 0 (o_is 2 (o_ic 0 (o_is 3 (o_ic 0 (o_is 4 ((o_cut 7)))))))
def BX9_dark_69 : q_TT := o_iret
def BX9_dark_68 : q_TT := o_il 2 (BX9_dark_69)
def BX9_dark_61 : q_TT := o_al 0 (o_getf 9 22 (BX9_dark_69))
def BX9_dark_53 : q_TT := o_il 2 (o_al 0 (o_getf 9 22 (o_icle BX9_dark_68 BX9_dark_61)))
def BX9_dark_46 : q_TT := o_is 2 (o_inc 4 1 ((o_cut 7)))
def BX9_dark_45 : q_TT := o_il 2 (BX9_dark_46)
def BX9_dark_41 : q_TT := o_il 3 (BX9_dark_46)
def BX9_dark_35 : q_TT := o_is 3 (o_il 3 (o_il 2 (o_icle BX9_dark_45 BX9_dark_41)))
def BX9_dark_32 : q_TT := o_il 3 (o_ic 1 (o_iadd (BX9_dark_35)))
def BX9_dark_28 : q_TT := o_ic 0 (BX9_dark_35)
def BX9_dark_18 : q_TT := o_al 0 (o_il 1 (o_il 4 (o_callV 9 2 wX9_isLit (o_ifeq BX9_dark_32 BX9_dark_28))))
def BX9_dark_7 : q_TT := o_il 4 (o_ic 2 (o_al 0 (o_getf 9 22 (o_imul (o_icge BX9_dark_53 BX9_dark_18)))))
def TX9_dark : Nat → q_TT := fun pc => if pc = 0 then BX9_dark_0 else if pc = 7 then BX9_dark_7 else o_no
def wX9_dark : q_WT := fun as sh m R => (q_loA as).length ≤ 5 ∧ q_WP TX9_dark 0 (q_lo 5 as) [] sh m (q_R0 sh rmX9_dark R)
/-! TumblingRockModel.place(II)I -/
def rmX9_place : Room := { frames := 4, cells := 0, slots := 0, locals := 92 }
def BX9_place_78 : q_TT := o_iret
def BX9_place_76 : q_TT := o_ic (-1000000002) (BX9_place_78)
def BX9_place_68 : q_TT := o_al 0 (o_il 1 (o_callV 9 1 wX9_litSteps (BX9_place_78)))
def BX9_place_63 : q_TT := o_il 2 (o_ic 5 (o_icne BX9_place_76 BX9_place_68))
def BX9_place_55 : q_TT := o_al 0 (o_il 1 (o_callV 9 1 wX9_dark (BX9_place_78)))
def BX9_place_50 : q_TT := o_il 2 (o_ic 4 (o_icne BX9_place_63 BX9_place_55))
def BX9_place_41 : q_TT := o_al 0 (o_getf 9 5 (o_il 1 (o_iald (BX9_place_78))))
def BX9_place_36 : q_TT := o_il 2 (o_ic 3 (o_icne BX9_place_50 BX9_place_41))
def BX9_place_23 : q_TT := o_al 0 (o_getf 9 4 (o_ic 3 (o_il 1 (o_imul (o_il 2 (o_iadd (o_iald (BX9_place_78))))))))
def BX9_place_11 : q_TT := o_il 2 (o_i2l (o_lc 0 (o_lc 2 (o_call 3 wX9_in (o_ifeq BX9_place_36 BX9_place_23)))))
def BX9_place_8 : q_TT := o_ic (-1000000001) (o_iret)
def BX9_place_0 : q_TT := o_al 0 (o_il 1 (o_callV 9 1 wX9_isPlace (o_ifne BX9_place_11 BX9_place_8)))
def TX9_place : Nat → q_TT := fun pc => if pc = 0 then BX9_place_0 else o_no
def wX9_place : q_WT := fun as sh m R => (q_loA as).length ≤ 3 ∧ q_WP TX9_place 0 (q_lo 3 as) [] sh m (q_R0 sh rmX9_place R)
/-! TumblingRockModel.height(II)I -/
def rmX9_height : Room := { frames := 2, cells := 0, slots := 0, locals := 46 }
def BX9_height_31 : q_TT := o_iret
def BX9_height_29 : q_TT := o_ic (-1000000002) (BX9_height_31)
def BX9_height_20 : q_TT := o_al 0 (o_il 1 (o_il 2 (o_callV 9 2 wX9_heightNow (BX9_height_31))))
def BX9_height_13 : q_TT := o_il 2 (o_call 1 wX9_isStep (o_ifeq BX9_height_29 BX9_height_20))
def BX9_height_8 : q_TT := o_ic (-1000000001) (BX9_height_31)
def BX9_height_0 : q_TT := o_al 0 (o_il 1 (o_callV 9 1 wX9_isPlace (o_ifne BX9_height_13 BX9_height_8)))
def TX9_height : Nat → q_TT := fun pc => if pc = 0 then BX9_height_0 else o_no
def wX9_height : q_WT := fun as sh m R => (q_loA as).length ≤ 3 ∧ q_WP TX9_height 0 (q_lo 3 as) [] sh m (q_R0 sh rmX9_height R)
/-! TumblingRockModel.pass(I)I -/
def rmX9_pass : Room := { frames := 3, cells := 0, slots := 0, locals := 68 }
def BX9_pass_0 : q_TT := o_al 0 (o_getf 9 0 (o_ic 3 (o_il 1 (o_iast (o_al 0 (o_getf 9 0 (o_ic 4 (o_dup2 (o_iald (o_ic 1 (o_iadd (o_iast (o_al 0 (o_il 1 (o_al 0 (o_getf 9 0 (o_ic 4 (o_iald (o_callV 9 2 wX9_isLit (o_call 1 wX9_one (o_is 2 (o_al 0 (o_getf 9 0 (o_ic 5 (o_dup2 (o_iald (o_il 2 (o_iadd (o_iast (o_il 2 (o_iret)))))))))))))))))))))))))))))))
def TX9_pass : Nat → q_TT := fun pc => if pc = 0 then BX9_pass_0 else o_no
def wX9_pass : q_WT := fun as sh m R => (q_loA as).length ≤ 3 ∧ q_WP TX9_pass 0 (q_lo 3 as) [] sh m (q_R0 sh rmX9_pass R)
/-! TumblingRockModel.stay(I)I -/
def rmX9_stay : Room := { frames := 4, cells := 0, slots := 0, locals := 90 }
def BX9_stay_25 : q_TT := o_ic 0 (o_is 2 (o_ic 0 (o_is 3 ((o_cut 29)))))
def BX9_stay_22 : q_TT := o_ic (-1000000003) (o_iret)
def BX9_stay_15 : q_TT := o_al 0 (o_getf 9 8 (o_ifne BX9_stay_25 BX9_stay_22))
def BX9_stay_12 : q_TT := o_ic (-1000000002) (o_iret)
def BX9_stay_0 : q_TT := o_il 1 (o_i2l (o_lc 1 (o_lc 999 (o_call 3 wX9_in (o_ifne BX9_stay_15 BX9_stay_12)))))
def BX9_stay_53 : q_TT := o_il 2 (o_iret)
def BX9_stay_34 : q_TT := o_il 2 (o_al 0 (o_al 0 (o_getf 9 0 (o_ic 3 (o_iald (o_callV 9 1 wX9_pass (o_iadd (o_is 2 (o_inc 3 1 ((o_cut 29)))))))))))
def BX9_stay_29 : q_TT := o_il 3 (o_il 1 (o_icge BX9_stay_53 BX9_stay_34))
def TX9_stay : Nat → q_TT := fun pc => if pc = 0 then BX9_stay_0 else if pc = 29 then BX9_stay_29 else o_no
def wX9_stay : q_WT := fun as sh m R => (q_loA as).length ≤ 4 ∧ q_WP TX9_stay 0 (q_lo 4 as) [] sh m (q_R0 sh rmX9_stay R)
/-! TumblingRockModel.go(I)I -/
def rmX9_go : Room := { frames := 4, cells := 0, slots := 0, locals := 90 }
def BX9_go_39 : q_TT := o_iret
def BX9_go_37 : q_TT := o_ic (-1000000003) (BX9_go_39)
def BX9_go_29 : q_TT := o_al 0 (o_il 1 (o_callV 9 1 wX9_pass (BX9_go_39)))
def BX9_go_11 : q_TT := o_al 0 (o_getf 9 5 (o_al 0 (o_getf 9 0 (o_ic 3 (o_iald (o_iald (o_il 1 (o_call 2 wX9_has (o_ifeq BX9_go_37 BX9_go_29)))))))))
def BX9_go_8 : q_TT := o_ic (-1000000001) (o_iret)
def BX9_go_0 : q_TT := o_al 0 (o_il 1 (o_callV 9 1 wX9_isPlace (o_ifne BX9_go_11 BX9_go_8)))
def TX9_go : Nat → q_TT := fun pc => if pc = 0 then BX9_go_0 else o_no
def wX9_go : q_WT := fun as sh m R => (q_loA as).length ≤ 2 ∧ q_WP TX9_go 0 (q_lo 2 as) [] sh m (q_R0 sh rmX9_go R)
/-! TumblingRockModel.knock(II)I -/
def rmX9_knock : Room := { frames := 2, cells := 0, slots := 0, locals := 46 }
def BX9_knock_26 : q_TT := o_al 0 (o_getf 9 0 (o_il 1 (o_al 0 (o_getf 9 0 (o_il 1 (o_iald (o_il 2 (o_iadd (o_al 0 (o_getf 9 3 (o_il 1 (o_iald (o_irem (o_iast (o_al 0 (o_getf 9 0 (o_il 1 (o_iald (o_iret)))))))))))))))))))
def BX9_knock_23 : q_TT := o_ic (-1000000002) (o_iret)
def BX9_knock_11 : q_TT := o_il 2 (o_i2l (o_lc 0 (o_lc 11 (o_call 3 wX9_in (o_ifne BX9_knock_26 BX9_knock_23)))))
def BX9_knock_8 : q_TT := o_ic (-1000000001) (o_iret)
def BX9_knock_0 : q_TT := o_al 0 (o_il 1 (o_callV 9 1 wX9_isTurning (o_ifne BX9_knock_11 BX9_knock_8)))
def TX9_knock : Nat → q_TT := fun pc => if pc = 0 then BX9_knock_0 else o_no
def wX9_knock : q_WT := fun as sh m R => (q_loA as).length ≤ 3 ∧ q_WP TX9_knock 0 (q_lo 3 as) [] sh m (q_R0 sh rmX9_knock R)
/-! TumblingRockModel.push(I)I -/
def rmX9_push : Room := { frames := 1, cells := 0, slots := 0, locals := 25 }
def BX9_push_19 : q_TT := o_ic 0 (o_is 2 (o_ic 0 (o_is 3 ((o_cut 23)))))
def BX9_push_16 : q_TT := o_ic (-1000000001) (o_iret)
def BX9_push_0 : q_TT := o_il 1 (o_i2l (o_lc 0 (o_al 0 (o_getf 9 10 (o_ic 1 (o_isub (o_i2l (o_call 3 wX9_in (o_ifne BX9_push_19 BX9_push_16)))))))))
def BX9_push_94 : q_TT := o_il 2 (o_iret)
def BX9_push_60 : q_TT := o_ic 0 ((o_cut 61))
def BX9_push_56 : q_TT := o_ic 1 ((o_cut 61))
def BX9_push_31 : q_TT := o_al 0 (o_getf 9 6 (o_ic 3 (o_il 1 (o_imul (o_il 3 (o_iadd (o_iald (o_al 0 (o_getf 9 3 (o_il 3 (o_iald (o_irem (o_is 4 (o_il 2 (o_il 4 (o_ifle BX9_push_60 BX9_push_56))))))))))))))))
def BX9_push_23 : q_TT := o_il 3 (o_al 0 (o_getf 9 7 (o_icge BX9_push_94 BX9_push_31)))
def BX9_push_61 : q_TT := o_call 1 wX9_one (o_iadd (o_is 2 (o_al 0 (o_getf 9 0 (o_il 3 (o_al 0 (o_getf 9 0 (o_il 3 (o_iald (o_il 4 (o_iadd (o_al 0 (o_getf 9 3 (o_il 3 (o_iald (o_irem (o_iast (o_inc 3 1 ((o_cut 23))))))))))))))))))))
def TX9_push : Nat → q_TT := fun pc => if pc = 0 then BX9_push_0 else if pc = 23 then BX9_push_23 else if pc = 61 then BX9_push_61 else o_no
def wX9_push : q_WT := fun as sh m R => (q_loA as).length ≤ 5 ∧ q_WP TX9_push 0 (q_lo 5 as) [] sh m (q_R0 sh rmX9_push R)
/-! TumblingRockModel.draw(I)I -/
def rmX9_draw : Room := { frames := 0, cells := 0, slots := 0, locals := 0 }
def BX9_draw_0 : q_TT := o_al 0 (o_getf 9 0 (o_ic 6 (o_al 0 (o_getf 9 0 (o_ic 6 (o_iald (o_i2l (o_lc 1103515245 (o_lmul (o_lc 12345 (o_ladd (o_lc 2147483648 (o_lrem (o_l2i (o_iast (o_al 0 (o_getf 9 0 (o_ic 6 (o_iald (o_ic 65536 (o_idiv (o_il 1 (o_irem (o_iret))))))))))))))))))))))))
def TX9_draw : Nat → q_TT := fun pc => if pc = 0 then BX9_draw_0 else o_no
def wX9_draw : q_WT := fun as sh m R => (q_loA as).length ≤ 2 ∧ q_WP TX9_draw 0 (q_lo 2 as) [] sh m (q_R0 sh rmX9_draw R)
/-! TumblingRockModel.ones(I)I -/
def rmX9_ones : Room := { frames := 0, cells := 0, slots := 0, locals := 0 }
def BX9_ones_0 : q_TT := o_ic 0 (o_is 1 (o_ic 0 (o_is 2 ((o_cut 4)))))
def BX9_ones_24 : q_TT := o_il 1 (o_iret)
def BX9_ones_10 : q_TT := o_il 1 (o_il 0 (o_il 2 (o_ishr (o_ic 1 (o_iand (o_iadd (o_is 1 (o_inc 2 1 ((o_cut 4))))))))))
def BX9_ones_4 : q_TT := o_il 2 (o_ic 8 (o_icge BX9_ones_24 BX9_ones_10))
def TX9_ones : Nat → q_TT := fun pc => if pc = 0 then BX9_ones_0 else if pc = 4 then BX9_ones_4 else o_no
def wX9_ones : q_WT := fun as sh m R => (q_loA as).length ≤ 3 ∧ q_WP TX9_ones 0 (q_lo 3 as) [] sh m (q_R0 sh rmX9_ones R)
/-! TumblingRockModel.wayByDraw()I -/
def rmX9_wayByDraw : Room := { frames := 1, cells := 0, slots := 0, locals := 22 }
def BX9_wayByDraw_23 : q_TT := o_al 0 (o_il 1 (o_call 1 wX9_ones (o_callV 9 1 wX9_draw (o_is 2 (o_ic 0 (o_is 3 ((o_cut 34))))))))
def BX9_wayByDraw_16 : q_TT := o_al 0 (o_getf 9 0 (o_ic 3 (o_iald (o_iret))))
def BX9_wayByDraw_0 : q_TT := o_al 0 (o_getf 9 5 (o_al 0 (o_getf 9 0 (o_ic 3 (o_iald (o_iald (o_is 1 (o_il 1 (o_ifne BX9_wayByDraw_23 BX9_wayByDraw_16)))))))))
def BX9_wayByDraw_46 : q_TT := o_il 2 (o_il 1 (o_il 3 (o_call 2 wX9_has (o_call 1 wX9_one (o_isub (o_is 2 (o_inc 3 1 ((o_cut 34)))))))))
def BX9_wayByDraw_63 : q_TT := o_il 3 (o_iret)
def BX9_wayByDraw_42 : q_TT := o_il 2 (o_ifle BX9_wayByDraw_63 BX9_wayByDraw_46)
def BX9_wayByDraw_34 : q_TT := o_il 1 (o_il 3 (o_call 2 wX9_has (o_ifeq BX9_wayByDraw_46 BX9_wayByDraw_42)))
def TX9_wayByDraw : Nat → q_TT := fun pc => if pc = 0 then BX9_wayByDraw_0 else if pc = 34 then BX9_wayByDraw_34 else o_no
def wX9_wayByDraw : q_WT := fun as sh m R => (q_loA as).length ≤ 4 ∧ q_WP TX9_wayByDraw 0 (q_lo 4 as) [] sh m (q_R0 sh rmX9_wayByDraw R)
/-! TumblingRockModel.drift(I)I -/
def rmX9_drift : Room := { frames := 4, cells := 0, slots := 0, locals := 90 }
def BX9_drift_29 : q_TT := o_ic (-1000000003) (o_iret)
def BX9_drift_32 : q_TT := o_ic 0 (o_is 2 (o_ic 0 (o_is 3 ((o_cut 36)))))
def BX9_drift_22 : q_TT := o_al 0 (o_getf 9 8 (o_ifne BX9_drift_32 BX9_drift_29))
def BX9_drift_15 : q_TT := o_al 0 (o_getf 9 7 (o_ifeq BX9_drift_29 BX9_drift_22))
def BX9_drift_12 : q_TT := o_ic (-1000000002) (o_iret)
def BX9_drift_0 : q_TT := o_il 1 (o_i2l (o_lc 1 (o_lc 99 (o_call 3 wX9_in (o_ifne BX9_drift_15 BX9_drift_12)))))
def BX9_drift_126 : q_TT := o_il 2 (o_iret)
def BX9_drift_111 : q_TT := o_il 2 (o_al 0 (o_il 4 (o_callV 9 1 wX9_pass (o_iadd (o_is 2 (o_inc 3 1 ((o_cut 36))))))))
def BX9_drift_105 : q_TT := o_al 0 (o_callV 9 0 wX9_wayByDraw (o_is 4 (BX9_drift_111)))
def BX9_drift_58 : q_TT := o_al 0 (o_al 0 (o_getf 9 7 (o_callV 9 1 wX9_draw (o_is 5 (o_al 0 (o_getf 9 0 (o_il 5 (o_al 0 (o_getf 9 0 (o_il 5 (o_iald (o_al 0 (o_al 0 (o_getf 9 3 (o_il 5 (o_iald (o_callV 9 1 wX9_draw (o_iadd (o_al 0 (o_getf 9 3 (o_il 5 (o_iald (o_irem (o_iast (BX9_drift_111)))))))))))))))))))))))))
def BX9_drift_41 : q_TT := o_al 0 (o_getf 9 0 (o_ic 3 (o_iald (o_is 4 (o_al 0 (o_ic 8 (o_callV 9 1 wX9_draw (o_ifne BX9_drift_105 BX9_drift_58))))))))
def BX9_drift_36 : q_TT := o_il 3 (o_il 1 (o_icge BX9_drift_126 BX9_drift_41))
def TX9_drift : Nat → q_TT := fun pc => if pc = 0 then BX9_drift_0 else if pc = 36 then BX9_drift_36 else o_no
def wX9_drift : q_WT := fun as sh m R => (q_loA as).length ≤ 6 ∧ q_WP TX9_drift 0 (q_lo 6 as) [] sh m (q_R0 sh rmX9_drift R)
/-! TumblingRockModel.next(III)I -/
def rmX9_next : Room := { frames := 3, cells := 0, slots := 0, locals := 68 }
def BX9_next_28 : q_TT := o_ic (-1000000002) (o_iret)
def BX9_next_31 : q_TT := o_ic 0 (o_is 4 ((o_cut 34)))
def BX9_next_18 : q_TT := o_il 3 (o_i2l (o_lc 0 (o_lc 1 (o_call 3 wX9_in (o_ifne BX9_next_31 BX9_next_28)))))
def BX9_next_11 : q_TT := o_il 2 (o_call 1 wX9_isStep (o_ifeq BX9_next_28 BX9_next_18))
def BX9_next_8 : q_TT := o_ic (-1000000001) (o_iret)
def BX9_next_0 : q_TT := o_al 0 (o_il 1 (o_callV 9 1 wX9_isPlace (o_ifne BX9_next_11 BX9_next_8)))
def BX9_next_72 : q_TT := o_ic 0 (o_is 5 ((o_cut 75)))
def BX9_next_70 : q_TT := o_ic (-1) (o_iret)
def BX9_next_61 : q_TT := o_il 4 (o_al 0 (o_getf 9 22 (o_icne BX9_next_72 BX9_next_70)))
def BX9_next_55 : q_TT := o_inc 4 1 ((o_cut 34))
def BX9_next_43 : q_TT := o_al 0 (o_il 1 (o_il 2 (o_il 4 (o_iadd (o_callV 9 2 wX9_isLit (o_ifne BX9_next_61 BX9_next_55))))))
def BX9_next_34 : q_TT := o_il 4 (o_al 0 (o_getf 9 22 (o_icge BX9_next_61 BX9_next_43)))
def BX9_next_116 : q_TT := o_iret
def BX9_next_114 : q_TT := o_il 5 (BX9_next_116)
def BX9_next_109 : q_TT := o_il 4 (BX9_next_116)
def BX9_next_105 : q_TT := o_il 3 (o_ifne BX9_next_114 BX9_next_109)
def BX9_next_99 : q_TT := o_inc 5 1 ((o_cut 75))
def BX9_next_84 : q_TT := o_al 0 (o_il 1 (o_il 2 (o_il 4 (o_iadd (o_il 5 (o_iadd (o_callV 9 2 wX9_isLit (o_ifeq BX9_next_105 BX9_next_99))))))))
def BX9_next_75 : q_TT := o_il 5 (o_al 0 (o_getf 9 22 (o_icge BX9_next_105 BX9_next_84)))
def TX9_next : Nat → q_TT := fun pc => if pc = 0 then BX9_next_0 else if pc = 34 then BX9_next_34 else if pc = 75 then BX9_next_75 else o_no
def wX9_next : q_WT := fun as sh m R => (q_loA as).length ≤ 6 ∧ q_WP TX9_next 0 (q_lo 6 as) [] sh m (q_R0 sh rmX9_next R)
/-! TumblingRockModel.share(II)I -/
def rmX9_share : Room := { frames := 4, cells := 0, slots := 0, locals := 91 }
def BX9_share_58 : q_TT := o_iret
def BX9_share_51 : q_TT := o_al 0 (o_getf 9 22 (o_il 4 (o_idiv (BX9_share_58))))
def BX9_share_44 : q_TT := o_il 3 (o_il 4 (o_idiv (BX9_share_58)))
def BX9_share_24 : q_TT := o_al 0 (o_il 1 (o_callV 9 1 wX9_litSteps (o_is 3 (o_al 0 (o_getf 9 22 (o_il 3 (o_call 2 wX9_common (o_is 4 (o_il 2 (o_ifne BX9_share_51 BX9_share_44))))))))))
def BX9_share_21 : q_TT := o_ic (-1000000002) (o_iret)
def BX9_share_11 : q_TT := o_il 2 (o_i2l (o_lc 0 (o_lc 1 (o_call 3 wX9_in (o_ifne BX9_share_24 BX9_share_21)))))
def BX9_share_8 : q_TT := o_ic (-1000000001) (o_iret)
def BX9_share_0 : q_TT := o_al 0 (o_il 1 (o_callV 9 1 wX9_isPlace (o_ifne BX9_share_11 BX9_share_8)))
def TX9_share : Nat → q_TT := fun pc => if pc = 0 then BX9_share_0 else o_no
def wX9_share : q_WT := fun as sh m R => (q_loA as).length ≤ 5 ∧ q_WP TX9_share 0 (q_lo 5 as) [] sh m (q_R0 sh rmX9_share R)
/-! TumblingRockModel.stand(IIII)I -/
def rmX9_stand : Room := { frames := 2, cells := 0, slots := 0, locals := 45 }
def BX9_stand_44 : q_TT := o_ic (-1000000002) (o_iret)
def BX9_stand_47 : q_TT := o_ic 0 (o_is 5 ((o_cut 50)))
def BX9_stand_36 : q_TT := o_il 4 (o_call 1 wX9_isStep (o_ifne BX9_stand_47 BX9_stand_44))
def BX9_stand_24 : q_TT := o_il 3 (o_i2l (o_lc 0 (o_lc 11 (o_call 3 wX9_in (o_ifeq BX9_stand_44 BX9_stand_36)))))
def BX9_stand_12 : q_TT := o_il 2 (o_i2l (o_lc 0 (o_lc 11 (o_call 3 wX9_in (o_ifeq BX9_stand_44 BX9_stand_24)))))
def BX9_stand_0 : q_TT := o_il 1 (o_i2l (o_lc 0 (o_lc 11 (o_call 3 wX9_in (o_ifeq BX9_stand_44 BX9_stand_12)))))
def BX9_stand_153 : q_TT := o_ic (-1) (o_iret)
def BX9_stand_59 : q_TT := o_ic 1 (o_is 6 (o_ic 0 (o_is 7 ((o_cut 65)))))
def BX9_stand_50 : q_TT := o_il 5 (o_al 0 (o_getf 9 22 (o_icge BX9_stand_153 BX9_stand_59)))
def BX9_stand_147 : q_TT := o_inc 5 1 ((o_cut 50))
def BX9_stand_141 : q_TT := o_il 4 (o_il 5 (o_iadd (o_iret)))
def BX9_stand_136 : q_TT := o_il 6 (o_ifeq BX9_stand_147 BX9_stand_141)
def BX9_stand_128 : q_TT := o_is 6 (o_inc 7 1 ((o_cut 65)))
def BX9_stand_127 : q_TT := o_ic 0 (BX9_stand_128)
def BX9_stand_123 : q_TT := o_ic 1 (BX9_stand_128)
def BX9_stand_120 : q_TT := o_icne BX9_stand_127 BX9_stand_123
def BX9_stand_119 : q_TT := o_il 3 (BX9_stand_120)
def BX9_stand_115 : q_TT := o_il 2 (BX9_stand_120)
def BX9_stand_109 : q_TT := o_il 7 (o_ic 1 (o_icne BX9_stand_119 BX9_stand_115))
def BX9_stand_105 : q_TT := o_il 1 (BX9_stand_120)
def BX9_stand_79 : q_TT := o_il 4 (o_il 5 (o_iadd (o_al 0 (o_getf 9 0 (o_il 7 (o_iald (o_iadd (o_al 0 (o_getf 9 3 (o_il 7 (o_iald (o_irem (o_il 7 (o_ifne BX9_stand_109 BX9_stand_105))))))))))))))
def BX9_stand_74 : q_TT := o_il 6 (o_ifeq BX9_stand_127 BX9_stand_79)
def BX9_stand_65 : q_TT := o_il 7 (o_al 0 (o_getf 9 7 (o_icge BX9_stand_136 BX9_stand_74)))
def TX9_stand : Nat → q_TT := fun pc => if pc = 0 then BX9_stand_0 else if pc = 50 then BX9_stand_50 else if pc = 65 then BX9_stand_65 else o_no
def wX9_stand : q_WT := fun as sh m R => (q_loA as).length ≤ 8 ∧ q_WP TX9_stand 0 (q_lo 8 as) [] sh m (q_R0 sh rmX9_stand R)
/-! TumblingRockModel.mayGo(II)Z -/
def rmX9_mayGo : Room := { frames := 1, cells := 0, slots := 0, locals := 21 }
def BX9_mayGo_23 : q_TT := o_zret
def BX9_mayGo_18 : q_TT := o_ic 1 (BX9_mayGo_23)
def BX9_mayGo_22 : q_TT := o_ic 0 (BX9_mayGo_23)
def BX9_mayGo_5 : q_TT := o_al 0 (o_getf 9 5 (o_il 1 (o_iald (o_il 2 (o_call 2 wX9_has (o_ifeq BX9_mayGo_22 BX9_mayGo_18))))))
def BX9_mayGo_0 : q_TT := o_il 1 (o_il 2 (o_iceq BX9_mayGo_18 BX9_mayGo_5))
def TX9_mayGo : Nat → q_TT := fun pc => if pc = 0 then BX9_mayGo_0 else o_no
def wX9_mayGo : q_WT := fun as sh m R => (q_loA as).length ≤ 3 ∧ q_WP TX9_mayGo 0 (q_lo 3 as) [] sh m (q_R0 sh rmX9_mayGo R)
/-! TumblingRockModel.bestNext(III)I -/
def rmX9_bestNext : Room := { frames := 3, cells := 0, slots := 0, locals := 68 }
def BX9_bestNext_0 : q_TT := o_ic (-1) (o_is 4 (o_ic (-1) (o_is 5 (o_ic 0 (o_is 6 ((o_cut 9)))))))
def BX9_bestNext_82 : q_TT := o_il 4 (o_iret)
def BX9_bestNext_76 : q_TT := o_inc 6 1 ((o_cut 9))
def BX9_bestNext_68 : q_TT := o_il 6 (o_is 4 (o_il 7 (o_is 5 (BX9_bestNext_76))))
def BX9_bestNext_59 : q_TT := o_is 7 (o_il 7 (o_il 5 (o_icle BX9_bestNext_76 BX9_bestNext_68)))
def BX9_bestNext_58 : q_TT := o_ic (-1) (BX9_bestNext_59)
def BX9_bestNext_28 : q_TT := o_al 0 (o_il 6 (o_il 2 (o_ic 1 (o_iadd (o_callV 9 2 wX9_isLit (o_call 1 wX9_one (o_al 0 (o_getf 9 24 (o_ic 8 (o_il 3 (o_ic 1 (o_isub (o_imul (o_il 6 (o_iadd (o_iald (o_iadd (BX9_bestNext_59))))))))))))))))))
def BX9_bestNext_18 : q_TT := o_al 0 (o_il 1 (o_il 6 (o_callV 9 2 wX9_mayGo (o_ifeq BX9_bestNext_58 BX9_bestNext_28))))
def BX9_bestNext_9 : q_TT := o_il 6 (o_al 0 (o_getf 9 8 (o_icge BX9_bestNext_82 BX9_bestNext_18)))
def TX9_bestNext : Nat → q_TT := fun pc => if pc = 0 then BX9_bestNext_0 else if pc = 9 then BX9_bestNext_9 else o_no
def wX9_bestNext : q_WT := fun as sh m R => (q_loA as).length ≤ 8 ∧ q_WP TX9_bestNext 0 (q_lo 8 as) [] sh m (q_R0 sh rmX9_bestNext R)
/-! TumblingRockModel.way(IIII)I -/
def rmX9_way : Room := { frames := 4, cells := 0, slots := 0, locals := 95 }
def BX9_way_44 : q_TT := o_ic (-1000000002) (o_iret)
def BX9_way_47 : q_TT := o_ic 0 (o_is 5 ((o_cut 50)))
def BX9_way_30 : q_TT := o_il 4 (o_i2l (o_lc (-1) (o_il 3 (o_i2l (o_call 3 wX9_in (o_ifne BX9_way_47 BX9_way_44))))))
def BX9_way_18 : q_TT := o_il 3 (o_i2l (o_lc 1 (o_lc 40 (o_call 3 wX9_in (o_ifeq BX9_way_44 BX9_way_30)))))
def BX9_way_11 : q_TT := o_il 2 (o_call 1 wX9_isStep (o_ifeq BX9_way_44 BX9_way_18))
def BX9_way_8 : q_TT := o_ic (-1000000001) (o_iret)
def BX9_way_0 : q_TT := o_al 0 (o_il 1 (o_callV 9 1 wX9_isPlace (o_ifne BX9_way_11 BX9_way_8)))
def BX9_way_71 : q_TT := o_ic 1 (o_is 5 ((o_cut 74)))
def BX9_way_57 : q_TT := o_al 0 (o_getf 9 24 (o_il 5 (o_ic 0 (o_iast (o_inc 5 1 ((o_cut 50)))))))
def BX9_way_50 : q_TT := o_il 5 (o_ic 8 (o_icge BX9_way_71 BX9_way_57))
def BX9_way_183 : q_TT := o_il 1 (o_is 5 (o_ic 0 (o_is 6 ((o_cut 189)))))
def BX9_way_171 : q_TT := o_al 0 (o_getf 9 24 (o_ic 8 (o_il 3 (o_imul (o_il 1 (o_iadd (o_iald (o_iret))))))))
def BX9_way_166 : q_TT := o_il 4 (o_ifge BX9_way_183 BX9_way_171)
def BX9_way_80 : q_TT := o_ic 0 (o_is 6 ((o_cut 83)))
def BX9_way_74 : q_TT := o_il 5 (o_il 3 (o_icgt BX9_way_166 BX9_way_80))
def BX9_way_160 : q_TT := o_inc 5 1 ((o_cut 74))
def BX9_way_92 : q_TT := o_il 2 (o_il 3 (o_iadd (o_il 5 (o_isub (o_is 7 (o_al 0 (o_il 6 (o_il 7 (o_il 5 (o_callV 9 3 wX9_bestNext (o_is 8 (o_al 0 (o_getf 9 24 (o_ic 8 (o_il 5 (o_imul (o_il 6 (o_iadd (o_al 0 (o_il 8 (o_il 7 (o_ic 1 (o_iadd (o_callV 9 2 wX9_isLit (o_call 1 wX9_one (o_al 0 (o_getf 9 24 (o_ic 8 (o_il 5 (o_ic 1 (o_isub (o_imul (o_il 8 (o_iadd (o_iald (o_iadd (o_iast (o_inc 6 1 ((o_cut 83))))))))))))))))))))))))))))))))))))))))
def BX9_way_83 : q_TT := o_il 6 (o_al 0 (o_getf 9 8 (o_icge BX9_way_160 BX9_way_92)))
def BX9_way_218 : q_TT := o_il 5 (o_iret)
def BX9_way_196 : q_TT := o_al 0 (o_il 5 (o_il 2 (o_il 6 (o_iadd (o_il 3 (o_il 6 (o_isub (o_callV 9 3 wX9_bestNext (o_is 5 (o_inc 6 1 ((o_cut 189))))))))))))
def BX9_way_189 : q_TT := o_il 6 (o_il 4 (o_icge BX9_way_218 BX9_way_196))
def TX9_way : Nat → q_TT := fun pc => if pc = 0 then BX9_way_0 else if pc = 50 then BX9_way_50 else if pc = 74 then BX9_way_74 else if pc = 83 then BX9_way_83 else if pc = 189 then BX9_way_189 else o_no
def wX9_way : q_WT := fun as sh m R => (q_loA as).length ≤ 9 ∧ q_WP TX9_way 0 (q_lo 9 as) [] sh m (q_R0 sh rmX9_way R)
/-! TumblingRockModel.mail(III)I -/
def rmX9_mail : Room := { frames := 3, cells := 0, slots := 0, locals := 68 }
def BX9_mail_16 : q_TT := o_ic (-1000000001) (o_iret)
def BX9_mail_29 : q_TT := o_al 0 (o_il 1 (o_il 3 (o_callV 9 2 wX9_isLit (o_call 1 wX9_one (o_il 1 (o_ishl (o_is 4 (o_ic 0 (o_is 5 ((o_cut 45)))))))))))
def BX9_mail_26 : q_TT := o_ic (-1000000002) (o_iret)
def BX9_mail_19 : q_TT := o_il 3 (o_call 1 wX9_isStep (o_ifne BX9_mail_29 BX9_mail_26))
def BX9_mail_8 : q_TT := o_al 0 (o_il 2 (o_callV 9 1 wX9_isPlace (o_ifne BX9_mail_19 BX9_mail_16)))
def BX9_mail_0 : q_TT := o_al 0 (o_il 1 (o_callV 9 1 wX9_isPlace (o_ifeq BX9_mail_16 BX9_mail_8)))
def BX9_mail_166 : q_TT := o_ic (-1) (o_iret)
def BX9_mail_74 : q_TT := o_ic 0 (o_is 6 (o_ic 0 (o_is 7 ((o_cut 80)))))
def BX9_mail_71 : q_TT := o_il 5 (o_iret)
def BX9_mail_62 : q_TT := o_il 4 (o_il 2 (o_call 2 wX9_has (o_ifeq BX9_mail_74 BX9_mail_71)))
def BX9_mail_57 : q_TT := o_il 4 (o_ifeq BX9_mail_166 BX9_mail_62)
def BX9_mail_45 : q_TT := o_il 5 (o_ic 8 (o_al 0 (o_getf 9 22 (o_imul (o_icgt BX9_mail_166 BX9_mail_57)))))
def BX9_mail_156 : q_TT := o_il 6 (o_is 4 (o_inc 5 1 ((o_cut 45))))
def BX9_mail_111 : q_TT := o_ic 0 ((o_cut 112))
def BX9_mail_107 : q_TT := o_ic 1 ((o_cut 112))
def BX9_mail_89 : q_TT := o_il 4 (o_al 0 (o_getf 9 5 (o_il 7 (o_iald (o_ic 1 (o_il 7 (o_ishl (o_ior (o_iand (o_ifeq BX9_mail_111 BX9_mail_107))))))))))
def BX9_mail_80 : q_TT := o_il 7 (o_al 0 (o_getf 9 8 (o_icge BX9_mail_156 BX9_mail_89)))
def BX9_mail_141 : q_TT := o_call 1 wX9_one (o_il 7 (o_ishl (o_ior (o_is 6 (o_inc 7 1 ((o_cut 80)))))))
def BX9_mail_140 : q_TT := o_ic 0 (BX9_mail_141)
def BX9_mail_136 : q_TT := o_ic 1 (BX9_mail_141)
def BX9_mail_121 : q_TT := o_al 0 (o_il 7 (o_il 3 (o_il 5 (o_iadd (o_ic 1 (o_iadd (o_callV 9 2 wX9_isLit (o_ifeq BX9_mail_140 BX9_mail_136))))))))
def BX9_mail_112 : q_TT := o_is 8 (o_il 6 (o_il 8 (o_ifeq BX9_mail_140 BX9_mail_121)))
def TX9_mail : Nat → q_TT := fun pc => if pc = 0 then BX9_mail_0 else if pc = 45 then BX9_mail_45 else if pc = 80 then BX9_mail_80 else if pc = 112 then BX9_mail_112 else o_no
def wX9_mail : q_WT := fun as sh m R => (q_loA as).length ≤ 9 ∧ q_WP TX9_mail 0 (q_lo 9 as) [] sh m (q_R0 sh rmX9_mail R)
/-! TumblingRockModel.cross(III)I -/
def rmX9_cross : Room := { frames := 2, cells := 0, slots := 0, locals := 46 }
def BX9_cross_21 : q_TT := o_ic (-1000000001) (o_iret)
def BX9_cross_34 : q_TT := o_ic 0 (o_is 4 ((o_cut 37)))
def BX9_cross_31 : q_TT := o_ic (-1000000002) (o_iret)
def BX9_cross_24 : q_TT := o_il 3 (o_call 1 wX9_isStep (o_ifne BX9_cross_34 BX9_cross_31))
def BX9_cross_16 : q_TT := o_il 1 (o_il 2 (o_icne BX9_cross_24 BX9_cross_21))
def BX9_cross_8 : q_TT := o_al 0 (o_il 2 (o_callV 9 1 wX9_isPlace (o_ifeq BX9_cross_21 BX9_cross_16)))
def BX9_cross_0 : q_TT := o_al 0 (o_il 1 (o_callV 9 1 wX9_isPlace (o_ifeq BX9_cross_21 BX9_cross_8)))
def BX9_cross_87 : q_TT := o_ic (-1) (o_iret)
def BX9_cross_81 : q_TT := o_inc 4 1 ((o_cut 37))
def BX9_cross_76 : q_TT := o_il 3 (o_il 4 (o_iadd (o_iret)))
def BX9_cross_62 : q_TT := o_il 5 (o_al 0 (o_il 2 (o_il 3 (o_il 4 (o_iadd (o_callV 9 2 wX9_heightNow (o_icne BX9_cross_81 BX9_cross_76)))))))
def BX9_cross_46 : q_TT := o_al 0 (o_il 1 (o_il 3 (o_il 4 (o_iadd (o_callV 9 2 wX9_heightNow (o_is 5 (o_il 5 (o_ifle BX9_cross_81 BX9_cross_62))))))))
def BX9_cross_37 : q_TT := o_il 4 (o_al 0 (o_getf 9 22 (o_icge BX9_cross_87 BX9_cross_46)))
def TX9_cross : Nat → q_TT := fun pc => if pc = 0 then BX9_cross_0 else if pc = 37 then BX9_cross_37 else o_no
def wX9_cross : q_WT := fun as sh m R => (q_loA as).length ≤ 6 ∧ q_WP TX9_cross 0 (q_lo 6 as) [] sh m (q_R0 sh rmX9_cross R)
/-! TumblingRockModel.store()I -/
def rmX9_store : Room := { frames := 4, cells := 0, slots := 0, locals := 92 }
def BX9_store_0 : q_TT := o_ic (-1) (o_is 1 (o_ic 99999999 (o_is 2 (o_ic 0 (o_is 3 ((o_cut 7)))))))
def BX9_store_39 : q_TT := o_il 1 (o_iret)
def BX9_store_33 : q_TT := o_inc 3 1 ((o_cut 7))
def BX9_store_28 : q_TT := o_il 3 (o_is 1 (o_il 4 (o_is 2 (BX9_store_33))))
def BX9_store_15 : q_TT := o_al 0 (o_il 3 (o_callV 9 1 wX9_dark (o_is 4 (o_il 4 (o_il 2 (o_icge BX9_store_33 BX9_store_28))))))
def BX9_store_7 : q_TT := o_il 3 (o_al 0 (o_getf 9 8 (o_icge BX9_store_39 BX9_store_15)))
def TX9_store : Nat → q_TT := fun pc => if pc = 0 then BX9_store_0 else if pc = 7 then BX9_store_7 else o_no
def wX9_store : q_WT := fun as sh m R => (q_loA as).length ≤ 5 ∧ q_WP TX9_store 0 (q_lo 5 as) [] sh m (q_R0 sh rmX9_store R)
/-! TumblingRockModel.see(IIZ)I -/
def rmX9_see : Room := { frames := 2, cells := 0, slots := 0, locals := 46 }
def BX9_see_38 : q_TT := o_al 0 (o_getf 9 25 (o_al 0 (o_getf 9 28 (o_il 1 (o_iast (o_al 0 (o_getf 9 26 (o_al 0 (o_getf 9 28 (o_il 2 (o_iast (o_al 0 (o_getf 9 27 (o_al 0 (o_getf 9 28 (o_il 3 (o_zast (o_al 0 (o_dup (o_getf 9 28 (o_ic 1 (o_iadd (o_putf 9 28 (o_al 0 (o_getf 9 28 (o_iret))))))))))))))))))))))))))
def BX9_see_35 : q_TT := o_ic (-1000000004) (o_iret)
def BX9_see_26 : q_TT := o_al 0 (o_getf 9 28 (o_ic 20 (o_icne BX9_see_38 BX9_see_35)))
def BX9_see_23 : q_TT := o_ic (-1000000002) (o_iret)
def BX9_see_11 : q_TT := o_il 2 (o_i2l (o_lc 0 (o_lc 9999 (o_call 3 wX9_in (o_ifne BX9_see_26 BX9_see_23)))))
def BX9_see_8 : q_TT := o_ic (-1000000001) (o_iret)
def BX9_see_0 : q_TT := o_al 0 (o_il 1 (o_callV 9 1 wX9_isPlace (o_ifne BX9_see_11 BX9_see_8)))
def TX9_see : Nat → q_TT := fun pc => if pc = 0 then BX9_see_0 else o_no
def wX9_see : q_WT := fun as sh m R => (q_loA as).length ≤ 4 ∧ q_WP TX9_see 0 (q_lo 4 as) [] sh m (q_R0 sh rmX9_see R)
/-! TumblingRockModel.codes()I -/
def rmX9_codes : Room := { frames := 0, cells := 0, slots := 0, locals := 0 }
def BX9_codes_0 : q_TT := o_al 0 (o_getf 9 3 (o_ic 0 (o_iald (o_al 0 (o_getf 9 3 (o_ic 1 (o_iald (o_imul (o_al 0 (o_getf 9 3 (o_ic 2 (o_iald (o_imul (o_iret))))))))))))))
def TX9_codes : Nat → q_TT := fun pc => if pc = 0 then BX9_codes_0 else o_no
def wX9_codes : q_WT := fun as sh m R => (q_loA as).length ≤ 1 ∧ q_WP TX9_codes 0 (q_lo 1 as) [] sh m (q_R0 sh rmX9_codes R)
/-! TumblingRockModel.fitsAll(I)Z -/
def rmX9_fitsAll : Room := { frames := 1, cells := 0, slots := 0, locals := 24 }
def BX9_fitsAll_0 : q_TT := o_al 0 (o_getf 9 23 (o_ic 0 (o_il 1 (o_al 0 (o_getf 9 3 (o_ic 1 (o_iald (o_al 0 (o_getf 9 3 (o_ic 2 (o_iald (o_imul (o_idiv (o_iast (o_al 0 (o_getf 9 23 (o_ic 1 (o_il 1 (o_al 0 (o_getf 9 3 (o_ic 2 (o_iald (o_idiv (o_al 0 (o_getf 9 3 (o_ic 1 (o_iald (o_irem (o_iast (o_al 0 (o_getf 9 23 (o_ic 2 (o_il 1 (o_al 0 (o_getf 9 3 (o_ic 2 (o_iald (o_irem (o_iast (o_ic 1 (o_is 2 (o_ic 0 (o_is 3 ((o_cut 60)))))))))))))))))))))))))))))))))))))))))))))
def BX9_fitsAll_117 : q_TT := o_il 2 (o_zret)
def BX9_fitsAll_110 : q_TT := o_is 2 (o_inc 3 1 ((o_cut 60)))
def BX9_fitsAll_109 : q_TT := o_ic 0 (BX9_fitsAll_110)
def BX9_fitsAll_105 : q_TT := o_ic 1 (BX9_fitsAll_110)
def BX9_fitsAll_96 : q_TT := o_al 0 (o_getf 9 27 (o_il 3 (o_zald (o_icne BX9_fitsAll_109 BX9_fitsAll_105))))
def BX9_fitsAll_95 : q_TT := o_ic 0 (BX9_fitsAll_96)
def BX9_fitsAll_91 : q_TT := o_ic 1 (BX9_fitsAll_96)
def BX9_fitsAll_72 : q_TT := o_al 0 (o_al 0 (o_getf 9 25 (o_il 3 (o_iald (o_al 0 (o_getf 9 26 (o_il 3 (o_iald (o_callV 9 2 wX9_heightBy (o_ifle BX9_fitsAll_95 BX9_fitsAll_91))))))))))
def BX9_fitsAll_68 : q_TT := o_il 2 (o_ifeq BX9_fitsAll_117 BX9_fitsAll_72)
def BX9_fitsAll_60 : q_TT := o_il 3 (o_al 0 (o_getf 9 28 (o_icge BX9_fitsAll_117 BX9_fitsAll_68)))
def TX9_fitsAll : Nat → q_TT := fun pc => if pc = 0 then BX9_fitsAll_0 else if pc = 60 then BX9_fitsAll_60 else o_no
def wX9_fitsAll : q_WT := fun as sh m R => (q_loA as).length ≤ 4 ∧ q_WP TX9_fitsAll 0 (q_lo 4 as) [] sh m (q_R0 sh rmX9_fitsAll R)
/-! TumblingRockModel.fits(II)I -/
def rmX9_fits : Room := { frames := 2, cells := 0, slots := 0, locals := 47 }
def BX9_fits_13 : q_TT := o_ic (-1000000001) (o_iret)
def BX9_fits_5 : q_TT := o_al 0 (o_il 2 (o_callV 9 1 wX9_isTurning (o_ifne (o_cut 16) BX9_fits_13)))
def BX9_fits_0 : q_TT := o_il 1 (o_ic (-1) (o_iceq (o_cut 16) BX9_fits_5))
def BX9_fits_44 : q_TT := o_ic 0 (o_is 3 (o_ic 0 (o_is 4 ((o_cut 49)))))
def BX9_fits_23 : q_TT := o_al 0 (o_getf 9 3 (o_ic 0 (o_ic 1 (o_iast (o_al 0 (o_getf 9 3 (o_ic 1 (o_ic 1 (o_iast (o_al 0 (o_getf 9 3 (o_ic 2 (o_ic 1 (o_iast (BX9_fits_44)))))))))))))))
def BX9_fits_16 : q_TT := o_al 0 (o_getf 9 7 (o_ifne BX9_fits_44 BX9_fits_23))
def BX9_fits_98 : q_TT := o_iret
def BX9_fits_97 : q_TT := o_ic (-1) (BX9_fits_98)
def BX9_fits_93 : q_TT := o_il 3 (BX9_fits_98)
def BX9_fits_88 : q_TT := o_il 1 (o_ic (-1) (o_icne BX9_fits_97 BX9_fits_93))
def BX9_fits_82 : q_TT := o_inc 4 1 ((o_cut 49))
def BX9_fits_79 : q_TT := o_inc 3 1 (BX9_fits_82)
def BX9_fits_72 : q_TT := o_al 0 (o_getf 9 23 (o_il 2 (o_iald (o_iret))))
def BX9_fits_67 : q_TT := o_il 3 (o_il 1 (o_icne BX9_fits_79 BX9_fits_72))
def BX9_fits_58 : q_TT := o_al 0 (o_il 4 (o_callV 9 1 wX9_fitsAll (o_ifeq BX9_fits_82 BX9_fits_67)))
def BX9_fits_49 : q_TT := o_il 4 (o_al 0 (o_callV 9 0 wX9_codes (o_icge BX9_fits_88 BX9_fits_58)))
def TX9_fits : Nat → q_TT := fun pc => if pc = 0 then BX9_fits_0 else if pc = 16 then BX9_fits_16 else if pc = 49 then BX9_fits_49 else o_no
def wX9_fits : q_WT := fun as sh m R => (q_loA as).length ≤ 5 ∧ q_WP TX9_fits 0 (q_lo 5 as) [] sh m (q_R0 sh rmX9_fits R)
/-! TumblingRockModel.countFits()I -/
def rmX9_countFits : Room := { frames := 2, cells := 0, slots := 0, locals := 47 }
def BX9_countFits_0 : q_TT := o_ic 0 (o_is 1 (o_ic 0 (o_is 2 ((o_cut 4)))))
def BX9_countFits_24 : q_TT := o_ic 0 (o_is 2 ((o_cut 26)))
def BX9_countFits_11 : q_TT := o_al 0 (o_getf 9 29 (o_il 2 (o_ic 0 (o_iast (o_inc 2 1 ((o_cut 4)))))))
def BX9_countFits_4 : q_TT := o_il 2 (o_ic 192 (o_icge BX9_countFits_24 BX9_countFits_11))
def BX9_countFits_116 : q_TT := o_il 1 (o_iret)
def BX9_countFits_110 : q_TT := o_inc 2 1 ((o_cut 26))
def BX9_countFits_42 : q_TT := o_inc 1 1 (o_ic 0 (o_is 3 ((o_cut 47))))
def BX9_countFits_34 : q_TT := o_al 0 (o_il 2 (o_callV 9 1 wX9_fitsAll (o_ifeq BX9_countFits_110 BX9_countFits_42)))
def BX9_countFits_26 : q_TT := o_il 2 (o_al 0 (o_callV 9 0 wX9_codes (o_icge BX9_countFits_116 BX9_countFits_34)))
def BX9_countFits_53 : q_TT := o_ic 0 (o_is 4 ((o_cut 56)))
def BX9_countFits_47 : q_TT := o_il 3 (o_ic 24 (o_icge BX9_countFits_110 BX9_countFits_53))
def BX9_countFits_104 : q_TT := o_inc 3 1 ((o_cut 47))
def BX9_countFits_93 : q_TT := o_call 1 wX9_one (o_iadd (o_iast (o_inc 4 1 ((o_cut 56)))))
def BX9_countFits_92 : q_TT := o_ic 0 (BX9_countFits_93)
def BX9_countFits_88 : q_TT := o_ic 1 (BX9_countFits_93)
def BX9_countFits_65 : q_TT := o_al 0 (o_getf 9 29 (o_ic 8 (o_il 3 (o_imul (o_il 4 (o_iadd (o_dup2 (o_iald (o_al 0 (o_il 4 (o_il 3 (o_callV 9 2 wX9_heightBy (o_ifle BX9_countFits_92 BX9_countFits_88)))))))))))))
def BX9_countFits_56 : q_TT := o_il 4 (o_al 0 (o_getf 9 8 (o_icge BX9_countFits_104 BX9_countFits_65)))
def TX9_countFits : Nat → q_TT := fun pc => if pc = 0 then BX9_countFits_0 else if pc = 4 then BX9_countFits_4 else if pc = 26 then BX9_countFits_26 else if pc = 47 then BX9_countFits_47 else if pc = 56 then BX9_countFits_56 else o_no
def wX9_countFits : q_WT := fun as sh m R => (q_loA as).length ≤ 5 ∧ q_WP TX9_countFits 0 (q_lo 5 as) [] sh m (q_R0 sh rmX9_countFits R)
/-! TumblingRockModel.look(I)I -/
def rmX9_look : Room := { frames := 3, cells := 0, slots := 0, locals := 71 }
def BX9_look_30 : q_TT := o_is 2 (o_ic (-1) (o_is 3 (o_ic 99999999 (o_is 4 (o_ic 0 (o_is 5 ((o_cut 40))))))))
def BX9_look_26 : q_TT := o_al 0 (o_callV 9 0 wX9_countFits (BX9_look_30))
def BX9_look_22 : q_TT := o_ic 0 (BX9_look_30)
def BX9_look_15 : q_TT := o_al 0 (o_getf 9 7 (o_ifne BX9_look_26 BX9_look_22))
def BX9_look_12 : q_TT := o_ic (-1000000002) (o_iret)
def BX9_look_0 : q_TT := o_il 1 (o_i2l (o_lc 0 (o_lc 2 (o_call 3 wX9_in (o_ifne BX9_look_15 BX9_look_12)))))
def BX9_look_176 : q_TT := o_iret
def BX9_look_174 : q_TT := o_il 4 (BX9_look_176)
def BX9_look_167 : q_TT := o_il 3 (o_ic 8 (o_idiv (BX9_look_176)))
def BX9_look_162 : q_TT := o_il 1 (o_ic 1 (o_icne BX9_look_174 BX9_look_167))
def BX9_look_155 : q_TT := o_il 3 (o_ic 8 (o_irem (BX9_look_176)))
def BX9_look_151 : q_TT := o_il 1 (o_ifne BX9_look_162 BX9_look_155)
def BX9_look_147 : q_TT := o_ic (-1) (BX9_look_176)
def BX9_look_143 : q_TT := o_il 3 (o_ifge BX9_look_151 BX9_look_147)
def BX9_look_77 : q_TT := o_il 2 (o_al 0 (o_getf 9 29 (o_il 5 (o_iald (o_isub ((o_cut 86)))))))
def BX9_look_67 : q_TT := o_al 0 (o_getf 9 29 (o_il 5 (o_iald ((o_cut 86)))))
def BX9_look_48 : q_TT := o_al 0 (o_getf 9 29 (o_il 5 (o_iald (o_il 2 (o_al 0 (o_getf 9 29 (o_il 5 (o_iald (o_isub (o_icle BX9_look_77 BX9_look_67))))))))))
def BX9_look_40 : q_TT := o_il 5 (o_ic 192 (o_icge BX9_look_143 BX9_look_48))
def BX9_look_115 : q_TT := o_ic 0 ((o_cut 116))
def BX9_look_111 : q_TT := o_ic 1 ((o_cut 116))
def BX9_look_105 : q_TT := o_il 6 (o_il 2 (o_icge BX9_look_115 BX9_look_111))
def BX9_look_93 : q_TT := o_il 5 (o_ic 8 (o_irem (o_al 0 (o_getf 9 8 (o_icge BX9_look_115 BX9_look_105)))))
def BX9_look_86 : q_TT := o_is 6 (o_il 2 (o_ic 1 (o_icle BX9_look_115 BX9_look_93)))
def BX9_look_137 : q_TT := o_inc 5 1 ((o_cut 40))
def BX9_look_130 : q_TT := o_il 5 (o_is 3 (o_il 6 (o_is 4 (BX9_look_137))))
def BX9_look_123 : q_TT := o_il 6 (o_il 4 (o_icge BX9_look_137 BX9_look_130))
def BX9_look_116 : q_TT := o_is 7 (o_il 7 (o_ifeq BX9_look_137 BX9_look_123))
def TX9_look : Nat → q_TT := fun pc => if pc = 0 then BX9_look_0 else if pc = 40 then BX9_look_40 else if pc = 86 then BX9_look_86 else if pc = 116 then BX9_look_116 else o_no
def wX9_look : q_WT := fun as sh m R => (q_loA as).length ≤ 8 ∧ q_WP TX9_look 0 (q_lo 8 as) [] sh m (q_R0 sh rmX9_look R)
/-! TumblingRockModel.codeBy(II)I -/
def rmX9_codeBy : Room := { frames := 0, cells := 0, slots := 0, locals := 0 }
def BX9_codeBy_62 : q_TT := o_ic 0 ((o_cut 63))
def BX9_codeBy_51 : q_TT := o_al 0 (o_getf 9 6 (o_ic 3 (o_il 2 (o_imul (o_iald ((o_cut 63)))))))
def BX9_codeBy_0 : q_TT := o_il 1 (o_al 0 (o_getf 9 3 (o_ic 1 (o_iald (o_al 0 (o_getf 9 3 (o_ic 2 (o_iald (o_imul (o_idiv (o_is 3 (o_il 1 (o_al 0 (o_getf 9 3 (o_ic 2 (o_iald (o_idiv (o_al 0 (o_getf 9 3 (o_ic 1 (o_iald (o_irem (o_is 4 (o_il 1 (o_al 0 (o_getf 9 3 (o_ic 2 (o_iald (o_irem (o_is 5 (o_il 3 (o_al 0 (o_getf 9 7 (o_ifle BX9_codeBy_62 BX9_codeBy_51))))))))))))))))))))))))))))))))))
def BX9_codeBy_95 : q_TT := o_ic 0 ((o_cut 96))
def BX9_codeBy_82 : q_TT := o_al 0 (o_getf 9 6 (o_ic 3 (o_il 2 (o_imul (o_ic 1 (o_iadd (o_iald ((o_cut 96)))))))))
def BX9_codeBy_63 : q_TT := o_iadd (o_al 0 (o_getf 9 3 (o_ic 0 (o_iald (o_irem (o_is 3 (o_il 4 (o_al 0 (o_getf 9 7 (o_ic 1 (o_icle BX9_codeBy_95 BX9_codeBy_82)))))))))))
def BX9_codeBy_129 : q_TT := o_ic 0 ((o_cut 130))
def BX9_codeBy_116 : q_TT := o_al 0 (o_getf 9 6 (o_ic 3 (o_il 2 (o_imul (o_ic 2 (o_iadd (o_iald ((o_cut 130)))))))))
def BX9_codeBy_96 : q_TT := o_iadd (o_al 0 (o_getf 9 3 (o_ic 1 (o_iald (o_irem (o_is 4 (o_il 5 (o_al 0 (o_getf 9 7 (o_ic 2 (o_icle BX9_codeBy_129 BX9_codeBy_116)))))))))))
def BX9_codeBy_130 : q_TT := o_iadd (o_al 0 (o_getf 9 3 (o_ic 2 (o_iald (o_irem (o_is 5 (o_il 3 (o_al 0 (o_getf 9 3 (o_ic 1 (o_iald (o_imul (o_il 4 (o_iadd (o_al 0 (o_getf 9 3 (o_ic 2 (o_iald (o_imul (o_il 5 (o_iadd (o_iret))))))))))))))))))))))
def TX9_codeBy : Nat → q_TT := fun pc => if pc = 0 then BX9_codeBy_0 else if pc = 63 then BX9_codeBy_63 else if pc = 96 then BX9_codeBy_96 else if pc = 130 then BX9_codeBy_130 else o_no
def wX9_codeBy : q_WT := fun as sh m R => (q_loA as).length ≤ 6 ∧ q_WP TX9_codeBy 0 (q_lo 6 as) [] sh m (q_R0 sh rmX9_codeBy R)
/-! TumblingRockModel.findFar(I)V -/
def rmX9_findFar : Room := { frames := 1, cells := 0, slots := 0, locals := 25 }
def BX9_findFar_0 : q_TT := o_ic 0 (o_is 2 ((o_cut 2)))
def BX9_findFar_33 : q_TT := o_ic 1 (o_is 2 ((o_cut 35)))
def BX9_findFar_26 : q_TT := o_iast (o_inc 2 1 ((o_cut 2)))
def BX9_findFar_24 : q_TT := o_ic 99999999 (BX9_findFar_26)
def BX9_findFar_20 : q_TT := o_ic 0 (BX9_findFar_26)
def BX9_findFar_10 : q_TT := o_al 0 (o_getf 9 30 (o_il 2 (o_il 2 (o_il 1 (o_icne BX9_findFar_24 BX9_findFar_20)))))
def BX9_findFar_2 : q_TT := o_il 2 (o_al 0 (o_callV 9 0 wX9_codes (o_icge BX9_findFar_33 BX9_findFar_10)))
def BX9_findFar_143 : q_TT := o_vret
def BX9_findFar_39 : q_TT := o_ic 0 (o_is 2 (o_ic 0 (o_is 3 ((o_cut 43)))))
def BX9_findFar_35 : q_TT := o_il 2 (o_ifeq BX9_findFar_143 BX9_findFar_39)
def BX9_findFar_140 : q_TT := (o_cut 35)
def BX9_findFar_51 : q_TT := o_ic 0 (o_is 4 ((o_cut 54)))
def BX9_findFar_43 : q_TT := o_il 3 (o_al 0 (o_callV 9 0 wX9_codes (o_icge BX9_findFar_140 BX9_findFar_51)))
def BX9_findFar_134 : q_TT := o_inc 3 1 ((o_cut 43))
def BX9_findFar_94 : q_TT := o_ic 1 ((o_cut 99))
def BX9_findFar_98 : q_TT := o_ic 0 ((o_cut 99))
def BX9_findFar_83 : q_TT := o_il 5 (o_al 0 (o_getf 9 30 (o_il 3 (o_iald (o_icge BX9_findFar_98 BX9_findFar_94)))))
def BX9_findFar_63 : q_TT := o_al 0 (o_getf 9 30 (o_al 0 (o_il 3 (o_il 4 (o_callV 9 2 wX9_codeBy (o_iald (o_ic 1 (o_iadd (o_is 5 (o_il 2 (o_ifne BX9_findFar_94 BX9_findFar_83)))))))))))
def BX9_findFar_54 : q_TT := o_il 4 (o_al 0 (o_getf 9 10 (o_icge BX9_findFar_134 BX9_findFar_63)))
def BX9_findFar_127 : q_TT := o_iast (o_inc 4 1 ((o_cut 54)))
def BX9_findFar_121 : q_TT := o_al 0 (o_getf 9 30 (o_il 3 (o_iald (BX9_findFar_127))))
def BX9_findFar_116 : q_TT := o_il 5 (BX9_findFar_127)
def BX9_findFar_99 : q_TT := o_is 2 (o_al 0 (o_getf 9 30 (o_il 3 (o_il 5 (o_al 0 (o_getf 9 30 (o_il 3 (o_iald (o_icge BX9_findFar_121 BX9_findFar_116)))))))))
def TX9_findFar : Nat → q_TT := fun pc => if pc = 0 then BX9_findFar_0 else if pc = 2 then BX9_findFar_2 else if pc = 35 then BX9_findFar_35 else if pc = 43 then BX9_findFar_43 else if pc = 54 then BX9_findFar_54 else if pc = 99 then BX9_findFar_99 else o_no
def wX9_findFar : q_WT := fun as sh m R => (q_loA as).length ≤ 6 ∧ q_WP TX9_findFar 0 (q_lo 6 as) [] sh m (q_R0 sh rmX9_findFar R)
/-! TumblingRockModel.mend(IIII)I -/
def rmX9_mend : Room := { frames := 2, cells := 0, slots := 0, locals := 50 }
def BX9_mend_36 : q_TT := o_ic (-1000000002) (o_iret)
def BX9_mend_108 : q_TT := o_ic 0 ((o_cut 109))
def BX9_mend_76 : q_TT := o_il 2 (o_al 0 (o_getf 9 3 (o_ic 1 (o_iald (o_icge BX9_mend_108 (o_cut 86))))))
def BX9_mend_68 : q_TT := o_al 0 (o_getf 9 7 (o_ic 2 (o_iclt (o_cut 86) BX9_mend_76)))
def BX9_mend_58 : q_TT := o_il 1 (o_al 0 (o_getf 9 3 (o_ic 0 (o_iald (o_icge BX9_mend_108 BX9_mend_68)))))
def BX9_mend_57 : q_TT := o_iret
def BX9_mend_56 : q_TT := o_ic (-1) (BX9_mend_57)
def BX9_mend_52 : q_TT := o_ic 0 (BX9_mend_57)
def BX9_mend_46 : q_TT := o_il 4 (o_ic (-1) (o_icne BX9_mend_56 BX9_mend_52))
def BX9_mend_39 : q_TT := o_al 0 (o_getf 9 7 (o_ifne BX9_mend_58 BX9_mend_46))
def BX9_mend_24 : q_TT := o_il 3 (o_i2l (o_lc 0 (o_lc 11 (o_call 3 wX9_in (o_ifne BX9_mend_39 BX9_mend_36)))))
def BX9_mend_12 : q_TT := o_il 2 (o_i2l (o_lc 0 (o_lc 11 (o_call 3 wX9_in (o_ifeq BX9_mend_36 BX9_mend_24)))))
def BX9_mend_0 : q_TT := o_il 1 (o_i2l (o_lc 0 (o_lc 11 (o_call 3 wX9_in (o_ifeq BX9_mend_36 BX9_mend_12)))))
def BX9_mend_104 : q_TT := o_ic 1 ((o_cut 109))
def BX9_mend_94 : q_TT := o_il 3 (o_al 0 (o_getf 9 3 (o_ic 2 (o_iald (o_icge BX9_mend_108 BX9_mend_104)))))
def BX9_mend_86 : q_TT := o_al 0 (o_getf 9 7 (o_ic 3 (o_iclt BX9_mend_104 BX9_mend_94)))
def BX9_mend_160 : q_TT := o_ic 0 ((o_cut 161))
def BX9_mend_156 : q_TT := o_il 3 ((o_cut 161))
def BX9_mend_140 : q_TT := o_iadd (o_al 0 (o_getf 9 3 (o_ic 2 (o_iald (o_imul (o_al 0 (o_getf 9 7 (o_ic 2 (o_icle BX9_mend_160 BX9_mend_156)))))))))
def BX9_mend_139 : q_TT := o_ic 0 (BX9_mend_140)
def BX9_mend_135 : q_TT := o_il 2 (BX9_mend_140)
def BX9_mend_118 : q_TT := o_al 0 (o_il 1 (o_al 0 (o_getf 9 3 (o_ic 1 (o_iald (o_imul (o_al 0 (o_getf 9 7 (o_ic 1 (o_icle BX9_mend_139 BX9_mend_135))))))))))
def BX9_mend_116 : q_TT := o_ic (-1) (o_iret)
def BX9_mend_109 : q_TT := o_is 5 (o_il 5 (o_ifne BX9_mend_118 BX9_mend_116))
def BX9_mend_248 : q_TT := o_iret
def BX9_mend_247 : q_TT := o_ic (-1) (BX9_mend_248)
def BX9_mend_242 : q_TT := o_il 7 (BX9_mend_248)
def BX9_mend_236 : q_TT := o_il 4 (o_ic (-1) (o_icne BX9_mend_247 BX9_mend_242))
def BX9_mend_229 : q_TT := o_il 7 (o_ic 99999999 (o_icge BX9_mend_247 BX9_mend_236))
def BX9_mend_249 : q_TT := o_ic 0 (o_is 8 (o_ic 0 (o_is 9 ((o_cut 255)))))
def BX9_mend_222 : q_TT := o_il 4 (o_il 7 (o_iclt BX9_mend_249 BX9_mend_229))
def BX9_mend_217 : q_TT := o_il 4 (o_iflt BX9_mend_229 BX9_mend_222)
def BX9_mend_161 : q_TT := o_iadd (o_callV 9 1 wX9_findFar (o_al 0 (o_getf 9 0 (o_ic 0 (o_iald (o_al 0 (o_getf 9 3 (o_ic 1 (o_iald (o_imul (o_al 0 (o_getf 9 0 (o_ic 1 (o_iald (o_iadd (o_al 0 (o_getf 9 3 (o_ic 2 (o_iald (o_imul (o_al 0 (o_getf 9 0 (o_ic 2 (o_iald (o_iadd (o_is 6 (o_al 0 (o_getf 9 30 (o_il 6 (o_iald (o_is 7 (o_il 7 (o_ic 99999999 (o_icge BX9_mend_229 BX9_mend_217))))))))))))))))))))))))))))))))))
def BX9_mend_312 : q_TT := o_il 8 (o_iret)
def BX9_mend_262 : q_TT := o_ic 0 (o_is 8 ((o_cut 265)))
def BX9_mend_255 : q_TT := o_il 9 (o_il 4 (o_icgt BX9_mend_312 BX9_mend_262))
def BX9_mend_296 : q_TT := o_al 0 (o_il 6 (o_il 8 (o_callV 9 2 wX9_codeBy (o_is 6 (o_inc 9 1 ((o_cut 255)))))))
def BX9_mend_290 : q_TT := o_inc 8 1 ((o_cut 265))
def BX9_mend_265 : q_TT := o_al 0 (o_getf 9 30 (o_al 0 (o_il 6 (o_il 8 (o_callV 9 2 wX9_codeBy (o_iald (o_al 0 (o_getf 9 30 (o_il 6 (o_iald (o_ic 1 (o_isub (o_iceq BX9_mend_296 BX9_mend_290)))))))))))))
def TX9_mend : Nat → q_TT := fun pc => if pc = 0 then BX9_mend_0 else if pc = 86 then BX9_mend_86 else if pc = 109 then BX9_mend_109 else if pc = 161 then BX9_mend_161 else if pc = 255 then BX9_mend_255 else if pc = 265 then BX9_mend_265 else o_no
def wX9_mend : q_WT := fun as sh m R => (q_loA as).length ≤ 10 ∧ q_WP TX9_mend 0 (q_lo 10 as) [] sh m (q_R0 sh rmX9_mend R)
/-! TumblingRockModel.write(I)I -/
def rmX9_write : Room := { frames := 2, cells := 0, slots := 0, locals := 46 }
def BX9_write_23 : q_TT := o_al 0 (o_getf 9 31 (o_al 0 (o_getf 9 32 (o_il 1 (o_iast (o_al 0 (o_dup (o_getf 9 32 (o_ic 1 (o_iadd (o_putf 9 32 (o_al 0 (o_getf 9 32 (o_iret))))))))))))))
def BX9_write_20 : q_TT := o_ic (-1000000004) (o_iret)
def BX9_write_11 : q_TT := o_al 0 (o_getf 9 32 (o_ic 30 (o_icne BX9_write_23 BX9_write_20)))
def BX9_write_8 : q_TT := o_ic (-1000000001) (o_iret)
def BX9_write_0 : q_TT := o_al 0 (o_il 1 (o_callV 9 1 wX9_isPlace (o_ifne BX9_write_11 BX9_write_8)))
def TX9_write : Nat → q_TT := fun pc => if pc = 0 then BX9_write_0 else o_no
def wX9_write : q_WT := fun as sh m R => (q_loA as).length ≤ 2 ∧ q_WP TX9_write 0 (q_lo 2 as) [] sh m (q_R0 sh rmX9_write R)
/-! TumblingRockModel.tear()I -/
def rmX9_tear : Room := { frames := 0, cells := 0, slots := 0, locals := 0 }
def BX9_tear_0 : q_TT := o_al 0 (o_getf 9 32 (o_al 0 (o_getf 9 28 (o_iadd (o_is 1 (o_al 0 (o_ic 0 (o_putf 9 32 (o_al 0 (o_ic 0 (o_putf 9 28 (o_il 1 (o_iret)))))))))))))
def TX9_tear : Nat → q_TT := fun pc => if pc = 0 then BX9_tear_0 else o_no
def wX9_tear : q_WT := fun as sh m R => (q_loA as).length ≤ 2 ∧ q_WP TX9_tear 0 (q_lo 2 as) [] sh m (q_R0 sh rmX9_tear R)
/-! TumblingRockModel.judge(I)I -/
def rmX9_judge : Room := { frames := 3, cells := 0, slots := 0, locals := 68 }
def BX9_judge_13 : q_TT := o_ic (-1) (o_is 2 (o_ic 0 (o_is 3 (o_ic 0 (o_is 4 ((o_cut 20)))))))
def BX9_judge_10 : q_TT := o_ic (-1000000002) (o_iret)
def BX9_judge_0 : q_TT := o_il 1 (o_i2l (o_lc 0 (o_lc 1 (o_call 3 wX9_in (o_ifne BX9_judge_13 BX9_judge_10)))))
def BX9_judge_102 : q_TT := o_iret
def BX9_judge_101 : q_TT := o_il 3 (BX9_judge_102)
def BX9_judge_97 : q_TT := o_il 2 (BX9_judge_102)
def BX9_judge_93 : q_TT := o_il 1 (o_ifne BX9_judge_101 BX9_judge_97)
def BX9_judge_67 : q_TT := o_is 2 (o_il 3 (o_al 0 (o_al 0 (o_getf 9 31 (o_il 4 (o_iald (o_il 4 (o_callV 9 2 wX9_isLit (o_call 1 wX9_one (o_iadd (o_is 3 (o_inc 4 1 ((o_cut 20))))))))))))))
def BX9_judge_61 : q_TT := o_il 4 (BX9_judge_67)
def BX9_judge_38 : q_TT := o_al 0 (o_al 0 (o_getf 9 31 (o_il 4 (o_ic 1 (o_isub (o_iald (o_al 0 (o_getf 9 31 (o_il 4 (o_iald (o_callV 9 2 wX9_mayGo (o_ifne (o_cut 66) BX9_judge_61))))))))))))
def BX9_judge_33 : q_TT := o_il 4 (o_ifle (o_cut 66) BX9_judge_38)
def BX9_judge_29 : q_TT := o_il 2 (o_ifge (o_cut 66) BX9_judge_33)
def BX9_judge_20 : q_TT := o_il 4 (o_al 0 (o_getf 9 32 (o_icge BX9_judge_93 BX9_judge_29)))
def BX9_judge_66 : q_TT := o_il 2 (BX9_judge_67)
def TX9_judge : Nat → q_TT := fun pc => if pc = 0 then BX9_judge_0 else if pc = 20 then BX9_judge_20 else if pc = 66 then BX9_judge_66 else o_no
def wX9_judge : q_WT := fun as sh m R => (q_loA as).length ≤ 5 ∧ q_WP TX9_judge 0 (q_lo 5 as) [] sh m (q_R0 sh rmX9_judge R)
/-! TumblingRockModel.seed(I)I -/
def rmX9_seed : Room := { frames := 0, cells := 0, slots := 0, locals := 0 }
def BX9_seed_7 : q_TT := o_al 0 (o_getf 9 0 (o_ic 6 (o_iald (o_is 2 (o_al 0 (o_getf 9 0 (o_ic 6 (o_il 1 (o_iast (o_il 2 (o_iret)))))))))))
def BX9_seed_4 : q_TT := o_ic (-1000000002) (o_iret)
def BX9_seed_0 : q_TT := o_il 1 (o_ifge BX9_seed_7 BX9_seed_4)
def TX9_seed : Nat → q_TT := fun pc => if pc = 0 then BX9_seed_0 else o_no
def wX9_seed : q_WT := fun as sh m R => (q_loA as).length ≤ 3 ∧ q_WP TX9_seed 0 (q_lo 3 as) [] sh m (q_R0 sh rmX9_seed R)
/-! TumblingRockModel.copy(II)V -/
def rmX9_copy : Room := { frames := 0, cells := 0, slots := 0, locals := 0 }
def BX9_copy_0 : q_TT := o_ic 0 (o_is 3 ((o_cut 2)))
def BX9_copy_30 : q_TT := o_vret
def BX9_copy_8 : q_TT := o_al 0 (o_getf 9 0 (o_il 2 (o_il 3 (o_iadd (o_al 0 (o_getf 9 0 (o_il 1 (o_il 3 (o_iadd (o_iald (o_iast (o_inc 3 1 ((o_cut 2))))))))))))))
def BX9_copy_2 : q_TT := o_il 3 (o_ic 8 (o_icge BX9_copy_30 BX9_copy_8))
def TX9_copy : Nat → q_TT := fun pc => if pc = 0 then BX9_copy_0 else if pc = 2 then BX9_copy_2 else o_no
def wX9_copy : q_WT := fun as sh m R => (q_loA as).length ≤ 4 ∧ q_WP TX9_copy 0 (q_lo 4 as) [] sh m (q_R0 sh rmX9_copy R)
/-! TumblingRockModel.keep(I)I -/
def rmX9_keep : Room := { frames := 1, cells := 0, slots := 0, locals := 25 }
def BX9_keep_13 : q_TT := o_al 0 (o_ic 0 (o_ic 8 (o_ic 1 (o_il 1 (o_iadd (o_imul (o_callV 9 2 wX9_copy (o_al 0 (o_getf 9 1 (o_il 1 (o_ic 1 (o_zast (o_ic 1 (o_iret))))))))))))))
def BX9_keep_10 : q_TT := o_ic (-1000000001) (o_iret)
def BX9_keep_0 : q_TT := o_il 1 (o_i2l (o_lc 0 (o_lc 1 (o_call 3 wX9_in (o_ifne BX9_keep_13 BX9_keep_10)))))
def TX9_keep : Nat → q_TT := fun pc => if pc = 0 then BX9_keep_0 else o_no
def wX9_keep : q_WT := fun as sh m R => (q_loA as).length ≤ 2 ∧ q_WP TX9_keep 0 (q_lo 2 as) [] sh m (q_R0 sh rmX9_keep R)
/-! TumblingRockModel.goBack(I)I -/
def rmX9_goBack : Room := { frames := 1, cells := 0, slots := 0, locals := 25 }
def BX9_goBack_25 : q_TT := o_al 0 (o_ic 8 (o_ic 1 (o_il 1 (o_iadd (o_imul (o_ic 0 (o_callV 9 2 wX9_copy (o_ic 1 (o_iret)))))))))
def BX9_goBack_22 : q_TT := o_ic (-1000000003) (o_iret)
def BX9_goBack_13 : q_TT := o_al 0 (o_getf 9 1 (o_il 1 (o_zald (o_ifne BX9_goBack_25 BX9_goBack_22))))
def BX9_goBack_10 : q_TT := o_ic (-1000000001) (o_iret)
def BX9_goBack_0 : q_TT := o_il 1 (o_i2l (o_lc 0 (o_lc 1 (o_call 3 wX9_in (o_ifne BX9_goBack_13 BX9_goBack_10)))))
def TX9_goBack : Nat → q_TT := fun pc => if pc = 0 then BX9_goBack_0 else o_no
def wX9_goBack : q_WT := fun as sh m R => (q_loA as).length ≤ 2 ∧ q_WP TX9_goBack 0 (q_lo 2 as) [] sh m (q_R0 sh rmX9_goBack R)
