/-! Contracts, leaves first; written by wip/whole/gen.py. -/
/-! TumblingRock$Mender.leastNearer(LTumblingRock$Rock;I)I -/
abbrev dlX2_leastNearer : List (Nat × (Instr × Nat)) := [(0, .iconst 0, 1), (1, .istore_n 3, 1), (2, .iload_n 3, 1), (3, .aload_n 1, 1), (4, .getfield 26, 3), (7, .if_icmp .ge 37, 3), (10, .aload_n 0, 1), (11, .getfield 9, 3), (14, .aload_n 1, 1), (15, .iload_n 2, 1), (16, .iload_n 3, 1), (17, .invokevirtual 47, 3), (20, .invokestatic 35, 3), (23, .aload_n 0, 1), (24, .getfield 9, 3), (27, .iload_n 2, 1), (28, .invokestatic 35, 3), (31, .iconst 1, 1), (32, .isub, 1), (33, .if_icmp .ne 5, 3), (36, .iload_n 3, 1), (37, .ireturn, 1), (38, .iinc 3 1, 3), (41, .goto (-39), 3), (44, .iconst (-1), 1), (45, .ireturn, 1)]
theorem ddX2_leastNearer : ∀ q ∈ dlX2_leastNearer, decode cX2_leastNearer q.1 = .ok q.2 := by decide +kernel
theorem sX2_leastNearer_0 {l : Launch} {X : q_CX} (hl : X.2.1 = l) (hQ : q_QM X) (h : q_OK X yX2_leastNearer cX2_leastNearer 4 (some .int) rmX2_leastNearer (Cond.code yX2_leastNearer cX2_leastNearer 4 (some .int) :: q_G)) : q_SK X 4 0 (BX2_leastNearer_0) := by
  refine k_iconst (v := 0) h (ddX2_leastNearer (0, .iconst 0, 1) (List.mem_of_getElem? (i := 0) rfl)) (by decide) ?_
  refine k_istore_n (i := 3) h (ddX2_leastNearer (1, .istore_n 3, 1) (List.mem_of_getElem? (i := 1) rfl)) rfl (by decide) ?_
  exact k_cut
theorem sX2_leastNearer_44 {l : Launch} {X : q_CX} (hl : X.2.1 = l) (hQ : q_QM X) (h : q_OK X yX2_leastNearer cX2_leastNearer 4 (some .int) rmX2_leastNearer (Cond.code yX2_leastNearer cX2_leastNearer 4 (some .int) :: q_G)) : q_SK X 4 44 (BX2_leastNearer_44) := by
  refine k_iconst (v := (-1)) h (ddX2_leastNearer (44, .iconst (-1), 1) (List.mem_of_getElem? (i := 24) rfl)) (by decide) ?_
  exact k_iret h hQ (ddX2_leastNearer (45, .ireturn, 1) (List.mem_of_getElem? (i := 25) rfl))
theorem sX2_leastNearer_38 {l : Launch} {X : q_CX} (hl : X.2.1 = l) (hQ : q_QM X) (h : q_OK X yX2_leastNearer cX2_leastNearer 4 (some .int) rmX2_leastNearer (Cond.code yX2_leastNearer cX2_leastNearer 4 (some .int) :: q_G)) : q_SK X 4 38 (BX2_leastNearer_38) := by
  refine k_iinc (d := 1) h (ddX2_leastNearer (38, .iinc 3 1, 3) (List.mem_of_getElem? (i := 22) rfl)) (by decide) (by decide) ?_
  refine k_goto h (ddX2_leastNearer (41, .goto (-39), 3) (List.mem_of_getElem? (i := 23) rfl)) (tgt := 2) (by decide) ?_
  exact k_cut
theorem sX2_leastNearer_36 {l : Launch} {X : q_CX} (hl : X.2.1 = l) (hQ : q_QM X) (h : q_OK X yX2_leastNearer cX2_leastNearer 4 (some .int) rmX2_leastNearer (Cond.code yX2_leastNearer cX2_leastNearer 4 (some .int) :: q_G)) : q_SK X 4 36 (BX2_leastNearer_36) := by
  refine k_iload_n (i := 3) h (ddX2_leastNearer (36, .iload_n 3, 1) (List.mem_of_getElem? (i := 20) rfl)) rfl ?_
  exact k_iret h hQ (ddX2_leastNearer (37, .ireturn, 1) (List.mem_of_getElem? (i := 21) rfl))
theorem sX2_leastNearer_10 {l : Launch} {X : q_CX} (hl : X.2.1 = l) (hQ : q_QM X) (h : q_OK X yX2_leastNearer cX2_leastNearer 4 (some .int) rmX2_leastNearer (Cond.code yX2_leastNearer cX2_leastNearer 4 (some .int) :: q_G)) : q_SK X 4 10 (BX2_leastNearer_10) := by
  refine k_aload_n (i := 0) h (ddX2_leastNearer (10, .aload_n 0, 1) (List.mem_of_getElem? (i := 6) rfl)) rfl ?_
  refine k_getf (ci := 2) (j := 0) (C := RX2) (T := TX2) (N := 3) h rfl (fun w hw => List.mem_cons_of_mem _ (q_inX2 w hw)) (by decide) (List.mem_cons_of_mem _ gw56) (ddX2_leastNearer (11, .getfield 9, 3) (List.mem_of_getElem? (i := 7) rfl)) ?_
  refine k_aload_n (i := 1) h (ddX2_leastNearer (14, .aload_n 1, 1) (List.mem_of_getElem? (i := 8) rfl)) rfl ?_
  refine k_iload_n (i := 2) h (ddX2_leastNearer (15, .iload_n 2, 1) (List.mem_of_getElem? (i := 9) rfl)) rfl ?_
  refine k_iload_n (i := 3) h (ddX2_leastNearer (16, .iload_n 3, 1) (List.mem_of_getElem? (i := 10) rfl)) rfl ?_
  refine k_callV h hl (aX4_pushed l) (ci := 4) (C := RX4) (T := TX4) (N := 14) rfl ⟨rfl, rfl⟩ (n := 2) (by decide +kernel) (q_gV gw555 gw390 gw391 gw71 gw388) ⟨by decide, by decide⟩ (ddX2_leastNearer (17, .invokevirtual 47, 3) (List.mem_of_getElem? (i := 11) rfl)) ?_
  refine k_callN h hl (aX8_at l) ⟨rfl, rfl⟩ (n := 2) (by decide +kernel) (q_gN gw98) (by decide +kernel) (List.mem_cons_of_mem _ gw91) (List.mem_cons_of_mem _ gw99) ⟨by decide, by decide⟩ (ddX2_leastNearer (20, .invokestatic 35, 3) (List.mem_of_getElem? (i := 12) rfl)) ?_
  refine k_aload_n (i := 0) h (ddX2_leastNearer (23, .aload_n 0, 1) (List.mem_of_getElem? (i := 13) rfl)) rfl ?_
  refine k_getf (ci := 2) (j := 0) (C := RX2) (T := TX2) (N := 3) h rfl (fun w hw => List.mem_cons_of_mem _ (q_inX2 w hw)) (by decide) (List.mem_cons_of_mem _ gw56) (ddX2_leastNearer (24, .getfield 9, 3) (List.mem_of_getElem? (i := 14) rfl)) ?_
  refine k_iload_n (i := 2) h (ddX2_leastNearer (27, .iload_n 2, 1) (List.mem_of_getElem? (i := 15) rfl)) rfl ?_
  refine k_callN h hl (aX8_at l) ⟨rfl, rfl⟩ (n := 2) (by decide +kernel) (q_gN gw98) (by decide +kernel) (List.mem_cons_of_mem _ gw91) (List.mem_cons_of_mem _ gw99) ⟨by decide, by decide⟩ (ddX2_leastNearer (28, .invokestatic 35, 3) (List.mem_of_getElem? (i := 16) rfl)) ?_
  refine k_iconst (v := 1) h (ddX2_leastNearer (31, .iconst 1, 1) (List.mem_of_getElem? (i := 17) rfl)) (by decide) ?_
  refine k_isub h (ddX2_leastNearer (32, .isub, 1) (List.mem_of_getElem? (i := 18) rfl)) ?_
  refine k_icne h (ddX2_leastNearer (33, .if_icmp .ne 5, 3) (List.mem_of_getElem? (i := 19) rfl)) (tgt := 38) (by decide) ?_ ?_
  · exact sX2_leastNearer_38 hl hQ h
  · exact sX2_leastNearer_36 hl hQ h
theorem sX2_leastNearer_2 {l : Launch} {X : q_CX} (hl : X.2.1 = l) (hQ : q_QM X) (h : q_OK X yX2_leastNearer cX2_leastNearer 4 (some .int) rmX2_leastNearer (Cond.code yX2_leastNearer cX2_leastNearer 4 (some .int) :: q_G)) : q_SK X 4 2 (BX2_leastNearer_2) := by
  refine k_iload_n (i := 3) h (ddX2_leastNearer (2, .iload_n 3, 1) (List.mem_of_getElem? (i := 2) rfl)) rfl ?_
  refine k_aload_n (i := 1) h (ddX2_leastNearer (3, .aload_n 1, 1) (List.mem_of_getElem? (i := 3) rfl)) rfl ?_
  refine k_getf (ci := 4) (j := 3) (C := RX4) (T := TX4) (N := 14) h rfl (fun w hw => List.mem_cons_of_mem _ (q_inX4 w hw)) (by decide) (List.mem_cons_of_mem _ gw542) (ddX2_leastNearer (4, .getfield 26, 3) (List.mem_of_getElem? (i := 4) rfl)) ?_
  refine k_icge h (ddX2_leastNearer (7, .if_icmp .ge 37, 3) (List.mem_of_getElem? (i := 5) rfl)) (tgt := 44) (by decide) ?_ ?_
  · exact sX2_leastNearer_44 hl hQ h
  · exact sX2_leastNearer_10 hl hQ h
theorem aX2_leastNearer (l : Launch) (as : List Value) (sh : q_Sh) (m : q_Mm) (R : q_KR) (hw : wX2_leastNearer as sh m R) : q_AM l yX2_leastNearer (Cond.code yX2_leastNearer cX2_leastNearer 4 (some .int) :: q_G) rmX2_leastNearer as sh m R := by
  refine q_met (code := TX2_leastNearer) (by decide) (fun X hl hQ _ h pc => ?_) hw.1 hw.2
  unfold TX2_leastNearer
  exact k_at (sX2_leastNearer_0 hl hQ h) (k_at (sX2_leastNearer_2 hl hQ h) (k_no))
/-! TumblingRock$Mender.pushAt(LTumblingRock$Rock;II)I -/
abbrev dlX2_pushAt : List (Nat × (Instr × Nat)) := [(0, .iload_n 2, 1), (1, .istore 4, 2), (3, .iconst (-1), 1), (4, .istore 5, 2), (6, .iconst 0, 1), (7, .istore 6, 2), (9, .iload 6, 2), (11, .iload_n 3, 1), (12, .if_icmp .gt 28, 3), (15, .aload_n 0, 1), (16, .aload_n 1, 1), (17, .iload 4, 2), (19, .invokevirtual 43, 3), (22, .istore 5, 2), (24, .aload_n 1, 1), (25, .iload 4, 2), (27, .iload 5, 2), (29, .invokevirtual 47, 3), (32, .istore 4, 2), (34, .iinc 6 1, 3), (37, .goto (-28), 3), (40, .iload 5, 2), (42, .ireturn, 1)]
theorem ddX2_pushAt : ∀ q ∈ dlX2_pushAt, decode cX2_pushAt q.1 = .ok q.2 := by decide +kernel
theorem sX2_pushAt_0 {l : Launch} {X : q_CX} (hl : X.2.1 = l) (hQ : q_QM X) (h : q_OK X yX2_pushAt cX2_pushAt 7 (some .int) rmX2_pushAt (Cond.code yX2_pushAt cX2_pushAt 7 (some .int) :: q_G)) : q_SK X 7 0 (BX2_pushAt_0) := by
  refine k_iload_n (i := 2) h (ddX2_pushAt (0, .iload_n 2, 1) (List.mem_of_getElem? (i := 0) rfl)) rfl ?_
  refine k_istore (i := 4) h (ddX2_pushAt (1, .istore 4, 2) (List.mem_of_getElem? (i := 1) rfl)) (by decide) ?_
  refine k_iconst (v := (-1)) h (ddX2_pushAt (3, .iconst (-1), 1) (List.mem_of_getElem? (i := 2) rfl)) (by decide) ?_
  refine k_istore (i := 5) h (ddX2_pushAt (4, .istore 5, 2) (List.mem_of_getElem? (i := 3) rfl)) (by decide) ?_
  refine k_iconst (v := 0) h (ddX2_pushAt (6, .iconst 0, 1) (List.mem_of_getElem? (i := 4) rfl)) (by decide) ?_
  refine k_istore (i := 6) h (ddX2_pushAt (7, .istore 6, 2) (List.mem_of_getElem? (i := 5) rfl)) (by decide) ?_
  exact k_cut
theorem sX2_pushAt_40 {l : Launch} {X : q_CX} (hl : X.2.1 = l) (hQ : q_QM X) (h : q_OK X yX2_pushAt cX2_pushAt 7 (some .int) rmX2_pushAt (Cond.code yX2_pushAt cX2_pushAt 7 (some .int) :: q_G)) : q_SK X 7 40 (BX2_pushAt_40) := by
  refine k_iload (i := 5) h (ddX2_pushAt (40, .iload 5, 2) (List.mem_of_getElem? (i := 21) rfl)) ?_
  exact k_iret h hQ (ddX2_pushAt (42, .ireturn, 1) (List.mem_of_getElem? (i := 22) rfl))
theorem sX2_pushAt_15 {l : Launch} {X : q_CX} (hl : X.2.1 = l) (hQ : q_QM X) (h : q_OK X yX2_pushAt cX2_pushAt 7 (some .int) rmX2_pushAt (Cond.code yX2_pushAt cX2_pushAt 7 (some .int) :: q_G)) : q_SK X 7 15 (BX2_pushAt_15) := by
  refine k_aload_n (i := 0) h (ddX2_pushAt (15, .aload_n 0, 1) (List.mem_of_getElem? (i := 9) rfl)) rfl ?_
  refine k_aload_n (i := 1) h (ddX2_pushAt (16, .aload_n 1, 1) (List.mem_of_getElem? (i := 10) rfl)) rfl ?_
  refine k_iload (i := 4) h (ddX2_pushAt (17, .iload 4, 2) (List.mem_of_getElem? (i := 11) rfl)) ?_
  refine k_callV h hl (aX2_leastNearer l) (ci := 2) (C := RX2) (T := TX2) (N := 3) rfl ⟨rfl, rfl⟩ (n := 2) (by decide +kernel) (q_gV gw557 gw558 gw559 gw54 gw556) ⟨by decide, by decide⟩ (ddX2_pushAt (19, .invokevirtual 43, 3) (List.mem_of_getElem? (i := 12) rfl)) ?_
  refine k_istore (i := 5) h (ddX2_pushAt (22, .istore 5, 2) (List.mem_of_getElem? (i := 13) rfl)) (by decide) ?_
  refine k_aload_n (i := 1) h (ddX2_pushAt (24, .aload_n 1, 1) (List.mem_of_getElem? (i := 14) rfl)) rfl ?_
  refine k_iload (i := 4) h (ddX2_pushAt (25, .iload 4, 2) (List.mem_of_getElem? (i := 15) rfl)) ?_
  refine k_iload (i := 5) h (ddX2_pushAt (27, .iload 5, 2) (List.mem_of_getElem? (i := 16) rfl)) ?_
  refine k_callV h hl (aX4_pushed l) (ci := 4) (C := RX4) (T := TX4) (N := 14) rfl ⟨rfl, rfl⟩ (n := 2) (by decide +kernel) (q_gV gw555 gw390 gw391 gw71 gw388) ⟨by decide, by decide⟩ (ddX2_pushAt (29, .invokevirtual 47, 3) (List.mem_of_getElem? (i := 17) rfl)) ?_
  refine k_istore (i := 4) h (ddX2_pushAt (32, .istore 4, 2) (List.mem_of_getElem? (i := 18) rfl)) (by decide) ?_
  refine k_iinc (d := 1) h (ddX2_pushAt (34, .iinc 6 1, 3) (List.mem_of_getElem? (i := 19) rfl)) (by decide) (by decide) ?_
  refine k_goto h (ddX2_pushAt (37, .goto (-28), 3) (List.mem_of_getElem? (i := 20) rfl)) (tgt := 9) (by decide) ?_
  exact k_cut
theorem sX2_pushAt_9 {l : Launch} {X : q_CX} (hl : X.2.1 = l) (hQ : q_QM X) (h : q_OK X yX2_pushAt cX2_pushAt 7 (some .int) rmX2_pushAt (Cond.code yX2_pushAt cX2_pushAt 7 (some .int) :: q_G)) : q_SK X 7 9 (BX2_pushAt_9) := by
  refine k_iload (i := 6) h (ddX2_pushAt (9, .iload 6, 2) (List.mem_of_getElem? (i := 6) rfl)) ?_
  refine k_iload_n (i := 3) h (ddX2_pushAt (11, .iload_n 3, 1) (List.mem_of_getElem? (i := 7) rfl)) rfl ?_
  refine k_icgt h (ddX2_pushAt (12, .if_icmp .gt 28, 3) (List.mem_of_getElem? (i := 8) rfl)) (tgt := 40) (by decide) ?_ ?_
  · exact sX2_pushAt_40 hl hQ h
  · exact sX2_pushAt_15 hl hQ h
theorem aX2_pushAt (l : Launch) (as : List Value) (sh : q_Sh) (m : q_Mm) (R : q_KR) (hw : wX2_pushAt as sh m R) : q_AM l yX2_pushAt (Cond.code yX2_pushAt cX2_pushAt 7 (some .int) :: q_G) rmX2_pushAt as sh m R := by
  refine q_met (code := TX2_pushAt) (by decide) (fun X hl hQ _ h pc => ?_) hw.1 hw.2
  unfold TX2_pushAt
  exact k_at (sX2_pushAt_0 hl hQ h) (k_at (sX2_pushAt_9 hl hQ h) (k_no))
/-! TumblingRock.mend(IIII)I -/
abbrev dlX8_mend : List (Nat × (Instr × Nat)) := [(0, .iload_n 1, 1), (1, .iload_n 2, 1), (2, .iload_n 3, 1), (3, .invokestatic 213, 3), (6, .ifCond .ne 6, 3), (9, .ldc 82, 2), (11, .ireturn, 1), (12, .aload_n 0, 1), (13, .getfield 57, 3), (16, .aload_n 0, 1), (17, .getfield 71, 3), (20, .aload_n 0, 1), (21, .getfield 28, 3), (24, .getfield 155, 3), (27, .aload_n 0, 1), (28, .getfield 71, 3), (31, .iload_n 1, 1), (32, .iload_n 2, 1), (33, .iload_n 3, 1), (34, .invokevirtual 216, 3), (37, .invokevirtual 263, 3), (40, .istore 5, 2), (42, .iload 4, 2), (44, .iconst (-1), 1), (45, .if_icmp .ne 6, 3), (48, .iload 5, 2), (50, .ireturn, 1), (51, .iload 4, 2), (53, .iconst 0, 1), (54, .iload 5, 2), (56, .iconst 1, 1), (57, .isub, 1), (58, .invokestatic 78, 3), (61, .ifCond .eq 26, 3), (64, .aload_n 0, 1), (65, .getfield 57, 3), (68, .aload_n 0, 1), (69, .getfield 71, 3), (72, .aload_n 0, 1), (73, .getfield 28, 3), (76, .getfield 155, 3), (79, .iload 4, 2), (81, .invokevirtual 266, 3), (84, .goto 4, 3), (87, .iconst (-1), 1), (88, .ireturn, 1)]
theorem ddX8_mend : ∀ q ∈ dlX8_mend, decode cX8_mend q.1 = .ok q.2 := by decide +kernel
theorem sX8_mend_88 {l : Launch} {X : q_CX} (hl : X.2.1 = l) (hQ : q_QM X) (h : q_OK X yX8_mend cX8_mend 6 (some .int) rmX8_mend (Cond.code yX8_mend cX8_mend 6 (some .int) :: q_G)) : q_SK X 6 88 (BX8_mend_88) := by
  exact k_iret h hQ (ddX8_mend (88, .ireturn, 1) (List.mem_of_getElem? (i := 45) rfl))
theorem sX8_mend_87 {l : Launch} {X : q_CX} (hl : X.2.1 = l) (hQ : q_QM X) (h : q_OK X yX8_mend cX8_mend 6 (some .int) rmX8_mend (Cond.code yX8_mend cX8_mend 6 (some .int) :: q_G)) : q_SK X 6 87 (BX8_mend_87) := by
  refine k_iconst (v := (-1)) h (ddX8_mend (87, .iconst (-1), 1) (List.mem_of_getElem? (i := 44) rfl)) (by decide) ?_
  exact sX8_mend_88 hl hQ h
theorem sX8_mend_64 {l : Launch} {X : q_CX} (hl : X.2.1 = l) (hQ : q_QM X) (h : q_OK X yX8_mend cX8_mend 6 (some .int) rmX8_mend (Cond.code yX8_mend cX8_mend 6 (some .int) :: q_G)) : q_SK X 6 64 (BX8_mend_64) := by
  refine k_aload_n (i := 0) h (ddX8_mend (64, .aload_n 0, 1) (List.mem_of_getElem? (i := 34) rfl)) rfl ?_
  refine k_getf (ci := 8) (j := 7) (C := RX8) (T := TX8) (N := 11) h rfl (fun w hw => List.mem_cons_of_mem _ (q_inX8 w hw)) (by decide) (List.mem_cons_of_mem _ gw60) (ddX8_mend (65, .getfield 57, 3) (List.mem_of_getElem? (i := 35) rfl)) ?_
  refine k_aload_n (i := 0) h (ddX8_mend (68, .aload_n 0, 1) (List.mem_of_getElem? (i := 36) rfl)) rfl ?_
  refine k_getf (ci := 8) (j := 9) (C := RX8) (T := TX8) (N := 11) h rfl (fun w hw => List.mem_cons_of_mem _ (q_inX8 w hw)) (by decide) (List.mem_cons_of_mem _ gw135) (ddX8_mend (69, .getfield 71, 3) (List.mem_of_getElem? (i := 37) rfl)) ?_
  refine k_aload_n (i := 0) h (ddX8_mend (72, .aload_n 0, 1) (List.mem_of_getElem? (i := 38) rfl)) rfl ?_
  refine k_getf (ci := 8) (j := 2) (C := RX8) (T := TX8) (N := 11) h rfl (fun w hw => List.mem_cons_of_mem _ (q_inX8 w hw)) (by decide) (List.mem_cons_of_mem _ gw28) (ddX8_mend (73, .getfield 28, 3) (List.mem_of_getElem? (i := 39) rfl)) ?_
  refine k_getf (ci := 1) (j := 0) (C := RX1) (T := TX1) (N := 5) h rfl (fun w hw => List.mem_cons_of_mem _ (q_inX1 w hw)) (by decide) (List.mem_cons_of_mem _ gw322) (ddX8_mend (76, .getfield 155, 3) (List.mem_of_getElem? (i := 40) rfl)) ?_
  refine k_iload (i := 4) h (ddX8_mend (79, .iload 4, 2) (List.mem_of_getElem? (i := 41) rfl)) ?_
  refine k_callV h hl (aX2_pushAt l) (ci := 2) (C := RX2) (T := TX2) (N := 3) rfl ⟨rfl, rfl⟩ (n := 3) (by decide +kernel) (q_gV gw561 gw562 gw563 gw54 gw560) ⟨by decide, by decide⟩ (ddX8_mend (81, .invokevirtual 266, 3) (List.mem_of_getElem? (i := 42) rfl)) ?_
  refine k_goto h (ddX8_mend (84, .goto 4, 3) (List.mem_of_getElem? (i := 43) rfl)) (tgt := 88) (by decide) ?_
  exact sX8_mend_88 hl hQ h
theorem sX8_mend_51 {l : Launch} {X : q_CX} (hl : X.2.1 = l) (hQ : q_QM X) (h : q_OK X yX8_mend cX8_mend 6 (some .int) rmX8_mend (Cond.code yX8_mend cX8_mend 6 (some .int) :: q_G)) : q_SK X 6 51 (BX8_mend_51) := by
  refine k_iload (i := 4) h (ddX8_mend (51, .iload 4, 2) (List.mem_of_getElem? (i := 27) rfl)) ?_
  refine k_iconst (v := 0) h (ddX8_mend (53, .iconst 0, 1) (List.mem_of_getElem? (i := 28) rfl)) (by decide) ?_
  refine k_iload (i := 5) h (ddX8_mend (54, .iload 5, 2) (List.mem_of_getElem? (i := 29) rfl)) ?_
  refine k_iconst (v := 1) h (ddX8_mend (56, .iconst 1, 1) (List.mem_of_getElem? (i := 30) rfl)) (by decide) ?_
  refine k_isub h (ddX8_mend (57, .isub, 1) (List.mem_of_getElem? (i := 31) rfl)) ?_
  refine k_callS h hl (aX8_inside l) ⟨rfl, rfl⟩ (n := 3) (by decide +kernel) (q_gS gw139 gw138 gw91 gw137) ⟨by decide, by decide⟩ (ddX8_mend (58, .invokestatic 78, 3) (List.mem_of_getElem? (i := 32) rfl)) ?_
  refine k_ifeq h (ddX8_mend (61, .ifCond .eq 26, 3) (List.mem_of_getElem? (i := 33) rfl)) (tgt := 87) (by decide) ?_ ?_
  · exact sX8_mend_87 hl hQ h
  · exact sX8_mend_64 hl hQ h
theorem sX8_mend_48 {l : Launch} {X : q_CX} (hl : X.2.1 = l) (hQ : q_QM X) (h : q_OK X yX8_mend cX8_mend 6 (some .int) rmX8_mend (Cond.code yX8_mend cX8_mend 6 (some .int) :: q_G)) : q_SK X 6 48 (BX8_mend_48) := by
  refine k_iload (i := 5) h (ddX8_mend (48, .iload 5, 2) (List.mem_of_getElem? (i := 25) rfl)) ?_
  exact k_iret h hQ (ddX8_mend (50, .ireturn, 1) (List.mem_of_getElem? (i := 26) rfl))
theorem sX8_mend_12 {l : Launch} {X : q_CX} (hl : X.2.1 = l) (hQ : q_QM X) (h : q_OK X yX8_mend cX8_mend 6 (some .int) rmX8_mend (Cond.code yX8_mend cX8_mend 6 (some .int) :: q_G)) : q_SK X 6 12 (BX8_mend_12) := by
  refine k_aload_n (i := 0) h (ddX8_mend (12, .aload_n 0, 1) (List.mem_of_getElem? (i := 7) rfl)) rfl ?_
  refine k_getf (ci := 8) (j := 7) (C := RX8) (T := TX8) (N := 11) h rfl (fun w hw => List.mem_cons_of_mem _ (q_inX8 w hw)) (by decide) (List.mem_cons_of_mem _ gw60) (ddX8_mend (13, .getfield 57, 3) (List.mem_of_getElem? (i := 8) rfl)) ?_
  refine k_aload_n (i := 0) h (ddX8_mend (16, .aload_n 0, 1) (List.mem_of_getElem? (i := 9) rfl)) rfl ?_
  refine k_getf (ci := 8) (j := 9) (C := RX8) (T := TX8) (N := 11) h rfl (fun w hw => List.mem_cons_of_mem _ (q_inX8 w hw)) (by decide) (List.mem_cons_of_mem _ gw135) (ddX8_mend (17, .getfield 71, 3) (List.mem_of_getElem? (i := 10) rfl)) ?_
  refine k_aload_n (i := 0) h (ddX8_mend (20, .aload_n 0, 1) (List.mem_of_getElem? (i := 11) rfl)) rfl ?_
  refine k_getf (ci := 8) (j := 2) (C := RX8) (T := TX8) (N := 11) h rfl (fun w hw => List.mem_cons_of_mem _ (q_inX8 w hw)) (by decide) (List.mem_cons_of_mem _ gw28) (ddX8_mend (21, .getfield 28, 3) (List.mem_of_getElem? (i := 12) rfl)) ?_
  refine k_getf (ci := 1) (j := 0) (C := RX1) (T := TX1) (N := 5) h rfl (fun w hw => List.mem_cons_of_mem _ (q_inX1 w hw)) (by decide) (List.mem_cons_of_mem _ gw322) (ddX8_mend (24, .getfield 155, 3) (List.mem_of_getElem? (i := 13) rfl)) ?_
  refine k_aload_n (i := 0) h (ddX8_mend (27, .aload_n 0, 1) (List.mem_of_getElem? (i := 14) rfl)) rfl ?_
  refine k_getf (ci := 8) (j := 9) (C := RX8) (T := TX8) (N := 11) h rfl (fun w hw => List.mem_cons_of_mem _ (q_inX8 w hw)) (by decide) (List.mem_cons_of_mem _ gw135) (ddX8_mend (28, .getfield 71, 3) (List.mem_of_getElem? (i := 15) rfl)) ?_
  refine k_iload_n (i := 1) h (ddX8_mend (31, .iload_n 1, 1) (List.mem_of_getElem? (i := 16) rfl)) rfl ?_
  refine k_iload_n (i := 2) h (ddX8_mend (32, .iload_n 2, 1) (List.mem_of_getElem? (i := 17) rfl)) rfl ?_
  refine k_iload_n (i := 3) h (ddX8_mend (33, .iload_n 3, 1) (List.mem_of_getElem? (i := 18) rfl)) rfl ?_
  refine k_callV h hl (aX4_standingOf l) (ci := 4) (C := RX4) (T := TX4) (N := 14) rfl ⟨rfl, rfl⟩ (n := 3) (by decide +kernel) (q_gV gw449 gw450 gw451 gw71 gw448) ⟨by decide, by decide⟩ (ddX8_mend (34, .invokevirtual 216, 3) (List.mem_of_getElem? (i := 19) rfl)) ?_
  refine k_callV h hl (aX2_fewest l) (ci := 2) (C := RX2) (T := TX2) (N := 3) rfl ⟨rfl, rfl⟩ (n := 3) (by decide +kernel) (q_gV gw552 gw553 gw554 gw54 gw551) ⟨by decide, by decide⟩ (ddX8_mend (37, .invokevirtual 263, 3) (List.mem_of_getElem? (i := 20) rfl)) ?_
  refine k_istore (i := 5) h (ddX8_mend (40, .istore 5, 2) (List.mem_of_getElem? (i := 21) rfl)) (by decide) ?_
  refine k_iload (i := 4) h (ddX8_mend (42, .iload 4, 2) (List.mem_of_getElem? (i := 22) rfl)) ?_
  refine k_iconst (v := (-1)) h (ddX8_mend (44, .iconst (-1), 1) (List.mem_of_getElem? (i := 23) rfl)) (by decide) ?_
  refine k_icne h (ddX8_mend (45, .if_icmp .ne 6, 3) (List.mem_of_getElem? (i := 24) rfl)) (tgt := 51) (by decide) ?_ ?_
  · exact sX8_mend_51 hl hQ h
  · exact sX8_mend_48 hl hQ h
theorem sX8_mend_9 {l : Launch} {X : q_CX} (hl : X.2.1 = l) (hQ : q_QM X) (h : q_OK X yX8_mend cX8_mend 6 (some .int) rmX8_mend (Cond.code yX8_mend cX8_mend 6 (some .int) :: q_G)) : q_SK X 6 9 (BX8_mend_9) := by
  refine k_ldc (v := (-1000000002)) h (ddX8_mend (9, .ldc 82, 2) (List.mem_of_getElem? (i := 5) rfl)) (List.mem_cons_of_mem _ gw140) ?_
  exact k_iret h hQ (ddX8_mend (11, .ireturn, 1) (List.mem_of_getElem? (i := 6) rfl))
theorem sX8_mend_0 {l : Launch} {X : q_CX} (hl : X.2.1 = l) (hQ : q_QM X) (h : q_OK X yX8_mend cX8_mend 6 (some .int) rmX8_mend (Cond.code yX8_mend cX8_mend 6 (some .int) :: q_G)) : q_SK X 6 0 (BX8_mend_0) := by
  refine k_iload_n (i := 1) h (ddX8_mend (0, .iload_n 1, 1) (List.mem_of_getElem? (i := 0) rfl)) rfl ?_
  refine k_iload_n (i := 2) h (ddX8_mend (1, .iload_n 2, 1) (List.mem_of_getElem? (i := 1) rfl)) rfl ?_
  refine k_iload_n (i := 3) h (ddX8_mend (2, .iload_n 3, 1) (List.mem_of_getElem? (i := 2) rfl)) rfl ?_
  refine k_callS h hl (aX8_areShifts l) ⟨rfl, rfl⟩ (n := 3) (by decide +kernel) (q_gS gw443 gw442 gw91 gw441) ⟨by decide, by decide⟩ (ddX8_mend (3, .invokestatic 213, 3) (List.mem_of_getElem? (i := 3) rfl)) ?_
  refine k_ifne h (ddX8_mend (6, .ifCond .ne 6, 3) (List.mem_of_getElem? (i := 4) rfl)) (tgt := 12) (by decide) ?_ ?_
  · exact sX8_mend_12 hl hQ h
  · exact sX8_mend_9 hl hQ h
theorem aX8_mend (l : Launch) (as : List Value) (sh : q_Sh) (m : q_Mm) (R : q_KR) (hw : wX8_mend as sh m R) : q_AM l yX8_mend (Cond.code yX8_mend cX8_mend 6 (some .int) :: q_G) rmX8_mend as sh m R := by
  refine q_met (code := TX8_mend) (by decide) (fun X hl hQ _ h pc => ?_) hw.1 hw.2
  unfold TX8_mend
  exact k_at (sX8_mend_0 hl hQ h) (k_no)
/-! TumblingRock$Book.add(I)Z -/
abbrev dlX0_add : List (Nat × (Instr × Nat)) := [(0, .aload_n 0, 1), (1, .getfield 15, 3), (4, .bipush 30, 2), (6, .if_icmp .lt 5, 3), (9, .iconst 0, 1), (10, .ireturn, 1), (11, .aload_n 0, 1), (12, .getfield 9, 3), (15, .aload_n 0, 1), (16, .getfield 15, 3), (19, .iload_n 1, 1), (20, .invokestatic 19, 3), (23, .aload_n 0, 1), (24, .dup, 1), (25, .getfield 15, 3), (28, .iconst 1, 1), (29, .iadd, 1), (30, .putfield 15, 3), (33, .iconst 1, 1), (34, .ireturn, 1)]
theorem ddX0_add : ∀ q ∈ dlX0_add, decode cX0_add q.1 = .ok q.2 := by decide +kernel
theorem sX0_add_11 {l : Launch} {X : q_CX} (hl : X.2.1 = l) (hQ : q_QM X) (h : q_OK X yX0_add cX0_add 2 (some .boolean) rmX0_add (Cond.code yX0_add cX0_add 2 (some .boolean) :: q_G)) : q_SK X 2 11 (BX0_add_11) := by
  refine k_aload_n (i := 0) h (ddX0_add (11, .aload_n 0, 1) (List.mem_of_getElem? (i := 6) rfl)) rfl ?_
  refine k_getf (ci := 0) (j := 0) (C := RX0) (T := TX0) (N := 2) h rfl (fun w hw => List.mem_cons_of_mem _ (q_inX0 w hw)) (by decide) (List.mem_cons_of_mem _ gw65) (ddX0_add (12, .getfield 9, 3) (List.mem_of_getElem? (i := 7) rfl)) ?_
  refine k_aload_n (i := 0) h (ddX0_add (15, .aload_n 0, 1) (List.mem_of_getElem? (i := 8) rfl)) rfl ?_
  refine k_getf (ci := 0) (j := 1) (C := RX0) (T := TX0) (N := 2) h rfl (fun w hw => List.mem_cons_of_mem _ (q_inX0 w hw)) (by decide) (List.mem_cons_of_mem _ gw564) (ddX0_add (16, .getfield 15, 3) (List.mem_of_getElem? (i := 9) rfl)) ?_
  refine k_iload_n (i := 1) h (ddX0_add (19, .iload_n 1, 1) (List.mem_of_getElem? (i := 10) rfl)) rfl ?_
  refine k_callN h hl (aX8_put l) ⟨rfl, rfl⟩ (n := 3) (by decide +kernel) (q_gN gw143) (by decide +kernel) (List.mem_cons_of_mem _ gw91) (List.mem_cons_of_mem _ gw144) ⟨by decide, by decide⟩ (ddX0_add (20, .invokestatic 19, 3) (List.mem_of_getElem? (i := 11) rfl)) ?_
  refine k_aload_n (i := 0) h (ddX0_add (23, .aload_n 0, 1) (List.mem_of_getElem? (i := 12) rfl)) rfl ?_
  refine k_dup h (ddX0_add (24, .dup, 1) (List.mem_of_getElem? (i := 13) rfl)) ?_
  refine k_getf (ci := 0) (j := 1) (C := RX0) (T := TX0) (N := 2) h rfl (fun w hw => List.mem_cons_of_mem _ (q_inX0 w hw)) (by decide) (List.mem_cons_of_mem _ gw564) (ddX0_add (25, .getfield 15, 3) (List.mem_of_getElem? (i := 14) rfl)) ?_
  refine k_iconst (v := 1) h (ddX0_add (28, .iconst 1, 1) (List.mem_of_getElem? (i := 15) rfl)) (by decide) ?_
  refine k_iadd h (ddX0_add (29, .iadd, 1) (List.mem_of_getElem? (i := 16) rfl)) ?_
  refine k_putf (ci := 0) (j := 1) (C := RX0) (T := TX0) (N := 2) h rfl (fun w hw => List.mem_cons_of_mem _ (q_inX0 w hw)) (by decide) (List.mem_cons_of_mem _ gw564) tyX0 tyX0_ok nmX0 (by decide +kernel) (by decide +kernel) (ddX0_add (30, .putfield 15, 3) (List.mem_of_getElem? (i := 17) rfl)) ?_
  refine k_iconst (v := 1) h (ddX0_add (33, .iconst 1, 1) (List.mem_of_getElem? (i := 18) rfl)) (by decide) ?_
  exact k_zret h hQ (ddX0_add (34, .ireturn, 1) (List.mem_of_getElem? (i := 19) rfl))
theorem sX0_add_9 {l : Launch} {X : q_CX} (hl : X.2.1 = l) (hQ : q_QM X) (h : q_OK X yX0_add cX0_add 2 (some .boolean) rmX0_add (Cond.code yX0_add cX0_add 2 (some .boolean) :: q_G)) : q_SK X 2 9 (BX0_add_9) := by
  refine k_iconst (v := 0) h (ddX0_add (9, .iconst 0, 1) (List.mem_of_getElem? (i := 4) rfl)) (by decide) ?_
  exact k_zret h hQ (ddX0_add (10, .ireturn, 1) (List.mem_of_getElem? (i := 5) rfl))
theorem sX0_add_0 {l : Launch} {X : q_CX} (hl : X.2.1 = l) (hQ : q_QM X) (h : q_OK X yX0_add cX0_add 2 (some .boolean) rmX0_add (Cond.code yX0_add cX0_add 2 (some .boolean) :: q_G)) : q_SK X 2 0 (BX0_add_0) := by
  refine k_aload_n (i := 0) h (ddX0_add (0, .aload_n 0, 1) (List.mem_of_getElem? (i := 0) rfl)) rfl ?_
  refine k_getf (ci := 0) (j := 1) (C := RX0) (T := TX0) (N := 2) h rfl (fun w hw => List.mem_cons_of_mem _ (q_inX0 w hw)) (by decide) (List.mem_cons_of_mem _ gw564) (ddX0_add (1, .getfield 15, 3) (List.mem_of_getElem? (i := 1) rfl)) ?_
  refine k_bipush (v := 30) h (ddX0_add (4, .bipush 30, 2) (List.mem_of_getElem? (i := 2) rfl)) (by decide) ?_
  refine k_iclt h (ddX0_add (6, .if_icmp .lt 5, 3) (List.mem_of_getElem? (i := 3) rfl)) (tgt := 11) (by decide) ?_ ?_
  · exact sX0_add_11 hl hQ h
  · exact sX0_add_9 hl hQ h
theorem aX0_add (l : Launch) (as : List Value) (sh : q_Sh) (m : q_Mm) (R : q_KR) (hw : wX0_add as sh m R) : q_AM l yX0_add (Cond.code yX0_add cX0_add 2 (some .boolean) :: q_G) rmX0_add as sh m R := by
  refine q_met (code := TX0_add) (by decide) (fun X hl hQ _ h pc => ?_) hw.1 hw.2
  unfold TX0_add
  exact k_at (sX0_add_0 hl hQ h) (k_no)
/-! TumblingRock.write(I)I -/
abbrev dlX8_write : List (Nat × (Instr × Nat)) := [(0, .aload_n 0, 1), (1, .iload_n 1, 1), (2, .invokevirtual 161, 3), (5, .ifCond .ne 6, 3), (8, .ldc 147, 2), (10, .ireturn, 1), (11, .aload_n 0, 1), (12, .getfield 64, 3), (15, .iload_n 1, 1), (16, .invokevirtual 269, 3), (19, .ifCond .eq 13, 3), (22, .aload_n 0, 1), (23, .getfield 64, 3), (26, .getfield 135, 3), (29, .goto 5, 3), (32, .ldc 91, 2), (34, .ireturn, 1)]
theorem ddX8_write : ∀ q ∈ dlX8_write, decode cX8_write q.1 = .ok q.2 := by decide +kernel
theorem sX8_write_34 {l : Launch} {X : q_CX} (hl : X.2.1 = l) (hQ : q_QM X) (h : q_OK X yX8_write cX8_write 2 (some .int) rmX8_write (Cond.code yX8_write cX8_write 2 (some .int) :: q_G)) : q_SK X 2 34 (BX8_write_34) := by
  exact k_iret h hQ (ddX8_write (34, .ireturn, 1) (List.mem_of_getElem? (i := 16) rfl))
theorem sX8_write_32 {l : Launch} {X : q_CX} (hl : X.2.1 = l) (hQ : q_QM X) (h : q_OK X yX8_write cX8_write 2 (some .int) rmX8_write (Cond.code yX8_write cX8_write 2 (some .int) :: q_G)) : q_SK X 2 32 (BX8_write_32) := by
  refine k_ldc (v := (-1000000004)) h (ddX8_write (32, .ldc 91, 2) (List.mem_of_getElem? (i := 15) rfl)) (List.mem_cons_of_mem _ gw150) ?_
  exact sX8_write_34 hl hQ h
theorem sX8_write_22 {l : Launch} {X : q_CX} (hl : X.2.1 = l) (hQ : q_QM X) (h : q_OK X yX8_write cX8_write 2 (some .int) rmX8_write (Cond.code yX8_write cX8_write 2 (some .int) :: q_G)) : q_SK X 2 22 (BX8_write_22) := by
  refine k_aload_n (i := 0) h (ddX8_write (22, .aload_n 0, 1) (List.mem_of_getElem? (i := 11) rfl)) rfl ?_
  refine k_getf (ci := 8) (j := 8) (C := RX8) (T := TX8) (N := 11) h rfl (fun w hw => List.mem_cons_of_mem _ (q_inX8 w hw)) (by decide) (List.mem_cons_of_mem _ gw68) (ddX8_write (23, .getfield 64, 3) (List.mem_of_getElem? (i := 12) rfl)) ?_
  refine k_getf (ci := 0) (j := 1) (C := RX0) (T := TX0) (N := 2) h rfl (fun w hw => List.mem_cons_of_mem _ (q_inX0 w hw)) (by decide) (List.mem_cons_of_mem _ gw307) (ddX8_write (26, .getfield 135, 3) (List.mem_of_getElem? (i := 13) rfl)) ?_
  refine k_goto h (ddX8_write (29, .goto 5, 3) (List.mem_of_getElem? (i := 14) rfl)) (tgt := 34) (by decide) ?_
  exact sX8_write_34 hl hQ h
theorem sX8_write_11 {l : Launch} {X : q_CX} (hl : X.2.1 = l) (hQ : q_QM X) (h : q_OK X yX8_write cX8_write 2 (some .int) rmX8_write (Cond.code yX8_write cX8_write 2 (some .int) :: q_G)) : q_SK X 2 11 (BX8_write_11) := by
  refine k_aload_n (i := 0) h (ddX8_write (11, .aload_n 0, 1) (List.mem_of_getElem? (i := 6) rfl)) rfl ?_
  refine k_getf (ci := 8) (j := 8) (C := RX8) (T := TX8) (N := 11) h rfl (fun w hw => List.mem_cons_of_mem _ (q_inX8 w hw)) (by decide) (List.mem_cons_of_mem _ gw68) (ddX8_write (12, .getfield 64, 3) (List.mem_of_getElem? (i := 7) rfl)) ?_
  refine k_iload_n (i := 1) h (ddX8_write (15, .iload_n 1, 1) (List.mem_of_getElem? (i := 8) rfl)) rfl ?_
  refine k_callV h hl (aX0_add l) (ci := 0) (C := RX0) (T := TX0) (N := 2) rfl ⟨rfl, rfl⟩ (n := 1) (by decide +kernel) (q_gV gw566 gw567 gw568 gw63 gw565) ⟨by decide, by decide⟩ (ddX8_write (16, .invokevirtual 269, 3) (List.mem_of_getElem? (i := 9) rfl)) ?_
  refine k_ifeq h (ddX8_write (19, .ifCond .eq 13, 3) (List.mem_of_getElem? (i := 10) rfl)) (tgt := 32) (by decide) ?_ ?_
  · exact sX8_write_32 hl hQ h
  · exact sX8_write_22 hl hQ h
theorem sX8_write_8 {l : Launch} {X : q_CX} (hl : X.2.1 = l) (hQ : q_QM X) (h : q_OK X yX8_write cX8_write 2 (some .int) rmX8_write (Cond.code yX8_write cX8_write 2 (some .int) :: q_G)) : q_SK X 2 8 (BX8_write_8) := by
  refine k_ldc (v := (-1000000001)) h (ddX8_write (8, .ldc 147, 2) (List.mem_of_getElem? (i := 4) rfl)) (List.mem_cons_of_mem _ gw336) ?_
  exact k_iret h hQ (ddX8_write (10, .ireturn, 1) (List.mem_of_getElem? (i := 5) rfl))
theorem sX8_write_0 {l : Launch} {X : q_CX} (hl : X.2.1 = l) (hQ : q_QM X) (h : q_OK X yX8_write cX8_write 2 (some .int) rmX8_write (Cond.code yX8_write cX8_write 2 (some .int) :: q_G)) : q_SK X 2 0 (BX8_write_0) := by
  refine k_aload_n (i := 0) h (ddX8_write (0, .aload_n 0, 1) (List.mem_of_getElem? (i := 0) rfl)) rfl ?_
  refine k_iload_n (i := 1) h (ddX8_write (1, .iload_n 1, 1) (List.mem_of_getElem? (i := 1) rfl)) rfl ?_
  refine k_callV h hl (aX8_isPlace l) (ci := 8) (C := RX8) (T := TX8) (N := 11) rfl ⟨rfl, rfl⟩ (n := 1) (by decide +kernel) (q_gV gw341 gw342 gw343 gw91 gw340) ⟨by decide, by decide⟩ (ddX8_write (2, .invokevirtual 161, 3) (List.mem_of_getElem? (i := 2) rfl)) ?_
  refine k_ifne h (ddX8_write (5, .ifCond .ne 6, 3) (List.mem_of_getElem? (i := 3) rfl)) (tgt := 11) (by decide) ?_ ?_
  · exact sX8_write_11 hl hQ h
  · exact sX8_write_8 hl hQ h
theorem aX8_write (l : Launch) (as : List Value) (sh : q_Sh) (m : q_Mm) (R : q_KR) (hw : wX8_write as sh m R) : q_AM l yX8_write (Cond.code yX8_write cX8_write 2 (some .int) :: q_G) rmX8_write as sh m R := by
  refine q_met (code := TX8_write) (by decide) (fun X hl hQ _ h pc => ?_) hw.1 hw.2
  unfold TX8_write
  exact k_at (sX8_write_0 hl hQ h) (k_no)
/-! TumblingRock.tear()I -/
abbrev dlX8_tear : List (Nat × (Instr × Nat)) := [(0, .aload_n 0, 1), (1, .getfield 64, 3), (4, .getfield 135, 3), (7, .aload_n 0, 1), (8, .getfield 43, 3), (11, .getfield 132, 3), (14, .iadd, 1), (15, .istore_n 1, 1), (16, .aload_n 0, 1), (17, .getfield 64, 3), (20, .iconst 0, 1), (21, .putfield 135, 3), (24, .aload_n 0, 1), (25, .getfield 43, 3), (28, .aload_n 0, 1), (29, .getfield 71, 3), (32, .invokevirtual 272, 3), (35, .iload_n 1, 1), (36, .ireturn, 1)]
theorem ddX8_tear : ∀ q ∈ dlX8_tear, decode cX8_tear q.1 = .ok q.2 := by decide +kernel
theorem sX8_tear_0 {l : Launch} {X : q_CX} (hl : X.2.1 = l) (hQ : q_QM X) (h : q_OK X yX8_tear cX8_tear 2 (some .int) rmX8_tear (Cond.code yX8_tear cX8_tear 2 (some .int) :: q_G)) : q_SK X 2 0 (BX8_tear_0) := by
  refine k_aload_n (i := 0) h (ddX8_tear (0, .aload_n 0, 1) (List.mem_of_getElem? (i := 0) rfl)) rfl ?_
  refine k_getf (ci := 8) (j := 8) (C := RX8) (T := TX8) (N := 11) h rfl (fun w hw => List.mem_cons_of_mem _ (q_inX8 w hw)) (by decide) (List.mem_cons_of_mem _ gw68) (ddX8_tear (1, .getfield 64, 3) (List.mem_of_getElem? (i := 1) rfl)) ?_
  refine k_getf (ci := 0) (j := 1) (C := RX0) (T := TX0) (N := 2) h rfl (fun w hw => List.mem_cons_of_mem _ (q_inX0 w hw)) (by decide) (List.mem_cons_of_mem _ gw307) (ddX8_tear (4, .getfield 135, 3) (List.mem_of_getElem? (i := 2) rfl)) ?_
  refine k_aload_n (i := 0) h (ddX8_tear (7, .aload_n 0, 1) (List.mem_of_getElem? (i := 3) rfl)) rfl ?_
  refine k_getf (ci := 8) (j := 5) (C := RX8) (T := TX8) (N := 11) h rfl (fun w hw => List.mem_cons_of_mem _ (q_inX8 w hw)) (by decide) (List.mem_cons_of_mem _ gw42) (ddX8_tear (8, .getfield 43, 3) (List.mem_of_getElem? (i := 4) rfl)) ?_
  refine k_getf (ci := 6) (j := 0) (C := RX6) (T := TX6) (N := 8) h rfl (fun w hw => List.mem_cons_of_mem _ (q_inX6 w hw)) (by decide) (List.mem_cons_of_mem _ gw321) (ddX8_tear (11, .getfield 132, 3) (List.mem_of_getElem? (i := 5) rfl)) ?_
  refine k_iadd h (ddX8_tear (14, .iadd, 1) (List.mem_of_getElem? (i := 6) rfl)) ?_
  refine k_istore_n (i := 1) h (ddX8_tear (15, .istore_n 1, 1) (List.mem_of_getElem? (i := 7) rfl)) rfl (by decide) ?_
  refine k_aload_n (i := 0) h (ddX8_tear (16, .aload_n 0, 1) (List.mem_of_getElem? (i := 8) rfl)) rfl ?_
  refine k_getf (ci := 8) (j := 8) (C := RX8) (T := TX8) (N := 11) h rfl (fun w hw => List.mem_cons_of_mem _ (q_inX8 w hw)) (by decide) (List.mem_cons_of_mem _ gw68) (ddX8_tear (17, .getfield 64, 3) (List.mem_of_getElem? (i := 9) rfl)) ?_
  refine k_iconst (v := 0) h (ddX8_tear (20, .iconst 0, 1) (List.mem_of_getElem? (i := 10) rfl)) (by decide) ?_
  refine k_putf (ci := 0) (j := 1) (C := RX0) (T := TX0) (N := 2) h rfl (fun w hw => List.mem_cons_of_mem _ (q_inX0 w hw)) (by decide) (List.mem_cons_of_mem _ gw307) tyX0 tyX0_ok nmX0 (by decide +kernel) (by decide +kernel) (ddX8_tear (21, .putfield 135, 3) (List.mem_of_getElem? (i := 11) rfl)) ?_
  refine k_aload_n (i := 0) h (ddX8_tear (24, .aload_n 0, 1) (List.mem_of_getElem? (i := 12) rfl)) rfl ?_
  refine k_getf (ci := 8) (j := 5) (C := RX8) (T := TX8) (N := 11) h rfl (fun w hw => List.mem_cons_of_mem _ (q_inX8 w hw)) (by decide) (List.mem_cons_of_mem _ gw42) (ddX8_tear (25, .getfield 43, 3) (List.mem_of_getElem? (i := 13) rfl)) ?_
  refine k_aload_n (i := 0) h (ddX8_tear (28, .aload_n 0, 1) (List.mem_of_getElem? (i := 14) rfl)) rfl ?_
  refine k_getf (ci := 8) (j := 9) (C := RX8) (T := TX8) (N := 11) h rfl (fun w hw => List.mem_cons_of_mem _ (q_inX8 w hw)) (by decide) (List.mem_cons_of_mem _ gw135) (ddX8_tear (29, .getfield 71, 3) (List.mem_of_getElem? (i := 15) rfl)) ?_
  refine k_callV h hl (aX6_forget l) (ci := 6) (C := RX6) (T := TX6) (N := 8) rfl ⟨rfl, rfl⟩ (n := 1) (by decide +kernel) (q_gV gw304 gw305 gw306 gw34 gw303) ⟨by decide, by decide⟩ (ddX8_tear (32, .invokevirtual 272, 3) (List.mem_of_getElem? (i := 16) rfl)) ?_
  refine k_iload_n (i := 1) h (ddX8_tear (35, .iload_n 1, 1) (List.mem_of_getElem? (i := 17) rfl)) rfl ?_
  exact k_iret h hQ (ddX8_tear (36, .ireturn, 1) (List.mem_of_getElem? (i := 18) rfl))
theorem aX8_tear (l : Launch) (as : List Value) (sh : q_Sh) (m : q_Mm) (R : q_KR) (hw : wX8_tear as sh m R) : q_AM l yX8_tear (Cond.code yX8_tear cX8_tear 2 (some .int) :: q_G) rmX8_tear as sh m R := by
  refine q_met (code := TX8_tear) (by decide) (fun X hl hQ _ h pc => ?_) hw.1 hw.2
  unfold TX8_tear
  exact k_at (sX8_tear_0 hl hQ h) (k_no)
/-! TumblingRock$Book.firstWrong(LTumblingRock$Rock;)I -/
abbrev dlX0_firstWrong : List (Nat × (Instr × Nat)) := [(0, .iconst 1, 1), (1, .istore_n 2, 1), (2, .iload_n 2, 1), (3, .aload_n 0, 1), (4, .getfield 15, 3), (7, .if_icmp .ge 48, 3), (10, .aload_n 0, 1), (11, .getfield 9, 3), (14, .iload_n 2, 1), (15, .iconst 1, 1), (16, .isub, 1), (17, .invokestatic 23, 3), (20, .istore_n 3, 1), (21, .aload_n 0, 1), (22, .getfield 9, 3), (25, .iload_n 2, 1), (26, .invokestatic 23, 3), (29, .istore 4, 2), (31, .iload_n 3, 1), (32, .iload 4, 2), (34, .if_icmp .eq 15, 3), (37, .aload_n 1, 1), (38, .iload_n 3, 1), (39, .iload 4, 2), (41, .invokevirtual 27, 3), (44, .ifCond .ne 5, 3), (47, .iload_n 2, 1), (48, .ireturn, 1), (49, .iinc 2 1, 3), (52, .goto (-50), 3), (55, .iconst (-1), 1), (56, .ireturn, 1)]
theorem ddX0_firstWrong : ∀ q ∈ dlX0_firstWrong, decode cX0_firstWrong q.1 = .ok q.2 := by decide +kernel
theorem sX0_firstWrong_0 {l : Launch} {X : q_CX} (hl : X.2.1 = l) (hQ : q_QM X) (h : q_OK X yX0_firstWrong cX0_firstWrong 5 (some .int) rmX0_firstWrong (Cond.code yX0_firstWrong cX0_firstWrong 5 (some .int) :: q_G)) : q_SK X 5 0 (BX0_firstWrong_0) := by
  refine k_iconst (v := 1) h (ddX0_firstWrong (0, .iconst 1, 1) (List.mem_of_getElem? (i := 0) rfl)) (by decide) ?_
  refine k_istore_n (i := 2) h (ddX0_firstWrong (1, .istore_n 2, 1) (List.mem_of_getElem? (i := 1) rfl)) rfl (by decide) ?_
  exact k_cut
theorem sX0_firstWrong_55 {l : Launch} {X : q_CX} (hl : X.2.1 = l) (hQ : q_QM X) (h : q_OK X yX0_firstWrong cX0_firstWrong 5 (some .int) rmX0_firstWrong (Cond.code yX0_firstWrong cX0_firstWrong 5 (some .int) :: q_G)) : q_SK X 5 55 (BX0_firstWrong_55) := by
  refine k_iconst (v := (-1)) h (ddX0_firstWrong (55, .iconst (-1), 1) (List.mem_of_getElem? (i := 30) rfl)) (by decide) ?_
  exact k_iret h hQ (ddX0_firstWrong (56, .ireturn, 1) (List.mem_of_getElem? (i := 31) rfl))
theorem sX0_firstWrong_49 {l : Launch} {X : q_CX} (hl : X.2.1 = l) (hQ : q_QM X) (h : q_OK X yX0_firstWrong cX0_firstWrong 5 (some .int) rmX0_firstWrong (Cond.code yX0_firstWrong cX0_firstWrong 5 (some .int) :: q_G)) : q_SK X 5 49 (BX0_firstWrong_49) := by
  refine k_iinc (d := 1) h (ddX0_firstWrong (49, .iinc 2 1, 3) (List.mem_of_getElem? (i := 28) rfl)) (by decide) (by decide) ?_
  refine k_goto h (ddX0_firstWrong (52, .goto (-50), 3) (List.mem_of_getElem? (i := 29) rfl)) (tgt := 2) (by decide) ?_
  exact k_cut
theorem sX0_firstWrong_47 {l : Launch} {X : q_CX} (hl : X.2.1 = l) (hQ : q_QM X) (h : q_OK X yX0_firstWrong cX0_firstWrong 5 (some .int) rmX0_firstWrong (Cond.code yX0_firstWrong cX0_firstWrong 5 (some .int) :: q_G)) : q_SK X 5 47 (BX0_firstWrong_47) := by
  refine k_iload_n (i := 2) h (ddX0_firstWrong (47, .iload_n 2, 1) (List.mem_of_getElem? (i := 26) rfl)) rfl ?_
  exact k_iret h hQ (ddX0_firstWrong (48, .ireturn, 1) (List.mem_of_getElem? (i := 27) rfl))
theorem sX0_firstWrong_37 {l : Launch} {X : q_CX} (hl : X.2.1 = l) (hQ : q_QM X) (h : q_OK X yX0_firstWrong cX0_firstWrong 5 (some .int) rmX0_firstWrong (Cond.code yX0_firstWrong cX0_firstWrong 5 (some .int) :: q_G)) : q_SK X 5 37 (BX0_firstWrong_37) := by
  refine k_aload_n (i := 1) h (ddX0_firstWrong (37, .aload_n 1, 1) (List.mem_of_getElem? (i := 21) rfl)) rfl ?_
  refine k_iload_n (i := 3) h (ddX0_firstWrong (38, .iload_n 3, 1) (List.mem_of_getElem? (i := 22) rfl)) rfl ?_
  refine k_iload (i := 4) h (ddX0_firstWrong (39, .iload 4, 2) (List.mem_of_getElem? (i := 23) rfl)) ?_
  refine k_callV h hl (aX4_leads l) (ci := 4) (C := RX4) (T := TX4) (N := 14) rfl ⟨rfl, rfl⟩ (n := 2) (by decide +kernel) (q_gV gw569 gw259 gw260 gw71 gw257) ⟨by decide, by decide⟩ (ddX0_firstWrong (41, .invokevirtual 27, 3) (List.mem_of_getElem? (i := 24) rfl)) ?_
  refine k_ifne h (ddX0_firstWrong (44, .ifCond .ne 5, 3) (List.mem_of_getElem? (i := 25) rfl)) (tgt := 49) (by decide) ?_ ?_
  · exact sX0_firstWrong_49 hl hQ h
  · exact sX0_firstWrong_47 hl hQ h
theorem sX0_firstWrong_10 {l : Launch} {X : q_CX} (hl : X.2.1 = l) (hQ : q_QM X) (h : q_OK X yX0_firstWrong cX0_firstWrong 5 (some .int) rmX0_firstWrong (Cond.code yX0_firstWrong cX0_firstWrong 5 (some .int) :: q_G)) : q_SK X 5 10 (BX0_firstWrong_10) := by
  refine k_aload_n (i := 0) h (ddX0_firstWrong (10, .aload_n 0, 1) (List.mem_of_getElem? (i := 6) rfl)) rfl ?_
  refine k_getf (ci := 0) (j := 0) (C := RX0) (T := TX0) (N := 2) h rfl (fun w hw => List.mem_cons_of_mem _ (q_inX0 w hw)) (by decide) (List.mem_cons_of_mem _ gw65) (ddX0_firstWrong (11, .getfield 9, 3) (List.mem_of_getElem? (i := 7) rfl)) ?_
  refine k_iload_n (i := 2) h (ddX0_firstWrong (14, .iload_n 2, 1) (List.mem_of_getElem? (i := 8) rfl)) rfl ?_
  refine k_iconst (v := 1) h (ddX0_firstWrong (15, .iconst 1, 1) (List.mem_of_getElem? (i := 9) rfl)) (by decide) ?_
  refine k_isub h (ddX0_firstWrong (16, .isub, 1) (List.mem_of_getElem? (i := 10) rfl)) ?_
  refine k_callN h hl (aX8_at l) ⟨rfl, rfl⟩ (n := 2) (by decide +kernel) (q_gN gw98) (by decide +kernel) (List.mem_cons_of_mem _ gw91) (List.mem_cons_of_mem _ gw99) ⟨by decide, by decide⟩ (ddX0_firstWrong (17, .invokestatic 23, 3) (List.mem_of_getElem? (i := 11) rfl)) ?_
  refine k_istore_n (i := 3) h (ddX0_firstWrong (20, .istore_n 3, 1) (List.mem_of_getElem? (i := 12) rfl)) rfl (by decide) ?_
  refine k_aload_n (i := 0) h (ddX0_firstWrong (21, .aload_n 0, 1) (List.mem_of_getElem? (i := 13) rfl)) rfl ?_
  refine k_getf (ci := 0) (j := 0) (C := RX0) (T := TX0) (N := 2) h rfl (fun w hw => List.mem_cons_of_mem _ (q_inX0 w hw)) (by decide) (List.mem_cons_of_mem _ gw65) (ddX0_firstWrong (22, .getfield 9, 3) (List.mem_of_getElem? (i := 14) rfl)) ?_
  refine k_iload_n (i := 2) h (ddX0_firstWrong (25, .iload_n 2, 1) (List.mem_of_getElem? (i := 15) rfl)) rfl ?_
  refine k_callN h hl (aX8_at l) ⟨rfl, rfl⟩ (n := 2) (by decide +kernel) (q_gN gw98) (by decide +kernel) (List.mem_cons_of_mem _ gw91) (List.mem_cons_of_mem _ gw99) ⟨by decide, by decide⟩ (ddX0_firstWrong (26, .invokestatic 23, 3) (List.mem_of_getElem? (i := 16) rfl)) ?_
  refine k_istore (i := 4) h (ddX0_firstWrong (29, .istore 4, 2) (List.mem_of_getElem? (i := 17) rfl)) (by decide) ?_
  refine k_iload_n (i := 3) h (ddX0_firstWrong (31, .iload_n 3, 1) (List.mem_of_getElem? (i := 18) rfl)) rfl ?_
  refine k_iload (i := 4) h (ddX0_firstWrong (32, .iload 4, 2) (List.mem_of_getElem? (i := 19) rfl)) ?_
  refine k_iceq h (ddX0_firstWrong (34, .if_icmp .eq 15, 3) (List.mem_of_getElem? (i := 20) rfl)) (tgt := 49) (by decide) ?_ ?_
  · exact sX0_firstWrong_49 hl hQ h
  · exact sX0_firstWrong_37 hl hQ h
theorem sX0_firstWrong_2 {l : Launch} {X : q_CX} (hl : X.2.1 = l) (hQ : q_QM X) (h : q_OK X yX0_firstWrong cX0_firstWrong 5 (some .int) rmX0_firstWrong (Cond.code yX0_firstWrong cX0_firstWrong 5 (some .int) :: q_G)) : q_SK X 5 2 (BX0_firstWrong_2) := by
  refine k_iload_n (i := 2) h (ddX0_firstWrong (2, .iload_n 2, 1) (List.mem_of_getElem? (i := 2) rfl)) rfl ?_
  refine k_aload_n (i := 0) h (ddX0_firstWrong (3, .aload_n 0, 1) (List.mem_of_getElem? (i := 3) rfl)) rfl ?_
  refine k_getf (ci := 0) (j := 1) (C := RX0) (T := TX0) (N := 2) h rfl (fun w hw => List.mem_cons_of_mem _ (q_inX0 w hw)) (by decide) (List.mem_cons_of_mem _ gw564) (ddX0_firstWrong (4, .getfield 15, 3) (List.mem_of_getElem? (i := 4) rfl)) ?_
  refine k_icge h (ddX0_firstWrong (7, .if_icmp .ge 48, 3) (List.mem_of_getElem? (i := 5) rfl)) (tgt := 55) (by decide) ?_ ?_
  · exact sX0_firstWrong_55 hl hQ h
  · exact sX0_firstWrong_10 hl hQ h
theorem aX0_firstWrong (l : Launch) (as : List Value) (sh : q_Sh) (m : q_Mm) (R : q_KR) (hw : wX0_firstWrong as sh m R) : q_AM l yX0_firstWrong (Cond.code yX0_firstWrong cX0_firstWrong 5 (some .int) :: q_G) rmX0_firstWrong as sh m R := by
  refine q_met (code := TX0_firstWrong) (by decide) (fun X hl hQ _ h pc => ?_) hw.1 hw.2
  unfold TX0_firstWrong
  exact k_at (sX0_firstWrong_0 hl hQ h) (k_at (sX0_firstWrong_2 hl hQ h) (k_no))
/-! TumblingRock$Book.lightOf(LTumblingRock$Rock;I)I -/
abbrev dlX0_lightOf : List (Nat × (Instr × Nat)) := [(0, .iconst 0, 1), (1, .istore_n 3, 1), (2, .iconst 0, 1), (3, .istore 4, 2), (5, .iload 4, 2), (7, .aload_n 0, 1), (8, .getfield 15, 3), (11, .if_icmp .ge 36, 3), (14, .iload_n 3, 1), (15, .aload_n 1, 1), (16, .aload_n 0, 1), (17, .getfield 9, 3), (20, .iload 4, 2), (22, .invokestatic 23, 3), (25, .aload_n 1, 1), (26, .iload_n 2, 1), (27, .iload 4, 2), (29, .iload 4, 2), (31, .iload 4, 2), (33, .invokevirtual 33, 3), (36, .invokevirtual 37, 3), (39, .iadd, 1), (40, .istore_n 3, 1), (41, .iinc 4 1, 3), (44, .goto (-39), 3), (47, .iload_n 3, 1), (48, .ireturn, 1)]
theorem ddX0_lightOf : ∀ q ∈ dlX0_lightOf, decode cX0_lightOf q.1 = .ok q.2 := by decide +kernel
theorem sX0_lightOf_0 {l : Launch} {X : q_CX} (hl : X.2.1 = l) (hQ : q_QM X) (h : q_OK X yX0_lightOf cX0_lightOf 5 (some .int) rmX0_lightOf (Cond.code yX0_lightOf cX0_lightOf 5 (some .int) :: q_G)) : q_SK X 5 0 (BX0_lightOf_0) := by
  refine k_iconst (v := 0) h (ddX0_lightOf (0, .iconst 0, 1) (List.mem_of_getElem? (i := 0) rfl)) (by decide) ?_
  refine k_istore_n (i := 3) h (ddX0_lightOf (1, .istore_n 3, 1) (List.mem_of_getElem? (i := 1) rfl)) rfl (by decide) ?_
  refine k_iconst (v := 0) h (ddX0_lightOf (2, .iconst 0, 1) (List.mem_of_getElem? (i := 2) rfl)) (by decide) ?_
  refine k_istore (i := 4) h (ddX0_lightOf (3, .istore 4, 2) (List.mem_of_getElem? (i := 3) rfl)) (by decide) ?_
  exact k_cut
theorem sX0_lightOf_47 {l : Launch} {X : q_CX} (hl : X.2.1 = l) (hQ : q_QM X) (h : q_OK X yX0_lightOf cX0_lightOf 5 (some .int) rmX0_lightOf (Cond.code yX0_lightOf cX0_lightOf 5 (some .int) :: q_G)) : q_SK X 5 47 (BX0_lightOf_47) := by
  refine k_iload_n (i := 3) h (ddX0_lightOf (47, .iload_n 3, 1) (List.mem_of_getElem? (i := 25) rfl)) rfl ?_
  exact k_iret h hQ (ddX0_lightOf (48, .ireturn, 1) (List.mem_of_getElem? (i := 26) rfl))
theorem sX0_lightOf_14 {l : Launch} {X : q_CX} (hl : X.2.1 = l) (hQ : q_QM X) (h : q_OK X yX0_lightOf cX0_lightOf 5 (some .int) rmX0_lightOf (Cond.code yX0_lightOf cX0_lightOf 5 (some .int) :: q_G)) : q_SK X 5 14 (BX0_lightOf_14) := by
  refine k_iload_n (i := 3) h (ddX0_lightOf (14, .iload_n 3, 1) (List.mem_of_getElem? (i := 8) rfl)) rfl ?_
  refine k_aload_n (i := 1) h (ddX0_lightOf (15, .aload_n 1, 1) (List.mem_of_getElem? (i := 9) rfl)) rfl ?_
  refine k_aload_n (i := 0) h (ddX0_lightOf (16, .aload_n 0, 1) (List.mem_of_getElem? (i := 10) rfl)) rfl ?_
  refine k_getf (ci := 0) (j := 0) (C := RX0) (T := TX0) (N := 2) h rfl (fun w hw => List.mem_cons_of_mem _ (q_inX0 w hw)) (by decide) (List.mem_cons_of_mem _ gw65) (ddX0_lightOf (17, .getfield 9, 3) (List.mem_of_getElem? (i := 11) rfl)) ?_
  refine k_iload (i := 4) h (ddX0_lightOf (20, .iload 4, 2) (List.mem_of_getElem? (i := 12) rfl)) ?_
  refine k_callN h hl (aX8_at l) ⟨rfl, rfl⟩ (n := 2) (by decide +kernel) (q_gN gw98) (by decide +kernel) (List.mem_cons_of_mem _ gw91) (List.mem_cons_of_mem _ gw99) ⟨by decide, by decide⟩ (ddX0_lightOf (22, .invokestatic 23, 3) (List.mem_of_getElem? (i := 13) rfl)) ?_
  refine k_aload_n (i := 1) h (ddX0_lightOf (25, .aload_n 1, 1) (List.mem_of_getElem? (i := 14) rfl)) rfl ?_
  refine k_iload_n (i := 2) h (ddX0_lightOf (26, .iload_n 2, 1) (List.mem_of_getElem? (i := 15) rfl)) rfl ?_
  refine k_iload (i := 4) h (ddX0_lightOf (27, .iload 4, 2) (List.mem_of_getElem? (i := 16) rfl)) ?_
  refine k_iload (i := 4) h (ddX0_lightOf (29, .iload 4, 2) (List.mem_of_getElem? (i := 17) rfl)) ?_
  refine k_iload (i := 4) h (ddX0_lightOf (31, .iload 4, 2) (List.mem_of_getElem? (i := 18) rfl)) ?_
  refine k_callV h hl (aX4_moved l) (ci := 4) (C := RX4) (T := TX4) (N := 14) rfl ⟨rfl, rfl⟩ (n := 4) (by decide +kernel) (q_gV gw574 gw126 gw127 gw71 gw124) ⟨by decide, by decide⟩ (ddX0_lightOf (33, .invokevirtual 33, 3) (List.mem_of_getElem? (i := 19) rfl)) ?_
  refine k_callV h hl (aX4_litBit l) (ci := 4) (C := RX4) (T := TX4) (N := 14) rfl ⟨rfl, rfl⟩ (n := 2) (by decide +kernel) (q_gV gw575 gw349 gw350 gw71 gw347) ⟨by decide, by decide⟩ (ddX0_lightOf (36, .invokevirtual 37, 3) (List.mem_of_getElem? (i := 20) rfl)) ?_
  refine k_iadd h (ddX0_lightOf (39, .iadd, 1) (List.mem_of_getElem? (i := 21) rfl)) ?_
  refine k_istore_n (i := 3) h (ddX0_lightOf (40, .istore_n 3, 1) (List.mem_of_getElem? (i := 22) rfl)) rfl (by decide) ?_
  refine k_iinc (d := 1) h (ddX0_lightOf (41, .iinc 4 1, 3) (List.mem_of_getElem? (i := 23) rfl)) (by decide) (by decide) ?_
  refine k_goto h (ddX0_lightOf (44, .goto (-39), 3) (List.mem_of_getElem? (i := 24) rfl)) (tgt := 5) (by decide) ?_
  exact k_cut
theorem sX0_lightOf_5 {l : Launch} {X : q_CX} (hl : X.2.1 = l) (hQ : q_QM X) (h : q_OK X yX0_lightOf cX0_lightOf 5 (some .int) rmX0_lightOf (Cond.code yX0_lightOf cX0_lightOf 5 (some .int) :: q_G)) : q_SK X 5 5 (BX0_lightOf_5) := by
  refine k_iload (i := 4) h (ddX0_lightOf (5, .iload 4, 2) (List.mem_of_getElem? (i := 4) rfl)) ?_
  refine k_aload_n (i := 0) h (ddX0_lightOf (7, .aload_n 0, 1) (List.mem_of_getElem? (i := 5) rfl)) rfl ?_
  refine k_getf (ci := 0) (j := 1) (C := RX0) (T := TX0) (N := 2) h rfl (fun w hw => List.mem_cons_of_mem _ (q_inX0 w hw)) (by decide) (List.mem_cons_of_mem _ gw564) (ddX0_lightOf (8, .getfield 15, 3) (List.mem_of_getElem? (i := 6) rfl)) ?_
  refine k_icge h (ddX0_lightOf (11, .if_icmp .ge 36, 3) (List.mem_of_getElem? (i := 7) rfl)) (tgt := 47) (by decide) ?_ ?_
  · exact sX0_lightOf_47 hl hQ h
  · exact sX0_lightOf_14 hl hQ h
theorem aX0_lightOf (l : Launch) (as : List Value) (sh : q_Sh) (m : q_Mm) (R : q_KR) (hw : wX0_lightOf as sh m R) : q_AM l yX0_lightOf (Cond.code yX0_lightOf cX0_lightOf 5 (some .int) :: q_G) rmX0_lightOf as sh m R := by
  refine q_met (code := TX0_lightOf) (by decide) (fun X hl hQ _ h pc => ?_) hw.1 hw.2
  unfold TX0_lightOf
  exact k_at (sX0_lightOf_0 hl hQ h) (k_at (sX0_lightOf_5 hl hQ h) (k_no))
/-! TumblingRock.judge(I)I -/
abbrev dlX8_judge : List (Nat × (Instr × Nat)) := [(0, .iload_n 1, 1), (1, .iconst 0, 1), (2, .iconst 1, 1), (3, .invokestatic 78, 3), (6, .ifCond .ne 6, 3), (9, .ldc 82, 2), (11, .ireturn, 1), (12, .iload_n 1, 1), (13, .ifCond .ne 17, 3), (16, .aload_n 0, 1), (17, .getfield 64, 3), (20, .aload_n 0, 1), (21, .getfield 71, 3), (24, .invokevirtual 275, 3), (27, .goto 21, 3), (30, .aload_n 0, 1), (31, .getfield 64, 3), (34, .aload_n 0, 1), (35, .getfield 71, 3), (38, .aload_n 0, 1), (39, .getfield 28, 3), (42, .getfield 155, 3), (45, .invokevirtual 278, 3), (48, .ireturn, 1)]
theorem ddX8_judge : ∀ q ∈ dlX8_judge, decode cX8_judge q.1 = .ok q.2 := by decide +kernel
theorem sX8_judge_48 {l : Launch} {X : q_CX} (hl : X.2.1 = l) (hQ : q_QM X) (h : q_OK X yX8_judge cX8_judge 2 (some .int) rmX8_judge (Cond.code yX8_judge cX8_judge 2 (some .int) :: q_G)) : q_SK X 2 48 (BX8_judge_48) := by
  exact k_iret h hQ (ddX8_judge (48, .ireturn, 1) (List.mem_of_getElem? (i := 23) rfl))
theorem sX8_judge_30 {l : Launch} {X : q_CX} (hl : X.2.1 = l) (hQ : q_QM X) (h : q_OK X yX8_judge cX8_judge 2 (some .int) rmX8_judge (Cond.code yX8_judge cX8_judge 2 (some .int) :: q_G)) : q_SK X 2 30 (BX8_judge_30) := by
  refine k_aload_n (i := 0) h (ddX8_judge (30, .aload_n 0, 1) (List.mem_of_getElem? (i := 15) rfl)) rfl ?_
  refine k_getf (ci := 8) (j := 8) (C := RX8) (T := TX8) (N := 11) h rfl (fun w hw => List.mem_cons_of_mem _ (q_inX8 w hw)) (by decide) (List.mem_cons_of_mem _ gw68) (ddX8_judge (31, .getfield 64, 3) (List.mem_of_getElem? (i := 16) rfl)) ?_
  refine k_aload_n (i := 0) h (ddX8_judge (34, .aload_n 0, 1) (List.mem_of_getElem? (i := 17) rfl)) rfl ?_
  refine k_getf (ci := 8) (j := 9) (C := RX8) (T := TX8) (N := 11) h rfl (fun w hw => List.mem_cons_of_mem _ (q_inX8 w hw)) (by decide) (List.mem_cons_of_mem _ gw135) (ddX8_judge (35, .getfield 71, 3) (List.mem_of_getElem? (i := 18) rfl)) ?_
  refine k_aload_n (i := 0) h (ddX8_judge (38, .aload_n 0, 1) (List.mem_of_getElem? (i := 19) rfl)) rfl ?_
  refine k_getf (ci := 8) (j := 2) (C := RX8) (T := TX8) (N := 11) h rfl (fun w hw => List.mem_cons_of_mem _ (q_inX8 w hw)) (by decide) (List.mem_cons_of_mem _ gw28) (ddX8_judge (39, .getfield 28, 3) (List.mem_of_getElem? (i := 20) rfl)) ?_
  refine k_getf (ci := 1) (j := 0) (C := RX1) (T := TX1) (N := 5) h rfl (fun w hw => List.mem_cons_of_mem _ (q_inX1 w hw)) (by decide) (List.mem_cons_of_mem _ gw322) (ddX8_judge (42, .getfield 155, 3) (List.mem_of_getElem? (i := 21) rfl)) ?_
  refine k_callV h hl (aX0_lightOf l) (ci := 0) (C := RX0) (T := TX0) (N := 2) rfl ⟨rfl, rfl⟩ (n := 2) (by decide +kernel) (q_gV gw577 gw578 gw579 gw63 gw576) ⟨by decide, by decide⟩ (ddX8_judge (45, .invokevirtual 278, 3) (List.mem_of_getElem? (i := 22) rfl)) ?_
  exact sX8_judge_48 hl hQ h
theorem sX8_judge_16 {l : Launch} {X : q_CX} (hl : X.2.1 = l) (hQ : q_QM X) (h : q_OK X yX8_judge cX8_judge 2 (some .int) rmX8_judge (Cond.code yX8_judge cX8_judge 2 (some .int) :: q_G)) : q_SK X 2 16 (BX8_judge_16) := by
  refine k_aload_n (i := 0) h (ddX8_judge (16, .aload_n 0, 1) (List.mem_of_getElem? (i := 9) rfl)) rfl ?_
  refine k_getf (ci := 8) (j := 8) (C := RX8) (T := TX8) (N := 11) h rfl (fun w hw => List.mem_cons_of_mem _ (q_inX8 w hw)) (by decide) (List.mem_cons_of_mem _ gw68) (ddX8_judge (17, .getfield 64, 3) (List.mem_of_getElem? (i := 10) rfl)) ?_
  refine k_aload_n (i := 0) h (ddX8_judge (20, .aload_n 0, 1) (List.mem_of_getElem? (i := 11) rfl)) rfl ?_
  refine k_getf (ci := 8) (j := 9) (C := RX8) (T := TX8) (N := 11) h rfl (fun w hw => List.mem_cons_of_mem _ (q_inX8 w hw)) (by decide) (List.mem_cons_of_mem _ gw135) (ddX8_judge (21, .getfield 71, 3) (List.mem_of_getElem? (i := 12) rfl)) ?_
  refine k_callV h hl (aX0_firstWrong l) (ci := 0) (C := RX0) (T := TX0) (N := 2) rfl ⟨rfl, rfl⟩ (n := 1) (by decide +kernel) (q_gV gw571 gw572 gw573 gw63 gw570) ⟨by decide, by decide⟩ (ddX8_judge (24, .invokevirtual 275, 3) (List.mem_of_getElem? (i := 13) rfl)) ?_
  refine k_goto h (ddX8_judge (27, .goto 21, 3) (List.mem_of_getElem? (i := 14) rfl)) (tgt := 48) (by decide) ?_
  exact sX8_judge_48 hl hQ h
theorem sX8_judge_12 {l : Launch} {X : q_CX} (hl : X.2.1 = l) (hQ : q_QM X) (h : q_OK X yX8_judge cX8_judge 2 (some .int) rmX8_judge (Cond.code yX8_judge cX8_judge 2 (some .int) :: q_G)) : q_SK X 2 12 (BX8_judge_12) := by
  refine k_iload_n (i := 1) h (ddX8_judge (12, .iload_n 1, 1) (List.mem_of_getElem? (i := 7) rfl)) rfl ?_
  refine k_ifne h (ddX8_judge (13, .ifCond .ne 17, 3) (List.mem_of_getElem? (i := 8) rfl)) (tgt := 30) (by decide) ?_ ?_
  · exact sX8_judge_30 hl hQ h
  · exact sX8_judge_16 hl hQ h
theorem sX8_judge_9 {l : Launch} {X : q_CX} (hl : X.2.1 = l) (hQ : q_QM X) (h : q_OK X yX8_judge cX8_judge 2 (some .int) rmX8_judge (Cond.code yX8_judge cX8_judge 2 (some .int) :: q_G)) : q_SK X 2 9 (BX8_judge_9) := by
  refine k_ldc (v := (-1000000002)) h (ddX8_judge (9, .ldc 82, 2) (List.mem_of_getElem? (i := 5) rfl)) (List.mem_cons_of_mem _ gw140) ?_
  exact k_iret h hQ (ddX8_judge (11, .ireturn, 1) (List.mem_of_getElem? (i := 6) rfl))
theorem sX8_judge_0 {l : Launch} {X : q_CX} (hl : X.2.1 = l) (hQ : q_QM X) (h : q_OK X yX8_judge cX8_judge 2 (some .int) rmX8_judge (Cond.code yX8_judge cX8_judge 2 (some .int) :: q_G)) : q_SK X 2 0 (BX8_judge_0) := by
  refine k_iload_n (i := 1) h (ddX8_judge (0, .iload_n 1, 1) (List.mem_of_getElem? (i := 0) rfl)) rfl ?_
  refine k_iconst (v := 0) h (ddX8_judge (1, .iconst 0, 1) (List.mem_of_getElem? (i := 1) rfl)) (by decide) ?_
  refine k_iconst (v := 1) h (ddX8_judge (2, .iconst 1, 1) (List.mem_of_getElem? (i := 2) rfl)) (by decide) ?_
  refine k_callS h hl (aX8_inside l) ⟨rfl, rfl⟩ (n := 3) (by decide +kernel) (q_gS gw139 gw138 gw91 gw137) ⟨by decide, by decide⟩ (ddX8_judge (3, .invokestatic 78, 3) (List.mem_of_getElem? (i := 3) rfl)) ?_
  refine k_ifne h (ddX8_judge (6, .ifCond .ne 6, 3) (List.mem_of_getElem? (i := 4) rfl)) (tgt := 12) (by decide) ?_ ?_
  · exact sX8_judge_12 hl hQ h
  · exact sX8_judge_9 hl hQ h
theorem aX8_judge (l : Launch) (as : List Value) (sh : q_Sh) (m : q_Mm) (R : q_KR) (hw : wX8_judge as sh m R) : q_AM l yX8_judge (Cond.code yX8_judge cX8_judge 2 (some .int) :: q_G) rmX8_judge as sh m R := by
  refine q_met (code := TX8_judge) (by decide) (fun X hl hQ _ h pc => ?_) hw.1 hw.2
  unfold TX8_judge
  exact k_at (sX8_judge_0 hl hQ h) (k_no)
/-! TumblingRock.seed(I)I -/
abbrev dlX8_seed : List (Nat × (Instr × Nat)) := [(0, .iload_n 1, 1), (1, .ifCond .ge 6, 3), (4, .ldc 82, 2), (6, .ireturn, 1), (7, .aload_n 0, 1), (8, .getfield 28, 3), (11, .getfield 282, 3), (14, .istore_n 2, 1), (15, .aload_n 0, 1), (16, .getfield 28, 3), (19, .iload_n 1, 1), (20, .putfield 282, 3), (23, .iload_n 2, 1), (24, .ireturn, 1)]
theorem ddX8_seed : ∀ q ∈ dlX8_seed, decode cX8_seed q.1 = .ok q.2 := by decide +kernel
theorem sX8_seed_7 {l : Launch} {X : q_CX} (hl : X.2.1 = l) (hQ : q_QM X) (h : q_OK X yX8_seed cX8_seed 3 (some .int) rmX8_seed (Cond.code yX8_seed cX8_seed 3 (some .int) :: q_G)) : q_SK X 3 7 (BX8_seed_7) := by
  refine k_aload_n (i := 0) h (ddX8_seed (7, .aload_n 0, 1) (List.mem_of_getElem? (i := 4) rfl)) rfl ?_
  refine k_getf (ci := 8) (j := 2) (C := RX8) (T := TX8) (N := 11) h rfl (fun w hw => List.mem_cons_of_mem _ (q_inX8 w hw)) (by decide) (List.mem_cons_of_mem _ gw28) (ddX8_seed (8, .getfield 28, 3) (List.mem_of_getElem? (i := 5) rfl)) ?_
  refine k_getf (ci := 1) (j := 4) (C := RX1) (T := TX1) (N := 5) h rfl (fun w hw => List.mem_cons_of_mem _ (q_inX1 w hw)) (by decide) (List.mem_cons_of_mem _ gw580) (ddX8_seed (11, .getfield 282, 3) (List.mem_of_getElem? (i := 6) rfl)) ?_
  refine k_istore_n (i := 2) h (ddX8_seed (14, .istore_n 2, 1) (List.mem_of_getElem? (i := 7) rfl)) rfl (by decide) ?_
  refine k_aload_n (i := 0) h (ddX8_seed (15, .aload_n 0, 1) (List.mem_of_getElem? (i := 8) rfl)) rfl ?_
  refine k_getf (ci := 8) (j := 2) (C := RX8) (T := TX8) (N := 11) h rfl (fun w hw => List.mem_cons_of_mem _ (q_inX8 w hw)) (by decide) (List.mem_cons_of_mem _ gw28) (ddX8_seed (16, .getfield 28, 3) (List.mem_of_getElem? (i := 9) rfl)) ?_
  refine k_iload_n (i := 1) h (ddX8_seed (19, .iload_n 1, 1) (List.mem_of_getElem? (i := 10) rfl)) rfl ?_
  refine k_putf (ci := 1) (j := 4) (C := RX1) (T := TX1) (N := 5) h rfl (fun w hw => List.mem_cons_of_mem _ (q_inX1 w hw)) (by decide) (List.mem_cons_of_mem _ gw580) tyX1 tyX1_ok nmX1 (by decide +kernel) (by decide +kernel) (ddX8_seed (20, .putfield 282, 3) (List.mem_of_getElem? (i := 11) rfl)) ?_
  refine k_iload_n (i := 2) h (ddX8_seed (23, .iload_n 2, 1) (List.mem_of_getElem? (i := 12) rfl)) rfl ?_
  exact k_iret h hQ (ddX8_seed (24, .ireturn, 1) (List.mem_of_getElem? (i := 13) rfl))
theorem sX8_seed_4 {l : Launch} {X : q_CX} (hl : X.2.1 = l) (hQ : q_QM X) (h : q_OK X yX8_seed cX8_seed 3 (some .int) rmX8_seed (Cond.code yX8_seed cX8_seed 3 (some .int) :: q_G)) : q_SK X 3 4 (BX8_seed_4) := by
  refine k_ldc (v := (-1000000002)) h (ddX8_seed (4, .ldc 82, 2) (List.mem_of_getElem? (i := 2) rfl)) (List.mem_cons_of_mem _ gw140) ?_
  exact k_iret h hQ (ddX8_seed (6, .ireturn, 1) (List.mem_of_getElem? (i := 3) rfl))
theorem sX8_seed_0 {l : Launch} {X : q_CX} (hl : X.2.1 = l) (hQ : q_QM X) (h : q_OK X yX8_seed cX8_seed 3 (some .int) rmX8_seed (Cond.code yX8_seed cX8_seed 3 (some .int) :: q_G)) : q_SK X 3 0 (BX8_seed_0) := by
  refine k_iload_n (i := 1) h (ddX8_seed (0, .iload_n 1, 1) (List.mem_of_getElem? (i := 0) rfl)) rfl ?_
  refine k_ifge h (ddX8_seed (1, .ifCond .ge 6, 3) (List.mem_of_getElem? (i := 1) rfl)) (tgt := 7) (by decide) ?_ ?_
  · exact sX8_seed_7 hl hQ h
  · exact sX8_seed_4 hl hQ h
theorem aX8_seed (l : Launch) (as : List Value) (sh : q_Sh) (m : q_Mm) (R : q_KR) (hw : wX8_seed as sh m R) : q_AM l yX8_seed (Cond.code yX8_seed cX8_seed 3 (some .int) :: q_G) rmX8_seed as sh m R := by
  refine q_met (code := TX8_seed) (by decide) (fun X hl hQ _ h pc => ?_) hw.1 hw.2
  unfold TX8_seed
  exact k_at (sX8_seed_0 hl hQ h) (k_no)
/-! TumblingRock$Farm.become(LTumblingRock$Farm;)V -/
abbrev dlX1_become : List (Nat × (Instr × Nat)) := [(0, .aload_n 0, 1), (1, .aload_n 1, 1), (2, .getfield 9, 3), (5, .putfield 9, 3), (8, .aload_n 0, 1), (9, .aload_n 1, 1), (10, .getfield 15, 3), (13, .putfield 15, 3), (16, .aload_n 0, 1), (17, .aload_n 1, 1), (18, .getfield 18, 3), (21, .putfield 18, 3), (24, .aload_n 0, 1), (25, .aload_n 1, 1), (26, .getfield 21, 3), (29, .putfield 21, 3), (32, .aload_n 0, 1), (33, .aload_n 1, 1), (34, .getfield 24, 3), (37, .putfield 24, 3), (40, .return_, 1)]
theorem ddX1_become : ∀ q ∈ dlX1_become, decode cX1_become q.1 = .ok q.2 := by decide +kernel
theorem sX1_become_0 {l : Launch} {X : q_CX} (hl : X.2.1 = l) (hQ : q_QM X) (h : q_OK X yX1_become cX1_become 2 none rmX1_become (Cond.code yX1_become cX1_become 2 none :: q_G)) : q_SK X 2 0 (BX1_become_0) := by
  refine k_aload_n (i := 0) h (ddX1_become (0, .aload_n 0, 1) (List.mem_of_getElem? (i := 0) rfl)) rfl ?_
  refine k_aload_n (i := 1) h (ddX1_become (1, .aload_n 1, 1) (List.mem_of_getElem? (i := 1) rfl)) rfl ?_
  refine k_getf (ci := 1) (j := 0) (C := RX1) (T := TX1) (N := 5) h rfl (fun w hw => List.mem_cons_of_mem _ (q_inX1 w hw)) (by decide) (List.mem_cons_of_mem _ gw288) (ddX1_become (2, .getfield 9, 3) (List.mem_of_getElem? (i := 2) rfl)) ?_
  refine k_putf (ci := 1) (j := 0) (C := RX1) (T := TX1) (N := 5) h rfl (fun w hw => List.mem_cons_of_mem _ (q_inX1 w hw)) (by decide) (List.mem_cons_of_mem _ gw288) tyX1 tyX1_ok nmX1 (by decide +kernel) (by decide +kernel) (ddX1_become (5, .putfield 9, 3) (List.mem_of_getElem? (i := 3) rfl)) ?_
  refine k_aload_n (i := 0) h (ddX1_become (8, .aload_n 0, 1) (List.mem_of_getElem? (i := 4) rfl)) rfl ?_
  refine k_aload_n (i := 1) h (ddX1_become (9, .aload_n 1, 1) (List.mem_of_getElem? (i := 5) rfl)) rfl ?_
  refine k_getf (ci := 1) (j := 1) (C := RX1) (T := TX1) (N := 5) h rfl (fun w hw => List.mem_cons_of_mem _ (q_inX1 w hw)) (by decide) (List.mem_cons_of_mem _ gw289) (ddX1_become (10, .getfield 15, 3) (List.mem_of_getElem? (i := 6) rfl)) ?_
  refine k_putf (ci := 1) (j := 1) (C := RX1) (T := TX1) (N := 5) h rfl (fun w hw => List.mem_cons_of_mem _ (q_inX1 w hw)) (by decide) (List.mem_cons_of_mem _ gw289) tyX1 tyX1_ok nmX1 (by decide +kernel) (by decide +kernel) (ddX1_become (13, .putfield 15, 3) (List.mem_of_getElem? (i := 7) rfl)) ?_
  refine k_aload_n (i := 0) h (ddX1_become (16, .aload_n 0, 1) (List.mem_of_getElem? (i := 8) rfl)) rfl ?_
  refine k_aload_n (i := 1) h (ddX1_become (17, .aload_n 1, 1) (List.mem_of_getElem? (i := 9) rfl)) rfl ?_
  refine k_getf (ci := 1) (j := 2) (C := RX1) (T := TX1) (N := 5) h rfl (fun w hw => List.mem_cons_of_mem _ (q_inX1 w hw)) (by decide) (List.mem_cons_of_mem _ gw290) (ddX1_become (18, .getfield 18, 3) (List.mem_of_getElem? (i := 10) rfl)) ?_
  refine k_putf (ci := 1) (j := 2) (C := RX1) (T := TX1) (N := 5) h rfl (fun w hw => List.mem_cons_of_mem _ (q_inX1 w hw)) (by decide) (List.mem_cons_of_mem _ gw290) tyX1 tyX1_ok nmX1 (by decide +kernel) (by decide +kernel) (ddX1_become (21, .putfield 18, 3) (List.mem_of_getElem? (i := 11) rfl)) ?_
  refine k_aload_n (i := 0) h (ddX1_become (24, .aload_n 0, 1) (List.mem_of_getElem? (i := 12) rfl)) rfl ?_
  refine k_aload_n (i := 1) h (ddX1_become (25, .aload_n 1, 1) (List.mem_of_getElem? (i := 13) rfl)) rfl ?_
  refine k_getf (ci := 1) (j := 3) (C := RX1) (T := TX1) (N := 5) h rfl (fun w hw => List.mem_cons_of_mem _ (q_inX1 w hw)) (by decide) (List.mem_cons_of_mem _ gw291) (ddX1_become (26, .getfield 21, 3) (List.mem_of_getElem? (i := 14) rfl)) ?_
  refine k_putf (ci := 1) (j := 3) (C := RX1) (T := TX1) (N := 5) h rfl (fun w hw => List.mem_cons_of_mem _ (q_inX1 w hw)) (by decide) (List.mem_cons_of_mem _ gw291) tyX1 tyX1_ok nmX1 (by decide +kernel) (by decide +kernel) (ddX1_become (29, .putfield 21, 3) (List.mem_of_getElem? (i := 15) rfl)) ?_
  refine k_aload_n (i := 0) h (ddX1_become (32, .aload_n 0, 1) (List.mem_of_getElem? (i := 16) rfl)) rfl ?_
  refine k_aload_n (i := 1) h (ddX1_become (33, .aload_n 1, 1) (List.mem_of_getElem? (i := 17) rfl)) rfl ?_
  refine k_getf (ci := 1) (j := 4) (C := RX1) (T := TX1) (N := 5) h rfl (fun w hw => List.mem_cons_of_mem _ (q_inX1 w hw)) (by decide) (List.mem_cons_of_mem _ gw396) (ddX1_become (34, .getfield 24, 3) (List.mem_of_getElem? (i := 18) rfl)) ?_
  refine k_putf (ci := 1) (j := 4) (C := RX1) (T := TX1) (N := 5) h rfl (fun w hw => List.mem_cons_of_mem _ (q_inX1 w hw)) (by decide) (List.mem_cons_of_mem _ gw396) tyX1 tyX1_ok nmX1 (by decide +kernel) (by decide +kernel) (ddX1_become (37, .putfield 24, 3) (List.mem_of_getElem? (i := 19) rfl)) ?_
  exact k_vret h hQ (ddX1_become (40, .return_, 1) (List.mem_of_getElem? (i := 20) rfl))
theorem aX1_become (l : Launch) (as : List Value) (sh : q_Sh) (m : q_Mm) (R : q_KR) (hw : wX1_become as sh m R) : q_AM l yX1_become (Cond.code yX1_become cX1_become 2 none :: q_G) rmX1_become as sh m R := by
  refine q_met (code := TX1_become) (by decide) (fun X hl hQ _ h pc => ?_) hw.1 hw.2
  unfold TX1_become
  exact k_at (sX1_become_0 hl hQ h) (k_no)
/-! TumblingRock.keep(I)I -/
abbrev dlX8_keep : List (Nat × (Instr × Nat)) := [(0, .iload_n 1, 1), (1, .iconst 0, 1), (2, .iconst 1, 1), (3, .invokestatic 78, 3), (6, .ifCond .ne 6, 3), (9, .ldc 147, 2), (11, .ireturn, 1), (12, .aload_n 0, 1), (13, .getfield 32, 3), (16, .iload_n 1, 1), (17, .aaload, 1), (18, .aload_n 0, 1), (19, .getfield 28, 3), (22, .invokevirtual 285, 3), (25, .aload_n 0, 1), (26, .getfield 36, 3), (29, .iload_n 1, 1), (30, .iconst 1, 1), (31, .bastore, 1), (32, .iconst 1, 1), (33, .ireturn, 1)]
theorem ddX8_keep : ∀ q ∈ dlX8_keep, decode cX8_keep q.1 = .ok q.2 := by decide +kernel
theorem sX8_keep_12 {l : Launch} {X : q_CX} (hl : X.2.1 = l) (hQ : q_QM X) (h : q_OK X yX8_keep cX8_keep 2 (some .int) rmX8_keep (Cond.code yX8_keep cX8_keep 2 (some .int) :: q_G)) : q_SK X 2 12 (BX8_keep_12) := by
  refine k_aload_n (i := 0) h (ddX8_keep (12, .aload_n 0, 1) (List.mem_of_getElem? (i := 7) rfl)) rfl ?_
  refine k_getf (ci := 8) (j := 3) (C := RX8) (T := TX8) (N := 11) h rfl (fun w hw => List.mem_cons_of_mem _ (q_inX8 w hw)) (by decide) (List.mem_cons_of_mem _ gw29) (ddX8_keep (13, .getfield 32, 3) (List.mem_of_getElem? (i := 8) rfl)) ?_
  refine k_iload_n (i := 1) h (ddX8_keep (16, .iload_n 1, 1) (List.mem_of_getElem? (i := 9) rfl)) rfl ?_
  refine k_aald h (ddX8_keep (17, .aaload, 1) (List.mem_of_getElem? (i := 10) rfl)) ?_
  refine k_aload_n (i := 0) h (ddX8_keep (18, .aload_n 0, 1) (List.mem_of_getElem? (i := 11) rfl)) rfl ?_
  refine k_getf (ci := 8) (j := 2) (C := RX8) (T := TX8) (N := 11) h rfl (fun w hw => List.mem_cons_of_mem _ (q_inX8 w hw)) (by decide) (List.mem_cons_of_mem _ gw28) (ddX8_keep (19, .getfield 28, 3) (List.mem_of_getElem? (i := 12) rfl)) ?_
  refine k_callV h hl (aX1_become l) (ci := 1) (C := RX1) (T := TX1) (N := 5) rfl ⟨rfl, rfl⟩ (n := 1) (by decide +kernel) (q_gV gw582 gw583 gw584 gw24 gw581) ⟨by decide, by decide⟩ (ddX8_keep (22, .invokevirtual 285, 3) (List.mem_of_getElem? (i := 13) rfl)) ?_
  refine k_aload_n (i := 0) h (ddX8_keep (25, .aload_n 0, 1) (List.mem_of_getElem? (i := 14) rfl)) rfl ?_
  refine k_getf (ci := 8) (j := 4) (C := RX8) (T := TX8) (N := 11) h rfl (fun w hw => List.mem_cons_of_mem _ (q_inX8 w hw)) (by decide) (List.mem_cons_of_mem _ gw31) (ddX8_keep (26, .getfield 36, 3) (List.mem_of_getElem? (i := 15) rfl)) ?_
  refine k_iload_n (i := 1) h (ddX8_keep (29, .iload_n 1, 1) (List.mem_of_getElem? (i := 16) rfl)) rfl ?_
  refine k_iconst (v := 1) h (ddX8_keep (30, .iconst 1, 1) (List.mem_of_getElem? (i := 17) rfl)) (by decide) ?_
  refine k_zast h (ddX8_keep (31, .bastore, 1) (List.mem_of_getElem? (i := 18) rfl)) ?_
  refine k_iconst (v := 1) h (ddX8_keep (32, .iconst 1, 1) (List.mem_of_getElem? (i := 19) rfl)) (by decide) ?_
  exact k_iret h hQ (ddX8_keep (33, .ireturn, 1) (List.mem_of_getElem? (i := 20) rfl))
theorem sX8_keep_9 {l : Launch} {X : q_CX} (hl : X.2.1 = l) (hQ : q_QM X) (h : q_OK X yX8_keep cX8_keep 2 (some .int) rmX8_keep (Cond.code yX8_keep cX8_keep 2 (some .int) :: q_G)) : q_SK X 2 9 (BX8_keep_9) := by
  refine k_ldc (v := (-1000000001)) h (ddX8_keep (9, .ldc 147, 2) (List.mem_of_getElem? (i := 5) rfl)) (List.mem_cons_of_mem _ gw336) ?_
  exact k_iret h hQ (ddX8_keep (11, .ireturn, 1) (List.mem_of_getElem? (i := 6) rfl))
theorem sX8_keep_0 {l : Launch} {X : q_CX} (hl : X.2.1 = l) (hQ : q_QM X) (h : q_OK X yX8_keep cX8_keep 2 (some .int) rmX8_keep (Cond.code yX8_keep cX8_keep 2 (some .int) :: q_G)) : q_SK X 2 0 (BX8_keep_0) := by
  refine k_iload_n (i := 1) h (ddX8_keep (0, .iload_n 1, 1) (List.mem_of_getElem? (i := 0) rfl)) rfl ?_
  refine k_iconst (v := 0) h (ddX8_keep (1, .iconst 0, 1) (List.mem_of_getElem? (i := 1) rfl)) (by decide) ?_
  refine k_iconst (v := 1) h (ddX8_keep (2, .iconst 1, 1) (List.mem_of_getElem? (i := 2) rfl)) (by decide) ?_
  refine k_callS h hl (aX8_inside l) ⟨rfl, rfl⟩ (n := 3) (by decide +kernel) (q_gS gw139 gw138 gw91 gw137) ⟨by decide, by decide⟩ (ddX8_keep (3, .invokestatic 78, 3) (List.mem_of_getElem? (i := 3) rfl)) ?_
  refine k_ifne h (ddX8_keep (6, .ifCond .ne 6, 3) (List.mem_of_getElem? (i := 4) rfl)) (tgt := 12) (by decide) ?_ ?_
  · exact sX8_keep_12 hl hQ h
  · exact sX8_keep_9 hl hQ h
theorem aX8_keep (l : Launch) (as : List Value) (sh : q_Sh) (m : q_Mm) (R : q_KR) (hw : wX8_keep as sh m R) : q_AM l yX8_keep (Cond.code yX8_keep cX8_keep 2 (some .int) :: q_G) rmX8_keep as sh m R := by
  refine q_met (code := TX8_keep) (by decide) (fun X hl hQ _ h pc => ?_) hw.1 hw.2
  unfold TX8_keep
  exact k_at (sX8_keep_0 hl hQ h) (k_no)
/-! TumblingRock.goBack(I)I -/
abbrev dlX8_goBack : List (Nat × (Instr × Nat)) := [(0, .iload_n 1, 1), (1, .iconst 0, 1), (2, .iconst 1, 1), (3, .invokestatic 78, 3), (6, .ifCond .ne 6, 3), (9, .ldc 147, 2), (11, .ireturn, 1), (12, .aload_n 0, 1), (13, .getfield 36, 3), (16, .iload_n 1, 1), (17, .baload, 1), (18, .ifCond .ne 6, 3), (21, .ldc 182, 2), (23, .ireturn, 1), (24, .aload_n 0, 1), (25, .getfield 28, 3), (28, .aload_n 0, 1), (29, .getfield 32, 3), (32, .iload_n 1, 1), (33, .aaload, 1), (34, .invokevirtual 285, 3), (37, .iconst 1, 1), (38, .ireturn, 1)]
theorem ddX8_goBack : ∀ q ∈ dlX8_goBack, decode cX8_goBack q.1 = .ok q.2 := by decide +kernel
theorem sX8_goBack_24 {l : Launch} {X : q_CX} (hl : X.2.1 = l) (hQ : q_QM X) (h : q_OK X yX8_goBack cX8_goBack 2 (some .int) rmX8_goBack (Cond.code yX8_goBack cX8_goBack 2 (some .int) :: q_G)) : q_SK X 2 24 (BX8_goBack_24) := by
  refine k_aload_n (i := 0) h (ddX8_goBack (24, .aload_n 0, 1) (List.mem_of_getElem? (i := 14) rfl)) rfl ?_
  refine k_getf (ci := 8) (j := 2) (C := RX8) (T := TX8) (N := 11) h rfl (fun w hw => List.mem_cons_of_mem _ (q_inX8 w hw)) (by decide) (List.mem_cons_of_mem _ gw28) (ddX8_goBack (25, .getfield 28, 3) (List.mem_of_getElem? (i := 15) rfl)) ?_
  refine k_aload_n (i := 0) h (ddX8_goBack (28, .aload_n 0, 1) (List.mem_of_getElem? (i := 16) rfl)) rfl ?_
  refine k_getf (ci := 8) (j := 3) (C := RX8) (T := TX8) (N := 11) h rfl (fun w hw => List.mem_cons_of_mem _ (q_inX8 w hw)) (by decide) (List.mem_cons_of_mem _ gw29) (ddX8_goBack (29, .getfield 32, 3) (List.mem_of_getElem? (i := 17) rfl)) ?_
  refine k_iload_n (i := 1) h (ddX8_goBack (32, .iload_n 1, 1) (List.mem_of_getElem? (i := 18) rfl)) rfl ?_
  refine k_aald h (ddX8_goBack (33, .aaload, 1) (List.mem_of_getElem? (i := 19) rfl)) ?_
  refine k_callV h hl (aX1_become l) (ci := 1) (C := RX1) (T := TX1) (N := 5) rfl ⟨rfl, rfl⟩ (n := 1) (by decide +kernel) (q_gV gw582 gw583 gw584 gw24 gw581) ⟨by decide, by decide⟩ (ddX8_goBack (34, .invokevirtual 285, 3) (List.mem_of_getElem? (i := 20) rfl)) ?_
  refine k_iconst (v := 1) h (ddX8_goBack (37, .iconst 1, 1) (List.mem_of_getElem? (i := 21) rfl)) (by decide) ?_
  exact k_iret h hQ (ddX8_goBack (38, .ireturn, 1) (List.mem_of_getElem? (i := 22) rfl))
theorem sX8_goBack_21 {l : Launch} {X : q_CX} (hl : X.2.1 = l) (hQ : q_QM X) (h : q_OK X yX8_goBack cX8_goBack 2 (some .int) rmX8_goBack (Cond.code yX8_goBack cX8_goBack 2 (some .int) :: q_G)) : q_SK X 2 21 (BX8_goBack_21) := by
  refine k_ldc (v := (-1000000003)) h (ddX8_goBack (21, .ldc 182, 2) (List.mem_of_getElem? (i := 12) rfl)) (List.mem_cons_of_mem _ gw372) ?_
  exact k_iret h hQ (ddX8_goBack (23, .ireturn, 1) (List.mem_of_getElem? (i := 13) rfl))
theorem sX8_goBack_12 {l : Launch} {X : q_CX} (hl : X.2.1 = l) (hQ : q_QM X) (h : q_OK X yX8_goBack cX8_goBack 2 (some .int) rmX8_goBack (Cond.code yX8_goBack cX8_goBack 2 (some .int) :: q_G)) : q_SK X 2 12 (BX8_goBack_12) := by
  refine k_aload_n (i := 0) h (ddX8_goBack (12, .aload_n 0, 1) (List.mem_of_getElem? (i := 7) rfl)) rfl ?_
  refine k_getf (ci := 8) (j := 4) (C := RX8) (T := TX8) (N := 11) h rfl (fun w hw => List.mem_cons_of_mem _ (q_inX8 w hw)) (by decide) (List.mem_cons_of_mem _ gw31) (ddX8_goBack (13, .getfield 36, 3) (List.mem_of_getElem? (i := 8) rfl)) ?_
  refine k_iload_n (i := 1) h (ddX8_goBack (16, .iload_n 1, 1) (List.mem_of_getElem? (i := 9) rfl)) rfl ?_
  refine k_zald h (ddX8_goBack (17, .baload, 1) (List.mem_of_getElem? (i := 10) rfl)) ?_
  refine k_ifne h (ddX8_goBack (18, .ifCond .ne 6, 3) (List.mem_of_getElem? (i := 11) rfl)) (tgt := 24) (by decide) ?_ ?_
  · exact sX8_goBack_24 hl hQ h
  · exact sX8_goBack_21 hl hQ h
theorem sX8_goBack_9 {l : Launch} {X : q_CX} (hl : X.2.1 = l) (hQ : q_QM X) (h : q_OK X yX8_goBack cX8_goBack 2 (some .int) rmX8_goBack (Cond.code yX8_goBack cX8_goBack 2 (some .int) :: q_G)) : q_SK X 2 9 (BX8_goBack_9) := by
  refine k_ldc (v := (-1000000001)) h (ddX8_goBack (9, .ldc 147, 2) (List.mem_of_getElem? (i := 5) rfl)) (List.mem_cons_of_mem _ gw336) ?_
  exact k_iret h hQ (ddX8_goBack (11, .ireturn, 1) (List.mem_of_getElem? (i := 6) rfl))
theorem sX8_goBack_0 {l : Launch} {X : q_CX} (hl : X.2.1 = l) (hQ : q_QM X) (h : q_OK X yX8_goBack cX8_goBack 2 (some .int) rmX8_goBack (Cond.code yX8_goBack cX8_goBack 2 (some .int) :: q_G)) : q_SK X 2 0 (BX8_goBack_0) := by
  refine k_iload_n (i := 1) h (ddX8_goBack (0, .iload_n 1, 1) (List.mem_of_getElem? (i := 0) rfl)) rfl ?_
  refine k_iconst (v := 0) h (ddX8_goBack (1, .iconst 0, 1) (List.mem_of_getElem? (i := 1) rfl)) (by decide) ?_
  refine k_iconst (v := 1) h (ddX8_goBack (2, .iconst 1, 1) (List.mem_of_getElem? (i := 2) rfl)) (by decide) ?_
  refine k_callS h hl (aX8_inside l) ⟨rfl, rfl⟩ (n := 3) (by decide +kernel) (q_gS gw139 gw138 gw91 gw137) ⟨by decide, by decide⟩ (ddX8_goBack (3, .invokestatic 78, 3) (List.mem_of_getElem? (i := 3) rfl)) ?_
  refine k_ifne h (ddX8_goBack (6, .ifCond .ne 6, 3) (List.mem_of_getElem? (i := 4) rfl)) (tgt := 12) (by decide) ?_ ?_
  · exact sX8_goBack_12 hl hQ h
  · exact sX8_goBack_9 hl hQ h
theorem aX8_goBack (l : Launch) (as : List Value) (sh : q_Sh) (m : q_Mm) (R : q_KR) (hw : wX8_goBack as sh m R) : q_AM l yX8_goBack (Cond.code yX8_goBack cX8_goBack 2 (some .int) :: q_G) rmX8_goBack as sh m R := by
  refine q_met (code := TX8_goBack) (by decide) (fun X hl hQ _ h pc => ?_) hw.1 hw.2
  unfold TX8_goBack
  exact k_at (sX8_goBack_0 hl hQ h) (k_no)
/-! TumblingRockModel.<init>()V -/
abbrev dlX9_init : List (Nat × (Instr × Nat)) := [(0, .aload_n 0, 1), (1, .invokespecial 1, 3), (4, .aload_n 0, 1), (5, .bipush 24, 2), (7, .newarray .int, 2), (9, .putfield 7, 3), (12, .aload_n 0, 1), (13, .iconst 2, 1), (14, .newarray .boolean, 2), (16, .putfield 13, 3), (19, .aload_n 0, 1), (20, .bipush 72, 2), (22, .newarray .int, 2), (24, .putfield 17, 3), (27, .aload_n 0, 1), (28, .bipush 6, 2), (30, .newarray .int, 2), (32, .putfield 20, 3), (35, .aload_n 0, 1), (36, .bipush 48, 2), (38, .newarray .int, 2), (40, .putfield 23, 3), (43, .aload_n 0, 1), (44, .bipush 16, 2), (46, .newarray .int, 2), (48, .putfield 26, 3), (51, .aload_n 0, 1), (52, .bipush 24, 2), (54, .newarray .int, 2), (56, .putfield 29, 3), (59, .aload_n 0, 1), (60, .sipush 400, 3), (63, .newarray .int, 2), (65, .putfield 32, 3), (68, .aload_n 0, 1), (69, .iconst (-1), 1), (70, .putfield 35, 3), (73, .aload_n 0, 1), (74, .iconst 1, 1), (75, .putfield 39, 3), (78, .aload_n 0, 1), (79, .iconst 3, 1), (80, .newarray .int, 2), (82, .putfield 42, 3), (85, .aload_n 0, 1), (86, .sipush 328, 3), (89, .newarray .int, 2), (91, .putfield 45, 3), (94, .aload_n 0, 1), (95, .bipush 20, 2), (97, .newarray .int, 2), (99, .putfield 48, 3), (102, .aload_n 0, 1), (103, .bipush 20, 2), (105, .newarray .int, 2), (107, .putfield 51, 3), (110, .aload_n 0, 1), (111, .bipush 20, 2), (113, .newarray .boolean, 2), (115, .putfield 54, 3), (118, .aload_n 0, 1), (119, .sipush 192, 3), (122, .newarray .int, 2), (124, .putfield 57, 3), (127, .aload_n 0, 1), (128, .sipush 1728, 3), (131, .newarray .int, 2), (133, .putfield 60, 3), (136, .aload_n 0, 1), (137, .bipush 30, 2), (139, .newarray .int, 2), (141, .putfield 63, 3), (144, .return_, 1)]
theorem ddX9_init : ∀ q ∈ dlX9_init, decode cX9_init q.1 = .ok q.2 := by decide +kernel
theorem sX9_init_0 {l : Launch} {X : q_CX} {cap : Nat × Nat} (hl : X.2.1 = l) (hQ : q_QM X) (hcap : q_cap X rmX9_init cap) (h : q_OK X yX9_init cX9_init 1 none rmX9_init (Cond.code yX9_init cX9_init 1 none :: q_G)) : q_SK X 1 0 (BX9_init_0 cap) := by
  refine k_aload_n (i := 0) h (ddX9_init (0, .aload_n 0, 1) (List.mem_of_getElem? (i := 0) rfl)) rfl ?_
  refine k_obj h (List.mem_cons_of_mem _ gw585) (List.mem_cons_of_mem _ gw1) (List.mem_cons_of_mem _ gw2) (by decide) (by decide) (ddX9_init (1, .invokespecial 1, 3) (List.mem_of_getElem? (i := 1) rfl)) ?_
  refine k_aload_n (i := 0) h (ddX9_init (4, .aload_n 0, 1) (List.mem_of_getElem? (i := 2) rfl)) rfl ?_
  refine k_bipush (v := 24) h (ddX9_init (5, .bipush 24, 2) (List.mem_of_getElem? (i := 3) rfl)) (by decide) ?_
  refine k_newi h hcap (n := 24) (by decide) (List.mem_cons_of_mem _ gw7) (ddX9_init (7, .newarray .int, 2) (List.mem_of_getElem? (i := 4) rfl)) ?_
  refine k_putrF (ty := .array .int) (ci := 9) (j := 0) (C := RX9) (T := TX9) (N := 33) h rfl (fun w hw => List.mem_cons_of_mem _ (q_inX9 w hw)) (by decide) (List.mem_cons_of_mem _ gw586) tyX9 tyX9_ok nmX9 (by decide +kernel) rfl rfl (by decide +kernel) (fun _ => ⟨rfl, rfl⟩) (ddX9_init (9, .putfield 7, 3) (List.mem_of_getElem? (i := 5) rfl)) ?_
  refine k_aload_n (i := 0) h (ddX9_init (12, .aload_n 0, 1) (List.mem_of_getElem? (i := 6) rfl)) rfl ?_
  refine k_iconst (v := 2) h (ddX9_init (13, .iconst 2, 1) (List.mem_of_getElem? (i := 7) rfl)) (by decide) ?_
  refine k_newz h hcap (n := 2) (by decide) (List.mem_cons_of_mem _ gw30) (ddX9_init (14, .newarray .boolean, 2) (List.mem_of_getElem? (i := 8) rfl)) ?_
  refine k_putrF (ty := .array .boolean) (ci := 9) (j := 1) (C := RX9) (T := TX9) (N := 33) h rfl (fun w hw => List.mem_cons_of_mem _ (q_inX9 w hw)) (by decide) (List.mem_cons_of_mem _ gw587) tyX9 tyX9_ok nmX9 (by decide +kernel) rfl rfl (by decide +kernel) (fun _ => ⟨rfl, rfl⟩) (ddX9_init (16, .putfield 13, 3) (List.mem_of_getElem? (i := 9) rfl)) ?_
  refine k_aload_n (i := 0) h (ddX9_init (19, .aload_n 0, 1) (List.mem_of_getElem? (i := 10) rfl)) rfl ?_
  refine k_bipush (v := 72) h (ddX9_init (20, .bipush 72, 2) (List.mem_of_getElem? (i := 11) rfl)) (by decide) ?_
  refine k_newi h hcap (n := 72) (by decide) (List.mem_cons_of_mem _ gw7) (ddX9_init (22, .newarray .int, 2) (List.mem_of_getElem? (i := 12) rfl)) ?_
  refine k_putrF (ty := .array .int) (ci := 9) (j := 2) (C := RX9) (T := TX9) (N := 33) h rfl (fun w hw => List.mem_cons_of_mem _ (q_inX9 w hw)) (by decide) (List.mem_cons_of_mem _ gw588) tyX9 tyX9_ok nmX9 (by decide +kernel) rfl rfl (by decide +kernel) (fun _ => ⟨rfl, rfl⟩) (ddX9_init (24, .putfield 17, 3) (List.mem_of_getElem? (i := 13) rfl)) ?_
  refine k_aload_n (i := 0) h (ddX9_init (27, .aload_n 0, 1) (List.mem_of_getElem? (i := 14) rfl)) rfl ?_
  refine k_bipush (v := 6) h (ddX9_init (28, .bipush 6, 2) (List.mem_of_getElem? (i := 15) rfl)) (by decide) ?_
  refine k_newi h hcap (n := 6) (by decide) (List.mem_cons_of_mem _ gw7) (ddX9_init (30, .newarray .int, 2) (List.mem_of_getElem? (i := 16) rfl)) ?_
  refine k_putrF (ty := .array .int) (ci := 9) (j := 3) (C := RX9) (T := TX9) (N := 33) h rfl (fun w hw => List.mem_cons_of_mem _ (q_inX9 w hw)) (by decide) (List.mem_cons_of_mem _ gw589) tyX9 tyX9_ok nmX9 (by decide +kernel) rfl rfl (by decide +kernel) (fun _ => ⟨rfl, rfl⟩) (ddX9_init (32, .putfield 20, 3) (List.mem_of_getElem? (i := 17) rfl)) ?_
  refine k_aload_n (i := 0) h (ddX9_init (35, .aload_n 0, 1) (List.mem_of_getElem? (i := 18) rfl)) rfl ?_
  refine k_bipush (v := 48) h (ddX9_init (36, .bipush 48, 2) (List.mem_of_getElem? (i := 19) rfl)) (by decide) ?_
  refine k_newi h hcap (n := 48) (by decide) (List.mem_cons_of_mem _ gw7) (ddX9_init (38, .newarray .int, 2) (List.mem_of_getElem? (i := 20) rfl)) ?_
  refine k_putrF (ty := .array .int) (ci := 9) (j := 4) (C := RX9) (T := TX9) (N := 33) h rfl (fun w hw => List.mem_cons_of_mem _ (q_inX9 w hw)) (by decide) (List.mem_cons_of_mem _ gw590) tyX9 tyX9_ok nmX9 (by decide +kernel) rfl rfl (by decide +kernel) (fun _ => ⟨rfl, rfl⟩) (ddX9_init (40, .putfield 23, 3) (List.mem_of_getElem? (i := 21) rfl)) ?_
  refine k_aload_n (i := 0) h (ddX9_init (43, .aload_n 0, 1) (List.mem_of_getElem? (i := 22) rfl)) rfl ?_
  refine k_bipush (v := 16) h (ddX9_init (44, .bipush 16, 2) (List.mem_of_getElem? (i := 23) rfl)) (by decide) ?_
  refine k_newi h hcap (n := 16) (by decide) (List.mem_cons_of_mem _ gw7) (ddX9_init (46, .newarray .int, 2) (List.mem_of_getElem? (i := 24) rfl)) ?_
  refine k_putrF (ty := .array .int) (ci := 9) (j := 5) (C := RX9) (T := TX9) (N := 33) h rfl (fun w hw => List.mem_cons_of_mem _ (q_inX9 w hw)) (by decide) (List.mem_cons_of_mem _ gw591) tyX9 tyX9_ok nmX9 (by decide +kernel) rfl rfl (by decide +kernel) (fun _ => ⟨rfl, rfl⟩) (ddX9_init (48, .putfield 26, 3) (List.mem_of_getElem? (i := 25) rfl)) ?_
  refine k_aload_n (i := 0) h (ddX9_init (51, .aload_n 0, 1) (List.mem_of_getElem? (i := 26) rfl)) rfl ?_
  refine k_bipush (v := 24) h (ddX9_init (52, .bipush 24, 2) (List.mem_of_getElem? (i := 27) rfl)) (by decide) ?_
  refine k_newi h hcap (n := 24) (by decide) (List.mem_cons_of_mem _ gw7) (ddX9_init (54, .newarray .int, 2) (List.mem_of_getElem? (i := 28) rfl)) ?_
  refine k_putrF (ty := .array .int) (ci := 9) (j := 6) (C := RX9) (T := TX9) (N := 33) h rfl (fun w hw => List.mem_cons_of_mem _ (q_inX9 w hw)) (by decide) (List.mem_cons_of_mem _ gw592) tyX9 tyX9_ok nmX9 (by decide +kernel) rfl rfl (by decide +kernel) (fun _ => ⟨rfl, rfl⟩) (ddX9_init (56, .putfield 29, 3) (List.mem_of_getElem? (i := 29) rfl)) ?_
  refine k_aload_n (i := 0) h (ddX9_init (59, .aload_n 0, 1) (List.mem_of_getElem? (i := 30) rfl)) rfl ?_
  refine k_sipush (v := 400) h (ddX9_init (60, .sipush 400, 3) (List.mem_of_getElem? (i := 31) rfl)) (by decide) ?_
  refine k_newi h hcap (n := 400) (by decide) (List.mem_cons_of_mem _ gw7) (ddX9_init (63, .newarray .int, 2) (List.mem_of_getElem? (i := 32) rfl)) ?_
  refine k_putrF (ty := .array .int) (ci := 9) (j := 15) (C := RX9) (T := TX9) (N := 33) h rfl (fun w hw => List.mem_cons_of_mem _ (q_inX9 w hw)) (by decide) (List.mem_cons_of_mem _ gw593) tyX9 tyX9_ok nmX9 (by decide +kernel) rfl rfl (by decide +kernel) (fun _ => ⟨rfl, rfl⟩) (ddX9_init (65, .putfield 32, 3) (List.mem_of_getElem? (i := 33) rfl)) ?_
  refine k_aload_n (i := 0) h (ddX9_init (68, .aload_n 0, 1) (List.mem_of_getElem? (i := 34) rfl)) rfl ?_
  refine k_iconst (v := (-1)) h (ddX9_init (69, .iconst (-1), 1) (List.mem_of_getElem? (i := 35) rfl)) (by decide) ?_
  refine k_putf (ci := 9) (j := 21) (C := RX9) (T := TX9) (N := 33) h rfl (fun w hw => List.mem_cons_of_mem _ (q_inX9 w hw)) (by decide) (List.mem_cons_of_mem _ gw594) tyX9 tyX9_ok nmX9 (by decide +kernel) (by decide +kernel) (ddX9_init (70, .putfield 35, 3) (List.mem_of_getElem? (i := 36) rfl)) ?_
  refine k_aload_n (i := 0) h (ddX9_init (73, .aload_n 0, 1) (List.mem_of_getElem? (i := 37) rfl)) rfl ?_
  refine k_iconst (v := 1) h (ddX9_init (74, .iconst 1, 1) (List.mem_of_getElem? (i := 38) rfl)) (by decide) ?_
  refine k_putf (ci := 9) (j := 22) (C := RX9) (T := TX9) (N := 33) h rfl (fun w hw => List.mem_cons_of_mem _ (q_inX9 w hw)) (by decide) (List.mem_cons_of_mem _ gw595) tyX9 tyX9_ok nmX9 (by decide +kernel) (by decide +kernel) (ddX9_init (75, .putfield 39, 3) (List.mem_of_getElem? (i := 39) rfl)) ?_
  refine k_aload_n (i := 0) h (ddX9_init (78, .aload_n 0, 1) (List.mem_of_getElem? (i := 40) rfl)) rfl ?_
  refine k_iconst (v := 3) h (ddX9_init (79, .iconst 3, 1) (List.mem_of_getElem? (i := 41) rfl)) (by decide) ?_
  refine k_newi h hcap (n := 3) (by decide) (List.mem_cons_of_mem _ gw7) (ddX9_init (80, .newarray .int, 2) (List.mem_of_getElem? (i := 42) rfl)) ?_
  refine k_putrF (ty := .array .int) (ci := 9) (j := 23) (C := RX9) (T := TX9) (N := 33) h rfl (fun w hw => List.mem_cons_of_mem _ (q_inX9 w hw)) (by decide) (List.mem_cons_of_mem _ gw596) tyX9 tyX9_ok nmX9 (by decide +kernel) rfl rfl (by decide +kernel) (fun _ => ⟨rfl, rfl⟩) (ddX9_init (82, .putfield 42, 3) (List.mem_of_getElem? (i := 43) rfl)) ?_
  refine k_aload_n (i := 0) h (ddX9_init (85, .aload_n 0, 1) (List.mem_of_getElem? (i := 44) rfl)) rfl ?_
  refine k_sipush (v := 328) h (ddX9_init (86, .sipush 328, 3) (List.mem_of_getElem? (i := 45) rfl)) (by decide) ?_
  refine k_newi h hcap (n := 328) (by decide) (List.mem_cons_of_mem _ gw7) (ddX9_init (89, .newarray .int, 2) (List.mem_of_getElem? (i := 46) rfl)) ?_
  refine k_putrF (ty := .array .int) (ci := 9) (j := 24) (C := RX9) (T := TX9) (N := 33) h rfl (fun w hw => List.mem_cons_of_mem _ (q_inX9 w hw)) (by decide) (List.mem_cons_of_mem _ gw597) tyX9 tyX9_ok nmX9 (by decide +kernel) rfl rfl (by decide +kernel) (fun _ => ⟨rfl, rfl⟩) (ddX9_init (91, .putfield 45, 3) (List.mem_of_getElem? (i := 47) rfl)) ?_
  refine k_aload_n (i := 0) h (ddX9_init (94, .aload_n 0, 1) (List.mem_of_getElem? (i := 48) rfl)) rfl ?_
  refine k_bipush (v := 20) h (ddX9_init (95, .bipush 20, 2) (List.mem_of_getElem? (i := 49) rfl)) (by decide) ?_
  refine k_newi h hcap (n := 20) (by decide) (List.mem_cons_of_mem _ gw7) (ddX9_init (97, .newarray .int, 2) (List.mem_of_getElem? (i := 50) rfl)) ?_
  refine k_putrF (ty := .array .int) (ci := 9) (j := 25) (C := RX9) (T := TX9) (N := 33) h rfl (fun w hw => List.mem_cons_of_mem _ (q_inX9 w hw)) (by decide) (List.mem_cons_of_mem _ gw598) tyX9 tyX9_ok nmX9 (by decide +kernel) rfl rfl (by decide +kernel) (fun _ => ⟨rfl, rfl⟩) (ddX9_init (99, .putfield 48, 3) (List.mem_of_getElem? (i := 51) rfl)) ?_
  refine k_aload_n (i := 0) h (ddX9_init (102, .aload_n 0, 1) (List.mem_of_getElem? (i := 52) rfl)) rfl ?_
  refine k_bipush (v := 20) h (ddX9_init (103, .bipush 20, 2) (List.mem_of_getElem? (i := 53) rfl)) (by decide) ?_
  refine k_newi h hcap (n := 20) (by decide) (List.mem_cons_of_mem _ gw7) (ddX9_init (105, .newarray .int, 2) (List.mem_of_getElem? (i := 54) rfl)) ?_
  refine k_putrF (ty := .array .int) (ci := 9) (j := 26) (C := RX9) (T := TX9) (N := 33) h rfl (fun w hw => List.mem_cons_of_mem _ (q_inX9 w hw)) (by decide) (List.mem_cons_of_mem _ gw599) tyX9 tyX9_ok nmX9 (by decide +kernel) rfl rfl (by decide +kernel) (fun _ => ⟨rfl, rfl⟩) (ddX9_init (107, .putfield 51, 3) (List.mem_of_getElem? (i := 55) rfl)) ?_
  refine k_aload_n (i := 0) h (ddX9_init (110, .aload_n 0, 1) (List.mem_of_getElem? (i := 56) rfl)) rfl ?_
  refine k_bipush (v := 20) h (ddX9_init (111, .bipush 20, 2) (List.mem_of_getElem? (i := 57) rfl)) (by decide) ?_
  refine k_newz h hcap (n := 20) (by decide) (List.mem_cons_of_mem _ gw30) (ddX9_init (113, .newarray .boolean, 2) (List.mem_of_getElem? (i := 58) rfl)) ?_
  refine k_putrF (ty := .array .boolean) (ci := 9) (j := 27) (C := RX9) (T := TX9) (N := 33) h rfl (fun w hw => List.mem_cons_of_mem _ (q_inX9 w hw)) (by decide) (List.mem_cons_of_mem _ gw600) tyX9 tyX9_ok nmX9 (by decide +kernel) rfl rfl (by decide +kernel) (fun _ => ⟨rfl, rfl⟩) (ddX9_init (115, .putfield 54, 3) (List.mem_of_getElem? (i := 59) rfl)) ?_
  refine k_aload_n (i := 0) h (ddX9_init (118, .aload_n 0, 1) (List.mem_of_getElem? (i := 60) rfl)) rfl ?_
  refine k_sipush (v := 192) h (ddX9_init (119, .sipush 192, 3) (List.mem_of_getElem? (i := 61) rfl)) (by decide) ?_
  refine k_newi h hcap (n := 192) (by decide) (List.mem_cons_of_mem _ gw7) (ddX9_init (122, .newarray .int, 2) (List.mem_of_getElem? (i := 62) rfl)) ?_
  refine k_putrF (ty := .array .int) (ci := 9) (j := 29) (C := RX9) (T := TX9) (N := 33) h rfl (fun w hw => List.mem_cons_of_mem _ (q_inX9 w hw)) (by decide) (List.mem_cons_of_mem _ gw601) tyX9 tyX9_ok nmX9 (by decide +kernel) rfl rfl (by decide +kernel) (fun _ => ⟨rfl, rfl⟩) (ddX9_init (124, .putfield 57, 3) (List.mem_of_getElem? (i := 63) rfl)) ?_
  refine k_aload_n (i := 0) h (ddX9_init (127, .aload_n 0, 1) (List.mem_of_getElem? (i := 64) rfl)) rfl ?_
  refine k_sipush (v := 1728) h (ddX9_init (128, .sipush 1728, 3) (List.mem_of_getElem? (i := 65) rfl)) (by decide) ?_
  refine k_newi h hcap (n := 1728) (by decide) (List.mem_cons_of_mem _ gw7) (ddX9_init (131, .newarray .int, 2) (List.mem_of_getElem? (i := 66) rfl)) ?_
  refine k_putrF (ty := .array .int) (ci := 9) (j := 30) (C := RX9) (T := TX9) (N := 33) h rfl (fun w hw => List.mem_cons_of_mem _ (q_inX9 w hw)) (by decide) (List.mem_cons_of_mem _ gw602) tyX9 tyX9_ok nmX9 (by decide +kernel) rfl rfl (by decide +kernel) (fun _ => ⟨rfl, rfl⟩) (ddX9_init (133, .putfield 60, 3) (List.mem_of_getElem? (i := 67) rfl)) ?_
  refine k_aload_n (i := 0) h (ddX9_init (136, .aload_n 0, 1) (List.mem_of_getElem? (i := 68) rfl)) rfl ?_
  refine k_bipush (v := 30) h (ddX9_init (137, .bipush 30, 2) (List.mem_of_getElem? (i := 69) rfl)) (by decide) ?_
  refine k_newi h hcap (n := 30) (by decide) (List.mem_cons_of_mem _ gw7) (ddX9_init (139, .newarray .int, 2) (List.mem_of_getElem? (i := 70) rfl)) ?_
  refine k_putrF (ty := .array .int) (ci := 9) (j := 31) (C := RX9) (T := TX9) (N := 33) h rfl (fun w hw => List.mem_cons_of_mem _ (q_inX9 w hw)) (by decide) (List.mem_cons_of_mem _ gw603) tyX9 tyX9_ok nmX9 (by decide +kernel) rfl rfl (by decide +kernel) (fun _ => ⟨rfl, rfl⟩) (ddX9_init (141, .putfield 63, 3) (List.mem_of_getElem? (i := 71) rfl)) ?_
  exact k_vret h hQ (ddX9_init (144, .return_, 1) (List.mem_of_getElem? (i := 72) rfl))
theorem aX9_init (l : Launch) (as : List Value) (sh : q_Sh) (m : q_Mm) (R : q_KR) (hw : wX9_init as sh m R) : q_AM l yX9_init (Cond.code yX9_init cX9_init 1 none :: q_G) rmX9_init as sh m R := by
  refine q_met (code := TX9_init (sh.length + rmX9_init.cells, q_sl sh + rmX9_init.slots)) (by decide) (fun X hl hQ hcap h pc => ?_) hw.1 hw.2
  unfold TX9_init
  exact k_at (sX9_init_0 hl hQ hcap h) (k_no)
/-! TumblingRockModel.in(JJJ)Z -/
abbrev dlX9_in : List (Nat × (Instr × Nat)) := [(0, .lload_n 0, 1), (1, .lload_n 2, 1), (2, .lcmp, 1), (3, .ifCond .lt 14, 3), (6, .lload_n 0, 1), (7, .lload 4, 2), (9, .lcmp, 1), (10, .ifCond .gt 7, 3), (13, .iconst 1, 1), (14, .goto 4, 3), (17, .iconst 0, 1), (18, .ireturn, 1)]
theorem ddX9_in : ∀ q ∈ dlX9_in, decode cX9_in q.1 = .ok q.2 := by decide +kernel
theorem sX9_in_18 {l : Launch} {X : q_CX} (hl : X.2.1 = l) (hQ : q_QM X) (h : q_OK X yX9_in cX9_in 6 (some .boolean) rmX9_in (Cond.code yX9_in cX9_in 6 (some .boolean) :: q_G)) : q_SK X 6 18 (BX9_in_18) := by
  exact k_zret h hQ (ddX9_in (18, .ireturn, 1) (List.mem_of_getElem? (i := 11) rfl))
theorem sX9_in_17 {l : Launch} {X : q_CX} (hl : X.2.1 = l) (hQ : q_QM X) (h : q_OK X yX9_in cX9_in 6 (some .boolean) rmX9_in (Cond.code yX9_in cX9_in 6 (some .boolean) :: q_G)) : q_SK X 6 17 (BX9_in_17) := by
  refine k_iconst (v := 0) h (ddX9_in (17, .iconst 0, 1) (List.mem_of_getElem? (i := 10) rfl)) (by decide) ?_
  exact sX9_in_18 hl hQ h
theorem sX9_in_13 {l : Launch} {X : q_CX} (hl : X.2.1 = l) (hQ : q_QM X) (h : q_OK X yX9_in cX9_in 6 (some .boolean) rmX9_in (Cond.code yX9_in cX9_in 6 (some .boolean) :: q_G)) : q_SK X 6 13 (BX9_in_13) := by
  refine k_iconst (v := 1) h (ddX9_in (13, .iconst 1, 1) (List.mem_of_getElem? (i := 8) rfl)) (by decide) ?_
  refine k_goto h (ddX9_in (14, .goto 4, 3) (List.mem_of_getElem? (i := 9) rfl)) (tgt := 18) (by decide) ?_
  exact sX9_in_18 hl hQ h
theorem sX9_in_6 {l : Launch} {X : q_CX} (hl : X.2.1 = l) (hQ : q_QM X) (h : q_OK X yX9_in cX9_in 6 (some .boolean) rmX9_in (Cond.code yX9_in cX9_in 6 (some .boolean) :: q_G)) : q_SK X 6 6 (BX9_in_6) := by
  refine k_lload_n (i := 0) h (ddX9_in (6, .lload_n 0, 1) (List.mem_of_getElem? (i := 4) rfl)) rfl ?_
  refine k_lload (i := 4) h (ddX9_in (7, .lload 4, 2) (List.mem_of_getElem? (i := 5) rfl)) ?_
  refine k_lcmp h (ddX9_in (9, .lcmp, 1) (List.mem_of_getElem? (i := 6) rfl)) ?_
  refine k_ifgt h (ddX9_in (10, .ifCond .gt 7, 3) (List.mem_of_getElem? (i := 7) rfl)) (tgt := 17) (by decide) ?_ ?_
  · exact sX9_in_17 hl hQ h
  · exact sX9_in_13 hl hQ h
theorem sX9_in_0 {l : Launch} {X : q_CX} (hl : X.2.1 = l) (hQ : q_QM X) (h : q_OK X yX9_in cX9_in 6 (some .boolean) rmX9_in (Cond.code yX9_in cX9_in 6 (some .boolean) :: q_G)) : q_SK X 6 0 (BX9_in_0) := by
  refine k_lload_n (i := 0) h (ddX9_in (0, .lload_n 0, 1) (List.mem_of_getElem? (i := 0) rfl)) rfl ?_
  refine k_lload_n (i := 2) h (ddX9_in (1, .lload_n 2, 1) (List.mem_of_getElem? (i := 1) rfl)) rfl ?_
  refine k_lcmp h (ddX9_in (2, .lcmp, 1) (List.mem_of_getElem? (i := 2) rfl)) ?_
  refine k_iflt h (ddX9_in (3, .ifCond .lt 14, 3) (List.mem_of_getElem? (i := 3) rfl)) (tgt := 17) (by decide) ?_ ?_
  · exact sX9_in_17 hl hQ h
  · exact sX9_in_6 hl hQ h
theorem aX9_in (l : Launch) (as : List Value) (sh : q_Sh) (m : q_Mm) (R : q_KR) (hw : wX9_in as sh m R) : q_AM l yX9_in (Cond.code yX9_in cX9_in 6 (some .boolean) :: q_G) rmX9_in as sh m R := by
  refine q_met (code := TX9_in) (by decide) (fun X hl hQ _ h pc => ?_) hw.1 hw.2
  unfold TX9_in
  exact k_at (sX9_in_0 hl hQ h) (k_no)
/-! TumblingRockModel.one(Z)I -/
abbrev dlX9_one : List (Nat × (Instr × Nat)) := [(0, .iload_n 0, 1), (1, .ifCond .eq 7, 3), (4, .iconst 1, 1), (5, .goto 4, 3), (8, .iconst 0, 1), (9, .ireturn, 1)]
theorem ddX9_one : ∀ q ∈ dlX9_one, decode cX9_one q.1 = .ok q.2 := by decide +kernel
theorem sX9_one_9 {l : Launch} {X : q_CX} (hl : X.2.1 = l) (hQ : q_QM X) (h : q_OK X yX9_one cX9_one 1 (some .int) rmX9_one (Cond.code yX9_one cX9_one 1 (some .int) :: q_G)) : q_SK X 1 9 (BX9_one_9) := by
  exact k_iret h hQ (ddX9_one (9, .ireturn, 1) (List.mem_of_getElem? (i := 5) rfl))
theorem sX9_one_8 {l : Launch} {X : q_CX} (hl : X.2.1 = l) (hQ : q_QM X) (h : q_OK X yX9_one cX9_one 1 (some .int) rmX9_one (Cond.code yX9_one cX9_one 1 (some .int) :: q_G)) : q_SK X 1 8 (BX9_one_8) := by
  refine k_iconst (v := 0) h (ddX9_one (8, .iconst 0, 1) (List.mem_of_getElem? (i := 4) rfl)) (by decide) ?_
  exact sX9_one_9 hl hQ h
theorem sX9_one_4 {l : Launch} {X : q_CX} (hl : X.2.1 = l) (hQ : q_QM X) (h : q_OK X yX9_one cX9_one 1 (some .int) rmX9_one (Cond.code yX9_one cX9_one 1 (some .int) :: q_G)) : q_SK X 1 4 (BX9_one_4) := by
  refine k_iconst (v := 1) h (ddX9_one (4, .iconst 1, 1) (List.mem_of_getElem? (i := 2) rfl)) (by decide) ?_
  refine k_goto h (ddX9_one (5, .goto 4, 3) (List.mem_of_getElem? (i := 3) rfl)) (tgt := 9) (by decide) ?_
  exact sX9_one_9 hl hQ h
theorem sX9_one_0 {l : Launch} {X : q_CX} (hl : X.2.1 = l) (hQ : q_QM X) (h : q_OK X yX9_one cX9_one 1 (some .int) rmX9_one (Cond.code yX9_one cX9_one 1 (some .int) :: q_G)) : q_SK X 1 0 (BX9_one_0) := by
  refine k_iload_n (i := 0) h (ddX9_one (0, .iload_n 0, 1) (List.mem_of_getElem? (i := 0) rfl)) rfl ?_
  refine k_ifeq h (ddX9_one (1, .ifCond .eq 7, 3) (List.mem_of_getElem? (i := 1) rfl)) (tgt := 8) (by decide) ?_ ?_
  · exact sX9_one_8 hl hQ h
  · exact sX9_one_4 hl hQ h
theorem aX9_one (l : Launch) (as : List Value) (sh : q_Sh) (m : q_Mm) (R : q_KR) (hw : wX9_one as sh m R) : q_AM l yX9_one (Cond.code yX9_one cX9_one 1 (some .int) :: q_G) rmX9_one as sh m R := by
  refine q_met (code := TX9_one) (by decide) (fun X hl hQ _ h pc => ?_) hw.1 hw.2
  unfold TX9_one
  exact k_at (sX9_one_0 hl hQ h) (k_no)
/-! TumblingRockModel.has(II)Z -/
abbrev dlX9_has : List (Nat × (Instr × Nat)) := [(0, .iload_n 0, 1), (1, .iload_n 1, 1), (2, .ishr, 1), (3, .iconst 1, 1), (4, .iand, 1), (5, .iconst 1, 1), (6, .if_icmp .ne 7, 3), (9, .iconst 1, 1), (10, .goto 4, 3), (13, .iconst 0, 1), (14, .ireturn, 1)]
theorem ddX9_has : ∀ q ∈ dlX9_has, decode cX9_has q.1 = .ok q.2 := by decide +kernel
theorem sX9_has_14 {l : Launch} {X : q_CX} (hl : X.2.1 = l) (hQ : q_QM X) (h : q_OK X yX9_has cX9_has 2 (some .boolean) rmX9_has (Cond.code yX9_has cX9_has 2 (some .boolean) :: q_G)) : q_SK X 2 14 (BX9_has_14) := by
  exact k_zret h hQ (ddX9_has (14, .ireturn, 1) (List.mem_of_getElem? (i := 10) rfl))
theorem sX9_has_13 {l : Launch} {X : q_CX} (hl : X.2.1 = l) (hQ : q_QM X) (h : q_OK X yX9_has cX9_has 2 (some .boolean) rmX9_has (Cond.code yX9_has cX9_has 2 (some .boolean) :: q_G)) : q_SK X 2 13 (BX9_has_13) := by
  refine k_iconst (v := 0) h (ddX9_has (13, .iconst 0, 1) (List.mem_of_getElem? (i := 9) rfl)) (by decide) ?_
  exact sX9_has_14 hl hQ h
theorem sX9_has_9 {l : Launch} {X : q_CX} (hl : X.2.1 = l) (hQ : q_QM X) (h : q_OK X yX9_has cX9_has 2 (some .boolean) rmX9_has (Cond.code yX9_has cX9_has 2 (some .boolean) :: q_G)) : q_SK X 2 9 (BX9_has_9) := by
  refine k_iconst (v := 1) h (ddX9_has (9, .iconst 1, 1) (List.mem_of_getElem? (i := 7) rfl)) (by decide) ?_
  refine k_goto h (ddX9_has (10, .goto 4, 3) (List.mem_of_getElem? (i := 8) rfl)) (tgt := 14) (by decide) ?_
  exact sX9_has_14 hl hQ h
theorem sX9_has_0 {l : Launch} {X : q_CX} (hl : X.2.1 = l) (hQ : q_QM X) (h : q_OK X yX9_has cX9_has 2 (some .boolean) rmX9_has (Cond.code yX9_has cX9_has 2 (some .boolean) :: q_G)) : q_SK X 2 0 (BX9_has_0) := by
  refine k_iload_n (i := 0) h (ddX9_has (0, .iload_n 0, 1) (List.mem_of_getElem? (i := 0) rfl)) rfl ?_
  refine k_iload_n (i := 1) h (ddX9_has (1, .iload_n 1, 1) (List.mem_of_getElem? (i := 1) rfl)) rfl ?_
  refine k_ishr h (ddX9_has (2, .ishr, 1) (List.mem_of_getElem? (i := 2) rfl)) ?_
  refine k_iconst (v := 1) h (ddX9_has (3, .iconst 1, 1) (List.mem_of_getElem? (i := 3) rfl)) (by decide) ?_
  refine k_iand h (ddX9_has (4, .iand, 1) (List.mem_of_getElem? (i := 4) rfl)) ?_
  refine k_iconst (v := 1) h (ddX9_has (5, .iconst 1, 1) (List.mem_of_getElem? (i := 5) rfl)) (by decide) ?_
  refine k_icne h (ddX9_has (6, .if_icmp .ne 7, 3) (List.mem_of_getElem? (i := 6) rfl)) (tgt := 13) (by decide) ?_ ?_
  · exact sX9_has_13 hl hQ h
  · exact sX9_has_9 hl hQ h
theorem aX9_has (l : Launch) (as : List Value) (sh : q_Sh) (m : q_Mm) (R : q_KR) (hw : wX9_has as sh m R) : q_AM l yX9_has (Cond.code yX9_has cX9_has 2 (some .boolean) :: q_G) rmX9_has as sh m R := by
  refine q_met (code := TX9_has) (by decide) (fun X hl hQ _ h pc => ?_) hw.1 hw.2
  unfold TX9_has
  exact k_at (sX9_has_0 hl hQ h) (k_no)
/-! TumblingRockModel.feed(IJ)I -/
abbrev dlX9_feed : List (Nat × (Instr × Nat)) := [(0, .iload_n 1, 1), (1, .i2l, 1), (2, .lconst 1, 1), (3, .ldc2_w 66, 3), (6, .invokestatic 68, 3), (9, .ifCond .ne 6, 3), (12, .ldc 72, 2), (14, .ireturn, 1), (15, .aload_n 0, 1), (16, .getfield 73, 3), (19, .iload_n 1, 1), (20, .iadd, 1), (21, .sipush 400, 3), (24, .if_icmp .le 6, 3), (27, .ldc 76, 2), (29, .ireturn, 1), (30, .iload_n 1, 1), (31, .iconst 1, 1), (32, .isub, 1), (33, .istore 4, 2), (35, .iload 4, 2), (37, .ifCond .lt 40, 3), (40, .aload_n 0, 1), (41, .getfield 32, 3), (44, .aload_n 0, 1), (45, .getfield 73, 3), (48, .lload_n 2, 1), (49, .bipush 8, 2), (51, .iload 4, 2), (53, .imul, 1), (54, .lshr, 1), (55, .ldc2_w 77, 3), (58, .land, 1), (59, .l2i, 1), (60, .iastore, 1), (61, .aload_n 0, 1), (62, .dup, 1), (63, .getfield 73, 3), (66, .iconst 1, 1), (67, .iadd, 1), (68, .putfield 73, 3), (71, .iinc 4 (-1), 3), (74, .goto (-39), 3), (77, .aload_n 0, 1), (78, .getfield 73, 3), (81, .ireturn, 1)]
theorem ddX9_feed : ∀ q ∈ dlX9_feed, decode cX9_feed q.1 = .ok q.2 := by decide +kernel
theorem sX9_feed_30 {l : Launch} {X : q_CX} (hl : X.2.1 = l) (hQ : q_QM X) (h : q_OK X yX9_feed cX9_feed 5 (some .int) rmX9_feed (Cond.code yX9_feed cX9_feed 5 (some .int) :: q_G)) : q_SK X 5 30 (BX9_feed_30) := by
  refine k_iload_n (i := 1) h (ddX9_feed (30, .iload_n 1, 1) (List.mem_of_getElem? (i := 16) rfl)) rfl ?_
  refine k_iconst (v := 1) h (ddX9_feed (31, .iconst 1, 1) (List.mem_of_getElem? (i := 17) rfl)) (by decide) ?_
  refine k_isub h (ddX9_feed (32, .isub, 1) (List.mem_of_getElem? (i := 18) rfl)) ?_
  refine k_istore (i := 4) h (ddX9_feed (33, .istore 4, 2) (List.mem_of_getElem? (i := 19) rfl)) (by decide) ?_
  exact k_cut
theorem sX9_feed_27 {l : Launch} {X : q_CX} (hl : X.2.1 = l) (hQ : q_QM X) (h : q_OK X yX9_feed cX9_feed 5 (some .int) rmX9_feed (Cond.code yX9_feed cX9_feed 5 (some .int) :: q_G)) : q_SK X 5 27 (BX9_feed_27) := by
  refine k_ldc (v := (-1000000004)) h (ddX9_feed (27, .ldc 76, 2) (List.mem_of_getElem? (i := 14) rfl)) (List.mem_cons_of_mem _ gw611) ?_
  exact k_iret h hQ (ddX9_feed (29, .ireturn, 1) (List.mem_of_getElem? (i := 15) rfl))
theorem sX9_feed_15 {l : Launch} {X : q_CX} (hl : X.2.1 = l) (hQ : q_QM X) (h : q_OK X yX9_feed cX9_feed 5 (some .int) rmX9_feed (Cond.code yX9_feed cX9_feed 5 (some .int) :: q_G)) : q_SK X 5 15 (BX9_feed_15) := by
  refine k_aload_n (i := 0) h (ddX9_feed (15, .aload_n 0, 1) (List.mem_of_getElem? (i := 8) rfl)) rfl ?_
  refine k_getf (ci := 9) (j := 16) (C := RX9) (T := TX9) (N := 33) h rfl (fun w hw => List.mem_cons_of_mem _ (q_inX9 w hw)) (by decide) (List.mem_cons_of_mem _ gw610) (ddX9_feed (16, .getfield 73, 3) (List.mem_of_getElem? (i := 9) rfl)) ?_
  refine k_iload_n (i := 1) h (ddX9_feed (19, .iload_n 1, 1) (List.mem_of_getElem? (i := 10) rfl)) rfl ?_
  refine k_iadd h (ddX9_feed (20, .iadd, 1) (List.mem_of_getElem? (i := 11) rfl)) ?_
  refine k_sipush (v := 400) h (ddX9_feed (21, .sipush 400, 3) (List.mem_of_getElem? (i := 12) rfl)) (by decide) ?_
  refine k_icle h (ddX9_feed (24, .if_icmp .le 6, 3) (List.mem_of_getElem? (i := 13) rfl)) (tgt := 30) (by decide) ?_ ?_
  · exact sX9_feed_30 hl hQ h
  · exact sX9_feed_27 hl hQ h
theorem sX9_feed_12 {l : Launch} {X : q_CX} (hl : X.2.1 = l) (hQ : q_QM X) (h : q_OK X yX9_feed cX9_feed 5 (some .int) rmX9_feed (Cond.code yX9_feed cX9_feed 5 (some .int) :: q_G)) : q_SK X 5 12 (BX9_feed_12) := by
  refine k_ldc (v := (-1000000002)) h (ddX9_feed (12, .ldc 72, 2) (List.mem_of_getElem? (i := 6) rfl)) (List.mem_cons_of_mem _ gw609) ?_
  exact k_iret h hQ (ddX9_feed (14, .ireturn, 1) (List.mem_of_getElem? (i := 7) rfl))
theorem sX9_feed_0 {l : Launch} {X : q_CX} (hl : X.2.1 = l) (hQ : q_QM X) (h : q_OK X yX9_feed cX9_feed 5 (some .int) rmX9_feed (Cond.code yX9_feed cX9_feed 5 (some .int) :: q_G)) : q_SK X 5 0 (BX9_feed_0) := by
  refine k_iload_n (i := 1) h (ddX9_feed (0, .iload_n 1, 1) (List.mem_of_getElem? (i := 0) rfl)) rfl ?_
  refine k_i2l h (ddX9_feed (1, .i2l, 1) (List.mem_of_getElem? (i := 1) rfl)) ?_
  refine k_lconst (v := 1) h (ddX9_feed (2, .lconst 1, 1) (List.mem_of_getElem? (i := 2) rfl)) (by decide) ?_
  refine k_ldc2 (v := 8) h (ddX9_feed (3, .ldc2_w 66, 3) (List.mem_of_getElem? (i := 3) rfl)) (List.mem_cons_of_mem _ gw604) ?_
  refine k_callS h hl (aX9_in l) ⟨rfl, rfl⟩ (n := 3) (by decide +kernel) (q_gS gw608 gw607 gw606 gw605) ⟨by decide, by decide⟩ (ddX9_feed (6, .invokestatic 68, 3) (List.mem_of_getElem? (i := 4) rfl)) ?_
  refine k_ifne h (ddX9_feed (9, .ifCond .ne 6, 3) (List.mem_of_getElem? (i := 5) rfl)) (tgt := 15) (by decide) ?_ ?_
  · exact sX9_feed_15 hl hQ h
  · exact sX9_feed_12 hl hQ h
theorem sX9_feed_77 {l : Launch} {X : q_CX} (hl : X.2.1 = l) (hQ : q_QM X) (h : q_OK X yX9_feed cX9_feed 5 (some .int) rmX9_feed (Cond.code yX9_feed cX9_feed 5 (some .int) :: q_G)) : q_SK X 5 77 (BX9_feed_77) := by
  refine k_aload_n (i := 0) h (ddX9_feed (77, .aload_n 0, 1) (List.mem_of_getElem? (i := 43) rfl)) rfl ?_
  refine k_getf (ci := 9) (j := 16) (C := RX9) (T := TX9) (N := 33) h rfl (fun w hw => List.mem_cons_of_mem _ (q_inX9 w hw)) (by decide) (List.mem_cons_of_mem _ gw610) (ddX9_feed (78, .getfield 73, 3) (List.mem_of_getElem? (i := 44) rfl)) ?_
  exact k_iret h hQ (ddX9_feed (81, .ireturn, 1) (List.mem_of_getElem? (i := 45) rfl))
theorem sX9_feed_40 {l : Launch} {X : q_CX} (hl : X.2.1 = l) (hQ : q_QM X) (h : q_OK X yX9_feed cX9_feed 5 (some .int) rmX9_feed (Cond.code yX9_feed cX9_feed 5 (some .int) :: q_G)) : q_SK X 5 40 (BX9_feed_40) := by
  refine k_aload_n (i := 0) h (ddX9_feed (40, .aload_n 0, 1) (List.mem_of_getElem? (i := 22) rfl)) rfl ?_
  refine k_getf (ci := 9) (j := 15) (C := RX9) (T := TX9) (N := 33) h rfl (fun w hw => List.mem_cons_of_mem _ (q_inX9 w hw)) (by decide) (List.mem_cons_of_mem _ gw593) (ddX9_feed (41, .getfield 32, 3) (List.mem_of_getElem? (i := 23) rfl)) ?_
  refine k_aload_n (i := 0) h (ddX9_feed (44, .aload_n 0, 1) (List.mem_of_getElem? (i := 24) rfl)) rfl ?_
  refine k_getf (ci := 9) (j := 16) (C := RX9) (T := TX9) (N := 33) h rfl (fun w hw => List.mem_cons_of_mem _ (q_inX9 w hw)) (by decide) (List.mem_cons_of_mem _ gw610) (ddX9_feed (45, .getfield 73, 3) (List.mem_of_getElem? (i := 25) rfl)) ?_
  refine k_lload_n (i := 2) h (ddX9_feed (48, .lload_n 2, 1) (List.mem_of_getElem? (i := 26) rfl)) rfl ?_
  refine k_bipush (v := 8) h (ddX9_feed (49, .bipush 8, 2) (List.mem_of_getElem? (i := 27) rfl)) (by decide) ?_
  refine k_iload (i := 4) h (ddX9_feed (51, .iload 4, 2) (List.mem_of_getElem? (i := 28) rfl)) ?_
  refine k_imul h (ddX9_feed (53, .imul, 1) (List.mem_of_getElem? (i := 29) rfl)) ?_
  refine k_lshr h (ddX9_feed (54, .lshr, 1) (List.mem_of_getElem? (i := 30) rfl)) ?_
  refine k_ldc2 (v := 255) h (ddX9_feed (55, .ldc2_w 77, 3) (List.mem_of_getElem? (i := 31) rfl)) (List.mem_cons_of_mem _ gw612) ?_
  refine k_land h (ddX9_feed (58, .land, 1) (List.mem_of_getElem? (i := 32) rfl)) ?_
  refine k_l2i h (ddX9_feed (59, .l2i, 1) (List.mem_of_getElem? (i := 33) rfl)) ?_
  refine k_iast h (ddX9_feed (60, .iastore, 1) (List.mem_of_getElem? (i := 34) rfl)) ?_
  refine k_aload_n (i := 0) h (ddX9_feed (61, .aload_n 0, 1) (List.mem_of_getElem? (i := 35) rfl)) rfl ?_
  refine k_dup h (ddX9_feed (62, .dup, 1) (List.mem_of_getElem? (i := 36) rfl)) ?_
  refine k_getf (ci := 9) (j := 16) (C := RX9) (T := TX9) (N := 33) h rfl (fun w hw => List.mem_cons_of_mem _ (q_inX9 w hw)) (by decide) (List.mem_cons_of_mem _ gw610) (ddX9_feed (63, .getfield 73, 3) (List.mem_of_getElem? (i := 37) rfl)) ?_
  refine k_iconst (v := 1) h (ddX9_feed (66, .iconst 1, 1) (List.mem_of_getElem? (i := 38) rfl)) (by decide) ?_
  refine k_iadd h (ddX9_feed (67, .iadd, 1) (List.mem_of_getElem? (i := 39) rfl)) ?_
  refine k_putf (ci := 9) (j := 16) (C := RX9) (T := TX9) (N := 33) h rfl (fun w hw => List.mem_cons_of_mem _ (q_inX9 w hw)) (by decide) (List.mem_cons_of_mem _ gw610) tyX9 tyX9_ok nmX9 (by decide +kernel) (by decide +kernel) (ddX9_feed (68, .putfield 73, 3) (List.mem_of_getElem? (i := 40) rfl)) ?_
  refine k_iinc (d := (-1)) h (ddX9_feed (71, .iinc 4 (-1), 3) (List.mem_of_getElem? (i := 41) rfl)) (by decide) (by decide) ?_
  refine k_goto h (ddX9_feed (74, .goto (-39), 3) (List.mem_of_getElem? (i := 42) rfl)) (tgt := 35) (by decide) ?_
  exact k_cut
theorem sX9_feed_35 {l : Launch} {X : q_CX} (hl : X.2.1 = l) (hQ : q_QM X) (h : q_OK X yX9_feed cX9_feed 5 (some .int) rmX9_feed (Cond.code yX9_feed cX9_feed 5 (some .int) :: q_G)) : q_SK X 5 35 (BX9_feed_35) := by
  refine k_iload (i := 4) h (ddX9_feed (35, .iload 4, 2) (List.mem_of_getElem? (i := 20) rfl)) ?_
  refine k_iflt h (ddX9_feed (37, .ifCond .lt 40, 3) (List.mem_of_getElem? (i := 21) rfl)) (tgt := 77) (by decide) ?_ ?_
  · exact sX9_feed_77 hl hQ h
  · exact sX9_feed_40 hl hQ h
theorem aX9_feed (l : Launch) (as : List Value) (sh : q_Sh) (m : q_Mm) (R : q_KR) (hw : wX9_feed as sh m R) : q_AM l yX9_feed (Cond.code yX9_feed cX9_feed 5 (some .int) :: q_G) rmX9_feed as sh m R := by
  refine q_met (code := TX9_feed) (by decide) (fun X hl hQ _ h pc => ?_) hw.1 hw.2
  unfold TX9_feed
  exact k_at (sX9_feed_0 hl hQ h) (k_at (sX9_feed_35 hl hQ h) (k_no))
/-! TumblingRockModel.here()I -/
abbrev dlX9_here : List (Nat × (Instr × Nat)) := [(0, .aload_n 0, 1), (1, .getfield 79, 3), (4, .aload_n 0, 1), (5, .getfield 73, 3), (8, .if_icmp .ge 30, 3), (11, .aload_n 0, 1), (12, .getfield 32, 3), (15, .aload_n 0, 1), (16, .getfield 79, 3), (19, .iaload, 1), (20, .bipush 32, 2), (22, .if_icmp .ne 16, 3), (25, .aload_n 0, 1), (26, .dup, 1), (27, .getfield 79, 3), (30, .iconst 1, 1), (31, .iadd, 1), (32, .putfield 79, 3), (35, .goto (-35), 3), (38, .aload_n 0, 1), (39, .getfield 79, 3), (42, .aload_n 0, 1), (43, .getfield 73, 3), (46, .if_icmp .ge 15, 3), (49, .aload_n 0, 1), (50, .getfield 32, 3), (53, .aload_n 0, 1), (54, .getfield 79, 3), (57, .iaload, 1), (58, .goto 4, 3), (61, .iconst (-1), 1), (62, .ireturn, 1)]
theorem ddX9_here : ∀ q ∈ dlX9_here, decode cX9_here q.1 = .ok q.2 := by decide +kernel
theorem sX9_here_62 {l : Launch} {X : q_CX} (hl : X.2.1 = l) (hQ : q_QM X) (h : q_OK X yX9_here cX9_here 1 (some .int) rmX9_here (Cond.code yX9_here cX9_here 1 (some .int) :: q_G)) : q_SK X 1 62 (BX9_here_62) := by
  exact k_iret h hQ (ddX9_here (62, .ireturn, 1) (List.mem_of_getElem? (i := 31) rfl))
theorem sX9_here_61 {l : Launch} {X : q_CX} (hl : X.2.1 = l) (hQ : q_QM X) (h : q_OK X yX9_here cX9_here 1 (some .int) rmX9_here (Cond.code yX9_here cX9_here 1 (some .int) :: q_G)) : q_SK X 1 61 (BX9_here_61) := by
  refine k_iconst (v := (-1)) h (ddX9_here (61, .iconst (-1), 1) (List.mem_of_getElem? (i := 30) rfl)) (by decide) ?_
  exact sX9_here_62 hl hQ h
theorem sX9_here_49 {l : Launch} {X : q_CX} (hl : X.2.1 = l) (hQ : q_QM X) (h : q_OK X yX9_here cX9_here 1 (some .int) rmX9_here (Cond.code yX9_here cX9_here 1 (some .int) :: q_G)) : q_SK X 1 49 (BX9_here_49) := by
  refine k_aload_n (i := 0) h (ddX9_here (49, .aload_n 0, 1) (List.mem_of_getElem? (i := 24) rfl)) rfl ?_
  refine k_getf (ci := 9) (j := 15) (C := RX9) (T := TX9) (N := 33) h rfl (fun w hw => List.mem_cons_of_mem _ (q_inX9 w hw)) (by decide) (List.mem_cons_of_mem _ gw593) (ddX9_here (50, .getfield 32, 3) (List.mem_of_getElem? (i := 25) rfl)) ?_
  refine k_aload_n (i := 0) h (ddX9_here (53, .aload_n 0, 1) (List.mem_of_getElem? (i := 26) rfl)) rfl ?_
  refine k_getf (ci := 9) (j := 17) (C := RX9) (T := TX9) (N := 33) h rfl (fun w hw => List.mem_cons_of_mem _ (q_inX9 w hw)) (by decide) (List.mem_cons_of_mem _ gw613) (ddX9_here (54, .getfield 79, 3) (List.mem_of_getElem? (i := 27) rfl)) ?_
  refine k_iald h (ddX9_here (57, .iaload, 1) (List.mem_of_getElem? (i := 28) rfl)) ?_
  refine k_goto h (ddX9_here (58, .goto 4, 3) (List.mem_of_getElem? (i := 29) rfl)) (tgt := 62) (by decide) ?_
  exact sX9_here_62 hl hQ h
theorem sX9_here_38 {l : Launch} {X : q_CX} (hl : X.2.1 = l) (hQ : q_QM X) (h : q_OK X yX9_here cX9_here 1 (some .int) rmX9_here (Cond.code yX9_here cX9_here 1 (some .int) :: q_G)) : q_SK X 1 38 (BX9_here_38) := by
  refine k_aload_n (i := 0) h (ddX9_here (38, .aload_n 0, 1) (List.mem_of_getElem? (i := 19) rfl)) rfl ?_
  refine k_getf (ci := 9) (j := 17) (C := RX9) (T := TX9) (N := 33) h rfl (fun w hw => List.mem_cons_of_mem _ (q_inX9 w hw)) (by decide) (List.mem_cons_of_mem _ gw613) (ddX9_here (39, .getfield 79, 3) (List.mem_of_getElem? (i := 20) rfl)) ?_
  refine k_aload_n (i := 0) h (ddX9_here (42, .aload_n 0, 1) (List.mem_of_getElem? (i := 21) rfl)) rfl ?_
  refine k_getf (ci := 9) (j := 16) (C := RX9) (T := TX9) (N := 33) h rfl (fun w hw => List.mem_cons_of_mem _ (q_inX9 w hw)) (by decide) (List.mem_cons_of_mem _ gw610) (ddX9_here (43, .getfield 73, 3) (List.mem_of_getElem? (i := 22) rfl)) ?_
  refine k_icge h (ddX9_here (46, .if_icmp .ge 15, 3) (List.mem_of_getElem? (i := 23) rfl)) (tgt := 61) (by decide) ?_ ?_
  · exact sX9_here_61 hl hQ h
  · exact sX9_here_49 hl hQ h
theorem sX9_here_25 {l : Launch} {X : q_CX} (hl : X.2.1 = l) (hQ : q_QM X) (h : q_OK X yX9_here cX9_here 1 (some .int) rmX9_here (Cond.code yX9_here cX9_here 1 (some .int) :: q_G)) : q_SK X 1 25 (BX9_here_25) := by
  refine k_aload_n (i := 0) h (ddX9_here (25, .aload_n 0, 1) (List.mem_of_getElem? (i := 12) rfl)) rfl ?_
  refine k_dup h (ddX9_here (26, .dup, 1) (List.mem_of_getElem? (i := 13) rfl)) ?_
  refine k_getf (ci := 9) (j := 17) (C := RX9) (T := TX9) (N := 33) h rfl (fun w hw => List.mem_cons_of_mem _ (q_inX9 w hw)) (by decide) (List.mem_cons_of_mem _ gw613) (ddX9_here (27, .getfield 79, 3) (List.mem_of_getElem? (i := 14) rfl)) ?_
  refine k_iconst (v := 1) h (ddX9_here (30, .iconst 1, 1) (List.mem_of_getElem? (i := 15) rfl)) (by decide) ?_
  refine k_iadd h (ddX9_here (31, .iadd, 1) (List.mem_of_getElem? (i := 16) rfl)) ?_
  refine k_putf (ci := 9) (j := 17) (C := RX9) (T := TX9) (N := 33) h rfl (fun w hw => List.mem_cons_of_mem _ (q_inX9 w hw)) (by decide) (List.mem_cons_of_mem _ gw613) tyX9 tyX9_ok nmX9 (by decide +kernel) (by decide +kernel) (ddX9_here (32, .putfield 79, 3) (List.mem_of_getElem? (i := 17) rfl)) ?_
  refine k_goto h (ddX9_here (35, .goto (-35), 3) (List.mem_of_getElem? (i := 18) rfl)) (tgt := 0) (by decide) ?_
  exact k_cut
theorem sX9_here_11 {l : Launch} {X : q_CX} (hl : X.2.1 = l) (hQ : q_QM X) (h : q_OK X yX9_here cX9_here 1 (some .int) rmX9_here (Cond.code yX9_here cX9_here 1 (some .int) :: q_G)) : q_SK X 1 11 (BX9_here_11) := by
  refine k_aload_n (i := 0) h (ddX9_here (11, .aload_n 0, 1) (List.mem_of_getElem? (i := 5) rfl)) rfl ?_
  refine k_getf (ci := 9) (j := 15) (C := RX9) (T := TX9) (N := 33) h rfl (fun w hw => List.mem_cons_of_mem _ (q_inX9 w hw)) (by decide) (List.mem_cons_of_mem _ gw593) (ddX9_here (12, .getfield 32, 3) (List.mem_of_getElem? (i := 6) rfl)) ?_
  refine k_aload_n (i := 0) h (ddX9_here (15, .aload_n 0, 1) (List.mem_of_getElem? (i := 7) rfl)) rfl ?_
  refine k_getf (ci := 9) (j := 17) (C := RX9) (T := TX9) (N := 33) h rfl (fun w hw => List.mem_cons_of_mem _ (q_inX9 w hw)) (by decide) (List.mem_cons_of_mem _ gw613) (ddX9_here (16, .getfield 79, 3) (List.mem_of_getElem? (i := 8) rfl)) ?_
  refine k_iald h (ddX9_here (19, .iaload, 1) (List.mem_of_getElem? (i := 9) rfl)) ?_
  refine k_bipush (v := 32) h (ddX9_here (20, .bipush 32, 2) (List.mem_of_getElem? (i := 10) rfl)) (by decide) ?_
  refine k_icne h (ddX9_here (22, .if_icmp .ne 16, 3) (List.mem_of_getElem? (i := 11) rfl)) (tgt := 38) (by decide) ?_ ?_
  · exact sX9_here_38 hl hQ h
  · exact sX9_here_25 hl hQ h
theorem sX9_here_0 {l : Launch} {X : q_CX} (hl : X.2.1 = l) (hQ : q_QM X) (h : q_OK X yX9_here cX9_here 1 (some .int) rmX9_here (Cond.code yX9_here cX9_here 1 (some .int) :: q_G)) : q_SK X 1 0 (BX9_here_0) := by
  refine k_aload_n (i := 0) h (ddX9_here (0, .aload_n 0, 1) (List.mem_of_getElem? (i := 0) rfl)) rfl ?_
  refine k_getf (ci := 9) (j := 17) (C := RX9) (T := TX9) (N := 33) h rfl (fun w hw => List.mem_cons_of_mem _ (q_inX9 w hw)) (by decide) (List.mem_cons_of_mem _ gw613) (ddX9_here (1, .getfield 79, 3) (List.mem_of_getElem? (i := 1) rfl)) ?_
  refine k_aload_n (i := 0) h (ddX9_here (4, .aload_n 0, 1) (List.mem_of_getElem? (i := 2) rfl)) rfl ?_
  refine k_getf (ci := 9) (j := 16) (C := RX9) (T := TX9) (N := 33) h rfl (fun w hw => List.mem_cons_of_mem _ (q_inX9 w hw)) (by decide) (List.mem_cons_of_mem _ gw610) (ddX9_here (5, .getfield 73, 3) (List.mem_of_getElem? (i := 3) rfl)) ?_
  refine k_icge h (ddX9_here (8, .if_icmp .ge 30, 3) (List.mem_of_getElem? (i := 4) rfl)) (tgt := 38) (by decide) ?_ ?_
  · exact sX9_here_38 hl hQ h
  · exact sX9_here_11 hl hQ h
theorem aX9_here (l : Launch) (as : List Value) (sh : q_Sh) (m : q_Mm) (R : q_KR) (hw : wX9_here as sh m R) : q_AM l yX9_here (Cond.code yX9_here cX9_here 1 (some .int) :: q_G) rmX9_here as sh m R := by
  refine q_met (code := TX9_here) (by decide) (fun X hl hQ _ h pc => ?_) hw.1 hw.2
  unfold TX9_here
  exact k_at (sX9_here_0 hl hQ h) (k_no)
/-! TumblingRockModel.want(ZII)Z -/
abbrev dlX9_want : List (Nat × (Instr × Nat)) := [(0, .iload_n 1, 1), (1, .ifCond .ne 20, 3), (4, .aload_n 0, 1), (5, .getfield 82, 3), (8, .ifCond .ne 13, 3), (11, .aload_n 0, 1), (12, .iload_n 2, 1), (13, .putfield 82, 3), (16, .aload_n 0, 1), (17, .iload_n 3, 1), (18, .putfield 35, 3), (21, .aload_n 0, 1), (22, .getfield 82, 3), (25, .ifCond .ne 7, 3), (28, .iconst 1, 1), (29, .goto 4, 3), (32, .iconst 0, 1), (33, .ireturn, 1)]
theorem ddX9_want : ∀ q ∈ dlX9_want, decode cX9_want q.1 = .ok q.2 := by decide +kernel
theorem sX9_want_33 {l : Launch} {X : q_CX} (hl : X.2.1 = l) (hQ : q_QM X) (h : q_OK X yX9_want cX9_want 4 (some .boolean) rmX9_want (Cond.code yX9_want cX9_want 4 (some .boolean) :: q_G)) : q_SK X 4 33 (BX9_want_33) := by
  exact k_zret h hQ (ddX9_want (33, .ireturn, 1) (List.mem_of_getElem? (i := 17) rfl))
theorem sX9_want_32 {l : Launch} {X : q_CX} (hl : X.2.1 = l) (hQ : q_QM X) (h : q_OK X yX9_want cX9_want 4 (some .boolean) rmX9_want (Cond.code yX9_want cX9_want 4 (some .boolean) :: q_G)) : q_SK X 4 32 (BX9_want_32) := by
  refine k_iconst (v := 0) h (ddX9_want (32, .iconst 0, 1) (List.mem_of_getElem? (i := 16) rfl)) (by decide) ?_
  exact sX9_want_33 hl hQ h
theorem sX9_want_28 {l : Launch} {X : q_CX} (hl : X.2.1 = l) (hQ : q_QM X) (h : q_OK X yX9_want cX9_want 4 (some .boolean) rmX9_want (Cond.code yX9_want cX9_want 4 (some .boolean) :: q_G)) : q_SK X 4 28 (BX9_want_28) := by
  refine k_iconst (v := 1) h (ddX9_want (28, .iconst 1, 1) (List.mem_of_getElem? (i := 14) rfl)) (by decide) ?_
  refine k_goto h (ddX9_want (29, .goto 4, 3) (List.mem_of_getElem? (i := 15) rfl)) (tgt := 33) (by decide) ?_
  exact sX9_want_33 hl hQ h
theorem sX9_want_21 {l : Launch} {X : q_CX} (hl : X.2.1 = l) (hQ : q_QM X) (h : q_OK X yX9_want cX9_want 4 (some .boolean) rmX9_want (Cond.code yX9_want cX9_want 4 (some .boolean) :: q_G)) : q_SK X 4 21 (BX9_want_21) := by
  refine k_aload_n (i := 0) h (ddX9_want (21, .aload_n 0, 1) (List.mem_of_getElem? (i := 11) rfl)) rfl ?_
  refine k_getf (ci := 9) (j := 20) (C := RX9) (T := TX9) (N := 33) h rfl (fun w hw => List.mem_cons_of_mem _ (q_inX9 w hw)) (by decide) (List.mem_cons_of_mem _ gw614) (ddX9_want (22, .getfield 82, 3) (List.mem_of_getElem? (i := 12) rfl)) ?_
  refine k_ifne h (ddX9_want (25, .ifCond .ne 7, 3) (List.mem_of_getElem? (i := 13) rfl)) (tgt := 32) (by decide) ?_ ?_
  · exact sX9_want_32 hl hQ h
  · exact sX9_want_28 hl hQ h
theorem sX9_want_11 {l : Launch} {X : q_CX} (hl : X.2.1 = l) (hQ : q_QM X) (h : q_OK X yX9_want cX9_want 4 (some .boolean) rmX9_want (Cond.code yX9_want cX9_want 4 (some .boolean) :: q_G)) : q_SK X 4 11 (BX9_want_11) := by
  refine k_aload_n (i := 0) h (ddX9_want (11, .aload_n 0, 1) (List.mem_of_getElem? (i := 5) rfl)) rfl ?_
  refine k_iload_n (i := 2) h (ddX9_want (12, .iload_n 2, 1) (List.mem_of_getElem? (i := 6) rfl)) rfl ?_
  refine k_putf (ci := 9) (j := 20) (C := RX9) (T := TX9) (N := 33) h rfl (fun w hw => List.mem_cons_of_mem _ (q_inX9 w hw)) (by decide) (List.mem_cons_of_mem _ gw614) tyX9 tyX9_ok nmX9 (by decide +kernel) (by decide +kernel) (ddX9_want (13, .putfield 82, 3) (List.mem_of_getElem? (i := 7) rfl)) ?_
  refine k_aload_n (i := 0) h (ddX9_want (16, .aload_n 0, 1) (List.mem_of_getElem? (i := 8) rfl)) rfl ?_
  refine k_iload_n (i := 3) h (ddX9_want (17, .iload_n 3, 1) (List.mem_of_getElem? (i := 9) rfl)) rfl ?_
  refine k_putf (ci := 9) (j := 21) (C := RX9) (T := TX9) (N := 33) h rfl (fun w hw => List.mem_cons_of_mem _ (q_inX9 w hw)) (by decide) (List.mem_cons_of_mem _ gw594) tyX9 tyX9_ok nmX9 (by decide +kernel) (by decide +kernel) (ddX9_want (18, .putfield 35, 3) (List.mem_of_getElem? (i := 10) rfl)) ?_
  exact sX9_want_21 hl hQ h
theorem sX9_want_4 {l : Launch} {X : q_CX} (hl : X.2.1 = l) (hQ : q_QM X) (h : q_OK X yX9_want cX9_want 4 (some .boolean) rmX9_want (Cond.code yX9_want cX9_want 4 (some .boolean) :: q_G)) : q_SK X 4 4 (BX9_want_4) := by
  refine k_aload_n (i := 0) h (ddX9_want (4, .aload_n 0, 1) (List.mem_of_getElem? (i := 2) rfl)) rfl ?_
  refine k_getf (ci := 9) (j := 20) (C := RX9) (T := TX9) (N := 33) h rfl (fun w hw => List.mem_cons_of_mem _ (q_inX9 w hw)) (by decide) (List.mem_cons_of_mem _ gw614) (ddX9_want (5, .getfield 82, 3) (List.mem_of_getElem? (i := 3) rfl)) ?_
  refine k_ifne h (ddX9_want (8, .ifCond .ne 13, 3) (List.mem_of_getElem? (i := 4) rfl)) (tgt := 21) (by decide) ?_ ?_
  · exact sX9_want_21 hl hQ h
  · exact sX9_want_11 hl hQ h
theorem sX9_want_0 {l : Launch} {X : q_CX} (hl : X.2.1 = l) (hQ : q_QM X) (h : q_OK X yX9_want cX9_want 4 (some .boolean) rmX9_want (Cond.code yX9_want cX9_want 4 (some .boolean) :: q_G)) : q_SK X 4 0 (BX9_want_0) := by
  refine k_iload_n (i := 1) h (ddX9_want (0, .iload_n 1, 1) (List.mem_of_getElem? (i := 0) rfl)) rfl ?_
  refine k_ifne h (ddX9_want (1, .ifCond .ne 20, 3) (List.mem_of_getElem? (i := 1) rfl)) (tgt := 21) (by decide) ?_ ?_
  · exact sX9_want_21 hl hQ h
  · exact sX9_want_4 hl hQ h
theorem aX9_want (l : Launch) (as : List Value) (sh : q_Sh) (m : q_Mm) (R : q_KR) (hw : wX9_want as sh m R) : q_AM l yX9_want (Cond.code yX9_want cX9_want 4 (some .boolean) :: q_G) rmX9_want as sh m R := by
  refine q_met (code := TX9_want) (by decide) (fun X hl hQ _ h pc => ?_) hw.1 hw.2
  unfold TX9_want
  exact k_at (sX9_want_0 hl hQ h) (k_no)
