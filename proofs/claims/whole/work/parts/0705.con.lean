/-! Contracts, leaves first; written by wip/whole/gen.py. -/
/-! TumblingRock$Rock.stepsOfLight(II)I -/
abbrev dlX4_stepsOfLight : List (Nat × (Instr × Nat)) := [(0, .aload_n 0, 1), (1, .iload_n 1, 1), (2, .iload_n 2, 1), (3, .invokevirtual 129, 3), (6, .istore_n 3, 1), (7, .iload_n 3, 1), (8, .iconst (-1), 1), (9, .if_icmp .ne 5, 3), (12, .iconst (-1), 1), (13, .ireturn, 1), (14, .aload_n 0, 1), (15, .iload_n 2, 1), (16, .iload_n 3, 1), (17, .iload_n 3, 1), (18, .iload_n 3, 1), (19, .invokevirtual 79, 3), (22, .istore 4, 2), (24, .iconst 0, 1), (25, .istore 5, 2), (27, .iload 5, 2), (29, .aload_n 0, 1), (30, .getfield 73, 3), (33, .if_icmp .ge 30, 3), (36, .aload_n 0, 1), (37, .iload_n 1, 1), (38, .iload 4, 2), (40, .invokevirtual 123, 3), (43, .ifCond .ne 6, 3), (46, .iload 5, 2), (48, .ireturn, 1), (49, .aload_n 0, 1), (50, .iload 4, 2), (52, .invokevirtual 126, 3), (55, .istore 4, 2), (57, .iinc 5 1, 3), (60, .goto (-33), 3), (63, .aload_n 0, 1), (64, .getfield 73, 3), (67, .ireturn, 1)]
theorem ddX4_stepsOfLight : ∀ q ∈ dlX4_stepsOfLight, decode cX4_stepsOfLight q.1 = .ok q.2 := by decide +kernel
theorem sX4_stepsOfLight_14 {l : Launch} {X : q_CX} (hl : X.2.1 = l) (hQ : q_QM X) (h : q_OK X yX4_stepsOfLight cX4_stepsOfLight 6 (some .int) rmX4_stepsOfLight (Cond.code yX4_stepsOfLight cX4_stepsOfLight 6 (some .int) :: q_G)) : q_SK X 6 14 (BX4_stepsOfLight_14) := by
  refine k_aload_n (i := 0) h (ddX4_stepsOfLight (14, .aload_n 0, 1) (List.mem_of_getElem? (i := 10) rfl)) rfl ?_
  refine k_iload_n (i := 2) h (ddX4_stepsOfLight (15, .iload_n 2, 1) (List.mem_of_getElem? (i := 11) rfl)) rfl ?_
  refine k_iload_n (i := 3) h (ddX4_stepsOfLight (16, .iload_n 3, 1) (List.mem_of_getElem? (i := 12) rfl)) rfl ?_
  refine k_iload_n (i := 3) h (ddX4_stepsOfLight (17, .iload_n 3, 1) (List.mem_of_getElem? (i := 13) rfl)) rfl ?_
  refine k_iload_n (i := 3) h (ddX4_stepsOfLight (18, .iload_n 3, 1) (List.mem_of_getElem? (i := 14) rfl)) rfl ?_
  refine k_callV h hl (aX4_moved l) (ci := 4) (C := RX4) (T := TX4) (N := 14) rfl ⟨rfl, rfl⟩ (n := 4) (by decide +kernel) (q_gV gw125 gw126 gw127 gw71 gw124) ⟨by decide, by decide⟩ (ddX4_stepsOfLight (19, .invokevirtual 79, 3) (List.mem_of_getElem? (i := 15) rfl)) ?_
  refine k_istore (i := 4) h (ddX4_stepsOfLight (22, .istore 4, 2) (List.mem_of_getElem? (i := 16) rfl)) (by decide) ?_
  refine k_iconst (v := 0) h (ddX4_stepsOfLight (24, .iconst 0, 1) (List.mem_of_getElem? (i := 17) rfl)) (by decide) ?_
  refine k_istore (i := 5) h (ddX4_stepsOfLight (25, .istore 5, 2) (List.mem_of_getElem? (i := 18) rfl)) (by decide) ?_
  exact k_cut
theorem sX4_stepsOfLight_12 {l : Launch} {X : q_CX} (hl : X.2.1 = l) (hQ : q_QM X) (h : q_OK X yX4_stepsOfLight cX4_stepsOfLight 6 (some .int) rmX4_stepsOfLight (Cond.code yX4_stepsOfLight cX4_stepsOfLight 6 (some .int) :: q_G)) : q_SK X 6 12 (BX4_stepsOfLight_12) := by
  refine k_iconst (v := (-1)) h (ddX4_stepsOfLight (12, .iconst (-1), 1) (List.mem_of_getElem? (i := 8) rfl)) (by decide) ?_
  exact k_iret h hQ (ddX4_stepsOfLight (13, .ireturn, 1) (List.mem_of_getElem? (i := 9) rfl))
theorem sX4_stepsOfLight_0 {l : Launch} {X : q_CX} (hl : X.2.1 = l) (hQ : q_QM X) (h : q_OK X yX4_stepsOfLight cX4_stepsOfLight 6 (some .int) rmX4_stepsOfLight (Cond.code yX4_stepsOfLight cX4_stepsOfLight 6 (some .int) :: q_G)) : q_SK X 6 0 (BX4_stepsOfLight_0) := by
  refine k_aload_n (i := 0) h (ddX4_stepsOfLight (0, .aload_n 0, 1) (List.mem_of_getElem? (i := 0) rfl)) rfl ?_
  refine k_iload_n (i := 1) h (ddX4_stepsOfLight (1, .iload_n 1, 1) (List.mem_of_getElem? (i := 1) rfl)) rfl ?_
  refine k_iload_n (i := 2) h (ddX4_stepsOfLight (2, .iload_n 2, 1) (List.mem_of_getElem? (i := 2) rfl)) rfl ?_
  refine k_callV h hl (aX4_stepsTillLit l) (ci := 4) (C := RX4) (T := TX4) (N := 14) rfl ⟨rfl, rfl⟩ (n := 2) (by decide +kernel) (q_gV gw432 gw430 gw431 gw71 gw428) ⟨by decide, by decide⟩ (ddX4_stepsOfLight (3, .invokevirtual 129, 3) (List.mem_of_getElem? (i := 3) rfl)) ?_
  refine k_istore_n (i := 3) h (ddX4_stepsOfLight (6, .istore_n 3, 1) (List.mem_of_getElem? (i := 4) rfl)) rfl (by decide) ?_
  refine k_iload_n (i := 3) h (ddX4_stepsOfLight (7, .iload_n 3, 1) (List.mem_of_getElem? (i := 5) rfl)) rfl ?_
  refine k_iconst (v := (-1)) h (ddX4_stepsOfLight (8, .iconst (-1), 1) (List.mem_of_getElem? (i := 6) rfl)) (by decide) ?_
  refine k_icne h (ddX4_stepsOfLight (9, .if_icmp .ne 5, 3) (List.mem_of_getElem? (i := 7) rfl)) (tgt := 14) (by decide) ?_ ?_
  · exact sX4_stepsOfLight_14 hl hQ h
  · exact sX4_stepsOfLight_12 hl hQ h
theorem sX4_stepsOfLight_63 {l : Launch} {X : q_CX} (hl : X.2.1 = l) (hQ : q_QM X) (h : q_OK X yX4_stepsOfLight cX4_stepsOfLight 6 (some .int) rmX4_stepsOfLight (Cond.code yX4_stepsOfLight cX4_stepsOfLight 6 (some .int) :: q_G)) : q_SK X 6 63 (BX4_stepsOfLight_63) := by
  refine k_aload_n (i := 0) h (ddX4_stepsOfLight (63, .aload_n 0, 1) (List.mem_of_getElem? (i := 36) rfl)) rfl ?_
  refine k_getf (ci := 4) (j := 5) (C := RX4) (T := TX4) (N := 14) h rfl (fun w hw => List.mem_cons_of_mem _ (q_inX4 w hw)) (by decide) (List.mem_cons_of_mem _ gw97) (ddX4_stepsOfLight (64, .getfield 73, 3) (List.mem_of_getElem? (i := 37) rfl)) ?_
  exact k_iret h hQ (ddX4_stepsOfLight (67, .ireturn, 1) (List.mem_of_getElem? (i := 38) rfl))
theorem sX4_stepsOfLight_49 {l : Launch} {X : q_CX} (hl : X.2.1 = l) (hQ : q_QM X) (h : q_OK X yX4_stepsOfLight cX4_stepsOfLight 6 (some .int) rmX4_stepsOfLight (Cond.code yX4_stepsOfLight cX4_stepsOfLight 6 (some .int) :: q_G)) : q_SK X 6 49 (BX4_stepsOfLight_49) := by
  refine k_aload_n (i := 0) h (ddX4_stepsOfLight (49, .aload_n 0, 1) (List.mem_of_getElem? (i := 30) rfl)) rfl ?_
  refine k_iload (i := 4) h (ddX4_stepsOfLight (50, .iload 4, 2) (List.mem_of_getElem? (i := 31) rfl)) ?_
  refine k_callV h hl (aX4_stepLater l) (ci := 4) (C := RX4) (T := TX4) (N := 14) rfl ⟨rfl, rfl⟩ (n := 1) (by decide +kernel) (q_gV gw355 gw356 gw357 gw71 gw354) ⟨by decide, by decide⟩ (ddX4_stepsOfLight (52, .invokevirtual 126, 3) (List.mem_of_getElem? (i := 32) rfl)) ?_
  refine k_istore (i := 4) h (ddX4_stepsOfLight (55, .istore 4, 2) (List.mem_of_getElem? (i := 33) rfl)) (by decide) ?_
  refine k_iinc (d := 1) h (ddX4_stepsOfLight (57, .iinc 5 1, 3) (List.mem_of_getElem? (i := 34) rfl)) (by decide) (by decide) ?_
  refine k_goto h (ddX4_stepsOfLight (60, .goto (-33), 3) (List.mem_of_getElem? (i := 35) rfl)) (tgt := 27) (by decide) ?_
  exact k_cut
theorem sX4_stepsOfLight_46 {l : Launch} {X : q_CX} (hl : X.2.1 = l) (hQ : q_QM X) (h : q_OK X yX4_stepsOfLight cX4_stepsOfLight 6 (some .int) rmX4_stepsOfLight (Cond.code yX4_stepsOfLight cX4_stepsOfLight 6 (some .int) :: q_G)) : q_SK X 6 46 (BX4_stepsOfLight_46) := by
  refine k_iload (i := 5) h (ddX4_stepsOfLight (46, .iload 5, 2) (List.mem_of_getElem? (i := 28) rfl)) ?_
  exact k_iret h hQ (ddX4_stepsOfLight (48, .ireturn, 1) (List.mem_of_getElem? (i := 29) rfl))
theorem sX4_stepsOfLight_36 {l : Launch} {X : q_CX} (hl : X.2.1 = l) (hQ : q_QM X) (h : q_OK X yX4_stepsOfLight cX4_stepsOfLight 6 (some .int) rmX4_stepsOfLight (Cond.code yX4_stepsOfLight cX4_stepsOfLight 6 (some .int) :: q_G)) : q_SK X 6 36 (BX4_stepsOfLight_36) := by
  refine k_aload_n (i := 0) h (ddX4_stepsOfLight (36, .aload_n 0, 1) (List.mem_of_getElem? (i := 23) rfl)) rfl ?_
  refine k_iload_n (i := 1) h (ddX4_stepsOfLight (37, .iload_n 1, 1) (List.mem_of_getElem? (i := 24) rfl)) rfl ?_
  refine k_iload (i := 4) h (ddX4_stepsOfLight (38, .iload 4, 2) (List.mem_of_getElem? (i := 25) rfl)) ?_
  refine k_callV h hl (aX4_litBit l) (ci := 4) (C := RX4) (T := TX4) (N := 14) rfl ⟨rfl, rfl⟩ (n := 2) (by decide +kernel) (q_gV gw348 gw349 gw350 gw71 gw347) ⟨by decide, by decide⟩ (ddX4_stepsOfLight (40, .invokevirtual 123, 3) (List.mem_of_getElem? (i := 26) rfl)) ?_
  refine k_ifne h (ddX4_stepsOfLight (43, .ifCond .ne 6, 3) (List.mem_of_getElem? (i := 27) rfl)) (tgt := 49) (by decide) ?_ ?_
  · exact sX4_stepsOfLight_49 hl hQ h
  · exact sX4_stepsOfLight_46 hl hQ h
theorem sX4_stepsOfLight_27 {l : Launch} {X : q_CX} (hl : X.2.1 = l) (hQ : q_QM X) (h : q_OK X yX4_stepsOfLight cX4_stepsOfLight 6 (some .int) rmX4_stepsOfLight (Cond.code yX4_stepsOfLight cX4_stepsOfLight 6 (some .int) :: q_G)) : q_SK X 6 27 (BX4_stepsOfLight_27) := by
  refine k_iload (i := 5) h (ddX4_stepsOfLight (27, .iload 5, 2) (List.mem_of_getElem? (i := 19) rfl)) ?_
  refine k_aload_n (i := 0) h (ddX4_stepsOfLight (29, .aload_n 0, 1) (List.mem_of_getElem? (i := 20) rfl)) rfl ?_
  refine k_getf (ci := 4) (j := 5) (C := RX4) (T := TX4) (N := 14) h rfl (fun w hw => List.mem_cons_of_mem _ (q_inX4 w hw)) (by decide) (List.mem_cons_of_mem _ gw97) (ddX4_stepsOfLight (30, .getfield 73, 3) (List.mem_of_getElem? (i := 21) rfl)) ?_
  refine k_icge h (ddX4_stepsOfLight (33, .if_icmp .ge 30, 3) (List.mem_of_getElem? (i := 22) rfl)) (tgt := 63) (by decide) ?_ ?_
  · exact sX4_stepsOfLight_63 hl hQ h
  · exact sX4_stepsOfLight_36 hl hQ h
theorem aX4_stepsOfLight (l : Launch) (as : List Value) (sh : q_Sh) (m : q_Mm) (R : q_KR) (hw : wX4_stepsOfLight as sh m R) : q_AM l yX4_stepsOfLight (Cond.code yX4_stepsOfLight cX4_stepsOfLight 6 (some .int) :: q_G) rmX4_stepsOfLight as sh m R := by
  refine q_met (code := TX4_stepsOfLight) (by decide) (fun X hl hQ _ h pc => ?_) hw.1 hw.2
  unfold TX4_stepsOfLight
  exact k_at (sX4_stepsOfLight_0 hl hQ h) (k_at (sX4_stepsOfLight_27 hl hQ h) (k_no))
/-! TumblingRock.next(III)I -/
abbrev dlX8_next : List (Nat × (Instr × Nat)) := [(0, .aload_n 0, 1), (1, .iload_n 1, 1), (2, .invokevirtual 161, 3), (5, .ifCond .ne 6, 3), (8, .ldc 147, 2), (10, .ireturn, 1), (11, .iload_n 2, 1), (12, .invokestatic 176, 3), (15, .ifCond .eq 12, 3), (18, .iload_n 3, 1), (19, .iconst 0, 1), (20, .iconst 1, 1), (21, .invokestatic 78, 3), (24, .ifCond .ne 6, 3), (27, .ldc 82, 2), (29, .ireturn, 1), (30, .aload_n 0, 1), (31, .iload_n 2, 1), (32, .invokevirtual 136, 3), (35, .istore 4, 2), (37, .iload_n 3, 1), (38, .ifCond .ne 16, 3), (41, .aload_n 0, 1), (42, .getfield 71, 3), (45, .iload_n 1, 1), (46, .iload 4, 2), (48, .invokevirtual 204, 3), (51, .goto 13, 3), (54, .aload_n 0, 1), (55, .getfield 71, 3), (58, .iload_n 1, 1), (59, .iload 4, 2), (61, .invokevirtual 207, 3), (64, .ireturn, 1)]
theorem ddX8_next : ∀ q ∈ dlX8_next, decode cX8_next q.1 = .ok q.2 := by decide +kernel
theorem sX8_next_27 {l : Launch} {X : q_CX} (hl : X.2.1 = l) (hQ : q_QM X) (h : q_OK X yX8_next cX8_next 5 (some .int) rmX8_next (Cond.code yX8_next cX8_next 5 (some .int) :: q_G)) : q_SK X 5 27 (BX8_next_27) := by
  refine k_ldc (v := (-1000000002)) h (ddX8_next (27, .ldc 82, 2) (List.mem_of_getElem? (i := 14) rfl)) (List.mem_cons_of_mem _ gw140) ?_
  exact k_iret h hQ (ddX8_next (29, .ireturn, 1) (List.mem_of_getElem? (i := 15) rfl))
theorem sX8_next_64 {l : Launch} {X : q_CX} (hl : X.2.1 = l) (hQ : q_QM X) (h : q_OK X yX8_next cX8_next 5 (some .int) rmX8_next (Cond.code yX8_next cX8_next 5 (some .int) :: q_G)) : q_SK X 5 64 (BX8_next_64) := by
  exact k_iret h hQ (ddX8_next (64, .ireturn, 1) (List.mem_of_getElem? (i := 33) rfl))
theorem sX8_next_54 {l : Launch} {X : q_CX} (hl : X.2.1 = l) (hQ : q_QM X) (h : q_OK X yX8_next cX8_next 5 (some .int) rmX8_next (Cond.code yX8_next cX8_next 5 (some .int) :: q_G)) : q_SK X 5 54 (BX8_next_54) := by
  refine k_aload_n (i := 0) h (ddX8_next (54, .aload_n 0, 1) (List.mem_of_getElem? (i := 28) rfl)) rfl ?_
  refine k_getf (ci := 8) (j := 9) (C := RX8) (T := TX8) (N := 11) h rfl (fun w hw => List.mem_cons_of_mem _ (q_inX8 w hw)) (by decide) (List.mem_cons_of_mem _ gw135) (ddX8_next (55, .getfield 71, 3) (List.mem_of_getElem? (i := 29) rfl)) ?_
  refine k_iload_n (i := 1) h (ddX8_next (58, .iload_n 1, 1) (List.mem_of_getElem? (i := 30) rfl)) rfl ?_
  refine k_iload (i := 4) h (ddX8_next (59, .iload 4, 2) (List.mem_of_getElem? (i := 31) rfl)) ?_
  refine k_callV h hl (aX4_stepsOfLight l) (ci := 4) (C := RX4) (T := TX4) (N := 14) rfl ⟨rfl, rfl⟩ (n := 2) (by decide +kernel) (q_gV gw434 gw435 gw436 gw71 gw433) ⟨by decide, by decide⟩ (ddX8_next (61, .invokevirtual 207, 3) (List.mem_of_getElem? (i := 32) rfl)) ?_
  exact sX8_next_64 hl hQ h
theorem sX8_next_41 {l : Launch} {X : q_CX} (hl : X.2.1 = l) (hQ : q_QM X) (h : q_OK X yX8_next cX8_next 5 (some .int) rmX8_next (Cond.code yX8_next cX8_next 5 (some .int) :: q_G)) : q_SK X 5 41 (BX8_next_41) := by
  refine k_aload_n (i := 0) h (ddX8_next (41, .aload_n 0, 1) (List.mem_of_getElem? (i := 22) rfl)) rfl ?_
  refine k_getf (ci := 8) (j := 9) (C := RX8) (T := TX8) (N := 11) h rfl (fun w hw => List.mem_cons_of_mem _ (q_inX8 w hw)) (by decide) (List.mem_cons_of_mem _ gw135) (ddX8_next (42, .getfield 71, 3) (List.mem_of_getElem? (i := 23) rfl)) ?_
  refine k_iload_n (i := 1) h (ddX8_next (45, .iload_n 1, 1) (List.mem_of_getElem? (i := 24) rfl)) rfl ?_
  refine k_iload (i := 4) h (ddX8_next (46, .iload 4, 2) (List.mem_of_getElem? (i := 25) rfl)) ?_
  refine k_callV h hl (aX4_stepsTillLit l) (ci := 4) (C := RX4) (T := TX4) (N := 14) rfl ⟨rfl, rfl⟩ (n := 2) (by decide +kernel) (q_gV gw429 gw430 gw431 gw71 gw428) ⟨by decide, by decide⟩ (ddX8_next (48, .invokevirtual 204, 3) (List.mem_of_getElem? (i := 26) rfl)) ?_
  refine k_goto h (ddX8_next (51, .goto 13, 3) (List.mem_of_getElem? (i := 27) rfl)) (tgt := 64) (by decide) ?_
  exact sX8_next_64 hl hQ h
theorem sX8_next_30 {l : Launch} {X : q_CX} (hl : X.2.1 = l) (hQ : q_QM X) (h : q_OK X yX8_next cX8_next 5 (some .int) rmX8_next (Cond.code yX8_next cX8_next 5 (some .int) :: q_G)) : q_SK X 5 30 (BX8_next_30) := by
  refine k_aload_n (i := 0) h (ddX8_next (30, .aload_n 0, 1) (List.mem_of_getElem? (i := 16) rfl)) rfl ?_
  refine k_iload_n (i := 2) h (ddX8_next (31, .iload_n 2, 1) (List.mem_of_getElem? (i := 17) rfl)) rfl ?_
  refine k_callV h hl (aX8_standingAt l) (ci := 8) (C := RX8) (T := TX8) (N := 11) rfl ⟨rfl, rfl⟩ (n := 1) (by decide +kernel) (q_gV gw325 gw326 gw327 gw91 gw324) ⟨by decide, by decide⟩ (ddX8_next (32, .invokevirtual 136, 3) (List.mem_of_getElem? (i := 18) rfl)) ?_
  refine k_istore (i := 4) h (ddX8_next (35, .istore 4, 2) (List.mem_of_getElem? (i := 19) rfl)) (by decide) ?_
  refine k_iload_n (i := 3) h (ddX8_next (37, .iload_n 3, 1) (List.mem_of_getElem? (i := 20) rfl)) rfl ?_
  refine k_ifne h (ddX8_next (38, .ifCond .ne 16, 3) (List.mem_of_getElem? (i := 21) rfl)) (tgt := 54) (by decide) ?_ ?_
  · exact sX8_next_54 hl hQ h
  · exact sX8_next_41 hl hQ h
theorem sX8_next_18 {l : Launch} {X : q_CX} (hl : X.2.1 = l) (hQ : q_QM X) (h : q_OK X yX8_next cX8_next 5 (some .int) rmX8_next (Cond.code yX8_next cX8_next 5 (some .int) :: q_G)) : q_SK X 5 18 (BX8_next_18) := by
  refine k_iload_n (i := 3) h (ddX8_next (18, .iload_n 3, 1) (List.mem_of_getElem? (i := 9) rfl)) rfl ?_
  refine k_iconst (v := 0) h (ddX8_next (19, .iconst 0, 1) (List.mem_of_getElem? (i := 10) rfl)) (by decide) ?_
  refine k_iconst (v := 1) h (ddX8_next (20, .iconst 1, 1) (List.mem_of_getElem? (i := 11) rfl)) (by decide) ?_
  refine k_callS h hl (aX8_inside l) ⟨rfl, rfl⟩ (n := 3) (by decide +kernel) (q_gS gw139 gw138 gw91 gw137) ⟨by decide, by decide⟩ (ddX8_next (21, .invokestatic 78, 3) (List.mem_of_getElem? (i := 12) rfl)) ?_
  refine k_ifne h (ddX8_next (24, .ifCond .ne 6, 3) (List.mem_of_getElem? (i := 13) rfl)) (tgt := 30) (by decide) ?_ ?_
  · exact sX8_next_30 hl hQ h
  · exact sX8_next_27 hl hQ h
theorem sX8_next_11 {l : Launch} {X : q_CX} (hl : X.2.1 = l) (hQ : q_QM X) (h : q_OK X yX8_next cX8_next 5 (some .int) rmX8_next (Cond.code yX8_next cX8_next 5 (some .int) :: q_G)) : q_SK X 5 11 (BX8_next_11) := by
  refine k_iload_n (i := 2) h (ddX8_next (11, .iload_n 2, 1) (List.mem_of_getElem? (i := 6) rfl)) rfl ?_
  refine k_callS h hl (aX8_isStep l) ⟨rfl, rfl⟩ (n := 1) (by decide +kernel) (q_gS gw370 gw369 gw91 gw368) ⟨by decide, by decide⟩ (ddX8_next (12, .invokestatic 176, 3) (List.mem_of_getElem? (i := 7) rfl)) ?_
  refine k_ifeq h (ddX8_next (15, .ifCond .eq 12, 3) (List.mem_of_getElem? (i := 8) rfl)) (tgt := 27) (by decide) ?_ ?_
  · exact sX8_next_27 hl hQ h
  · exact sX8_next_18 hl hQ h
theorem sX8_next_8 {l : Launch} {X : q_CX} (hl : X.2.1 = l) (hQ : q_QM X) (h : q_OK X yX8_next cX8_next 5 (some .int) rmX8_next (Cond.code yX8_next cX8_next 5 (some .int) :: q_G)) : q_SK X 5 8 (BX8_next_8) := by
  refine k_ldc (v := (-1000000001)) h (ddX8_next (8, .ldc 147, 2) (List.mem_of_getElem? (i := 4) rfl)) (List.mem_cons_of_mem _ gw336) ?_
  exact k_iret h hQ (ddX8_next (10, .ireturn, 1) (List.mem_of_getElem? (i := 5) rfl))
theorem sX8_next_0 {l : Launch} {X : q_CX} (hl : X.2.1 = l) (hQ : q_QM X) (h : q_OK X yX8_next cX8_next 5 (some .int) rmX8_next (Cond.code yX8_next cX8_next 5 (some .int) :: q_G)) : q_SK X 5 0 (BX8_next_0) := by
  refine k_aload_n (i := 0) h (ddX8_next (0, .aload_n 0, 1) (List.mem_of_getElem? (i := 0) rfl)) rfl ?_
  refine k_iload_n (i := 1) h (ddX8_next (1, .iload_n 1, 1) (List.mem_of_getElem? (i := 1) rfl)) rfl ?_
  refine k_callV h hl (aX8_isPlace l) (ci := 8) (C := RX8) (T := TX8) (N := 11) rfl ⟨rfl, rfl⟩ (n := 1) (by decide +kernel) (q_gV gw341 gw342 gw343 gw91 gw340) ⟨by decide, by decide⟩ (ddX8_next (2, .invokevirtual 161, 3) (List.mem_of_getElem? (i := 2) rfl)) ?_
  refine k_ifne h (ddX8_next (5, .ifCond .ne 6, 3) (List.mem_of_getElem? (i := 3) rfl)) (tgt := 11) (by decide) ?_ ?_
  · exact sX8_next_11 hl hQ h
  · exact sX8_next_8 hl hQ h
theorem aX8_next (l : Launch) (as : List Value) (sh : q_Sh) (m : q_Mm) (R : q_KR) (hw : wX8_next as sh m R) : q_AM l yX8_next (Cond.code yX8_next cX8_next 5 (some .int) :: q_G) rmX8_next as sh m R := by
  refine q_met (code := TX8_next) (by decide) (fun X hl hQ _ h pc => ?_) hw.1 hw.2
  unfold TX8_next
  exact k_at (sX8_next_0 hl hQ h) (k_no)
/-! TumblingRock.commonDivisor(II)I -/
abbrev dlX8_commonDivisor : List (Nat × (Instr × Nat)) := [(0, .iload_n 0, 1), (1, .iload_n 1, 1), (2, .invokestatic 300, 3), (5, .istore_n 2, 1), (6, .iload_n 2, 1), (7, .iconst 1, 1), (8, .if_icmp .le 23, 3), (11, .iload_n 0, 1), (12, .iload_n 2, 1), (13, .irem, 1), (14, .ifCond .ne 11, 3), (17, .iload_n 1, 1), (18, .iload_n 2, 1), (19, .irem, 1), (20, .ifCond .ne 5, 3), (23, .iload_n 2, 1), (24, .ireturn, 1), (25, .iinc 2 (-1), 3), (28, .goto (-22), 3), (31, .iconst 1, 1), (32, .ireturn, 1)]
theorem ddX8_commonDivisor : ∀ q ∈ dlX8_commonDivisor, decode cX8_commonDivisor q.1 = .ok q.2 := by decide +kernel
theorem sX8_commonDivisor_0 {l : Launch} {X : q_CX} (hl : X.2.1 = l) (hQ : q_QM X) (h : q_OK X yX8_commonDivisor cX8_commonDivisor 3 (some .int) rmX8_commonDivisor (Cond.code yX8_commonDivisor cX8_commonDivisor 3 (some .int) :: q_G)) : q_SK X 3 0 (BX8_commonDivisor_0) := by
  refine k_iload_n (i := 0) h (ddX8_commonDivisor (0, .iload_n 0, 1) (List.mem_of_getElem? (i := 0) rfl)) rfl ?_
  refine k_iload_n (i := 1) h (ddX8_commonDivisor (1, .iload_n 1, 1) (List.mem_of_getElem? (i := 1) rfl)) rfl ?_
  refine k_mmax h (List.mem_cons_of_mem _ gw437) (List.mem_cons_of_mem _ gw352) (List.mem_cons_of_mem _ gw301) (List.mem_cons_of_mem _ gw353) (by decide) (by decide) (ddX8_commonDivisor (2, .invokestatic 300, 3) (List.mem_of_getElem? (i := 2) rfl)) ?_
  refine k_istore_n (i := 2) h (ddX8_commonDivisor (5, .istore_n 2, 1) (List.mem_of_getElem? (i := 3) rfl)) rfl (by decide) ?_
  exact k_cut
theorem sX8_commonDivisor_31 {l : Launch} {X : q_CX} (hl : X.2.1 = l) (hQ : q_QM X) (h : q_OK X yX8_commonDivisor cX8_commonDivisor 3 (some .int) rmX8_commonDivisor (Cond.code yX8_commonDivisor cX8_commonDivisor 3 (some .int) :: q_G)) : q_SK X 3 31 (BX8_commonDivisor_31) := by
  refine k_iconst (v := 1) h (ddX8_commonDivisor (31, .iconst 1, 1) (List.mem_of_getElem? (i := 19) rfl)) (by decide) ?_
  exact k_iret h hQ (ddX8_commonDivisor (32, .ireturn, 1) (List.mem_of_getElem? (i := 20) rfl))
theorem sX8_commonDivisor_25 {l : Launch} {X : q_CX} (hl : X.2.1 = l) (hQ : q_QM X) (h : q_OK X yX8_commonDivisor cX8_commonDivisor 3 (some .int) rmX8_commonDivisor (Cond.code yX8_commonDivisor cX8_commonDivisor 3 (some .int) :: q_G)) : q_SK X 3 25 (BX8_commonDivisor_25) := by
  refine k_iinc (d := (-1)) h (ddX8_commonDivisor (25, .iinc 2 (-1), 3) (List.mem_of_getElem? (i := 17) rfl)) (by decide) (by decide) ?_
  refine k_goto h (ddX8_commonDivisor (28, .goto (-22), 3) (List.mem_of_getElem? (i := 18) rfl)) (tgt := 6) (by decide) ?_
  exact k_cut
theorem sX8_commonDivisor_23 {l : Launch} {X : q_CX} (hl : X.2.1 = l) (hQ : q_QM X) (h : q_OK X yX8_commonDivisor cX8_commonDivisor 3 (some .int) rmX8_commonDivisor (Cond.code yX8_commonDivisor cX8_commonDivisor 3 (some .int) :: q_G)) : q_SK X 3 23 (BX8_commonDivisor_23) := by
  refine k_iload_n (i := 2) h (ddX8_commonDivisor (23, .iload_n 2, 1) (List.mem_of_getElem? (i := 15) rfl)) rfl ?_
  exact k_iret h hQ (ddX8_commonDivisor (24, .ireturn, 1) (List.mem_of_getElem? (i := 16) rfl))
theorem sX8_commonDivisor_17 {l : Launch} {X : q_CX} (hl : X.2.1 = l) (hQ : q_QM X) (h : q_OK X yX8_commonDivisor cX8_commonDivisor 3 (some .int) rmX8_commonDivisor (Cond.code yX8_commonDivisor cX8_commonDivisor 3 (some .int) :: q_G)) : q_SK X 3 17 (BX8_commonDivisor_17) := by
  refine k_iload_n (i := 1) h (ddX8_commonDivisor (17, .iload_n 1, 1) (List.mem_of_getElem? (i := 11) rfl)) rfl ?_
  refine k_iload_n (i := 2) h (ddX8_commonDivisor (18, .iload_n 2, 1) (List.mem_of_getElem? (i := 12) rfl)) rfl ?_
  refine k_irem h (ddX8_commonDivisor (19, .irem, 1) (List.mem_of_getElem? (i := 13) rfl)) ?_
  refine k_ifne h (ddX8_commonDivisor (20, .ifCond .ne 5, 3) (List.mem_of_getElem? (i := 14) rfl)) (tgt := 25) (by decide) ?_ ?_
  · exact sX8_commonDivisor_25 hl hQ h
  · exact sX8_commonDivisor_23 hl hQ h
theorem sX8_commonDivisor_11 {l : Launch} {X : q_CX} (hl : X.2.1 = l) (hQ : q_QM X) (h : q_OK X yX8_commonDivisor cX8_commonDivisor 3 (some .int) rmX8_commonDivisor (Cond.code yX8_commonDivisor cX8_commonDivisor 3 (some .int) :: q_G)) : q_SK X 3 11 (BX8_commonDivisor_11) := by
  refine k_iload_n (i := 0) h (ddX8_commonDivisor (11, .iload_n 0, 1) (List.mem_of_getElem? (i := 7) rfl)) rfl ?_
  refine k_iload_n (i := 2) h (ddX8_commonDivisor (12, .iload_n 2, 1) (List.mem_of_getElem? (i := 8) rfl)) rfl ?_
  refine k_irem h (ddX8_commonDivisor (13, .irem, 1) (List.mem_of_getElem? (i := 9) rfl)) ?_
  refine k_ifne h (ddX8_commonDivisor (14, .ifCond .ne 11, 3) (List.mem_of_getElem? (i := 10) rfl)) (tgt := 25) (by decide) ?_ ?_
  · exact sX8_commonDivisor_25 hl hQ h
  · exact sX8_commonDivisor_17 hl hQ h
theorem sX8_commonDivisor_6 {l : Launch} {X : q_CX} (hl : X.2.1 = l) (hQ : q_QM X) (h : q_OK X yX8_commonDivisor cX8_commonDivisor 3 (some .int) rmX8_commonDivisor (Cond.code yX8_commonDivisor cX8_commonDivisor 3 (some .int) :: q_G)) : q_SK X 3 6 (BX8_commonDivisor_6) := by
  refine k_iload_n (i := 2) h (ddX8_commonDivisor (6, .iload_n 2, 1) (List.mem_of_getElem? (i := 4) rfl)) rfl ?_
  refine k_iconst (v := 1) h (ddX8_commonDivisor (7, .iconst 1, 1) (List.mem_of_getElem? (i := 5) rfl)) (by decide) ?_
  refine k_icle h (ddX8_commonDivisor (8, .if_icmp .le 23, 3) (List.mem_of_getElem? (i := 6) rfl)) (tgt := 31) (by decide) ?_ ?_
  · exact sX8_commonDivisor_31 hl hQ h
  · exact sX8_commonDivisor_11 hl hQ h
theorem aX8_commonDivisor (l : Launch) (as : List Value) (sh : q_Sh) (m : q_Mm) (R : q_KR) (hw : wX8_commonDivisor as sh m R) : q_AM l yX8_commonDivisor (Cond.code yX8_commonDivisor cX8_commonDivisor 3 (some .int) :: q_G) rmX8_commonDivisor as sh m R := by
  refine q_met (code := TX8_commonDivisor) (by decide) (fun X hl hQ _ h pc => ?_) hw.1 hw.2
  unfold TX8_commonDivisor
  exact k_at (sX8_commonDivisor_0 hl hQ h) (k_at (sX8_commonDivisor_6 hl hQ h) (k_no))
/-! TumblingRock.share(II)I -/
abbrev dlX8_share : List (Nat × (Instr × Nat)) := [(0, .aload_n 0, 1), (1, .iload_n 1, 1), (2, .invokevirtual 161, 3), (5, .ifCond .ne 6, 3), (8, .ldc 147, 2), (10, .ireturn, 1), (11, .iload_n 2, 1), (12, .iconst 0, 1), (13, .iconst 1, 1), (14, .invokestatic 78, 3), (17, .ifCond .ne 6, 3), (20, .ldc 82, 2), (22, .ireturn, 1), (23, .aload_n 0, 1), (24, .getfield 71, 3), (27, .iload_n 1, 1), (28, .aload_n 0, 1), (29, .getfield 28, 3), (32, .getfield 155, 3), (35, .invokevirtual 173, 3), (38, .istore_n 3, 1), (39, .iload_n 3, 1), (40, .aload_n 0, 1), (41, .getfield 71, 3), (44, .getfield 120, 3), (47, .invokestatic 210, 3), (50, .istore 4, 2), (52, .iload 4, 2), (54, .iconst 1, 1), (55, .if_icmp .ge 5, 3), (58, .iconst 0, 1), (59, .ireturn, 1), (60, .iload_n 2, 1), (61, .ifCond .ne 7, 3), (64, .iload_n 3, 1), (65, .goto 10, 3), (68, .aload_n 0, 1), (69, .getfield 71, 3), (72, .getfield 120, 3), (75, .iload 4, 2), (77, .idiv, 1), (78, .ireturn, 1)]
theorem ddX8_share : ∀ q ∈ dlX8_share, decode cX8_share q.1 = .ok q.2 := by decide +kernel
theorem sX8_share_75 {l : Launch} {X : q_CX} (hl : X.2.1 = l) (hQ : q_QM X) (h : q_OK X yX8_share cX8_share 5 (some .int) rmX8_share (Cond.code yX8_share cX8_share 5 (some .int) :: q_G)) : q_SK X 5 75 (BX8_share_75) := by
  refine k_iload (i := 4) h (ddX8_share (75, .iload 4, 2) (List.mem_of_getElem? (i := 39) rfl)) ?_
  refine k_idiv h (ddX8_share (77, .idiv, 1) (List.mem_of_getElem? (i := 40) rfl)) ?_
  exact k_iret h hQ (ddX8_share (78, .ireturn, 1) (List.mem_of_getElem? (i := 41) rfl))
theorem sX8_share_68 {l : Launch} {X : q_CX} (hl : X.2.1 = l) (hQ : q_QM X) (h : q_OK X yX8_share cX8_share 5 (some .int) rmX8_share (Cond.code yX8_share cX8_share 5 (some .int) :: q_G)) : q_SK X 5 68 (BX8_share_68) := by
  refine k_aload_n (i := 0) h (ddX8_share (68, .aload_n 0, 1) (List.mem_of_getElem? (i := 36) rfl)) rfl ?_
  refine k_getf (ci := 8) (j := 9) (C := RX8) (T := TX8) (N := 11) h rfl (fun w hw => List.mem_cons_of_mem _ (q_inX8 w hw)) (by decide) (List.mem_cons_of_mem _ gw135) (ddX8_share (69, .getfield 71, 3) (List.mem_of_getElem? (i := 37) rfl)) ?_
  refine k_getf (ci := 4) (j := 5) (C := RX4) (T := TX4) (N := 14) h rfl (fun w hw => List.mem_cons_of_mem _ (q_inX4 w hw)) (by decide) (List.mem_cons_of_mem _ gw317) (ddX8_share (72, .getfield 120, 3) (List.mem_of_getElem? (i := 38) rfl)) ?_
  exact sX8_share_75 hl hQ h
theorem sX8_share_64 {l : Launch} {X : q_CX} (hl : X.2.1 = l) (hQ : q_QM X) (h : q_OK X yX8_share cX8_share 5 (some .int) rmX8_share (Cond.code yX8_share cX8_share 5 (some .int) :: q_G)) : q_SK X 5 64 (BX8_share_64) := by
  refine k_iload_n (i := 3) h (ddX8_share (64, .iload_n 3, 1) (List.mem_of_getElem? (i := 34) rfl)) rfl ?_
  refine k_goto h (ddX8_share (65, .goto 10, 3) (List.mem_of_getElem? (i := 35) rfl)) (tgt := 75) (by decide) ?_
  exact sX8_share_75 hl hQ h
theorem sX8_share_60 {l : Launch} {X : q_CX} (hl : X.2.1 = l) (hQ : q_QM X) (h : q_OK X yX8_share cX8_share 5 (some .int) rmX8_share (Cond.code yX8_share cX8_share 5 (some .int) :: q_G)) : q_SK X 5 60 (BX8_share_60) := by
  refine k_iload_n (i := 2) h (ddX8_share (60, .iload_n 2, 1) (List.mem_of_getElem? (i := 32) rfl)) rfl ?_
  refine k_ifne h (ddX8_share (61, .ifCond .ne 7, 3) (List.mem_of_getElem? (i := 33) rfl)) (tgt := 68) (by decide) ?_ ?_
  · exact sX8_share_68 hl hQ h
  · exact sX8_share_64 hl hQ h
theorem sX8_share_58 {l : Launch} {X : q_CX} (hl : X.2.1 = l) (hQ : q_QM X) (h : q_OK X yX8_share cX8_share 5 (some .int) rmX8_share (Cond.code yX8_share cX8_share 5 (some .int) :: q_G)) : q_SK X 5 58 (BX8_share_58) := by
  refine k_iconst (v := 0) h (ddX8_share (58, .iconst 0, 1) (List.mem_of_getElem? (i := 30) rfl)) (by decide) ?_
  exact k_iret h hQ (ddX8_share (59, .ireturn, 1) (List.mem_of_getElem? (i := 31) rfl))
theorem sX8_share_23 {l : Launch} {X : q_CX} (hl : X.2.1 = l) (hQ : q_QM X) (h : q_OK X yX8_share cX8_share 5 (some .int) rmX8_share (Cond.code yX8_share cX8_share 5 (some .int) :: q_G)) : q_SK X 5 23 (BX8_share_23) := by
  refine k_aload_n (i := 0) h (ddX8_share (23, .aload_n 0, 1) (List.mem_of_getElem? (i := 13) rfl)) rfl ?_
  refine k_getf (ci := 8) (j := 9) (C := RX8) (T := TX8) (N := 11) h rfl (fun w hw => List.mem_cons_of_mem _ (q_inX8 w hw)) (by decide) (List.mem_cons_of_mem _ gw135) (ddX8_share (24, .getfield 71, 3) (List.mem_of_getElem? (i := 14) rfl)) ?_
  refine k_iload_n (i := 1) h (ddX8_share (27, .iload_n 1, 1) (List.mem_of_getElem? (i := 15) rfl)) rfl ?_
  refine k_aload_n (i := 0) h (ddX8_share (28, .aload_n 0, 1) (List.mem_of_getElem? (i := 16) rfl)) rfl ?_
  refine k_getf (ci := 8) (j := 2) (C := RX8) (T := TX8) (N := 11) h rfl (fun w hw => List.mem_cons_of_mem _ (q_inX8 w hw)) (by decide) (List.mem_cons_of_mem _ gw28) (ddX8_share (29, .getfield 28, 3) (List.mem_of_getElem? (i := 17) rfl)) ?_
  refine k_getf (ci := 1) (j := 0) (C := RX1) (T := TX1) (N := 5) h rfl (fun w hw => List.mem_cons_of_mem _ (q_inX1 w hw)) (by decide) (List.mem_cons_of_mem _ gw322) (ddX8_share (32, .getfield 155, 3) (List.mem_of_getElem? (i := 18) rfl)) ?_
  refine k_callV h hl (aX4_litSteps l) (ci := 4) (C := RX4) (T := TX4) (N := 14) rfl ⟨rfl, rfl⟩ (n := 2) (by decide +kernel) (q_gV gw364 gw365 gw366 gw71 gw363) ⟨by decide, by decide⟩ (ddX8_share (35, .invokevirtual 173, 3) (List.mem_of_getElem? (i := 19) rfl)) ?_
  refine k_istore_n (i := 3) h (ddX8_share (38, .istore_n 3, 1) (List.mem_of_getElem? (i := 20) rfl)) rfl (by decide) ?_
  refine k_iload_n (i := 3) h (ddX8_share (39, .iload_n 3, 1) (List.mem_of_getElem? (i := 21) rfl)) rfl ?_
  refine k_aload_n (i := 0) h (ddX8_share (40, .aload_n 0, 1) (List.mem_of_getElem? (i := 22) rfl)) rfl ?_
  refine k_getf (ci := 8) (j := 9) (C := RX8) (T := TX8) (N := 11) h rfl (fun w hw => List.mem_cons_of_mem _ (q_inX8 w hw)) (by decide) (List.mem_cons_of_mem _ gw135) (ddX8_share (41, .getfield 71, 3) (List.mem_of_getElem? (i := 23) rfl)) ?_
  refine k_getf (ci := 4) (j := 5) (C := RX4) (T := TX4) (N := 14) h rfl (fun w hw => List.mem_cons_of_mem _ (q_inX4 w hw)) (by decide) (List.mem_cons_of_mem _ gw317) (ddX8_share (44, .getfield 120, 3) (List.mem_of_getElem? (i := 24) rfl)) ?_
  refine k_callS h hl (aX8_commonDivisor l) ⟨rfl, rfl⟩ (n := 2) (by decide +kernel) (q_gS gw440 gw439 gw91 gw438) ⟨by decide, by decide⟩ (ddX8_share (47, .invokestatic 210, 3) (List.mem_of_getElem? (i := 25) rfl)) ?_
  refine k_istore (i := 4) h (ddX8_share (50, .istore 4, 2) (List.mem_of_getElem? (i := 26) rfl)) (by decide) ?_
  refine k_iload (i := 4) h (ddX8_share (52, .iload 4, 2) (List.mem_of_getElem? (i := 27) rfl)) ?_
  refine k_iconst (v := 1) h (ddX8_share (54, .iconst 1, 1) (List.mem_of_getElem? (i := 28) rfl)) (by decide) ?_
  refine k_icge h (ddX8_share (55, .if_icmp .ge 5, 3) (List.mem_of_getElem? (i := 29) rfl)) (tgt := 60) (by decide) ?_ ?_
  · exact sX8_share_60 hl hQ h
  · exact sX8_share_58 hl hQ h
theorem sX8_share_20 {l : Launch} {X : q_CX} (hl : X.2.1 = l) (hQ : q_QM X) (h : q_OK X yX8_share cX8_share 5 (some .int) rmX8_share (Cond.code yX8_share cX8_share 5 (some .int) :: q_G)) : q_SK X 5 20 (BX8_share_20) := by
  refine k_ldc (v := (-1000000002)) h (ddX8_share (20, .ldc 82, 2) (List.mem_of_getElem? (i := 11) rfl)) (List.mem_cons_of_mem _ gw140) ?_
  exact k_iret h hQ (ddX8_share (22, .ireturn, 1) (List.mem_of_getElem? (i := 12) rfl))
theorem sX8_share_11 {l : Launch} {X : q_CX} (hl : X.2.1 = l) (hQ : q_QM X) (h : q_OK X yX8_share cX8_share 5 (some .int) rmX8_share (Cond.code yX8_share cX8_share 5 (some .int) :: q_G)) : q_SK X 5 11 (BX8_share_11) := by
  refine k_iload_n (i := 2) h (ddX8_share (11, .iload_n 2, 1) (List.mem_of_getElem? (i := 6) rfl)) rfl ?_
  refine k_iconst (v := 0) h (ddX8_share (12, .iconst 0, 1) (List.mem_of_getElem? (i := 7) rfl)) (by decide) ?_
  refine k_iconst (v := 1) h (ddX8_share (13, .iconst 1, 1) (List.mem_of_getElem? (i := 8) rfl)) (by decide) ?_
  refine k_callS h hl (aX8_inside l) ⟨rfl, rfl⟩ (n := 3) (by decide +kernel) (q_gS gw139 gw138 gw91 gw137) ⟨by decide, by decide⟩ (ddX8_share (14, .invokestatic 78, 3) (List.mem_of_getElem? (i := 9) rfl)) ?_
  refine k_ifne h (ddX8_share (17, .ifCond .ne 6, 3) (List.mem_of_getElem? (i := 10) rfl)) (tgt := 23) (by decide) ?_ ?_
  · exact sX8_share_23 hl hQ h
  · exact sX8_share_20 hl hQ h
theorem sX8_share_8 {l : Launch} {X : q_CX} (hl : X.2.1 = l) (hQ : q_QM X) (h : q_OK X yX8_share cX8_share 5 (some .int) rmX8_share (Cond.code yX8_share cX8_share 5 (some .int) :: q_G)) : q_SK X 5 8 (BX8_share_8) := by
  refine k_ldc (v := (-1000000001)) h (ddX8_share (8, .ldc 147, 2) (List.mem_of_getElem? (i := 4) rfl)) (List.mem_cons_of_mem _ gw336) ?_
  exact k_iret h hQ (ddX8_share (10, .ireturn, 1) (List.mem_of_getElem? (i := 5) rfl))
theorem sX8_share_0 {l : Launch} {X : q_CX} (hl : X.2.1 = l) (hQ : q_QM X) (h : q_OK X yX8_share cX8_share 5 (some .int) rmX8_share (Cond.code yX8_share cX8_share 5 (some .int) :: q_G)) : q_SK X 5 0 (BX8_share_0) := by
  refine k_aload_n (i := 0) h (ddX8_share (0, .aload_n 0, 1) (List.mem_of_getElem? (i := 0) rfl)) rfl ?_
  refine k_iload_n (i := 1) h (ddX8_share (1, .iload_n 1, 1) (List.mem_of_getElem? (i := 1) rfl)) rfl ?_
  refine k_callV h hl (aX8_isPlace l) (ci := 8) (C := RX8) (T := TX8) (N := 11) rfl ⟨rfl, rfl⟩ (n := 1) (by decide +kernel) (q_gV gw341 gw342 gw343 gw91 gw340) ⟨by decide, by decide⟩ (ddX8_share (2, .invokevirtual 161, 3) (List.mem_of_getElem? (i := 2) rfl)) ?_
  refine k_ifne h (ddX8_share (5, .ifCond .ne 6, 3) (List.mem_of_getElem? (i := 3) rfl)) (tgt := 11) (by decide) ?_ ?_
  · exact sX8_share_11 hl hQ h
  · exact sX8_share_8 hl hQ h
theorem aX8_share (l : Launch) (as : List Value) (sh : q_Sh) (m : q_Mm) (R : q_KR) (hw : wX8_share as sh m R) : q_AM l yX8_share (Cond.code yX8_share cX8_share 5 (some .int) :: q_G) rmX8_share as sh m R := by
  refine q_met (code := TX8_share) (by decide) (fun X hl hQ _ h pc => ?_) hw.1 hw.2
  unfold TX8_share
  exact k_at (sX8_share_0 hl hQ h) (k_no)
/-! TumblingRock.areShifts(III)Z -/
abbrev dlX8_areShifts : List (Nat × (Instr × Nat)) := [(0, .iload_n 0, 1), (1, .iconst 0, 1), (2, .bipush 11, 2), (4, .invokestatic 78, 3), (7, .ifCond .eq 27, 3), (10, .iload_n 1, 1), (11, .iconst 0, 1), (12, .bipush 11, 2), (14, .invokestatic 78, 3), (17, .ifCond .eq 17, 3), (20, .iload_n 2, 1), (21, .iconst 0, 1), (22, .bipush 11, 2), (24, .invokestatic 78, 3), (27, .ifCond .eq 7, 3), (30, .iconst 1, 1), (31, .goto 4, 3), (34, .iconst 0, 1), (35, .ireturn, 1)]
theorem ddX8_areShifts : ∀ q ∈ dlX8_areShifts, decode cX8_areShifts q.1 = .ok q.2 := by decide +kernel
theorem sX8_areShifts_35 {l : Launch} {X : q_CX} (hl : X.2.1 = l) (hQ : q_QM X) (h : q_OK X yX8_areShifts cX8_areShifts 3 (some .boolean) rmX8_areShifts (Cond.code yX8_areShifts cX8_areShifts 3 (some .boolean) :: q_G)) : q_SK X 3 35 (BX8_areShifts_35) := by
  exact k_zret h hQ (ddX8_areShifts (35, .ireturn, 1) (List.mem_of_getElem? (i := 18) rfl))
theorem sX8_areShifts_34 {l : Launch} {X : q_CX} (hl : X.2.1 = l) (hQ : q_QM X) (h : q_OK X yX8_areShifts cX8_areShifts 3 (some .boolean) rmX8_areShifts (Cond.code yX8_areShifts cX8_areShifts 3 (some .boolean) :: q_G)) : q_SK X 3 34 (BX8_areShifts_34) := by
  refine k_iconst (v := 0) h (ddX8_areShifts (34, .iconst 0, 1) (List.mem_of_getElem? (i := 17) rfl)) (by decide) ?_
  exact sX8_areShifts_35 hl hQ h
theorem sX8_areShifts_30 {l : Launch} {X : q_CX} (hl : X.2.1 = l) (hQ : q_QM X) (h : q_OK X yX8_areShifts cX8_areShifts 3 (some .boolean) rmX8_areShifts (Cond.code yX8_areShifts cX8_areShifts 3 (some .boolean) :: q_G)) : q_SK X 3 30 (BX8_areShifts_30) := by
  refine k_iconst (v := 1) h (ddX8_areShifts (30, .iconst 1, 1) (List.mem_of_getElem? (i := 15) rfl)) (by decide) ?_
  refine k_goto h (ddX8_areShifts (31, .goto 4, 3) (List.mem_of_getElem? (i := 16) rfl)) (tgt := 35) (by decide) ?_
  exact sX8_areShifts_35 hl hQ h
theorem sX8_areShifts_20 {l : Launch} {X : q_CX} (hl : X.2.1 = l) (hQ : q_QM X) (h : q_OK X yX8_areShifts cX8_areShifts 3 (some .boolean) rmX8_areShifts (Cond.code yX8_areShifts cX8_areShifts 3 (some .boolean) :: q_G)) : q_SK X 3 20 (BX8_areShifts_20) := by
  refine k_iload_n (i := 2) h (ddX8_areShifts (20, .iload_n 2, 1) (List.mem_of_getElem? (i := 10) rfl)) rfl ?_
  refine k_iconst (v := 0) h (ddX8_areShifts (21, .iconst 0, 1) (List.mem_of_getElem? (i := 11) rfl)) (by decide) ?_
  refine k_bipush (v := 11) h (ddX8_areShifts (22, .bipush 11, 2) (List.mem_of_getElem? (i := 12) rfl)) (by decide) ?_
  refine k_callS h hl (aX8_inside l) ⟨rfl, rfl⟩ (n := 3) (by decide +kernel) (q_gS gw139 gw138 gw91 gw137) ⟨by decide, by decide⟩ (ddX8_areShifts (24, .invokestatic 78, 3) (List.mem_of_getElem? (i := 13) rfl)) ?_
  refine k_ifeq h (ddX8_areShifts (27, .ifCond .eq 7, 3) (List.mem_of_getElem? (i := 14) rfl)) (tgt := 34) (by decide) ?_ ?_
  · exact sX8_areShifts_34 hl hQ h
  · exact sX8_areShifts_30 hl hQ h
theorem sX8_areShifts_10 {l : Launch} {X : q_CX} (hl : X.2.1 = l) (hQ : q_QM X) (h : q_OK X yX8_areShifts cX8_areShifts 3 (some .boolean) rmX8_areShifts (Cond.code yX8_areShifts cX8_areShifts 3 (some .boolean) :: q_G)) : q_SK X 3 10 (BX8_areShifts_10) := by
  refine k_iload_n (i := 1) h (ddX8_areShifts (10, .iload_n 1, 1) (List.mem_of_getElem? (i := 5) rfl)) rfl ?_
  refine k_iconst (v := 0) h (ddX8_areShifts (11, .iconst 0, 1) (List.mem_of_getElem? (i := 6) rfl)) (by decide) ?_
  refine k_bipush (v := 11) h (ddX8_areShifts (12, .bipush 11, 2) (List.mem_of_getElem? (i := 7) rfl)) (by decide) ?_
  refine k_callS h hl (aX8_inside l) ⟨rfl, rfl⟩ (n := 3) (by decide +kernel) (q_gS gw139 gw138 gw91 gw137) ⟨by decide, by decide⟩ (ddX8_areShifts (14, .invokestatic 78, 3) (List.mem_of_getElem? (i := 8) rfl)) ?_
  refine k_ifeq h (ddX8_areShifts (17, .ifCond .eq 17, 3) (List.mem_of_getElem? (i := 9) rfl)) (tgt := 34) (by decide) ?_ ?_
  · exact sX8_areShifts_34 hl hQ h
  · exact sX8_areShifts_20 hl hQ h
theorem sX8_areShifts_0 {l : Launch} {X : q_CX} (hl : X.2.1 = l) (hQ : q_QM X) (h : q_OK X yX8_areShifts cX8_areShifts 3 (some .boolean) rmX8_areShifts (Cond.code yX8_areShifts cX8_areShifts 3 (some .boolean) :: q_G)) : q_SK X 3 0 (BX8_areShifts_0) := by
  refine k_iload_n (i := 0) h (ddX8_areShifts (0, .iload_n 0, 1) (List.mem_of_getElem? (i := 0) rfl)) rfl ?_
  refine k_iconst (v := 0) h (ddX8_areShifts (1, .iconst 0, 1) (List.mem_of_getElem? (i := 1) rfl)) (by decide) ?_
  refine k_bipush (v := 11) h (ddX8_areShifts (2, .bipush 11, 2) (List.mem_of_getElem? (i := 2) rfl)) (by decide) ?_
  refine k_callS h hl (aX8_inside l) ⟨rfl, rfl⟩ (n := 3) (by decide +kernel) (q_gS gw139 gw138 gw91 gw137) ⟨by decide, by decide⟩ (ddX8_areShifts (4, .invokestatic 78, 3) (List.mem_of_getElem? (i := 3) rfl)) ?_
  refine k_ifeq h (ddX8_areShifts (7, .ifCond .eq 27, 3) (List.mem_of_getElem? (i := 4) rfl)) (tgt := 34) (by decide) ?_ ?_
  · exact sX8_areShifts_34 hl hQ h
  · exact sX8_areShifts_10 hl hQ h
theorem aX8_areShifts (l : Launch) (as : List Value) (sh : q_Sh) (m : q_Mm) (R : q_KR) (hw : wX8_areShifts as sh m R) : q_AM l yX8_areShifts (Cond.code yX8_areShifts cX8_areShifts 3 (some .boolean) :: q_G) rmX8_areShifts as sh m R := by
  refine q_met (code := TX8_areShifts) (by decide) (fun X hl hQ _ h pc => ?_) hw.1 hw.2
  unfold TX8_areShifts
  exact k_at (sX8_areShifts_0 hl hQ h) (k_no)
/-! TumblingRock$Rock.canStand(II)Z -/
abbrev dlX4_canStand : List (Nat × (Instr × Nat)) := [(0, .iload_n 1, 1), (1, .aload_n 0, 1), (2, .getfield 42, 3), (5, .if_icmp .ge 12, 3), (8, .iload_n 2, 1), (9, .aload_n 0, 1), (10, .iload_n 1, 1), (11, .invokevirtual 59, 3), (14, .if_icmp .ge 7, 3), (17, .iconst 1, 1), (18, .goto 4, 3), (21, .iconst 0, 1), (22, .ireturn, 1)]
theorem ddX4_canStand : ∀ q ∈ dlX4_canStand, decode cX4_canStand q.1 = .ok q.2 := by decide +kernel
theorem sX4_canStand_22 {l : Launch} {X : q_CX} (hl : X.2.1 = l) (hQ : q_QM X) (h : q_OK X yX4_canStand cX4_canStand 3 (some .boolean) rmX4_canStand (Cond.code yX4_canStand cX4_canStand 3 (some .boolean) :: q_G)) : q_SK X 3 22 (BX4_canStand_22) := by
  exact k_zret h hQ (ddX4_canStand (22, .ireturn, 1) (List.mem_of_getElem? (i := 12) rfl))
theorem sX4_canStand_17 {l : Launch} {X : q_CX} (hl : X.2.1 = l) (hQ : q_QM X) (h : q_OK X yX4_canStand cX4_canStand 3 (some .boolean) rmX4_canStand (Cond.code yX4_canStand cX4_canStand 3 (some .boolean) :: q_G)) : q_SK X 3 17 (BX4_canStand_17) := by
  refine k_iconst (v := 1) h (ddX4_canStand (17, .iconst 1, 1) (List.mem_of_getElem? (i := 9) rfl)) (by decide) ?_
  refine k_goto h (ddX4_canStand (18, .goto 4, 3) (List.mem_of_getElem? (i := 10) rfl)) (tgt := 22) (by decide) ?_
  exact sX4_canStand_22 hl hQ h
theorem sX4_canStand_21 {l : Launch} {X : q_CX} (hl : X.2.1 = l) (hQ : q_QM X) (h : q_OK X yX4_canStand cX4_canStand 3 (some .boolean) rmX4_canStand (Cond.code yX4_canStand cX4_canStand 3 (some .boolean) :: q_G)) : q_SK X 3 21 (BX4_canStand_21) := by
  refine k_iconst (v := 0) h (ddX4_canStand (21, .iconst 0, 1) (List.mem_of_getElem? (i := 11) rfl)) (by decide) ?_
  exact sX4_canStand_22 hl hQ h
theorem sX4_canStand_8 {l : Launch} {X : q_CX} (hl : X.2.1 = l) (hQ : q_QM X) (h : q_OK X yX4_canStand cX4_canStand 3 (some .boolean) rmX4_canStand (Cond.code yX4_canStand cX4_canStand 3 (some .boolean) :: q_G)) : q_SK X 3 8 (BX4_canStand_8) := by
  refine k_iload_n (i := 2) h (ddX4_canStand (8, .iload_n 2, 1) (List.mem_of_getElem? (i := 4) rfl)) rfl ?_
  refine k_aload_n (i := 0) h (ddX4_canStand (9, .aload_n 0, 1) (List.mem_of_getElem? (i := 5) rfl)) rfl ?_
  refine k_iload_n (i := 1) h (ddX4_canStand (10, .iload_n 1, 1) (List.mem_of_getElem? (i := 6) rfl)) rfl ?_
  refine k_callV h hl (aX4_size l) (ci := 4) (C := RX4) (T := TX4) (N := 14) rfl ⟨rfl, rfl⟩ (n := 1) (by decide +kernel) (q_gV gw226 gw227 gw228 gw71 gw225) ⟨by decide, by decide⟩ (ddX4_canStand (11, .invokevirtual 59, 3) (List.mem_of_getElem? (i := 7) rfl)) ?_
  refine k_icge h (ddX4_canStand (14, .if_icmp .ge 7, 3) (List.mem_of_getElem? (i := 8) rfl)) (tgt := 21) (by decide) ?_ ?_
  · exact sX4_canStand_21 hl hQ h
  · exact sX4_canStand_17 hl hQ h
theorem sX4_canStand_0 {l : Launch} {X : q_CX} (hl : X.2.1 = l) (hQ : q_QM X) (h : q_OK X yX4_canStand cX4_canStand 3 (some .boolean) rmX4_canStand (Cond.code yX4_canStand cX4_canStand 3 (some .boolean) :: q_G)) : q_SK X 3 0 (BX4_canStand_0) := by
  refine k_iload_n (i := 1) h (ddX4_canStand (0, .iload_n 1, 1) (List.mem_of_getElem? (i := 0) rfl)) rfl ?_
  refine k_aload_n (i := 0) h (ddX4_canStand (1, .aload_n 0, 1) (List.mem_of_getElem? (i := 1) rfl)) rfl ?_
  refine k_getf (ci := 4) (j := 0) (C := RX4) (T := TX4) (N := 14) h rfl (fun w hw => List.mem_cons_of_mem _ (q_inX4 w hw)) (by decide) (List.mem_cons_of_mem _ gw81) (ddX4_canStand (2, .getfield 42, 3) (List.mem_of_getElem? (i := 2) rfl)) ?_
  refine k_icge h (ddX4_canStand (5, .if_icmp .ge 12, 3) (List.mem_of_getElem? (i := 3) rfl)) (tgt := 17) (by decide) ?_ ?_
  · exact sX4_canStand_17 hl hQ h
  · exact sX4_canStand_8 hl hQ h
theorem aX4_canStand (l : Launch) (as : List Value) (sh : q_Sh) (m : q_Mm) (R : q_KR) (hw : wX4_canStand as sh m R) : q_AM l yX4_canStand (Cond.code yX4_canStand cX4_canStand 3 (some .boolean) :: q_G) rmX4_canStand as sh m R := by
  refine q_met (code := TX4_canStand) (by decide) (fun X hl hQ _ h pc => ?_) hw.1 hw.2
  unfold TX4_canStand
  exact k_at (sX4_canStand_0 hl hQ h) (k_no)
/-! TumblingRock$Rock.standingOf(III)I -/
abbrev dlX4_standingOf : List (Nat × (Instr × Nat)) := [(0, .aload_n 0, 1), (1, .iconst 0, 1), (2, .iload_n 1, 1), (3, .invokevirtual 107, 3), (6, .ifCond .eq 21, 3), (9, .aload_n 0, 1), (10, .iconst 1, 1), (11, .iload_n 2, 1), (12, .invokevirtual 107, 3), (15, .ifCond .eq 12, 3), (18, .aload_n 0, 1), (19, .iconst 2, 1), (20, .iload_n 3, 1), (21, .invokevirtual 107, 3), (24, .ifCond .ne 5, 3), (27, .iconst (-1), 1), (28, .ireturn, 1), (29, .aload_n 0, 1), (30, .iconst 0, 1), (31, .iload_n 1, 1), (32, .iload_n 2, 1), (33, .iload_n 3, 1), (34, .invokevirtual 79, 3), (37, .ireturn, 1)]
theorem ddX4_standingOf : ∀ q ∈ dlX4_standingOf, decode cX4_standingOf q.1 = .ok q.2 := by decide +kernel
theorem sX4_standingOf_27 {l : Launch} {X : q_CX} (hl : X.2.1 = l) (hQ : q_QM X) (h : q_OK X yX4_standingOf cX4_standingOf 4 (some .int) rmX4_standingOf (Cond.code yX4_standingOf cX4_standingOf 4 (some .int) :: q_G)) : q_SK X 4 27 (BX4_standingOf_27) := by
  refine k_iconst (v := (-1)) h (ddX4_standingOf (27, .iconst (-1), 1) (List.mem_of_getElem? (i := 15) rfl)) (by decide) ?_
  exact k_iret h hQ (ddX4_standingOf (28, .ireturn, 1) (List.mem_of_getElem? (i := 16) rfl))
theorem sX4_standingOf_29 {l : Launch} {X : q_CX} (hl : X.2.1 = l) (hQ : q_QM X) (h : q_OK X yX4_standingOf cX4_standingOf 4 (some .int) rmX4_standingOf (Cond.code yX4_standingOf cX4_standingOf 4 (some .int) :: q_G)) : q_SK X 4 29 (BX4_standingOf_29) := by
  refine k_aload_n (i := 0) h (ddX4_standingOf (29, .aload_n 0, 1) (List.mem_of_getElem? (i := 17) rfl)) rfl ?_
  refine k_iconst (v := 0) h (ddX4_standingOf (30, .iconst 0, 1) (List.mem_of_getElem? (i := 18) rfl)) (by decide) ?_
  refine k_iload_n (i := 1) h (ddX4_standingOf (31, .iload_n 1, 1) (List.mem_of_getElem? (i := 19) rfl)) rfl ?_
  refine k_iload_n (i := 2) h (ddX4_standingOf (32, .iload_n 2, 1) (List.mem_of_getElem? (i := 20) rfl)) rfl ?_
  refine k_iload_n (i := 3) h (ddX4_standingOf (33, .iload_n 3, 1) (List.mem_of_getElem? (i := 21) rfl)) rfl ?_
  refine k_callV h hl (aX4_moved l) (ci := 4) (C := RX4) (T := TX4) (N := 14) rfl ⟨rfl, rfl⟩ (n := 4) (by decide +kernel) (q_gV gw125 gw126 gw127 gw71 gw124) ⟨by decide, by decide⟩ (ddX4_standingOf (34, .invokevirtual 79, 3) (List.mem_of_getElem? (i := 22) rfl)) ?_
  exact k_iret h hQ (ddX4_standingOf (37, .ireturn, 1) (List.mem_of_getElem? (i := 23) rfl))
theorem sX4_standingOf_18 {l : Launch} {X : q_CX} (hl : X.2.1 = l) (hQ : q_QM X) (h : q_OK X yX4_standingOf cX4_standingOf 4 (some .int) rmX4_standingOf (Cond.code yX4_standingOf cX4_standingOf 4 (some .int) :: q_G)) : q_SK X 4 18 (BX4_standingOf_18) := by
  refine k_aload_n (i := 0) h (ddX4_standingOf (18, .aload_n 0, 1) (List.mem_of_getElem? (i := 10) rfl)) rfl ?_
  refine k_iconst (v := 2) h (ddX4_standingOf (19, .iconst 2, 1) (List.mem_of_getElem? (i := 11) rfl)) (by decide) ?_
  refine k_iload_n (i := 3) h (ddX4_standingOf (20, .iload_n 3, 1) (List.mem_of_getElem? (i := 12) rfl)) rfl ?_
  refine k_callV h hl (aX4_canStand l) (ci := 4) (C := RX4) (T := TX4) (N := 14) rfl ⟨rfl, rfl⟩ (n := 2) (by decide +kernel) (q_gV gw445 gw446 gw447 gw71 gw444) ⟨by decide, by decide⟩ (ddX4_standingOf (21, .invokevirtual 107, 3) (List.mem_of_getElem? (i := 13) rfl)) ?_
  refine k_ifne h (ddX4_standingOf (24, .ifCond .ne 5, 3) (List.mem_of_getElem? (i := 14) rfl)) (tgt := 29) (by decide) ?_ ?_
  · exact sX4_standingOf_29 hl hQ h
  · exact sX4_standingOf_27 hl hQ h
theorem sX4_standingOf_9 {l : Launch} {X : q_CX} (hl : X.2.1 = l) (hQ : q_QM X) (h : q_OK X yX4_standingOf cX4_standingOf 4 (some .int) rmX4_standingOf (Cond.code yX4_standingOf cX4_standingOf 4 (some .int) :: q_G)) : q_SK X 4 9 (BX4_standingOf_9) := by
  refine k_aload_n (i := 0) h (ddX4_standingOf (9, .aload_n 0, 1) (List.mem_of_getElem? (i := 5) rfl)) rfl ?_
  refine k_iconst (v := 1) h (ddX4_standingOf (10, .iconst 1, 1) (List.mem_of_getElem? (i := 6) rfl)) (by decide) ?_
  refine k_iload_n (i := 2) h (ddX4_standingOf (11, .iload_n 2, 1) (List.mem_of_getElem? (i := 7) rfl)) rfl ?_
  refine k_callV h hl (aX4_canStand l) (ci := 4) (C := RX4) (T := TX4) (N := 14) rfl ⟨rfl, rfl⟩ (n := 2) (by decide +kernel) (q_gV gw445 gw446 gw447 gw71 gw444) ⟨by decide, by decide⟩ (ddX4_standingOf (12, .invokevirtual 107, 3) (List.mem_of_getElem? (i := 8) rfl)) ?_
  refine k_ifeq h (ddX4_standingOf (15, .ifCond .eq 12, 3) (List.mem_of_getElem? (i := 9) rfl)) (tgt := 27) (by decide) ?_ ?_
  · exact sX4_standingOf_27 hl hQ h
  · exact sX4_standingOf_18 hl hQ h
theorem sX4_standingOf_0 {l : Launch} {X : q_CX} (hl : X.2.1 = l) (hQ : q_QM X) (h : q_OK X yX4_standingOf cX4_standingOf 4 (some .int) rmX4_standingOf (Cond.code yX4_standingOf cX4_standingOf 4 (some .int) :: q_G)) : q_SK X 4 0 (BX4_standingOf_0) := by
  refine k_aload_n (i := 0) h (ddX4_standingOf (0, .aload_n 0, 1) (List.mem_of_getElem? (i := 0) rfl)) rfl ?_
  refine k_iconst (v := 0) h (ddX4_standingOf (1, .iconst 0, 1) (List.mem_of_getElem? (i := 1) rfl)) (by decide) ?_
  refine k_iload_n (i := 1) h (ddX4_standingOf (2, .iload_n 1, 1) (List.mem_of_getElem? (i := 2) rfl)) rfl ?_
  refine k_callV h hl (aX4_canStand l) (ci := 4) (C := RX4) (T := TX4) (N := 14) rfl ⟨rfl, rfl⟩ (n := 2) (by decide +kernel) (q_gV gw445 gw446 gw447 gw71 gw444) ⟨by decide, by decide⟩ (ddX4_standingOf (3, .invokevirtual 107, 3) (List.mem_of_getElem? (i := 3) rfl)) ?_
  refine k_ifeq h (ddX4_standingOf (6, .ifCond .eq 21, 3) (List.mem_of_getElem? (i := 4) rfl)) (tgt := 27) (by decide) ?_ ?_
  · exact sX4_standingOf_27 hl hQ h
  · exact sX4_standingOf_9 hl hQ h
theorem aX4_standingOf (l : Launch) (as : List Value) (sh : q_Sh) (m : q_Mm) (R : q_KR) (hw : wX4_standingOf as sh m R) : q_AM l yX4_standingOf (Cond.code yX4_standingOf cX4_standingOf 4 (some .int) :: q_G) rmX4_standingOf as sh m R := by
  refine q_met (code := TX4_standingOf) (by decide) (fun X hl hQ _ h pc => ?_) hw.1 hw.2
  unfold TX4_standingOf
  exact k_at (sX4_standingOf_0 hl hQ h) (k_no)
/-! TumblingRock$Rock.stepsTillStanding(II)I -/
abbrev dlX4_stepsTillStanding : List (Nat × (Instr × Nat)) := [(0, .iload_n 1, 1), (1, .istore_n 3, 1), (2, .iconst 0, 1), (3, .istore 4, 2), (5, .iload 4, 2), (7, .aload_n 0, 1), (8, .getfield 73, 3), (11, .if_icmp .ge 23, 3), (14, .iload_n 3, 1), (15, .iload_n 2, 1), (16, .if_icmp .ne 6, 3), (19, .iload 4, 2), (21, .ireturn, 1), (22, .aload_n 0, 1), (23, .iload_n 3, 1), (24, .invokevirtual 126, 3), (27, .istore_n 3, 1), (28, .iinc 4 1, 3), (31, .goto (-26), 3), (34, .iconst (-1), 1), (35, .ireturn, 1)]
theorem ddX4_stepsTillStanding : ∀ q ∈ dlX4_stepsTillStanding, decode cX4_stepsTillStanding q.1 = .ok q.2 := by decide +kernel
theorem sX4_stepsTillStanding_0 {l : Launch} {X : q_CX} (hl : X.2.1 = l) (hQ : q_QM X) (h : q_OK X yX4_stepsTillStanding cX4_stepsTillStanding 5 (some .int) rmX4_stepsTillStanding (Cond.code yX4_stepsTillStanding cX4_stepsTillStanding 5 (some .int) :: q_G)) : q_SK X 5 0 (BX4_stepsTillStanding_0) := by
  refine k_iload_n (i := 1) h (ddX4_stepsTillStanding (0, .iload_n 1, 1) (List.mem_of_getElem? (i := 0) rfl)) rfl ?_
  refine k_istore_n (i := 3) h (ddX4_stepsTillStanding (1, .istore_n 3, 1) (List.mem_of_getElem? (i := 1) rfl)) rfl (by decide) ?_
  refine k_iconst (v := 0) h (ddX4_stepsTillStanding (2, .iconst 0, 1) (List.mem_of_getElem? (i := 2) rfl)) (by decide) ?_
  refine k_istore (i := 4) h (ddX4_stepsTillStanding (3, .istore 4, 2) (List.mem_of_getElem? (i := 3) rfl)) (by decide) ?_
  exact k_cut
theorem sX4_stepsTillStanding_34 {l : Launch} {X : q_CX} (hl : X.2.1 = l) (hQ : q_QM X) (h : q_OK X yX4_stepsTillStanding cX4_stepsTillStanding 5 (some .int) rmX4_stepsTillStanding (Cond.code yX4_stepsTillStanding cX4_stepsTillStanding 5 (some .int) :: q_G)) : q_SK X 5 34 (BX4_stepsTillStanding_34) := by
  refine k_iconst (v := (-1)) h (ddX4_stepsTillStanding (34, .iconst (-1), 1) (List.mem_of_getElem? (i := 19) rfl)) (by decide) ?_
  exact k_iret h hQ (ddX4_stepsTillStanding (35, .ireturn, 1) (List.mem_of_getElem? (i := 20) rfl))
theorem sX4_stepsTillStanding_22 {l : Launch} {X : q_CX} (hl : X.2.1 = l) (hQ : q_QM X) (h : q_OK X yX4_stepsTillStanding cX4_stepsTillStanding 5 (some .int) rmX4_stepsTillStanding (Cond.code yX4_stepsTillStanding cX4_stepsTillStanding 5 (some .int) :: q_G)) : q_SK X 5 22 (BX4_stepsTillStanding_22) := by
  refine k_aload_n (i := 0) h (ddX4_stepsTillStanding (22, .aload_n 0, 1) (List.mem_of_getElem? (i := 13) rfl)) rfl ?_
  refine k_iload_n (i := 3) h (ddX4_stepsTillStanding (23, .iload_n 3, 1) (List.mem_of_getElem? (i := 14) rfl)) rfl ?_
  refine k_callV h hl (aX4_stepLater l) (ci := 4) (C := RX4) (T := TX4) (N := 14) rfl ⟨rfl, rfl⟩ (n := 1) (by decide +kernel) (q_gV gw355 gw356 gw357 gw71 gw354) ⟨by decide, by decide⟩ (ddX4_stepsTillStanding (24, .invokevirtual 126, 3) (List.mem_of_getElem? (i := 15) rfl)) ?_
  refine k_istore_n (i := 3) h (ddX4_stepsTillStanding (27, .istore_n 3, 1) (List.mem_of_getElem? (i := 16) rfl)) rfl (by decide) ?_
  refine k_iinc (d := 1) h (ddX4_stepsTillStanding (28, .iinc 4 1, 3) (List.mem_of_getElem? (i := 17) rfl)) (by decide) (by decide) ?_
  refine k_goto h (ddX4_stepsTillStanding (31, .goto (-26), 3) (List.mem_of_getElem? (i := 18) rfl)) (tgt := 5) (by decide) ?_
  exact k_cut
theorem sX4_stepsTillStanding_19 {l : Launch} {X : q_CX} (hl : X.2.1 = l) (hQ : q_QM X) (h : q_OK X yX4_stepsTillStanding cX4_stepsTillStanding 5 (some .int) rmX4_stepsTillStanding (Cond.code yX4_stepsTillStanding cX4_stepsTillStanding 5 (some .int) :: q_G)) : q_SK X 5 19 (BX4_stepsTillStanding_19) := by
  refine k_iload (i := 4) h (ddX4_stepsTillStanding (19, .iload 4, 2) (List.mem_of_getElem? (i := 11) rfl)) ?_
  exact k_iret h hQ (ddX4_stepsTillStanding (21, .ireturn, 1) (List.mem_of_getElem? (i := 12) rfl))
theorem sX4_stepsTillStanding_14 {l : Launch} {X : q_CX} (hl : X.2.1 = l) (hQ : q_QM X) (h : q_OK X yX4_stepsTillStanding cX4_stepsTillStanding 5 (some .int) rmX4_stepsTillStanding (Cond.code yX4_stepsTillStanding cX4_stepsTillStanding 5 (some .int) :: q_G)) : q_SK X 5 14 (BX4_stepsTillStanding_14) := by
  refine k_iload_n (i := 3) h (ddX4_stepsTillStanding (14, .iload_n 3, 1) (List.mem_of_getElem? (i := 8) rfl)) rfl ?_
  refine k_iload_n (i := 2) h (ddX4_stepsTillStanding (15, .iload_n 2, 1) (List.mem_of_getElem? (i := 9) rfl)) rfl ?_
  refine k_icne h (ddX4_stepsTillStanding (16, .if_icmp .ne 6, 3) (List.mem_of_getElem? (i := 10) rfl)) (tgt := 22) (by decide) ?_ ?_
  · exact sX4_stepsTillStanding_22 hl hQ h
  · exact sX4_stepsTillStanding_19 hl hQ h
theorem sX4_stepsTillStanding_5 {l : Launch} {X : q_CX} (hl : X.2.1 = l) (hQ : q_QM X) (h : q_OK X yX4_stepsTillStanding cX4_stepsTillStanding 5 (some .int) rmX4_stepsTillStanding (Cond.code yX4_stepsTillStanding cX4_stepsTillStanding 5 (some .int) :: q_G)) : q_SK X 5 5 (BX4_stepsTillStanding_5) := by
  refine k_iload (i := 4) h (ddX4_stepsTillStanding (5, .iload 4, 2) (List.mem_of_getElem? (i := 4) rfl)) ?_
  refine k_aload_n (i := 0) h (ddX4_stepsTillStanding (7, .aload_n 0, 1) (List.mem_of_getElem? (i := 5) rfl)) rfl ?_
  refine k_getf (ci := 4) (j := 5) (C := RX4) (T := TX4) (N := 14) h rfl (fun w hw => List.mem_cons_of_mem _ (q_inX4 w hw)) (by decide) (List.mem_cons_of_mem _ gw97) (ddX4_stepsTillStanding (8, .getfield 73, 3) (List.mem_of_getElem? (i := 6) rfl)) ?_
  refine k_icge h (ddX4_stepsTillStanding (11, .if_icmp .ge 23, 3) (List.mem_of_getElem? (i := 7) rfl)) (tgt := 34) (by decide) ?_ ?_
  · exact sX4_stepsTillStanding_34 hl hQ h
  · exact sX4_stepsTillStanding_14 hl hQ h
theorem aX4_stepsTillStanding (l : Launch) (as : List Value) (sh : q_Sh) (m : q_Mm) (R : q_KR) (hw : wX4_stepsTillStanding as sh m R) : q_AM l yX4_stepsTillStanding (Cond.code yX4_stepsTillStanding cX4_stepsTillStanding 5 (some .int) :: q_G) rmX4_stepsTillStanding as sh m R := by
  refine q_met (code := TX4_stepsTillStanding) (by decide) (fun X hl hQ _ h pc => ?_) hw.1 hw.2
  unfold TX4_stepsTillStanding
  exact k_at (sX4_stepsTillStanding_0 hl hQ h) (k_at (sX4_stepsTillStanding_5 hl hQ h) (k_no))
/-! TumblingRock.stand(IIII)I -/
abbrev dlX8_stand : List (Nat × (Instr × Nat)) := [(0, .iload_n 1, 1), (1, .iload_n 2, 1), (2, .iload_n 3, 1), (3, .invokestatic 213, 3), (6, .ifCond .eq 11, 3), (9, .iload 4, 2), (11, .invokestatic 176, 3), (14, .ifCond .ne 6, 3), (17, .ldc 82, 2), (19, .ireturn, 1), (20, .aload_n 0, 1), (21, .getfield 71, 3), (24, .aload_n 0, 1), (25, .iload 4, 2), (27, .invokevirtual 136, 3), (30, .aload_n 0, 1), (31, .getfield 71, 3), (34, .iload_n 1, 1), (35, .iload_n 2, 1), (36, .iload_n 3, 1), (37, .invokevirtual 216, 3), (40, .invokevirtual 219, 3), (43, .istore 5, 2), (45, .iload 5, 2), (47, .iconst (-1), 1), (48, .if_icmp .ne 7, 3), (51, .iconst (-1), 1), (52, .goto 8, 3), (55, .iload 4, 2), (57, .iload 5, 2), (59, .iadd, 1), (60, .ireturn, 1)]
theorem ddX8_stand : ∀ q ∈ dlX8_stand, decode cX8_stand q.1 = .ok q.2 := by decide +kernel
theorem sX8_stand_17 {l : Launch} {X : q_CX} (hl : X.2.1 = l) (hQ : q_QM X) (h : q_OK X yX8_stand cX8_stand 6 (some .int) rmX8_stand (Cond.code yX8_stand cX8_stand 6 (some .int) :: q_G)) : q_SK X 6 17 (BX8_stand_17) := by
  refine k_ldc (v := (-1000000002)) h (ddX8_stand (17, .ldc 82, 2) (List.mem_of_getElem? (i := 8) rfl)) (List.mem_cons_of_mem _ gw140) ?_
  exact k_iret h hQ (ddX8_stand (19, .ireturn, 1) (List.mem_of_getElem? (i := 9) rfl))
theorem sX8_stand_60 {l : Launch} {X : q_CX} (hl : X.2.1 = l) (hQ : q_QM X) (h : q_OK X yX8_stand cX8_stand 6 (some .int) rmX8_stand (Cond.code yX8_stand cX8_stand 6 (some .int) :: q_G)) : q_SK X 6 60 (BX8_stand_60) := by
  exact k_iret h hQ (ddX8_stand (60, .ireturn, 1) (List.mem_of_getElem? (i := 31) rfl))
theorem sX8_stand_55 {l : Launch} {X : q_CX} (hl : X.2.1 = l) (hQ : q_QM X) (h : q_OK X yX8_stand cX8_stand 6 (some .int) rmX8_stand (Cond.code yX8_stand cX8_stand 6 (some .int) :: q_G)) : q_SK X 6 55 (BX8_stand_55) := by
  refine k_iload (i := 4) h (ddX8_stand (55, .iload 4, 2) (List.mem_of_getElem? (i := 28) rfl)) ?_
  refine k_iload (i := 5) h (ddX8_stand (57, .iload 5, 2) (List.mem_of_getElem? (i := 29) rfl)) ?_
  refine k_iadd h (ddX8_stand (59, .iadd, 1) (List.mem_of_getElem? (i := 30) rfl)) ?_
  exact sX8_stand_60 hl hQ h
theorem sX8_stand_51 {l : Launch} {X : q_CX} (hl : X.2.1 = l) (hQ : q_QM X) (h : q_OK X yX8_stand cX8_stand 6 (some .int) rmX8_stand (Cond.code yX8_stand cX8_stand 6 (some .int) :: q_G)) : q_SK X 6 51 (BX8_stand_51) := by
  refine k_iconst (v := (-1)) h (ddX8_stand (51, .iconst (-1), 1) (List.mem_of_getElem? (i := 26) rfl)) (by decide) ?_
  refine k_goto h (ddX8_stand (52, .goto 8, 3) (List.mem_of_getElem? (i := 27) rfl)) (tgt := 60) (by decide) ?_
  exact sX8_stand_60 hl hQ h
theorem sX8_stand_20 {l : Launch} {X : q_CX} (hl : X.2.1 = l) (hQ : q_QM X) (h : q_OK X yX8_stand cX8_stand 6 (some .int) rmX8_stand (Cond.code yX8_stand cX8_stand 6 (some .int) :: q_G)) : q_SK X 6 20 (BX8_stand_20) := by
  refine k_aload_n (i := 0) h (ddX8_stand (20, .aload_n 0, 1) (List.mem_of_getElem? (i := 10) rfl)) rfl ?_
  refine k_getf (ci := 8) (j := 9) (C := RX8) (T := TX8) (N := 11) h rfl (fun w hw => List.mem_cons_of_mem _ (q_inX8 w hw)) (by decide) (List.mem_cons_of_mem _ gw135) (ddX8_stand (21, .getfield 71, 3) (List.mem_of_getElem? (i := 11) rfl)) ?_
  refine k_aload_n (i := 0) h (ddX8_stand (24, .aload_n 0, 1) (List.mem_of_getElem? (i := 12) rfl)) rfl ?_
  refine k_iload (i := 4) h (ddX8_stand (25, .iload 4, 2) (List.mem_of_getElem? (i := 13) rfl)) ?_
  refine k_callV h hl (aX8_standingAt l) (ci := 8) (C := RX8) (T := TX8) (N := 11) rfl ⟨rfl, rfl⟩ (n := 1) (by decide +kernel) (q_gV gw325 gw326 gw327 gw91 gw324) ⟨by decide, by decide⟩ (ddX8_stand (27, .invokevirtual 136, 3) (List.mem_of_getElem? (i := 14) rfl)) ?_
  refine k_aload_n (i := 0) h (ddX8_stand (30, .aload_n 0, 1) (List.mem_of_getElem? (i := 15) rfl)) rfl ?_
  refine k_getf (ci := 8) (j := 9) (C := RX8) (T := TX8) (N := 11) h rfl (fun w hw => List.mem_cons_of_mem _ (q_inX8 w hw)) (by decide) (List.mem_cons_of_mem _ gw135) (ddX8_stand (31, .getfield 71, 3) (List.mem_of_getElem? (i := 16) rfl)) ?_
  refine k_iload_n (i := 1) h (ddX8_stand (34, .iload_n 1, 1) (List.mem_of_getElem? (i := 17) rfl)) rfl ?_
  refine k_iload_n (i := 2) h (ddX8_stand (35, .iload_n 2, 1) (List.mem_of_getElem? (i := 18) rfl)) rfl ?_
  refine k_iload_n (i := 3) h (ddX8_stand (36, .iload_n 3, 1) (List.mem_of_getElem? (i := 19) rfl)) rfl ?_
  refine k_callV h hl (aX4_standingOf l) (ci := 4) (C := RX4) (T := TX4) (N := 14) rfl ⟨rfl, rfl⟩ (n := 3) (by decide +kernel) (q_gV gw449 gw450 gw451 gw71 gw448) ⟨by decide, by decide⟩ (ddX8_stand (37, .invokevirtual 216, 3) (List.mem_of_getElem? (i := 20) rfl)) ?_
  refine k_callV h hl (aX4_stepsTillStanding l) (ci := 4) (C := RX4) (T := TX4) (N := 14) rfl ⟨rfl, rfl⟩ (n := 2) (by decide +kernel) (q_gV gw453 gw454 gw455 gw71 gw452) ⟨by decide, by decide⟩ (ddX8_stand (40, .invokevirtual 219, 3) (List.mem_of_getElem? (i := 21) rfl)) ?_
  refine k_istore (i := 5) h (ddX8_stand (43, .istore 5, 2) (List.mem_of_getElem? (i := 22) rfl)) (by decide) ?_
  refine k_iload (i := 5) h (ddX8_stand (45, .iload 5, 2) (List.mem_of_getElem? (i := 23) rfl)) ?_
  refine k_iconst (v := (-1)) h (ddX8_stand (47, .iconst (-1), 1) (List.mem_of_getElem? (i := 24) rfl)) (by decide) ?_
  refine k_icne h (ddX8_stand (48, .if_icmp .ne 7, 3) (List.mem_of_getElem? (i := 25) rfl)) (tgt := 55) (by decide) ?_ ?_
  · exact sX8_stand_55 hl hQ h
  · exact sX8_stand_51 hl hQ h
theorem sX8_stand_9 {l : Launch} {X : q_CX} (hl : X.2.1 = l) (hQ : q_QM X) (h : q_OK X yX8_stand cX8_stand 6 (some .int) rmX8_stand (Cond.code yX8_stand cX8_stand 6 (some .int) :: q_G)) : q_SK X 6 9 (BX8_stand_9) := by
  refine k_iload (i := 4) h (ddX8_stand (9, .iload 4, 2) (List.mem_of_getElem? (i := 5) rfl)) ?_
  refine k_callS h hl (aX8_isStep l) ⟨rfl, rfl⟩ (n := 1) (by decide +kernel) (q_gS gw370 gw369 gw91 gw368) ⟨by decide, by decide⟩ (ddX8_stand (11, .invokestatic 176, 3) (List.mem_of_getElem? (i := 6) rfl)) ?_
  refine k_ifne h (ddX8_stand (14, .ifCond .ne 6, 3) (List.mem_of_getElem? (i := 7) rfl)) (tgt := 20) (by decide) ?_ ?_
  · exact sX8_stand_20 hl hQ h
  · exact sX8_stand_17 hl hQ h
theorem sX8_stand_0 {l : Launch} {X : q_CX} (hl : X.2.1 = l) (hQ : q_QM X) (h : q_OK X yX8_stand cX8_stand 6 (some .int) rmX8_stand (Cond.code yX8_stand cX8_stand 6 (some .int) :: q_G)) : q_SK X 6 0 (BX8_stand_0) := by
  refine k_iload_n (i := 1) h (ddX8_stand (0, .iload_n 1, 1) (List.mem_of_getElem? (i := 0) rfl)) rfl ?_
  refine k_iload_n (i := 2) h (ddX8_stand (1, .iload_n 2, 1) (List.mem_of_getElem? (i := 1) rfl)) rfl ?_
  refine k_iload_n (i := 3) h (ddX8_stand (2, .iload_n 3, 1) (List.mem_of_getElem? (i := 2) rfl)) rfl ?_
  refine k_callS h hl (aX8_areShifts l) ⟨rfl, rfl⟩ (n := 3) (by decide +kernel) (q_gS gw443 gw442 gw91 gw441) ⟨by decide, by decide⟩ (ddX8_stand (3, .invokestatic 213, 3) (List.mem_of_getElem? (i := 3) rfl)) ?_
  refine k_ifeq h (ddX8_stand (6, .ifCond .eq 11, 3) (List.mem_of_getElem? (i := 4) rfl)) (tgt := 17) (by decide) ?_ ?_
  · exact sX8_stand_17 hl hQ h
  · exact sX8_stand_9 hl hQ h
theorem aX8_stand (l : Launch) (as : List Value) (sh : q_Sh) (m : q_Mm) (R : q_KR) (hw : wX8_stand as sh m R) : q_AM l yX8_stand (Cond.code yX8_stand cX8_stand 6 (some .int) :: q_G) rmX8_stand as sh m R := by
  refine q_met (code := TX8_stand) (by decide) (fun X hl hQ _ h pc => ?_) hw.1 hw.2
  unfold TX8_stand
  exact k_at (sX8_stand_0 hl hQ h) (k_no)
/-! TumblingRock$Route.mostLight(II)I -/
abbrev dlX5_mostLight : List (Nat × (Instr × Nat)) := [(0, .aload_n 0, 1), (1, .getfield 9, 3), (4, .iload_n 1, 1), (5, .bipush 8, 2), (7, .imul, 1), (8, .iload_n 2, 1), (9, .iadd, 1), (10, .invokestatic 54, 3), (13, .ireturn, 1)]
theorem ddX5_mostLight : ∀ q ∈ dlX5_mostLight, decode cX5_mostLight q.1 = .ok q.2 := by decide +kernel
theorem sX5_mostLight_0 {l : Launch} {X : q_CX} (hl : X.2.1 = l) (hQ : q_QM X) (h : q_OK X yX5_mostLight cX5_mostLight 3 (some .int) rmX5_mostLight (Cond.code yX5_mostLight cX5_mostLight 3 (some .int) :: q_G)) : q_SK X 3 0 (BX5_mostLight_0) := by
  refine k_aload_n (i := 0) h (ddX5_mostLight (0, .aload_n 0, 1) (List.mem_of_getElem? (i := 0) rfl)) rfl ?_
  refine k_getf (ci := 5) (j := 0) (C := RX5) (T := TX5) (N := 2) h rfl (fun w hw => List.mem_cons_of_mem _ (q_inX5 w hw)) (by decide) (List.mem_cons_of_mem _ gw47) (ddX5_mostLight (1, .getfield 9, 3) (List.mem_of_getElem? (i := 1) rfl)) ?_
  refine k_iload_n (i := 1) h (ddX5_mostLight (4, .iload_n 1, 1) (List.mem_of_getElem? (i := 2) rfl)) rfl ?_
  refine k_bipush (v := 8) h (ddX5_mostLight (5, .bipush 8, 2) (List.mem_of_getElem? (i := 3) rfl)) (by decide) ?_
  refine k_imul h (ddX5_mostLight (7, .imul, 1) (List.mem_of_getElem? (i := 4) rfl)) ?_
  refine k_iload_n (i := 2) h (ddX5_mostLight (8, .iload_n 2, 1) (List.mem_of_getElem? (i := 5) rfl)) rfl ?_
  refine k_iadd h (ddX5_mostLight (9, .iadd, 1) (List.mem_of_getElem? (i := 6) rfl)) ?_
  refine k_callN h hl (aX8_at l) ⟨rfl, rfl⟩ (n := 2) (by decide +kernel) (q_gN gw98) (by decide +kernel) (List.mem_cons_of_mem _ gw91) (List.mem_cons_of_mem _ gw99) ⟨by decide, by decide⟩ (ddX5_mostLight (10, .invokestatic 54, 3) (List.mem_of_getElem? (i := 7) rfl)) ?_
  exact k_iret h hQ (ddX5_mostLight (13, .ireturn, 1) (List.mem_of_getElem? (i := 8) rfl))
theorem aX5_mostLight (l : Launch) (as : List Value) (sh : q_Sh) (m : q_Mm) (R : q_KR) (hw : wX5_mostLight as sh m R) : q_AM l yX5_mostLight (Cond.code yX5_mostLight cX5_mostLight 3 (some .int) :: q_G) rmX5_mostLight as sh m R := by
  refine q_met (code := TX5_mostLight) (by decide) (fun X hl hQ _ h pc => ?_) hw.1 hw.2
  unfold TX5_mostLight
  exact k_at (sX5_mostLight_0 hl hQ h) (k_no)
/-! TumblingRock$Route.lightBy(II)I -/
abbrev dlX5_lightBy : List (Nat × (Instr × Nat)) := [(0, .aload_n 0, 1), (1, .getfield 15, 3), (4, .iload_n 1, 1), (5, .iconst 1, 1), (6, .iadd, 1), (7, .invokestatic 54, 3), (10, .iload_n 2, 1), (11, .invokestatic 42, 3), (14, .aload_n 0, 1), (15, .iload_n 1, 1), (16, .iconst 1, 1), (17, .iadd, 1), (18, .iload_n 2, 1), (19, .invokevirtual 58, 3), (22, .iadd, 1), (23, .ireturn, 1)]
theorem ddX5_lightBy : ∀ q ∈ dlX5_lightBy, decode cX5_lightBy q.1 = .ok q.2 := by decide +kernel
theorem sX5_lightBy_0 {l : Launch} {X : q_CX} (hl : X.2.1 = l) (hQ : q_QM X) (h : q_OK X yX5_lightBy cX5_lightBy 3 (some .int) rmX5_lightBy (Cond.code yX5_lightBy cX5_lightBy 3 (some .int) :: q_G)) : q_SK X 3 0 (BX5_lightBy_0) := by
  refine k_aload_n (i := 0) h (ddX5_lightBy (0, .aload_n 0, 1) (List.mem_of_getElem? (i := 0) rfl)) rfl ?_
  refine k_getf (ci := 5) (j := 1) (C := RX5) (T := TX5) (N := 2) h rfl (fun w hw => List.mem_cons_of_mem _ (q_inX5 w hw)) (by decide) (List.mem_cons_of_mem _ gw48) (ddX5_lightBy (1, .getfield 15, 3) (List.mem_of_getElem? (i := 1) rfl)) ?_
  refine k_iload_n (i := 1) h (ddX5_lightBy (4, .iload_n 1, 1) (List.mem_of_getElem? (i := 2) rfl)) rfl ?_
  refine k_iconst (v := 1) h (ddX5_lightBy (5, .iconst 1, 1) (List.mem_of_getElem? (i := 3) rfl)) (by decide) ?_
  refine k_iadd h (ddX5_lightBy (6, .iadd, 1) (List.mem_of_getElem? (i := 4) rfl)) ?_
  refine k_callN h hl (aX8_at l) ⟨rfl, rfl⟩ (n := 2) (by decide +kernel) (q_gN gw98) (by decide +kernel) (List.mem_cons_of_mem _ gw91) (List.mem_cons_of_mem _ gw99) ⟨by decide, by decide⟩ (ddX5_lightBy (7, .invokestatic 54, 3) (List.mem_of_getElem? (i := 5) rfl)) ?_
  refine k_iload_n (i := 2) h (ddX5_lightBy (10, .iload_n 2, 1) (List.mem_of_getElem? (i := 6) rfl)) rfl ?_
  refine k_callN h hl (aX8_bit l) ⟨rfl, rfl⟩ (n := 2) (by decide +kernel) (q_gN gw255) (by decide +kernel) (List.mem_cons_of_mem _ gw91) (List.mem_cons_of_mem _ gw256) ⟨by decide, by decide⟩ (ddX5_lightBy (11, .invokestatic 42, 3) (List.mem_of_getElem? (i := 7) rfl)) ?_
  refine k_aload_n (i := 0) h (ddX5_lightBy (14, .aload_n 0, 1) (List.mem_of_getElem? (i := 8) rfl)) rfl ?_
  refine k_iload_n (i := 1) h (ddX5_lightBy (15, .iload_n 1, 1) (List.mem_of_getElem? (i := 9) rfl)) rfl ?_
  refine k_iconst (v := 1) h (ddX5_lightBy (16, .iconst 1, 1) (List.mem_of_getElem? (i := 10) rfl)) (by decide) ?_
  refine k_iadd h (ddX5_lightBy (17, .iadd, 1) (List.mem_of_getElem? (i := 11) rfl)) ?_
  refine k_iload_n (i := 2) h (ddX5_lightBy (18, .iload_n 2, 1) (List.mem_of_getElem? (i := 12) rfl)) rfl ?_
  refine k_callV h hl (aX5_mostLight l) (ci := 5) (C := RX5) (T := TX5) (N := 2) rfl ⟨rfl, rfl⟩ (n := 2) (by decide +kernel) (q_gV gw461 gw462 gw463 gw45 gw460) ⟨by decide, by decide⟩ (ddX5_lightBy (19, .invokevirtual 58, 3) (List.mem_of_getElem? (i := 13) rfl)) ?_
  refine k_iadd h (ddX5_lightBy (22, .iadd, 1) (List.mem_of_getElem? (i := 14) rfl)) ?_
  exact k_iret h hQ (ddX5_lightBy (23, .ireturn, 1) (List.mem_of_getElem? (i := 15) rfl))
theorem aX5_lightBy (l : Launch) (as : List Value) (sh : q_Sh) (m : q_Mm) (R : q_KR) (hw : wX5_lightBy as sh m R) : q_AM l yX5_lightBy (Cond.code yX5_lightBy cX5_lightBy 3 (some .int) :: q_G) rmX5_lightBy as sh m R := by
  refine q_met (code := TX5_lightBy) (by decide) (fun X hl hQ _ h pc => ?_) hw.1 hw.2
  unfold TX5_lightBy
  exact k_at (sX5_lightBy_0 hl hQ h) (k_no)
/-! TumblingRock$Route.bestFrom(LTumblingRock$Rock;II)I -/
abbrev dlX5_bestFrom : List (Nat × (Instr × Nat)) := [(0, .iconst 0, 1), (1, .istore 4, 2), (3, .aload_n 1, 1), (4, .iload_n 3, 1), (5, .invokevirtual 39, 3), (8, .iconst 1, 1), (9, .iload_n 3, 1), (10, .ishl, 1), (11, .ior, 1), (12, .istore 5, 2), (14, .iconst 0, 1), (15, .istore 6, 2), (17, .iload 6, 2), (19, .aload_n 1, 1), (20, .getfield 31, 3), (23, .if_icmp .ge 34, 3), (26, .iload 5, 2), (28, .iload 6, 2), (30, .invokestatic 42, 3), (33, .iconst 1, 1), (34, .if_icmp .ne 17, 3), (37, .iload 4, 2), (39, .aload_n 0, 1), (40, .iload_n 2, 1), (41, .iload 6, 2), (43, .invokevirtual 46, 3), (46, .invokestatic 49, 3), (49, .istore 4, 2), (51, .iinc 6 1, 3), (54, .goto (-37), 3), (57, .iload 4, 2), (59, .ireturn, 1)]
theorem ddX5_bestFrom : ∀ q ∈ dlX5_bestFrom, decode cX5_bestFrom q.1 = .ok q.2 := by decide +kernel
theorem sX5_bestFrom_0 {l : Launch} {X : q_CX} (hl : X.2.1 = l) (hQ : q_QM X) (h : q_OK X yX5_bestFrom cX5_bestFrom 7 (some .int) rmX5_bestFrom (Cond.code yX5_bestFrom cX5_bestFrom 7 (some .int) :: q_G)) : q_SK X 7 0 (BX5_bestFrom_0) := by
  refine k_iconst (v := 0) h (ddX5_bestFrom (0, .iconst 0, 1) (List.mem_of_getElem? (i := 0) rfl)) (by decide) ?_
  refine k_istore (i := 4) h (ddX5_bestFrom (1, .istore 4, 2) (List.mem_of_getElem? (i := 1) rfl)) (by decide) ?_
  refine k_aload_n (i := 1) h (ddX5_bestFrom (3, .aload_n 1, 1) (List.mem_of_getElem? (i := 2) rfl)) rfl ?_
  refine k_iload_n (i := 3) h (ddX5_bestFrom (4, .iload_n 3, 1) (List.mem_of_getElem? (i := 3) rfl)) rfl ?_
  refine k_callV h hl (aX4_road l) (ci := 4) (C := RX4) (T := TX4) (N := 14) rfl ⟨rfl, rfl⟩ (n := 1) (by decide +kernel) (q_gV gw459 gw253 gw254 gw71 gw251) ⟨by decide, by decide⟩ (ddX5_bestFrom (5, .invokevirtual 39, 3) (List.mem_of_getElem? (i := 4) rfl)) ?_
  refine k_iconst (v := 1) h (ddX5_bestFrom (8, .iconst 1, 1) (List.mem_of_getElem? (i := 5) rfl)) (by decide) ?_
  refine k_iload_n (i := 3) h (ddX5_bestFrom (9, .iload_n 3, 1) (List.mem_of_getElem? (i := 6) rfl)) rfl ?_
  refine k_ishl h (ddX5_bestFrom (10, .ishl, 1) (List.mem_of_getElem? (i := 7) rfl)) ?_
  refine k_ior h (ddX5_bestFrom (11, .ior, 1) (List.mem_of_getElem? (i := 8) rfl)) ?_
  refine k_istore (i := 5) h (ddX5_bestFrom (12, .istore 5, 2) (List.mem_of_getElem? (i := 9) rfl)) (by decide) ?_
  refine k_iconst (v := 0) h (ddX5_bestFrom (14, .iconst 0, 1) (List.mem_of_getElem? (i := 10) rfl)) (by decide) ?_
  refine k_istore (i := 6) h (ddX5_bestFrom (15, .istore 6, 2) (List.mem_of_getElem? (i := 11) rfl)) (by decide) ?_
  exact k_cut
theorem sX5_bestFrom_57 {l : Launch} {X : q_CX} (hl : X.2.1 = l) (hQ : q_QM X) (h : q_OK X yX5_bestFrom cX5_bestFrom 7 (some .int) rmX5_bestFrom (Cond.code yX5_bestFrom cX5_bestFrom 7 (some .int) :: q_G)) : q_SK X 7 57 (BX5_bestFrom_57) := by
  refine k_iload (i := 4) h (ddX5_bestFrom (57, .iload 4, 2) (List.mem_of_getElem? (i := 30) rfl)) ?_
  exact k_iret h hQ (ddX5_bestFrom (59, .ireturn, 1) (List.mem_of_getElem? (i := 31) rfl))
theorem sX5_bestFrom_51 {l : Launch} {X : q_CX} (hl : X.2.1 = l) (hQ : q_QM X) (h : q_OK X yX5_bestFrom cX5_bestFrom 7 (some .int) rmX5_bestFrom (Cond.code yX5_bestFrom cX5_bestFrom 7 (some .int) :: q_G)) : q_SK X 7 51 (BX5_bestFrom_51) := by
  refine k_iinc (d := 1) h (ddX5_bestFrom (51, .iinc 6 1, 3) (List.mem_of_getElem? (i := 28) rfl)) (by decide) (by decide) ?_
  refine k_goto h (ddX5_bestFrom (54, .goto (-37), 3) (List.mem_of_getElem? (i := 29) rfl)) (tgt := 17) (by decide) ?_
  exact k_cut
theorem sX5_bestFrom_37 {l : Launch} {X : q_CX} (hl : X.2.1 = l) (hQ : q_QM X) (h : q_OK X yX5_bestFrom cX5_bestFrom 7 (some .int) rmX5_bestFrom (Cond.code yX5_bestFrom cX5_bestFrom 7 (some .int) :: q_G)) : q_SK X 7 37 (BX5_bestFrom_37) := by
  refine k_iload (i := 4) h (ddX5_bestFrom (37, .iload 4, 2) (List.mem_of_getElem? (i := 21) rfl)) ?_
  refine k_aload_n (i := 0) h (ddX5_bestFrom (39, .aload_n 0, 1) (List.mem_of_getElem? (i := 22) rfl)) rfl ?_
  refine k_iload_n (i := 2) h (ddX5_bestFrom (40, .iload_n 2, 1) (List.mem_of_getElem? (i := 23) rfl)) rfl ?_
  refine k_iload (i := 6) h (ddX5_bestFrom (41, .iload 6, 2) (List.mem_of_getElem? (i := 24) rfl)) ?_
  refine k_callV h hl (aX5_lightBy l) (ci := 5) (C := RX5) (T := TX5) (N := 2) rfl ⟨rfl, rfl⟩ (n := 2) (by decide +kernel) (q_gV gw465 gw466 gw467 gw45 gw464) ⟨by decide, by decide⟩ (ddX5_bestFrom (43, .invokevirtual 46, 3) (List.mem_of_getElem? (i := 25) rfl)) ?_
  refine k_mmax h (List.mem_cons_of_mem _ gw468) (List.mem_cons_of_mem _ gw352) (List.mem_cons_of_mem _ gw301) (List.mem_cons_of_mem _ gw353) (by decide) (by decide) (ddX5_bestFrom (46, .invokestatic 49, 3) (List.mem_of_getElem? (i := 26) rfl)) ?_
  refine k_istore (i := 4) h (ddX5_bestFrom (49, .istore 4, 2) (List.mem_of_getElem? (i := 27) rfl)) (by decide) ?_
  exact sX5_bestFrom_51 hl hQ h
theorem sX5_bestFrom_26 {l : Launch} {X : q_CX} (hl : X.2.1 = l) (hQ : q_QM X) (h : q_OK X yX5_bestFrom cX5_bestFrom 7 (some .int) rmX5_bestFrom (Cond.code yX5_bestFrom cX5_bestFrom 7 (some .int) :: q_G)) : q_SK X 7 26 (BX5_bestFrom_26) := by
  refine k_iload (i := 5) h (ddX5_bestFrom (26, .iload 5, 2) (List.mem_of_getElem? (i := 16) rfl)) ?_
  refine k_iload (i := 6) h (ddX5_bestFrom (28, .iload 6, 2) (List.mem_of_getElem? (i := 17) rfl)) ?_
  refine k_callN h hl (aX8_bit l) ⟨rfl, rfl⟩ (n := 2) (by decide +kernel) (q_gN gw255) (by decide +kernel) (List.mem_cons_of_mem _ gw91) (List.mem_cons_of_mem _ gw256) ⟨by decide, by decide⟩ (ddX5_bestFrom (30, .invokestatic 42, 3) (List.mem_of_getElem? (i := 18) rfl)) ?_
  refine k_iconst (v := 1) h (ddX5_bestFrom (33, .iconst 1, 1) (List.mem_of_getElem? (i := 19) rfl)) (by decide) ?_
  refine k_icne h (ddX5_bestFrom (34, .if_icmp .ne 17, 3) (List.mem_of_getElem? (i := 20) rfl)) (tgt := 51) (by decide) ?_ ?_
  · exact sX5_bestFrom_51 hl hQ h
  · exact sX5_bestFrom_37 hl hQ h
theorem sX5_bestFrom_17 {l : Launch} {X : q_CX} (hl : X.2.1 = l) (hQ : q_QM X) (h : q_OK X yX5_bestFrom cX5_bestFrom 7 (some .int) rmX5_bestFrom (Cond.code yX5_bestFrom cX5_bestFrom 7 (some .int) :: q_G)) : q_SK X 7 17 (BX5_bestFrom_17) := by
  refine k_iload (i := 6) h (ddX5_bestFrom (17, .iload 6, 2) (List.mem_of_getElem? (i := 12) rfl)) ?_
  refine k_aload_n (i := 1) h (ddX5_bestFrom (19, .aload_n 1, 1) (List.mem_of_getElem? (i := 13) rfl)) rfl ?_
  refine k_getf (ci := 4) (j := 1) (C := RX4) (T := TX4) (N := 14) h rfl (fun w hw => List.mem_cons_of_mem _ (q_inX4 w hw)) (by decide) (List.mem_cons_of_mem _ gw458) (ddX5_bestFrom (20, .getfield 31, 3) (List.mem_of_getElem? (i := 14) rfl)) ?_
  refine k_icge h (ddX5_bestFrom (23, .if_icmp .ge 34, 3) (List.mem_of_getElem? (i := 15) rfl)) (tgt := 57) (by decide) ?_ ?_
  · exact sX5_bestFrom_57 hl hQ h
  · exact sX5_bestFrom_26 hl hQ h
theorem aX5_bestFrom (l : Launch) (as : List Value) (sh : q_Sh) (m : q_Mm) (R : q_KR) (hw : wX5_bestFrom as sh m R) : q_AM l yX5_bestFrom (Cond.code yX5_bestFrom cX5_bestFrom 7 (some .int) :: q_G) rmX5_bestFrom as sh m R := by
  refine q_met (code := TX5_bestFrom) (by decide) (fun X hl hQ _ h pc => ?_) hw.1 hw.2
  unfold TX5_bestFrom
  exact k_at (sX5_bestFrom_0 hl hQ h) (k_at (sX5_bestFrom_17 hl hQ h) (k_no))
/-! TumblingRock$Route.weigh(LTumblingRock$Rock;II)V -/
abbrev dlX5_weigh : List (Nat × (Instr × Nat)) := [(0, .iload_n 2, 1), (1, .istore 4, 2), (3, .iconst 0, 1), (4, .istore 5, 2), (6, .iload 5, 2), (8, .iload_n 3, 1), (9, .if_icmp .gt 32, 3), (12, .aload_n 0, 1), (13, .getfield 15, 3), (16, .iload 5, 2), (18, .aload_n 1, 1), (19, .iload 4, 2), (21, .invokevirtual 18, 3), (24, .invokestatic 24, 3), (27, .aload_n 1, 1), (28, .iload 4, 2), (30, .invokevirtual 28, 3), (33, .istore 4, 2), (35, .iinc 5 1, 3), (38, .goto (-32), 3), (41, .iconst 0, 1), (42, .istore 5, 2), (44, .iload 5, 2), (46, .bipush 8, 2), (48, .if_icmp .ge 24, 3), (51, .aload_n 0, 1), (52, .getfield 9, 3), (55, .iload_n 3, 1), (56, .bipush 8, 2), (58, .imul, 1), (59, .iload 5, 2), (61, .iadd, 1), (62, .iconst 0, 1), (63, .invokestatic 24, 3), (66, .iinc 5 1, 3), (69, .goto (-25), 3), (72, .iload_n 3, 1), (73, .iconst 1, 1), (74, .isub, 1), (75, .istore 5, 2), (77, .iload 5, 2), (79, .ifCond .lt 51, 3), (82, .iconst 0, 1), (83, .istore 6, 2), (85, .iload 6, 2), (87, .aload_n 1, 1), (88, .getfield 31, 3), (91, .if_icmp .ge 33, 3), (94, .aload_n 0, 1), (95, .getfield 9, 3), (98, .iload 5, 2), (100, .bipush 8, 2), (102, .imul, 1), (103, .iload 6, 2), (105, .iadd, 1), (106, .aload_n 0, 1), (107, .aload_n 1, 1), (108, .iload 5, 2), (110, .iload 6, 2), (112, .invokevirtual 35, 3), (115, .invokestatic 24, 3), (118, .iinc 6 1, 3), (121, .goto (-36), 3), (124, .iinc 5 (-1), 3), (127, .goto (-50), 3), (130, .return_, 1)]
theorem ddX5_weigh : ∀ q ∈ dlX5_weigh, decode cX5_weigh q.1 = .ok q.2 := by decide +kernel
theorem sX5_weigh_0 {l : Launch} {X : q_CX} (hl : X.2.1 = l) (hQ : q_QM X) (h : q_OK X yX5_weigh cX5_weigh 7 none rmX5_weigh (Cond.code yX5_weigh cX5_weigh 7 none :: q_G)) : q_SK X 7 0 (BX5_weigh_0) := by
  refine k_iload_n (i := 2) h (ddX5_weigh (0, .iload_n 2, 1) (List.mem_of_getElem? (i := 0) rfl)) rfl ?_
  refine k_istore (i := 4) h (ddX5_weigh (1, .istore 4, 2) (List.mem_of_getElem? (i := 1) rfl)) (by decide) ?_
  refine k_iconst (v := 0) h (ddX5_weigh (3, .iconst 0, 1) (List.mem_of_getElem? (i := 2) rfl)) (by decide) ?_
  refine k_istore (i := 5) h (ddX5_weigh (4, .istore 5, 2) (List.mem_of_getElem? (i := 3) rfl)) (by decide) ?_
  exact k_cut
theorem sX5_weigh_41 {l : Launch} {X : q_CX} (hl : X.2.1 = l) (hQ : q_QM X) (h : q_OK X yX5_weigh cX5_weigh 7 none rmX5_weigh (Cond.code yX5_weigh cX5_weigh 7 none :: q_G)) : q_SK X 7 41 (BX5_weigh_41) := by
  refine k_iconst (v := 0) h (ddX5_weigh (41, .iconst 0, 1) (List.mem_of_getElem? (i := 20) rfl)) (by decide) ?_
  refine k_istore (i := 5) h (ddX5_weigh (42, .istore 5, 2) (List.mem_of_getElem? (i := 21) rfl)) (by decide) ?_
  exact k_cut
theorem sX5_weigh_12 {l : Launch} {X : q_CX} (hl : X.2.1 = l) (hQ : q_QM X) (h : q_OK X yX5_weigh cX5_weigh 7 none rmX5_weigh (Cond.code yX5_weigh cX5_weigh 7 none :: q_G)) : q_SK X 7 12 (BX5_weigh_12) := by
  refine k_aload_n (i := 0) h (ddX5_weigh (12, .aload_n 0, 1) (List.mem_of_getElem? (i := 7) rfl)) rfl ?_
  refine k_getf (ci := 5) (j := 1) (C := RX5) (T := TX5) (N := 2) h rfl (fun w hw => List.mem_cons_of_mem _ (q_inX5 w hw)) (by decide) (List.mem_cons_of_mem _ gw48) (ddX5_weigh (13, .getfield 15, 3) (List.mem_of_getElem? (i := 8) rfl)) ?_
  refine k_iload (i := 5) h (ddX5_weigh (16, .iload 5, 2) (List.mem_of_getElem? (i := 9) rfl)) ?_
  refine k_aload_n (i := 1) h (ddX5_weigh (18, .aload_n 1, 1) (List.mem_of_getElem? (i := 10) rfl)) rfl ?_
  refine k_iload (i := 4) h (ddX5_weigh (19, .iload 4, 2) (List.mem_of_getElem? (i := 11) rfl)) ?_
  refine k_callV h hl (aX4_litSet l) (ci := 4) (C := RX4) (T := TX4) (N := 14) rfl ⟨rfl, rfl⟩ (n := 1) (by decide +kernel) (q_gV gw456 gw330 gw331 gw71 gw328) ⟨by decide, by decide⟩ (ddX5_weigh (21, .invokevirtual 18, 3) (List.mem_of_getElem? (i := 12) rfl)) ?_
  refine k_callN h hl (aX8_put l) ⟨rfl, rfl⟩ (n := 3) (by decide +kernel) (q_gN gw143) (by decide +kernel) (List.mem_cons_of_mem _ gw91) (List.mem_cons_of_mem _ gw144) ⟨by decide, by decide⟩ (ddX5_weigh (24, .invokestatic 24, 3) (List.mem_of_getElem? (i := 13) rfl)) ?_
  refine k_aload_n (i := 1) h (ddX5_weigh (27, .aload_n 1, 1) (List.mem_of_getElem? (i := 14) rfl)) rfl ?_
  refine k_iload (i := 4) h (ddX5_weigh (28, .iload 4, 2) (List.mem_of_getElem? (i := 15) rfl)) ?_
  refine k_callV h hl (aX4_stepLater l) (ci := 4) (C := RX4) (T := TX4) (N := 14) rfl ⟨rfl, rfl⟩ (n := 1) (by decide +kernel) (q_gV gw457 gw356 gw357 gw71 gw354) ⟨by decide, by decide⟩ (ddX5_weigh (30, .invokevirtual 28, 3) (List.mem_of_getElem? (i := 16) rfl)) ?_
  refine k_istore (i := 4) h (ddX5_weigh (33, .istore 4, 2) (List.mem_of_getElem? (i := 17) rfl)) (by decide) ?_
  refine k_iinc (d := 1) h (ddX5_weigh (35, .iinc 5 1, 3) (List.mem_of_getElem? (i := 18) rfl)) (by decide) (by decide) ?_
  refine k_goto h (ddX5_weigh (38, .goto (-32), 3) (List.mem_of_getElem? (i := 19) rfl)) (tgt := 6) (by decide) ?_
  exact k_cut
theorem sX5_weigh_6 {l : Launch} {X : q_CX} (hl : X.2.1 = l) (hQ : q_QM X) (h : q_OK X yX5_weigh cX5_weigh 7 none rmX5_weigh (Cond.code yX5_weigh cX5_weigh 7 none :: q_G)) : q_SK X 7 6 (BX5_weigh_6) := by
  refine k_iload (i := 5) h (ddX5_weigh (6, .iload 5, 2) (List.mem_of_getElem? (i := 4) rfl)) ?_
  refine k_iload_n (i := 3) h (ddX5_weigh (8, .iload_n 3, 1) (List.mem_of_getElem? (i := 5) rfl)) rfl ?_
  refine k_icgt h (ddX5_weigh (9, .if_icmp .gt 32, 3) (List.mem_of_getElem? (i := 6) rfl)) (tgt := 41) (by decide) ?_ ?_
  · exact sX5_weigh_41 hl hQ h
  · exact sX5_weigh_12 hl hQ h
theorem sX5_weigh_72 {l : Launch} {X : q_CX} (hl : X.2.1 = l) (hQ : q_QM X) (h : q_OK X yX5_weigh cX5_weigh 7 none rmX5_weigh (Cond.code yX5_weigh cX5_weigh 7 none :: q_G)) : q_SK X 7 72 (BX5_weigh_72) := by
  refine k_iload_n (i := 3) h (ddX5_weigh (72, .iload_n 3, 1) (List.mem_of_getElem? (i := 36) rfl)) rfl ?_
  refine k_iconst (v := 1) h (ddX5_weigh (73, .iconst 1, 1) (List.mem_of_getElem? (i := 37) rfl)) (by decide) ?_
  refine k_isub h (ddX5_weigh (74, .isub, 1) (List.mem_of_getElem? (i := 38) rfl)) ?_
  refine k_istore (i := 5) h (ddX5_weigh (75, .istore 5, 2) (List.mem_of_getElem? (i := 39) rfl)) (by decide) ?_
  exact k_cut
theorem sX5_weigh_51 {l : Launch} {X : q_CX} (hl : X.2.1 = l) (hQ : q_QM X) (h : q_OK X yX5_weigh cX5_weigh 7 none rmX5_weigh (Cond.code yX5_weigh cX5_weigh 7 none :: q_G)) : q_SK X 7 51 (BX5_weigh_51) := by
  refine k_aload_n (i := 0) h (ddX5_weigh (51, .aload_n 0, 1) (List.mem_of_getElem? (i := 25) rfl)) rfl ?_
  refine k_getf (ci := 5) (j := 0) (C := RX5) (T := TX5) (N := 2) h rfl (fun w hw => List.mem_cons_of_mem _ (q_inX5 w hw)) (by decide) (List.mem_cons_of_mem _ gw47) (ddX5_weigh (52, .getfield 9, 3) (List.mem_of_getElem? (i := 26) rfl)) ?_
  refine k_iload_n (i := 3) h (ddX5_weigh (55, .iload_n 3, 1) (List.mem_of_getElem? (i := 27) rfl)) rfl ?_
  refine k_bipush (v := 8) h (ddX5_weigh (56, .bipush 8, 2) (List.mem_of_getElem? (i := 28) rfl)) (by decide) ?_
  refine k_imul h (ddX5_weigh (58, .imul, 1) (List.mem_of_getElem? (i := 29) rfl)) ?_
  refine k_iload (i := 5) h (ddX5_weigh (59, .iload 5, 2) (List.mem_of_getElem? (i := 30) rfl)) ?_
  refine k_iadd h (ddX5_weigh (61, .iadd, 1) (List.mem_of_getElem? (i := 31) rfl)) ?_
  refine k_iconst (v := 0) h (ddX5_weigh (62, .iconst 0, 1) (List.mem_of_getElem? (i := 32) rfl)) (by decide) ?_
  refine k_callN h hl (aX8_put l) ⟨rfl, rfl⟩ (n := 3) (by decide +kernel) (q_gN gw143) (by decide +kernel) (List.mem_cons_of_mem _ gw91) (List.mem_cons_of_mem _ gw144) ⟨by decide, by decide⟩ (ddX5_weigh (63, .invokestatic 24, 3) (List.mem_of_getElem? (i := 33) rfl)) ?_
  refine k_iinc (d := 1) h (ddX5_weigh (66, .iinc 5 1, 3) (List.mem_of_getElem? (i := 34) rfl)) (by decide) (by decide) ?_
  refine k_goto h (ddX5_weigh (69, .goto (-25), 3) (List.mem_of_getElem? (i := 35) rfl)) (tgt := 44) (by decide) ?_
  exact k_cut
theorem sX5_weigh_44 {l : Launch} {X : q_CX} (hl : X.2.1 = l) (hQ : q_QM X) (h : q_OK X yX5_weigh cX5_weigh 7 none rmX5_weigh (Cond.code yX5_weigh cX5_weigh 7 none :: q_G)) : q_SK X 7 44 (BX5_weigh_44) := by
  refine k_iload (i := 5) h (ddX5_weigh (44, .iload 5, 2) (List.mem_of_getElem? (i := 22) rfl)) ?_
  refine k_bipush (v := 8) h (ddX5_weigh (46, .bipush 8, 2) (List.mem_of_getElem? (i := 23) rfl)) (by decide) ?_
  refine k_icge h (ddX5_weigh (48, .if_icmp .ge 24, 3) (List.mem_of_getElem? (i := 24) rfl)) (tgt := 72) (by decide) ?_ ?_
  · exact sX5_weigh_72 hl hQ h
  · exact sX5_weigh_51 hl hQ h
theorem sX5_weigh_130 {l : Launch} {X : q_CX} (hl : X.2.1 = l) (hQ : q_QM X) (h : q_OK X yX5_weigh cX5_weigh 7 none rmX5_weigh (Cond.code yX5_weigh cX5_weigh 7 none :: q_G)) : q_SK X 7 130 (BX5_weigh_130) := by
  exact k_vret h hQ (ddX5_weigh (130, .return_, 1) (List.mem_of_getElem? (i := 65) rfl))
theorem sX5_weigh_82 {l : Launch} {X : q_CX} (hl : X.2.1 = l) (hQ : q_QM X) (h : q_OK X yX5_weigh cX5_weigh 7 none rmX5_weigh (Cond.code yX5_weigh cX5_weigh 7 none :: q_G)) : q_SK X 7 82 (BX5_weigh_82) := by
  refine k_iconst (v := 0) h (ddX5_weigh (82, .iconst 0, 1) (List.mem_of_getElem? (i := 42) rfl)) (by decide) ?_
  refine k_istore (i := 6) h (ddX5_weigh (83, .istore 6, 2) (List.mem_of_getElem? (i := 43) rfl)) (by decide) ?_
  exact k_cut
theorem sX5_weigh_77 {l : Launch} {X : q_CX} (hl : X.2.1 = l) (hQ : q_QM X) (h : q_OK X yX5_weigh cX5_weigh 7 none rmX5_weigh (Cond.code yX5_weigh cX5_weigh 7 none :: q_G)) : q_SK X 7 77 (BX5_weigh_77) := by
  refine k_iload (i := 5) h (ddX5_weigh (77, .iload 5, 2) (List.mem_of_getElem? (i := 40) rfl)) ?_
  refine k_iflt h (ddX5_weigh (79, .ifCond .lt 51, 3) (List.mem_of_getElem? (i := 41) rfl)) (tgt := 130) (by decide) ?_ ?_
  · exact sX5_weigh_130 hl hQ h
  · exact sX5_weigh_82 hl hQ h
theorem sX5_weigh_124 {l : Launch} {X : q_CX} (hl : X.2.1 = l) (hQ : q_QM X) (h : q_OK X yX5_weigh cX5_weigh 7 none rmX5_weigh (Cond.code yX5_weigh cX5_weigh 7 none :: q_G)) : q_SK X 7 124 (BX5_weigh_124) := by
  refine k_iinc (d := (-1)) h (ddX5_weigh (124, .iinc 5 (-1), 3) (List.mem_of_getElem? (i := 63) rfl)) (by decide) (by decide) ?_
  refine k_goto h (ddX5_weigh (127, .goto (-50), 3) (List.mem_of_getElem? (i := 64) rfl)) (tgt := 77) (by decide) ?_
  exact k_cut
theorem sX5_weigh_94 {l : Launch} {X : q_CX} (hl : X.2.1 = l) (hQ : q_QM X) (h : q_OK X yX5_weigh cX5_weigh 7 none rmX5_weigh (Cond.code yX5_weigh cX5_weigh 7 none :: q_G)) : q_SK X 7 94 (BX5_weigh_94) := by
  refine k_aload_n (i := 0) h (ddX5_weigh (94, .aload_n 0, 1) (List.mem_of_getElem? (i := 48) rfl)) rfl ?_
  refine k_getf (ci := 5) (j := 0) (C := RX5) (T := TX5) (N := 2) h rfl (fun w hw => List.mem_cons_of_mem _ (q_inX5 w hw)) (by decide) (List.mem_cons_of_mem _ gw47) (ddX5_weigh (95, .getfield 9, 3) (List.mem_of_getElem? (i := 49) rfl)) ?_
  refine k_iload (i := 5) h (ddX5_weigh (98, .iload 5, 2) (List.mem_of_getElem? (i := 50) rfl)) ?_
  refine k_bipush (v := 8) h (ddX5_weigh (100, .bipush 8, 2) (List.mem_of_getElem? (i := 51) rfl)) (by decide) ?_
  refine k_imul h (ddX5_weigh (102, .imul, 1) (List.mem_of_getElem? (i := 52) rfl)) ?_
  refine k_iload (i := 6) h (ddX5_weigh (103, .iload 6, 2) (List.mem_of_getElem? (i := 53) rfl)) ?_
  refine k_iadd h (ddX5_weigh (105, .iadd, 1) (List.mem_of_getElem? (i := 54) rfl)) ?_
  refine k_aload_n (i := 0) h (ddX5_weigh (106, .aload_n 0, 1) (List.mem_of_getElem? (i := 55) rfl)) rfl ?_
  refine k_aload_n (i := 1) h (ddX5_weigh (107, .aload_n 1, 1) (List.mem_of_getElem? (i := 56) rfl)) rfl ?_
  refine k_iload (i := 5) h (ddX5_weigh (108, .iload 5, 2) (List.mem_of_getElem? (i := 57) rfl)) ?_
  refine k_iload (i := 6) h (ddX5_weigh (110, .iload 6, 2) (List.mem_of_getElem? (i := 58) rfl)) ?_
  refine k_callV h hl (aX5_bestFrom l) (ci := 5) (C := RX5) (T := TX5) (N := 2) rfl ⟨rfl, rfl⟩ (n := 3) (by decide +kernel) (q_gV gw470 gw471 gw472 gw45 gw469) ⟨by decide, by decide⟩ (ddX5_weigh (112, .invokevirtual 35, 3) (List.mem_of_getElem? (i := 59) rfl)) ?_
  refine k_callN h hl (aX8_put l) ⟨rfl, rfl⟩ (n := 3) (by decide +kernel) (q_gN gw143) (by decide +kernel) (List.mem_cons_of_mem _ gw91) (List.mem_cons_of_mem _ gw144) ⟨by decide, by decide⟩ (ddX5_weigh (115, .invokestatic 24, 3) (List.mem_of_getElem? (i := 60) rfl)) ?_
  refine k_iinc (d := 1) h (ddX5_weigh (118, .iinc 6 1, 3) (List.mem_of_getElem? (i := 61) rfl)) (by decide) (by decide) ?_
  refine k_goto h (ddX5_weigh (121, .goto (-36), 3) (List.mem_of_getElem? (i := 62) rfl)) (tgt := 85) (by decide) ?_
  exact k_cut
theorem sX5_weigh_85 {l : Launch} {X : q_CX} (hl : X.2.1 = l) (hQ : q_QM X) (h : q_OK X yX5_weigh cX5_weigh 7 none rmX5_weigh (Cond.code yX5_weigh cX5_weigh 7 none :: q_G)) : q_SK X 7 85 (BX5_weigh_85) := by
  refine k_iload (i := 6) h (ddX5_weigh (85, .iload 6, 2) (List.mem_of_getElem? (i := 44) rfl)) ?_
  refine k_aload_n (i := 1) h (ddX5_weigh (87, .aload_n 1, 1) (List.mem_of_getElem? (i := 45) rfl)) rfl ?_
  refine k_getf (ci := 4) (j := 1) (C := RX4) (T := TX4) (N := 14) h rfl (fun w hw => List.mem_cons_of_mem _ (q_inX4 w hw)) (by decide) (List.mem_cons_of_mem _ gw458) (ddX5_weigh (88, .getfield 31, 3) (List.mem_of_getElem? (i := 46) rfl)) ?_
  refine k_icge h (ddX5_weigh (91, .if_icmp .ge 33, 3) (List.mem_of_getElem? (i := 47) rfl)) (tgt := 124) (by decide) ?_ ?_
  · exact sX5_weigh_124 hl hQ h
  · exact sX5_weigh_94 hl hQ h
theorem aX5_weigh (l : Launch) (as : List Value) (sh : q_Sh) (m : q_Mm) (R : q_KR) (hw : wX5_weigh as sh m R) : q_AM l yX5_weigh (Cond.code yX5_weigh cX5_weigh 7 none :: q_G) rmX5_weigh as sh m R := by
  refine q_met (code := TX5_weigh) (by decide) (fun X hl hQ _ h pc => ?_) hw.1 hw.2
  unfold TX5_weigh
  exact k_at (sX5_weigh_0 hl hQ h) (k_at (sX5_weigh_6 hl hQ h) (k_at (sX5_weigh_44 hl hQ h) (k_at (sX5_weigh_77 hl hQ h) (k_at (sX5_weigh_85 hl hQ h) (k_no)))))
/-! TumblingRock$Route.leastGood(LTumblingRock$Rock;II)I -/
abbrev dlX5_leastGood : List (Nat × (Instr × Nat)) := [(0, .aload_n 1, 1), (1, .iload_n 3, 1), (2, .invokevirtual 39, 3), (5, .iconst 1, 1), (6, .iload_n 3, 1), (7, .ishl, 1), (8, .ior, 1), (9, .istore 4, 2), (11, .iconst 0, 1), (12, .istore 5, 2), (14, .iload 5, 2), (16, .aload_n 1, 1), (17, .getfield 31, 3), (20, .if_icmp .ge 39, 3), (23, .iload 4, 2), (25, .iload 5, 2), (27, .invokestatic 42, 3), (30, .iconst 1, 1), (31, .if_icmp .ne 22, 3), (34, .aload_n 0, 1), (35, .iload_n 2, 1), (36, .iload 5, 2), (38, .invokevirtual 46, 3), (41, .aload_n 0, 1), (42, .iload_n 2, 1), (43, .iload_n 3, 1), (44, .invokevirtual 58, 3), (47, .if_icmp .ne 6, 3), (50, .iload 5, 2), (52, .ireturn, 1), (53, .iinc 5 1, 3), (56, .goto (-42), 3), (59, .iload_n 3, 1), (60, .ireturn, 1)]
theorem ddX5_leastGood : ∀ q ∈ dlX5_leastGood, decode cX5_leastGood q.1 = .ok q.2 := by decide +kernel
theorem sX5_leastGood_0 {l : Launch} {X : q_CX} (hl : X.2.1 = l) (hQ : q_QM X) (h : q_OK X yX5_leastGood cX5_leastGood 6 (some .int) rmX5_leastGood (Cond.code yX5_leastGood cX5_leastGood 6 (some .int) :: q_G)) : q_SK X 6 0 (BX5_leastGood_0) := by
  refine k_aload_n (i := 1) h (ddX5_leastGood (0, .aload_n 1, 1) (List.mem_of_getElem? (i := 0) rfl)) rfl ?_
  refine k_iload_n (i := 3) h (ddX5_leastGood (1, .iload_n 3, 1) (List.mem_of_getElem? (i := 1) rfl)) rfl ?_
  refine k_callV h hl (aX4_road l) (ci := 4) (C := RX4) (T := TX4) (N := 14) rfl ⟨rfl, rfl⟩ (n := 1) (by decide +kernel) (q_gV gw459 gw253 gw254 gw71 gw251) ⟨by decide, by decide⟩ (ddX5_leastGood (2, .invokevirtual 39, 3) (List.mem_of_getElem? (i := 2) rfl)) ?_
  refine k_iconst (v := 1) h (ddX5_leastGood (5, .iconst 1, 1) (List.mem_of_getElem? (i := 3) rfl)) (by decide) ?_
  refine k_iload_n (i := 3) h (ddX5_leastGood (6, .iload_n 3, 1) (List.mem_of_getElem? (i := 4) rfl)) rfl ?_
  refine k_ishl h (ddX5_leastGood (7, .ishl, 1) (List.mem_of_getElem? (i := 5) rfl)) ?_
  refine k_ior h (ddX5_leastGood (8, .ior, 1) (List.mem_of_getElem? (i := 6) rfl)) ?_
  refine k_istore (i := 4) h (ddX5_leastGood (9, .istore 4, 2) (List.mem_of_getElem? (i := 7) rfl)) (by decide) ?_
  refine k_iconst (v := 0) h (ddX5_leastGood (11, .iconst 0, 1) (List.mem_of_getElem? (i := 8) rfl)) (by decide) ?_
  refine k_istore (i := 5) h (ddX5_leastGood (12, .istore 5, 2) (List.mem_of_getElem? (i := 9) rfl)) (by decide) ?_
  exact k_cut
theorem sX5_leastGood_59 {l : Launch} {X : q_CX} (hl : X.2.1 = l) (hQ : q_QM X) (h : q_OK X yX5_leastGood cX5_leastGood 6 (some .int) rmX5_leastGood (Cond.code yX5_leastGood cX5_leastGood 6 (some .int) :: q_G)) : q_SK X 6 59 (BX5_leastGood_59) := by
  refine k_iload_n (i := 3) h (ddX5_leastGood (59, .iload_n 3, 1) (List.mem_of_getElem? (i := 32) rfl)) rfl ?_
  exact k_iret h hQ (ddX5_leastGood (60, .ireturn, 1) (List.mem_of_getElem? (i := 33) rfl))
theorem sX5_leastGood_53 {l : Launch} {X : q_CX} (hl : X.2.1 = l) (hQ : q_QM X) (h : q_OK X yX5_leastGood cX5_leastGood 6 (some .int) rmX5_leastGood (Cond.code yX5_leastGood cX5_leastGood 6 (some .int) :: q_G)) : q_SK X 6 53 (BX5_leastGood_53) := by
  refine k_iinc (d := 1) h (ddX5_leastGood (53, .iinc 5 1, 3) (List.mem_of_getElem? (i := 30) rfl)) (by decide) (by decide) ?_
  refine k_goto h (ddX5_leastGood (56, .goto (-42), 3) (List.mem_of_getElem? (i := 31) rfl)) (tgt := 14) (by decide) ?_
  exact k_cut
theorem sX5_leastGood_50 {l : Launch} {X : q_CX} (hl : X.2.1 = l) (hQ : q_QM X) (h : q_OK X yX5_leastGood cX5_leastGood 6 (some .int) rmX5_leastGood (Cond.code yX5_leastGood cX5_leastGood 6 (some .int) :: q_G)) : q_SK X 6 50 (BX5_leastGood_50) := by
  refine k_iload (i := 5) h (ddX5_leastGood (50, .iload 5, 2) (List.mem_of_getElem? (i := 28) rfl)) ?_
  exact k_iret h hQ (ddX5_leastGood (52, .ireturn, 1) (List.mem_of_getElem? (i := 29) rfl))
theorem sX5_leastGood_34 {l : Launch} {X : q_CX} (hl : X.2.1 = l) (hQ : q_QM X) (h : q_OK X yX5_leastGood cX5_leastGood 6 (some .int) rmX5_leastGood (Cond.code yX5_leastGood cX5_leastGood 6 (some .int) :: q_G)) : q_SK X 6 34 (BX5_leastGood_34) := by
  refine k_aload_n (i := 0) h (ddX5_leastGood (34, .aload_n 0, 1) (List.mem_of_getElem? (i := 19) rfl)) rfl ?_
  refine k_iload_n (i := 2) h (ddX5_leastGood (35, .iload_n 2, 1) (List.mem_of_getElem? (i := 20) rfl)) rfl ?_
  refine k_iload (i := 5) h (ddX5_leastGood (36, .iload 5, 2) (List.mem_of_getElem? (i := 21) rfl)) ?_
  refine k_callV h hl (aX5_lightBy l) (ci := 5) (C := RX5) (T := TX5) (N := 2) rfl ⟨rfl, rfl⟩ (n := 2) (by decide +kernel) (q_gV gw465 gw466 gw467 gw45 gw464) ⟨by decide, by decide⟩ (ddX5_leastGood (38, .invokevirtual 46, 3) (List.mem_of_getElem? (i := 22) rfl)) ?_
  refine k_aload_n (i := 0) h (ddX5_leastGood (41, .aload_n 0, 1) (List.mem_of_getElem? (i := 23) rfl)) rfl ?_
  refine k_iload_n (i := 2) h (ddX5_leastGood (42, .iload_n 2, 1) (List.mem_of_getElem? (i := 24) rfl)) rfl ?_
  refine k_iload_n (i := 3) h (ddX5_leastGood (43, .iload_n 3, 1) (List.mem_of_getElem? (i := 25) rfl)) rfl ?_
  refine k_callV h hl (aX5_mostLight l) (ci := 5) (C := RX5) (T := TX5) (N := 2) rfl ⟨rfl, rfl⟩ (n := 2) (by decide +kernel) (q_gV gw461 gw462 gw463 gw45 gw460) ⟨by decide, by decide⟩ (ddX5_leastGood (44, .invokevirtual 58, 3) (List.mem_of_getElem? (i := 26) rfl)) ?_
  refine k_icne h (ddX5_leastGood (47, .if_icmp .ne 6, 3) (List.mem_of_getElem? (i := 27) rfl)) (tgt := 53) (by decide) ?_ ?_
  · exact sX5_leastGood_53 hl hQ h
  · exact sX5_leastGood_50 hl hQ h
theorem sX5_leastGood_23 {l : Launch} {X : q_CX} (hl : X.2.1 = l) (hQ : q_QM X) (h : q_OK X yX5_leastGood cX5_leastGood 6 (some .int) rmX5_leastGood (Cond.code yX5_leastGood cX5_leastGood 6 (some .int) :: q_G)) : q_SK X 6 23 (BX5_leastGood_23) := by
  refine k_iload (i := 4) h (ddX5_leastGood (23, .iload 4, 2) (List.mem_of_getElem? (i := 14) rfl)) ?_
  refine k_iload (i := 5) h (ddX5_leastGood (25, .iload 5, 2) (List.mem_of_getElem? (i := 15) rfl)) ?_
  refine k_callN h hl (aX8_bit l) ⟨rfl, rfl⟩ (n := 2) (by decide +kernel) (q_gN gw255) (by decide +kernel) (List.mem_cons_of_mem _ gw91) (List.mem_cons_of_mem _ gw256) ⟨by decide, by decide⟩ (ddX5_leastGood (27, .invokestatic 42, 3) (List.mem_of_getElem? (i := 16) rfl)) ?_
  refine k_iconst (v := 1) h (ddX5_leastGood (30, .iconst 1, 1) (List.mem_of_getElem? (i := 17) rfl)) (by decide) ?_
  refine k_icne h (ddX5_leastGood (31, .if_icmp .ne 22, 3) (List.mem_of_getElem? (i := 18) rfl)) (tgt := 53) (by decide) ?_ ?_
  · exact sX5_leastGood_53 hl hQ h
  · exact sX5_leastGood_34 hl hQ h
theorem sX5_leastGood_14 {l : Launch} {X : q_CX} (hl : X.2.1 = l) (hQ : q_QM X) (h : q_OK X yX5_leastGood cX5_leastGood 6 (some .int) rmX5_leastGood (Cond.code yX5_leastGood cX5_leastGood 6 (some .int) :: q_G)) : q_SK X 6 14 (BX5_leastGood_14) := by
  refine k_iload (i := 5) h (ddX5_leastGood (14, .iload 5, 2) (List.mem_of_getElem? (i := 10) rfl)) ?_
  refine k_aload_n (i := 1) h (ddX5_leastGood (16, .aload_n 1, 1) (List.mem_of_getElem? (i := 11) rfl)) rfl ?_
  refine k_getf (ci := 4) (j := 1) (C := RX4) (T := TX4) (N := 14) h rfl (fun w hw => List.mem_cons_of_mem _ (q_inX4 w hw)) (by decide) (List.mem_cons_of_mem _ gw458) (ddX5_leastGood (17, .getfield 31, 3) (List.mem_of_getElem? (i := 12) rfl)) ?_
  refine k_icge h (ddX5_leastGood (20, .if_icmp .ge 39, 3) (List.mem_of_getElem? (i := 13) rfl)) (tgt := 59) (by decide) ?_ ?_
  · exact sX5_leastGood_59 hl hQ h
  · exact sX5_leastGood_23 hl hQ h
theorem aX5_leastGood (l : Launch) (as : List Value) (sh : q_Sh) (m : q_Mm) (R : q_KR) (hw : wX5_leastGood as sh m R) : q_AM l yX5_leastGood (Cond.code yX5_leastGood cX5_leastGood 6 (some .int) :: q_G) rmX5_leastGood as sh m R := by
  refine q_met (code := TX5_leastGood) (by decide) (fun X hl hQ _ h pc => ?_) hw.1 hw.2
  unfold TX5_leastGood
  exact k_at (sX5_leastGood_0 hl hQ h) (k_at (sX5_leastGood_14 hl hQ h) (k_no))
/-! TumblingRock$Route.placeBehind(LTumblingRock$Rock;II)I -/
abbrev dlX5_placeBehind : List (Nat × (Instr × Nat)) := [(0, .iload_n 2, 1), (1, .istore 4, 2), (3, .iconst 0, 1), (4, .istore 5, 2), (6, .iload 5, 2), (8, .iload_n 3, 1), (9, .if_icmp .ge 20, 3), (12, .aload_n 0, 1), (13, .aload_n 1, 1), (14, .iload 5, 2), (16, .iload 4, 2), (18, .invokevirtual 61, 3), (21, .istore 4, 2), (23, .iinc 5 1, 3), (26, .goto (-20), 3), (29, .iload 4, 2), (31, .ireturn, 1)]
theorem ddX5_placeBehind : ∀ q ∈ dlX5_placeBehind, decode cX5_placeBehind q.1 = .ok q.2 := by decide +kernel
theorem sX5_placeBehind_0 {l : Launch} {X : q_CX} (hl : X.2.1 = l) (hQ : q_QM X) (h : q_OK X yX5_placeBehind cX5_placeBehind 6 (some .int) rmX5_placeBehind (Cond.code yX5_placeBehind cX5_placeBehind 6 (some .int) :: q_G)) : q_SK X 6 0 (BX5_placeBehind_0) := by
  refine k_iload_n (i := 2) h (ddX5_placeBehind (0, .iload_n 2, 1) (List.mem_of_getElem? (i := 0) rfl)) rfl ?_
  refine k_istore (i := 4) h (ddX5_placeBehind (1, .istore 4, 2) (List.mem_of_getElem? (i := 1) rfl)) (by decide) ?_
  refine k_iconst (v := 0) h (ddX5_placeBehind (3, .iconst 0, 1) (List.mem_of_getElem? (i := 2) rfl)) (by decide) ?_
  refine k_istore (i := 5) h (ddX5_placeBehind (4, .istore 5, 2) (List.mem_of_getElem? (i := 3) rfl)) (by decide) ?_
  exact k_cut
theorem sX5_placeBehind_29 {l : Launch} {X : q_CX} (hl : X.2.1 = l) (hQ : q_QM X) (h : q_OK X yX5_placeBehind cX5_placeBehind 6 (some .int) rmX5_placeBehind (Cond.code yX5_placeBehind cX5_placeBehind 6 (some .int) :: q_G)) : q_SK X 6 29 (BX5_placeBehind_29) := by
  refine k_iload (i := 4) h (ddX5_placeBehind (29, .iload 4, 2) (List.mem_of_getElem? (i := 15) rfl)) ?_
  exact k_iret h hQ (ddX5_placeBehind (31, .ireturn, 1) (List.mem_of_getElem? (i := 16) rfl))
theorem sX5_placeBehind_12 {l : Launch} {X : q_CX} (hl : X.2.1 = l) (hQ : q_QM X) (h : q_OK X yX5_placeBehind cX5_placeBehind 6 (some .int) rmX5_placeBehind (Cond.code yX5_placeBehind cX5_placeBehind 6 (some .int) :: q_G)) : q_SK X 6 12 (BX5_placeBehind_12) := by
  refine k_aload_n (i := 0) h (ddX5_placeBehind (12, .aload_n 0, 1) (List.mem_of_getElem? (i := 7) rfl)) rfl ?_
  refine k_aload_n (i := 1) h (ddX5_placeBehind (13, .aload_n 1, 1) (List.mem_of_getElem? (i := 8) rfl)) rfl ?_
  refine k_iload (i := 5) h (ddX5_placeBehind (14, .iload 5, 2) (List.mem_of_getElem? (i := 9) rfl)) ?_
  refine k_iload (i := 4) h (ddX5_placeBehind (16, .iload 4, 2) (List.mem_of_getElem? (i := 10) rfl)) ?_
  refine k_callV h hl (aX5_leastGood l) (ci := 5) (C := RX5) (T := TX5) (N := 2) rfl ⟨rfl, rfl⟩ (n := 3) (by decide +kernel) (q_gV gw479 gw480 gw481 gw45 gw478) ⟨by decide, by decide⟩ (ddX5_placeBehind (18, .invokevirtual 61, 3) (List.mem_of_getElem? (i := 11) rfl)) ?_
  refine k_istore (i := 4) h (ddX5_placeBehind (21, .istore 4, 2) (List.mem_of_getElem? (i := 12) rfl)) (by decide) ?_
  refine k_iinc (d := 1) h (ddX5_placeBehind (23, .iinc 5 1, 3) (List.mem_of_getElem? (i := 13) rfl)) (by decide) (by decide) ?_
  refine k_goto h (ddX5_placeBehind (26, .goto (-20), 3) (List.mem_of_getElem? (i := 14) rfl)) (tgt := 6) (by decide) ?_
  exact k_cut
theorem sX5_placeBehind_6 {l : Launch} {X : q_CX} (hl : X.2.1 = l) (hQ : q_QM X) (h : q_OK X yX5_placeBehind cX5_placeBehind 6 (some .int) rmX5_placeBehind (Cond.code yX5_placeBehind cX5_placeBehind 6 (some .int) :: q_G)) : q_SK X 6 6 (BX5_placeBehind_6) := by
  refine k_iload (i := 5) h (ddX5_placeBehind (6, .iload 5, 2) (List.mem_of_getElem? (i := 4) rfl)) ?_
  refine k_iload_n (i := 3) h (ddX5_placeBehind (8, .iload_n 3, 1) (List.mem_of_getElem? (i := 5) rfl)) rfl ?_
  refine k_icge h (ddX5_placeBehind (9, .if_icmp .ge 20, 3) (List.mem_of_getElem? (i := 6) rfl)) (tgt := 29) (by decide) ?_ ?_
  · exact sX5_placeBehind_29 hl hQ h
  · exact sX5_placeBehind_12 hl hQ h
theorem aX5_placeBehind (l : Launch) (as : List Value) (sh : q_Sh) (m : q_Mm) (R : q_KR) (hw : wX5_placeBehind as sh m R) : q_AM l yX5_placeBehind (Cond.code yX5_placeBehind cX5_placeBehind 6 (some .int) :: q_G) rmX5_placeBehind as sh m R := by
  refine q_met (code := TX5_placeBehind) (by decide) (fun X hl hQ _ h pc => ?_) hw.1 hw.2
  unfold TX5_placeBehind
  exact k_at (sX5_placeBehind_0 hl hQ h) (k_at (sX5_placeBehind_6 hl hQ h) (k_no))
/-! TumblingRock.way(IIII)I -/
abbrev dlX8_way : List (Nat × (Instr × Nat)) := [(0, .aload_n 0, 1), (1, .iload_n 1, 1), (2, .invokevirtual 161, 3), (5, .ifCond .ne 6, 3), (8, .ldc 147, 2), (10, .ireturn, 1), (11, .iload_n 2, 1), (12, .invokestatic 176, 3), (15, .ifCond .eq 23, 3), (18, .iload_n 3, 1), (19, .iconst 1, 1), (20, .bipush 40, 2), (22, .invokestatic 78, 3), (25, .ifCond .eq 13, 3), (28, .iload 4, 2), (30, .iconst (-1), 1), (31, .iload_n 3, 1), (32, .invokestatic 78, 3), (35, .ifCond .ne 6, 3), (38, .ldc 82, 2), (40, .ireturn, 1), (41, .aload_n 0, 1), (42, .getfield 50, 3), (45, .aload_n 0, 1), (46, .getfield 71, 3), (49, .aload_n 0, 1), (50, .iload_n 2, 1), (51, .invokevirtual 136, 3), (54, .iload_n 3, 1), (55, .invokevirtual 222, 3), (58, .iload 4, 2), (60, .iconst (-1), 1), (61, .if_icmp .ne 15, 3), (64, .aload_n 0, 1), (65, .getfield 50, 3), (68, .iconst 0, 1), (69, .iload_n 1, 1), (70, .invokevirtual 226, 3), (73, .goto 17, 3), (76, .aload_n 0, 1), (77, .getfield 50, 3), (80, .aload_n 0, 1), (81, .getfield 71, 3), (84, .iload_n 1, 1), (85, .iload 4, 2), (87, .invokevirtual 229, 3), (90, .ireturn, 1)]
theorem ddX8_way : ∀ q ∈ dlX8_way, decode cX8_way q.1 = .ok q.2 := by decide +kernel
theorem sX8_way_38 {l : Launch} {X : q_CX} (hl : X.2.1 = l) (hQ : q_QM X) (h : q_OK X yX8_way cX8_way 5 (some .int) rmX8_way (Cond.code yX8_way cX8_way 5 (some .int) :: q_G)) : q_SK X 5 38 (BX8_way_38) := by
  refine k_ldc (v := (-1000000002)) h (ddX8_way (38, .ldc 82, 2) (List.mem_of_getElem? (i := 19) rfl)) (List.mem_cons_of_mem _ gw140) ?_
  exact k_iret h hQ (ddX8_way (40, .ireturn, 1) (List.mem_of_getElem? (i := 20) rfl))
theorem sX8_way_90 {l : Launch} {X : q_CX} (hl : X.2.1 = l) (hQ : q_QM X) (h : q_OK X yX8_way cX8_way 5 (some .int) rmX8_way (Cond.code yX8_way cX8_way 5 (some .int) :: q_G)) : q_SK X 5 90 (BX8_way_90) := by
  exact k_iret h hQ (ddX8_way (90, .ireturn, 1) (List.mem_of_getElem? (i := 46) rfl))
theorem sX8_way_76 {l : Launch} {X : q_CX} (hl : X.2.1 = l) (hQ : q_QM X) (h : q_OK X yX8_way cX8_way 5 (some .int) rmX8_way (Cond.code yX8_way cX8_way 5 (some .int) :: q_G)) : q_SK X 5 76 (BX8_way_76) := by
  refine k_aload_n (i := 0) h (ddX8_way (76, .aload_n 0, 1) (List.mem_of_getElem? (i := 39) rfl)) rfl ?_
  refine k_getf (ci := 8) (j := 6) (C := RX8) (T := TX8) (N := 11) h rfl (fun w hw => List.mem_cons_of_mem _ (q_inX8 w hw)) (by decide) (List.mem_cons_of_mem _ gw51) (ddX8_way (77, .getfield 50, 3) (List.mem_of_getElem? (i := 40) rfl)) ?_
  refine k_aload_n (i := 0) h (ddX8_way (80, .aload_n 0, 1) (List.mem_of_getElem? (i := 41) rfl)) rfl ?_
  refine k_getf (ci := 8) (j := 9) (C := RX8) (T := TX8) (N := 11) h rfl (fun w hw => List.mem_cons_of_mem _ (q_inX8 w hw)) (by decide) (List.mem_cons_of_mem _ gw135) (ddX8_way (81, .getfield 71, 3) (List.mem_of_getElem? (i := 42) rfl)) ?_
  refine k_iload_n (i := 1) h (ddX8_way (84, .iload_n 1, 1) (List.mem_of_getElem? (i := 43) rfl)) rfl ?_
  refine k_iload (i := 4) h (ddX8_way (85, .iload 4, 2) (List.mem_of_getElem? (i := 44) rfl)) ?_
  refine k_callV h hl (aX5_placeBehind l) (ci := 5) (C := RX5) (T := TX5) (N := 2) rfl ⟨rfl, rfl⟩ (n := 3) (by decide +kernel) (q_gV gw483 gw484 gw485 gw45 gw482) ⟨by decide, by decide⟩ (ddX8_way (87, .invokevirtual 229, 3) (List.mem_of_getElem? (i := 45) rfl)) ?_
  exact sX8_way_90 hl hQ h
theorem sX8_way_64 {l : Launch} {X : q_CX} (hl : X.2.1 = l) (hQ : q_QM X) (h : q_OK X yX8_way cX8_way 5 (some .int) rmX8_way (Cond.code yX8_way cX8_way 5 (some .int) :: q_G)) : q_SK X 5 64 (BX8_way_64) := by
  refine k_aload_n (i := 0) h (ddX8_way (64, .aload_n 0, 1) (List.mem_of_getElem? (i := 33) rfl)) rfl ?_
  refine k_getf (ci := 8) (j := 6) (C := RX8) (T := TX8) (N := 11) h rfl (fun w hw => List.mem_cons_of_mem _ (q_inX8 w hw)) (by decide) (List.mem_cons_of_mem _ gw51) (ddX8_way (65, .getfield 50, 3) (List.mem_of_getElem? (i := 34) rfl)) ?_
  refine k_iconst (v := 0) h (ddX8_way (68, .iconst 0, 1) (List.mem_of_getElem? (i := 35) rfl)) (by decide) ?_
  refine k_iload_n (i := 1) h (ddX8_way (69, .iload_n 1, 1) (List.mem_of_getElem? (i := 36) rfl)) rfl ?_
  refine k_callV h hl (aX5_mostLight l) (ci := 5) (C := RX5) (T := TX5) (N := 2) rfl ⟨rfl, rfl⟩ (n := 2) (by decide +kernel) (q_gV gw477 gw462 gw463 gw45 gw460) ⟨by decide, by decide⟩ (ddX8_way (70, .invokevirtual 226, 3) (List.mem_of_getElem? (i := 37) rfl)) ?_
  refine k_goto h (ddX8_way (73, .goto 17, 3) (List.mem_of_getElem? (i := 38) rfl)) (tgt := 90) (by decide) ?_
  exact sX8_way_90 hl hQ h
theorem sX8_way_41 {l : Launch} {X : q_CX} (hl : X.2.1 = l) (hQ : q_QM X) (h : q_OK X yX8_way cX8_way 5 (some .int) rmX8_way (Cond.code yX8_way cX8_way 5 (some .int) :: q_G)) : q_SK X 5 41 (BX8_way_41) := by
  refine k_aload_n (i := 0) h (ddX8_way (41, .aload_n 0, 1) (List.mem_of_getElem? (i := 21) rfl)) rfl ?_
  refine k_getf (ci := 8) (j := 6) (C := RX8) (T := TX8) (N := 11) h rfl (fun w hw => List.mem_cons_of_mem _ (q_inX8 w hw)) (by decide) (List.mem_cons_of_mem _ gw51) (ddX8_way (42, .getfield 50, 3) (List.mem_of_getElem? (i := 22) rfl)) ?_
  refine k_aload_n (i := 0) h (ddX8_way (45, .aload_n 0, 1) (List.mem_of_getElem? (i := 23) rfl)) rfl ?_
  refine k_getf (ci := 8) (j := 9) (C := RX8) (T := TX8) (N := 11) h rfl (fun w hw => List.mem_cons_of_mem _ (q_inX8 w hw)) (by decide) (List.mem_cons_of_mem _ gw135) (ddX8_way (46, .getfield 71, 3) (List.mem_of_getElem? (i := 24) rfl)) ?_
  refine k_aload_n (i := 0) h (ddX8_way (49, .aload_n 0, 1) (List.mem_of_getElem? (i := 25) rfl)) rfl ?_
  refine k_iload_n (i := 2) h (ddX8_way (50, .iload_n 2, 1) (List.mem_of_getElem? (i := 26) rfl)) rfl ?_
  refine k_callV h hl (aX8_standingAt l) (ci := 8) (C := RX8) (T := TX8) (N := 11) rfl ⟨rfl, rfl⟩ (n := 1) (by decide +kernel) (q_gV gw325 gw326 gw327 gw91 gw324) ⟨by decide, by decide⟩ (ddX8_way (51, .invokevirtual 136, 3) (List.mem_of_getElem? (i := 27) rfl)) ?_
  refine k_iload_n (i := 3) h (ddX8_way (54, .iload_n 3, 1) (List.mem_of_getElem? (i := 28) rfl)) rfl ?_
  refine k_callV h hl (aX5_weigh l) (ci := 5) (C := RX5) (T := TX5) (N := 2) rfl ⟨rfl, rfl⟩ (n := 3) (by decide +kernel) (q_gV gw474 gw475 gw476 gw45 gw473) ⟨by decide, by decide⟩ (ddX8_way (55, .invokevirtual 222, 3) (List.mem_of_getElem? (i := 29) rfl)) ?_
  refine k_iload (i := 4) h (ddX8_way (58, .iload 4, 2) (List.mem_of_getElem? (i := 30) rfl)) ?_
  refine k_iconst (v := (-1)) h (ddX8_way (60, .iconst (-1), 1) (List.mem_of_getElem? (i := 31) rfl)) (by decide) ?_
  refine k_icne h (ddX8_way (61, .if_icmp .ne 15, 3) (List.mem_of_getElem? (i := 32) rfl)) (tgt := 76) (by decide) ?_ ?_
  · exact sX8_way_76 hl hQ h
  · exact sX8_way_64 hl hQ h
theorem sX8_way_28 {l : Launch} {X : q_CX} (hl : X.2.1 = l) (hQ : q_QM X) (h : q_OK X yX8_way cX8_way 5 (some .int) rmX8_way (Cond.code yX8_way cX8_way 5 (some .int) :: q_G)) : q_SK X 5 28 (BX8_way_28) := by
  refine k_iload (i := 4) h (ddX8_way (28, .iload 4, 2) (List.mem_of_getElem? (i := 14) rfl)) ?_
  refine k_iconst (v := (-1)) h (ddX8_way (30, .iconst (-1), 1) (List.mem_of_getElem? (i := 15) rfl)) (by decide) ?_
  refine k_iload_n (i := 3) h (ddX8_way (31, .iload_n 3, 1) (List.mem_of_getElem? (i := 16) rfl)) rfl ?_
  refine k_callS h hl (aX8_inside l) ⟨rfl, rfl⟩ (n := 3) (by decide +kernel) (q_gS gw139 gw138 gw91 gw137) ⟨by decide, by decide⟩ (ddX8_way (32, .invokestatic 78, 3) (List.mem_of_getElem? (i := 17) rfl)) ?_
  refine k_ifne h (ddX8_way (35, .ifCond .ne 6, 3) (List.mem_of_getElem? (i := 18) rfl)) (tgt := 41) (by decide) ?_ ?_
  · exact sX8_way_41 hl hQ h
  · exact sX8_way_38 hl hQ h
theorem sX8_way_18 {l : Launch} {X : q_CX} (hl : X.2.1 = l) (hQ : q_QM X) (h : q_OK X yX8_way cX8_way 5 (some .int) rmX8_way (Cond.code yX8_way cX8_way 5 (some .int) :: q_G)) : q_SK X 5 18 (BX8_way_18) := by
  refine k_iload_n (i := 3) h (ddX8_way (18, .iload_n 3, 1) (List.mem_of_getElem? (i := 9) rfl)) rfl ?_
  refine k_iconst (v := 1) h (ddX8_way (19, .iconst 1, 1) (List.mem_of_getElem? (i := 10) rfl)) (by decide) ?_
  refine k_bipush (v := 40) h (ddX8_way (20, .bipush 40, 2) (List.mem_of_getElem? (i := 11) rfl)) (by decide) ?_
  refine k_callS h hl (aX8_inside l) ⟨rfl, rfl⟩ (n := 3) (by decide +kernel) (q_gS gw139 gw138 gw91 gw137) ⟨by decide, by decide⟩ (ddX8_way (22, .invokestatic 78, 3) (List.mem_of_getElem? (i := 12) rfl)) ?_
  refine k_ifeq h (ddX8_way (25, .ifCond .eq 13, 3) (List.mem_of_getElem? (i := 13) rfl)) (tgt := 38) (by decide) ?_ ?_
  · exact sX8_way_38 hl hQ h
  · exact sX8_way_28 hl hQ h
theorem sX8_way_11 {l : Launch} {X : q_CX} (hl : X.2.1 = l) (hQ : q_QM X) (h : q_OK X yX8_way cX8_way 5 (some .int) rmX8_way (Cond.code yX8_way cX8_way 5 (some .int) :: q_G)) : q_SK X 5 11 (BX8_way_11) := by
  refine k_iload_n (i := 2) h (ddX8_way (11, .iload_n 2, 1) (List.mem_of_getElem? (i := 6) rfl)) rfl ?_
  refine k_callS h hl (aX8_isStep l) ⟨rfl, rfl⟩ (n := 1) (by decide +kernel) (q_gS gw370 gw369 gw91 gw368) ⟨by decide, by decide⟩ (ddX8_way (12, .invokestatic 176, 3) (List.mem_of_getElem? (i := 7) rfl)) ?_
  refine k_ifeq h (ddX8_way (15, .ifCond .eq 23, 3) (List.mem_of_getElem? (i := 8) rfl)) (tgt := 38) (by decide) ?_ ?_
  · exact sX8_way_38 hl hQ h
  · exact sX8_way_18 hl hQ h
theorem sX8_way_8 {l : Launch} {X : q_CX} (hl : X.2.1 = l) (hQ : q_QM X) (h : q_OK X yX8_way cX8_way 5 (some .int) rmX8_way (Cond.code yX8_way cX8_way 5 (some .int) :: q_G)) : q_SK X 5 8 (BX8_way_8) := by
  refine k_ldc (v := (-1000000001)) h (ddX8_way (8, .ldc 147, 2) (List.mem_of_getElem? (i := 4) rfl)) (List.mem_cons_of_mem _ gw336) ?_
  exact k_iret h hQ (ddX8_way (10, .ireturn, 1) (List.mem_of_getElem? (i := 5) rfl))
theorem sX8_way_0 {l : Launch} {X : q_CX} (hl : X.2.1 = l) (hQ : q_QM X) (h : q_OK X yX8_way cX8_way 5 (some .int) rmX8_way (Cond.code yX8_way cX8_way 5 (some .int) :: q_G)) : q_SK X 5 0 (BX8_way_0) := by
  refine k_aload_n (i := 0) h (ddX8_way (0, .aload_n 0, 1) (List.mem_of_getElem? (i := 0) rfl)) rfl ?_
  refine k_iload_n (i := 1) h (ddX8_way (1, .iload_n 1, 1) (List.mem_of_getElem? (i := 1) rfl)) rfl ?_
  refine k_callV h hl (aX8_isPlace l) (ci := 8) (C := RX8) (T := TX8) (N := 11) rfl ⟨rfl, rfl⟩ (n := 1) (by decide +kernel) (q_gV gw341 gw342 gw343 gw91 gw340) ⟨by decide, by decide⟩ (ddX8_way (2, .invokevirtual 161, 3) (List.mem_of_getElem? (i := 2) rfl)) ?_
  refine k_ifne h (ddX8_way (5, .ifCond .ne 6, 3) (List.mem_of_getElem? (i := 3) rfl)) (tgt := 11) (by decide) ?_ ?_
  · exact sX8_way_11 hl hQ h
  · exact sX8_way_8 hl hQ h
theorem aX8_way (l : Launch) (as : List Value) (sh : q_Sh) (m : q_Mm) (R : q_KR) (hw : wX8_way as sh m R) : q_AM l yX8_way (Cond.code yX8_way cX8_way 5 (some .int) :: q_G) rmX8_way as sh m R := by
  refine q_met (code := TX8_way) (by decide) (fun X hl hQ _ h pc => ?_) hw.1 hw.2
  unfold TX8_way
  exact k_at (sX8_way_0 hl hQ h) (k_no)
/-! TumblingRock$Route.spread(LTumblingRock$Rock;I)I -/
abbrev dlX5_spread : List (Nat × (Instr × Nat)) := [(0, .iload_n 2, 1), (1, .istore_n 3, 1), (2, .iconst 0, 1), (3, .istore 4, 2), (5, .iload 4, 2), (7, .aload_n 1, 1), (8, .getfield 31, 3), (11, .if_icmp .ge 28, 3), (14, .iload_n 2, 1), (15, .iload 4, 2), (17, .invokestatic 42, 3), (20, .iconst 1, 1), (21, .if_icmp .ne 12, 3), (24, .iload_n 3, 1), (25, .aload_n 1, 1), (26, .iload 4, 2), (28, .invokevirtual 39, 3), (31, .ior, 1), (32, .istore_n 3, 1), (33, .iinc 4 1, 3), (36, .goto (-31), 3), (39, .iload_n 3, 1), (40, .ireturn, 1)]
theorem ddX5_spread : ∀ q ∈ dlX5_spread, decode cX5_spread q.1 = .ok q.2 := by decide +kernel
theorem sX5_spread_0 {l : Launch} {X : q_CX} (hl : X.2.1 = l) (hQ : q_QM X) (h : q_OK X yX5_spread cX5_spread 5 (some .int) rmX5_spread (Cond.code yX5_spread cX5_spread 5 (some .int) :: q_G)) : q_SK X 5 0 (BX5_spread_0) := by
  refine k_iload_n (i := 2) h (ddX5_spread (0, .iload_n 2, 1) (List.mem_of_getElem? (i := 0) rfl)) rfl ?_
  refine k_istore_n (i := 3) h (ddX5_spread (1, .istore_n 3, 1) (List.mem_of_getElem? (i := 1) rfl)) rfl (by decide) ?_
  refine k_iconst (v := 0) h (ddX5_spread (2, .iconst 0, 1) (List.mem_of_getElem? (i := 2) rfl)) (by decide) ?_
  refine k_istore (i := 4) h (ddX5_spread (3, .istore 4, 2) (List.mem_of_getElem? (i := 3) rfl)) (by decide) ?_
  exact k_cut
theorem sX5_spread_39 {l : Launch} {X : q_CX} (hl : X.2.1 = l) (hQ : q_QM X) (h : q_OK X yX5_spread cX5_spread 5 (some .int) rmX5_spread (Cond.code yX5_spread cX5_spread 5 (some .int) :: q_G)) : q_SK X 5 39 (BX5_spread_39) := by
  refine k_iload_n (i := 3) h (ddX5_spread (39, .iload_n 3, 1) (List.mem_of_getElem? (i := 21) rfl)) rfl ?_
  exact k_iret h hQ (ddX5_spread (40, .ireturn, 1) (List.mem_of_getElem? (i := 22) rfl))
theorem sX5_spread_33 {l : Launch} {X : q_CX} (hl : X.2.1 = l) (hQ : q_QM X) (h : q_OK X yX5_spread cX5_spread 5 (some .int) rmX5_spread (Cond.code yX5_spread cX5_spread 5 (some .int) :: q_G)) : q_SK X 5 33 (BX5_spread_33) := by
  refine k_iinc (d := 1) h (ddX5_spread (33, .iinc 4 1, 3) (List.mem_of_getElem? (i := 19) rfl)) (by decide) (by decide) ?_
  refine k_goto h (ddX5_spread (36, .goto (-31), 3) (List.mem_of_getElem? (i := 20) rfl)) (tgt := 5) (by decide) ?_
  exact k_cut
theorem sX5_spread_24 {l : Launch} {X : q_CX} (hl : X.2.1 = l) (hQ : q_QM X) (h : q_OK X yX5_spread cX5_spread 5 (some .int) rmX5_spread (Cond.code yX5_spread cX5_spread 5 (some .int) :: q_G)) : q_SK X 5 24 (BX5_spread_24) := by
  refine k_iload_n (i := 3) h (ddX5_spread (24, .iload_n 3, 1) (List.mem_of_getElem? (i := 13) rfl)) rfl ?_
  refine k_aload_n (i := 1) h (ddX5_spread (25, .aload_n 1, 1) (List.mem_of_getElem? (i := 14) rfl)) rfl ?_
  refine k_iload (i := 4) h (ddX5_spread (26, .iload 4, 2) (List.mem_of_getElem? (i := 15) rfl)) ?_
  refine k_callV h hl (aX4_road l) (ci := 4) (C := RX4) (T := TX4) (N := 14) rfl ⟨rfl, rfl⟩ (n := 1) (by decide +kernel) (q_gV gw459 gw253 gw254 gw71 gw251) ⟨by decide, by decide⟩ (ddX5_spread (28, .invokevirtual 39, 3) (List.mem_of_getElem? (i := 16) rfl)) ?_
  refine k_ior h (ddX5_spread (31, .ior, 1) (List.mem_of_getElem? (i := 17) rfl)) ?_
  refine k_istore_n (i := 3) h (ddX5_spread (32, .istore_n 3, 1) (List.mem_of_getElem? (i := 18) rfl)) rfl (by decide) ?_
  exact sX5_spread_33 hl hQ h
theorem sX5_spread_14 {l : Launch} {X : q_CX} (hl : X.2.1 = l) (hQ : q_QM X) (h : q_OK X yX5_spread cX5_spread 5 (some .int) rmX5_spread (Cond.code yX5_spread cX5_spread 5 (some .int) :: q_G)) : q_SK X 5 14 (BX5_spread_14) := by
  refine k_iload_n (i := 2) h (ddX5_spread (14, .iload_n 2, 1) (List.mem_of_getElem? (i := 8) rfl)) rfl ?_
  refine k_iload (i := 4) h (ddX5_spread (15, .iload 4, 2) (List.mem_of_getElem? (i := 9) rfl)) ?_
  refine k_callN h hl (aX8_bit l) ⟨rfl, rfl⟩ (n := 2) (by decide +kernel) (q_gN gw255) (by decide +kernel) (List.mem_cons_of_mem _ gw91) (List.mem_cons_of_mem _ gw256) ⟨by decide, by decide⟩ (ddX5_spread (17, .invokestatic 42, 3) (List.mem_of_getElem? (i := 10) rfl)) ?_
  refine k_iconst (v := 1) h (ddX5_spread (20, .iconst 1, 1) (List.mem_of_getElem? (i := 11) rfl)) (by decide) ?_
  refine k_icne h (ddX5_spread (21, .if_icmp .ne 12, 3) (List.mem_of_getElem? (i := 12) rfl)) (tgt := 33) (by decide) ?_ ?_
  · exact sX5_spread_33 hl hQ h
  · exact sX5_spread_24 hl hQ h
theorem sX5_spread_5 {l : Launch} {X : q_CX} (hl : X.2.1 = l) (hQ : q_QM X) (h : q_OK X yX5_spread cX5_spread 5 (some .int) rmX5_spread (Cond.code yX5_spread cX5_spread 5 (some .int) :: q_G)) : q_SK X 5 5 (BX5_spread_5) := by
  refine k_iload (i := 4) h (ddX5_spread (5, .iload 4, 2) (List.mem_of_getElem? (i := 4) rfl)) ?_
  refine k_aload_n (i := 1) h (ddX5_spread (7, .aload_n 1, 1) (List.mem_of_getElem? (i := 5) rfl)) rfl ?_
  refine k_getf (ci := 4) (j := 1) (C := RX4) (T := TX4) (N := 14) h rfl (fun w hw => List.mem_cons_of_mem _ (q_inX4 w hw)) (by decide) (List.mem_cons_of_mem _ gw458) (ddX5_spread (8, .getfield 31, 3) (List.mem_of_getElem? (i := 6) rfl)) ?_
  refine k_icge h (ddX5_spread (11, .if_icmp .ge 28, 3) (List.mem_of_getElem? (i := 7) rfl)) (tgt := 39) (by decide) ?_ ?_
  · exact sX5_spread_39 hl hQ h
  · exact sX5_spread_14 hl hQ h
theorem aX5_spread (l : Launch) (as : List Value) (sh : q_Sh) (m : q_Mm) (R : q_KR) (hw : wX5_spread as sh m R) : q_AM l yX5_spread (Cond.code yX5_spread cX5_spread 5 (some .int) :: q_G) rmX5_spread as sh m R := by
  refine q_met (code := TX5_spread) (by decide) (fun X hl hQ _ h pc => ?_) hw.1 hw.2
  unfold TX5_spread
  exact k_at (sX5_spread_0 hl hQ h) (k_at (sX5_spread_5 hl hQ h) (k_no))
/-! TumblingRock$Route.fewestLitSteps(LTumblingRock$Rock;III)I -/
abbrev dlX5_fewestLitSteps : List (Nat × (Instr × Nat)) := [(0, .iload 4, 2), (2, .istore 5, 2), (4, .iconst 1, 1), (5, .iload_n 2, 1), (6, .ishl, 1), (7, .aload_n 1, 1), (8, .iload 5, 2), (10, .invokevirtual 18, 3), (13, .iand, 1), (14, .istore 6, 2), (16, .iconst 0, 1), (17, .istore 7, 2), (19, .iload 7, 2), (21, .bipush 8, 2), (23, .aload_n 1, 1), (24, .getfield 64, 3), (27, .imul, 1), (28, .if_icmp .ge 51, 3), (31, .iload 6, 2), (33, .ifCond .eq 46, 3), (36, .iload 6, 2), (38, .iload_n 3, 1), (39, .invokestatic 42, 3), (42, .iconst 1, 1), (43, .if_icmp .ne 6, 3), (46, .iload 7, 2), (48, .ireturn, 1), (49, .aload_n 1, 1), (50, .iload 5, 2), (52, .invokevirtual 28, 3), (55, .istore 5, 2), (57, .aload_n 0, 1), (58, .aload_n 1, 1), (59, .iload 6, 2), (61, .invokevirtual 67, 3), (64, .aload_n 1, 1), (65, .iload 5, 2), (67, .invokevirtual 18, 3), (70, .iand, 1), (71, .istore 6, 2), (73, .iinc 7 1, 3), (76, .goto (-57), 3), (79, .iconst (-1), 1), (80, .ireturn, 1)]
theorem ddX5_fewestLitSteps : ∀ q ∈ dlX5_fewestLitSteps, decode cX5_fewestLitSteps q.1 = .ok q.2 := by decide +kernel
theorem sX5_fewestLitSteps_0 {l : Launch} {X : q_CX} (hl : X.2.1 = l) (hQ : q_QM X) (h : q_OK X yX5_fewestLitSteps cX5_fewestLitSteps 8 (some .int) rmX5_fewestLitSteps (Cond.code yX5_fewestLitSteps cX5_fewestLitSteps 8 (some .int) :: q_G)) : q_SK X 8 0 (BX5_fewestLitSteps_0) := by
  refine k_iload (i := 4) h (ddX5_fewestLitSteps (0, .iload 4, 2) (List.mem_of_getElem? (i := 0) rfl)) ?_
  refine k_istore (i := 5) h (ddX5_fewestLitSteps (2, .istore 5, 2) (List.mem_of_getElem? (i := 1) rfl)) (by decide) ?_
  refine k_iconst (v := 1) h (ddX5_fewestLitSteps (4, .iconst 1, 1) (List.mem_of_getElem? (i := 2) rfl)) (by decide) ?_
  refine k_iload_n (i := 2) h (ddX5_fewestLitSteps (5, .iload_n 2, 1) (List.mem_of_getElem? (i := 3) rfl)) rfl ?_
  refine k_ishl h (ddX5_fewestLitSteps (6, .ishl, 1) (List.mem_of_getElem? (i := 4) rfl)) ?_
  refine k_aload_n (i := 1) h (ddX5_fewestLitSteps (7, .aload_n 1, 1) (List.mem_of_getElem? (i := 5) rfl)) rfl ?_
  refine k_iload (i := 5) h (ddX5_fewestLitSteps (8, .iload 5, 2) (List.mem_of_getElem? (i := 6) rfl)) ?_
  refine k_callV h hl (aX4_litSet l) (ci := 4) (C := RX4) (T := TX4) (N := 14) rfl ⟨rfl, rfl⟩ (n := 1) (by decide +kernel) (q_gV gw456 gw330 gw331 gw71 gw328) ⟨by decide, by decide⟩ (ddX5_fewestLitSteps (10, .invokevirtual 18, 3) (List.mem_of_getElem? (i := 7) rfl)) ?_
  refine k_iand h (ddX5_fewestLitSteps (13, .iand, 1) (List.mem_of_getElem? (i := 8) rfl)) ?_
  refine k_istore (i := 6) h (ddX5_fewestLitSteps (14, .istore 6, 2) (List.mem_of_getElem? (i := 9) rfl)) (by decide) ?_
  refine k_iconst (v := 0) h (ddX5_fewestLitSteps (16, .iconst 0, 1) (List.mem_of_getElem? (i := 10) rfl)) (by decide) ?_
  refine k_istore (i := 7) h (ddX5_fewestLitSteps (17, .istore 7, 2) (List.mem_of_getElem? (i := 11) rfl)) (by decide) ?_
  exact k_cut
theorem sX5_fewestLitSteps_79 {l : Launch} {X : q_CX} (hl : X.2.1 = l) (hQ : q_QM X) (h : q_OK X yX5_fewestLitSteps cX5_fewestLitSteps 8 (some .int) rmX5_fewestLitSteps (Cond.code yX5_fewestLitSteps cX5_fewestLitSteps 8 (some .int) :: q_G)) : q_SK X 8 79 (BX5_fewestLitSteps_79) := by
  refine k_iconst (v := (-1)) h (ddX5_fewestLitSteps (79, .iconst (-1), 1) (List.mem_of_getElem? (i := 42) rfl)) (by decide) ?_
  exact k_iret h hQ (ddX5_fewestLitSteps (80, .ireturn, 1) (List.mem_of_getElem? (i := 43) rfl))
theorem sX5_fewestLitSteps_49 {l : Launch} {X : q_CX} (hl : X.2.1 = l) (hQ : q_QM X) (h : q_OK X yX5_fewestLitSteps cX5_fewestLitSteps 8 (some .int) rmX5_fewestLitSteps (Cond.code yX5_fewestLitSteps cX5_fewestLitSteps 8 (some .int) :: q_G)) : q_SK X 8 49 (BX5_fewestLitSteps_49) := by
  refine k_aload_n (i := 1) h (ddX5_fewestLitSteps (49, .aload_n 1, 1) (List.mem_of_getElem? (i := 27) rfl)) rfl ?_
  refine k_iload (i := 5) h (ddX5_fewestLitSteps (50, .iload 5, 2) (List.mem_of_getElem? (i := 28) rfl)) ?_
  refine k_callV h hl (aX4_stepLater l) (ci := 4) (C := RX4) (T := TX4) (N := 14) rfl ⟨rfl, rfl⟩ (n := 1) (by decide +kernel) (q_gV gw457 gw356 gw357 gw71 gw354) ⟨by decide, by decide⟩ (ddX5_fewestLitSteps (52, .invokevirtual 28, 3) (List.mem_of_getElem? (i := 29) rfl)) ?_
  refine k_istore (i := 5) h (ddX5_fewestLitSteps (55, .istore 5, 2) (List.mem_of_getElem? (i := 30) rfl)) (by decide) ?_
  refine k_aload_n (i := 0) h (ddX5_fewestLitSteps (57, .aload_n 0, 1) (List.mem_of_getElem? (i := 31) rfl)) rfl ?_
  refine k_aload_n (i := 1) h (ddX5_fewestLitSteps (58, .aload_n 1, 1) (List.mem_of_getElem? (i := 32) rfl)) rfl ?_
  refine k_iload (i := 6) h (ddX5_fewestLitSteps (59, .iload 6, 2) (List.mem_of_getElem? (i := 33) rfl)) ?_
  refine k_callV h hl (aX5_spread l) (ci := 5) (C := RX5) (T := TX5) (N := 2) rfl ⟨rfl, rfl⟩ (n := 2) (by decide +kernel) (q_gV gw488 gw489 gw490 gw45 gw487) ⟨by decide, by decide⟩ (ddX5_fewestLitSteps (61, .invokevirtual 67, 3) (List.mem_of_getElem? (i := 34) rfl)) ?_
  refine k_aload_n (i := 1) h (ddX5_fewestLitSteps (64, .aload_n 1, 1) (List.mem_of_getElem? (i := 35) rfl)) rfl ?_
  refine k_iload (i := 5) h (ddX5_fewestLitSteps (65, .iload 5, 2) (List.mem_of_getElem? (i := 36) rfl)) ?_
  refine k_callV h hl (aX4_litSet l) (ci := 4) (C := RX4) (T := TX4) (N := 14) rfl ⟨rfl, rfl⟩ (n := 1) (by decide +kernel) (q_gV gw456 gw330 gw331 gw71 gw328) ⟨by decide, by decide⟩ (ddX5_fewestLitSteps (67, .invokevirtual 18, 3) (List.mem_of_getElem? (i := 37) rfl)) ?_
  refine k_iand h (ddX5_fewestLitSteps (70, .iand, 1) (List.mem_of_getElem? (i := 38) rfl)) ?_
  refine k_istore (i := 6) h (ddX5_fewestLitSteps (71, .istore 6, 2) (List.mem_of_getElem? (i := 39) rfl)) (by decide) ?_
  refine k_iinc (d := 1) h (ddX5_fewestLitSteps (73, .iinc 7 1, 3) (List.mem_of_getElem? (i := 40) rfl)) (by decide) (by decide) ?_
  refine k_goto h (ddX5_fewestLitSteps (76, .goto (-57), 3) (List.mem_of_getElem? (i := 41) rfl)) (tgt := 19) (by decide) ?_
  exact k_cut
theorem sX5_fewestLitSteps_46 {l : Launch} {X : q_CX} (hl : X.2.1 = l) (hQ : q_QM X) (h : q_OK X yX5_fewestLitSteps cX5_fewestLitSteps 8 (some .int) rmX5_fewestLitSteps (Cond.code yX5_fewestLitSteps cX5_fewestLitSteps 8 (some .int) :: q_G)) : q_SK X 8 46 (BX5_fewestLitSteps_46) := by
  refine k_iload (i := 7) h (ddX5_fewestLitSteps (46, .iload 7, 2) (List.mem_of_getElem? (i := 25) rfl)) ?_
  exact k_iret h hQ (ddX5_fewestLitSteps (48, .ireturn, 1) (List.mem_of_getElem? (i := 26) rfl))
theorem sX5_fewestLitSteps_36 {l : Launch} {X : q_CX} (hl : X.2.1 = l) (hQ : q_QM X) (h : q_OK X yX5_fewestLitSteps cX5_fewestLitSteps 8 (some .int) rmX5_fewestLitSteps (Cond.code yX5_fewestLitSteps cX5_fewestLitSteps 8 (some .int) :: q_G)) : q_SK X 8 36 (BX5_fewestLitSteps_36) := by
  refine k_iload (i := 6) h (ddX5_fewestLitSteps (36, .iload 6, 2) (List.mem_of_getElem? (i := 20) rfl)) ?_
  refine k_iload_n (i := 3) h (ddX5_fewestLitSteps (38, .iload_n 3, 1) (List.mem_of_getElem? (i := 21) rfl)) rfl ?_
  refine k_callN h hl (aX8_bit l) ⟨rfl, rfl⟩ (n := 2) (by decide +kernel) (q_gN gw255) (by decide +kernel) (List.mem_cons_of_mem _ gw91) (List.mem_cons_of_mem _ gw256) ⟨by decide, by decide⟩ (ddX5_fewestLitSteps (39, .invokestatic 42, 3) (List.mem_of_getElem? (i := 22) rfl)) ?_
  refine k_iconst (v := 1) h (ddX5_fewestLitSteps (42, .iconst 1, 1) (List.mem_of_getElem? (i := 23) rfl)) (by decide) ?_
  refine k_icne h (ddX5_fewestLitSteps (43, .if_icmp .ne 6, 3) (List.mem_of_getElem? (i := 24) rfl)) (tgt := 49) (by decide) ?_ ?_
  · exact sX5_fewestLitSteps_49 hl hQ h
  · exact sX5_fewestLitSteps_46 hl hQ h
theorem sX5_fewestLitSteps_31 {l : Launch} {X : q_CX} (hl : X.2.1 = l) (hQ : q_QM X) (h : q_OK X yX5_fewestLitSteps cX5_fewestLitSteps 8 (some .int) rmX5_fewestLitSteps (Cond.code yX5_fewestLitSteps cX5_fewestLitSteps 8 (some .int) :: q_G)) : q_SK X 8 31 (BX5_fewestLitSteps_31) := by
  refine k_iload (i := 6) h (ddX5_fewestLitSteps (31, .iload 6, 2) (List.mem_of_getElem? (i := 18) rfl)) ?_
  refine k_ifeq h (ddX5_fewestLitSteps (33, .ifCond .eq 46, 3) (List.mem_of_getElem? (i := 19) rfl)) (tgt := 79) (by decide) ?_ ?_
  · exact sX5_fewestLitSteps_79 hl hQ h
  · exact sX5_fewestLitSteps_36 hl hQ h
theorem sX5_fewestLitSteps_19 {l : Launch} {X : q_CX} (hl : X.2.1 = l) (hQ : q_QM X) (h : q_OK X yX5_fewestLitSteps cX5_fewestLitSteps 8 (some .int) rmX5_fewestLitSteps (Cond.code yX5_fewestLitSteps cX5_fewestLitSteps 8 (some .int) :: q_G)) : q_SK X 8 19 (BX5_fewestLitSteps_19) := by
  refine k_iload (i := 7) h (ddX5_fewestLitSteps (19, .iload 7, 2) (List.mem_of_getElem? (i := 12) rfl)) ?_
  refine k_bipush (v := 8) h (ddX5_fewestLitSteps (21, .bipush 8, 2) (List.mem_of_getElem? (i := 13) rfl)) (by decide) ?_
  refine k_aload_n (i := 1) h (ddX5_fewestLitSteps (23, .aload_n 1, 1) (List.mem_of_getElem? (i := 14) rfl)) rfl ?_
  refine k_getf (ci := 4) (j := 5) (C := RX4) (T := TX4) (N := 14) h rfl (fun w hw => List.mem_cons_of_mem _ (q_inX4 w hw)) (by decide) (List.mem_cons_of_mem _ gw486) (ddX5_fewestLitSteps (24, .getfield 64, 3) (List.mem_of_getElem? (i := 15) rfl)) ?_
  refine k_imul h (ddX5_fewestLitSteps (27, .imul, 1) (List.mem_of_getElem? (i := 16) rfl)) ?_
  refine k_icge h (ddX5_fewestLitSteps (28, .if_icmp .ge 51, 3) (List.mem_of_getElem? (i := 17) rfl)) (tgt := 79) (by decide) ?_ ?_
  · exact sX5_fewestLitSteps_79 hl hQ h
  · exact sX5_fewestLitSteps_31 hl hQ h
theorem aX5_fewestLitSteps (l : Launch) (as : List Value) (sh : q_Sh) (m : q_Mm) (R : q_KR) (hw : wX5_fewestLitSteps as sh m R) : q_AM l yX5_fewestLitSteps (Cond.code yX5_fewestLitSteps cX5_fewestLitSteps 8 (some .int) :: q_G) rmX5_fewestLitSteps as sh m R := by
  refine q_met (code := TX5_fewestLitSteps) (by decide) (fun X hl hQ _ h pc => ?_) hw.1 hw.2
  unfold TX5_fewestLitSteps
  exact k_at (sX5_fewestLitSteps_0 hl hQ h) (k_at (sX5_fewestLitSteps_19 hl hQ h) (k_no))
