/-! Contracts, leaves first; written by wip/whole/gen.py. -/
/-! TumblingRock.mail(III)I -/
abbrev dlX8_mail : List (Nat × (Instr × Nat)) := [(0, .aload_n 0, 1), (1, .iload_n 1, 1), (2, .invokevirtual 161, 3), (5, .ifCond .eq 11, 3), (8, .aload_n 0, 1), (9, .iload_n 2, 1), (10, .invokevirtual 161, 3), (13, .ifCond .ne 6, 3), (16, .ldc 147, 2), (18, .ireturn, 1), (19, .iload_n 3, 1), (20, .invokestatic 176, 3), (23, .ifCond .ne 6, 3), (26, .ldc 82, 2), (28, .ireturn, 1), (29, .aload_n 0, 1), (30, .getfield 50, 3), (33, .aload_n 0, 1), (34, .getfield 71, 3), (37, .iload_n 1, 1), (38, .iload_n 2, 1), (39, .aload_n 0, 1), (40, .iload_n 3, 1), (41, .invokevirtual 136, 3), (44, .invokevirtual 233, 3), (47, .ireturn, 1)]
theorem ddX8_mail : ∀ q ∈ dlX8_mail, decode cX8_mail q.1 = .ok q.2 := by decide +kernel
theorem sX8_mail_16 {l : Launch} {X : q_CX} (hl : X.2.1 = l) (hQ : q_QM X) (h : q_OK X yX8_mail cX8_mail 4 (some .int) rmX8_mail (Cond.code yX8_mail cX8_mail 4 (some .int) :: q_G)) : q_SK X 4 16 (BX8_mail_16) := by
  refine k_ldc (v := (-1000000001)) h (ddX8_mail (16, .ldc 147, 2) (List.mem_of_getElem? (i := 8) rfl)) (List.mem_cons_of_mem _ gw336) ?_
  exact k_iret h hQ (ddX8_mail (18, .ireturn, 1) (List.mem_of_getElem? (i := 9) rfl))
theorem sX8_mail_29 {l : Launch} {X : q_CX} (hl : X.2.1 = l) (hQ : q_QM X) (h : q_OK X yX8_mail cX8_mail 4 (some .int) rmX8_mail (Cond.code yX8_mail cX8_mail 4 (some .int) :: q_G)) : q_SK X 4 29 (BX8_mail_29) := by
  refine k_aload_n (i := 0) h (ddX8_mail (29, .aload_n 0, 1) (List.mem_of_getElem? (i := 15) rfl)) rfl ?_
  refine k_getf (ci := 8) (j := 6) (C := RX8) (T := TX8) (N := 11) h rfl (fun w hw => List.mem_cons_of_mem _ (q_inX8 w hw)) (by decide) (List.mem_cons_of_mem _ gw51) (ddX8_mail (30, .getfield 50, 3) (List.mem_of_getElem? (i := 16) rfl)) ?_
  refine k_aload_n (i := 0) h (ddX8_mail (33, .aload_n 0, 1) (List.mem_of_getElem? (i := 17) rfl)) rfl ?_
  refine k_getf (ci := 8) (j := 9) (C := RX8) (T := TX8) (N := 11) h rfl (fun w hw => List.mem_cons_of_mem _ (q_inX8 w hw)) (by decide) (List.mem_cons_of_mem _ gw135) (ddX8_mail (34, .getfield 71, 3) (List.mem_of_getElem? (i := 18) rfl)) ?_
  refine k_iload_n (i := 1) h (ddX8_mail (37, .iload_n 1, 1) (List.mem_of_getElem? (i := 19) rfl)) rfl ?_
  refine k_iload_n (i := 2) h (ddX8_mail (38, .iload_n 2, 1) (List.mem_of_getElem? (i := 20) rfl)) rfl ?_
  refine k_aload_n (i := 0) h (ddX8_mail (39, .aload_n 0, 1) (List.mem_of_getElem? (i := 21) rfl)) rfl ?_
  refine k_iload_n (i := 3) h (ddX8_mail (40, .iload_n 3, 1) (List.mem_of_getElem? (i := 22) rfl)) rfl ?_
  refine k_callV h hl (aX8_standingAt l) (ci := 8) (C := RX8) (T := TX8) (N := 11) rfl ⟨rfl, rfl⟩ (n := 1) (by decide +kernel) (q_gV gw325 gw326 gw327 gw91 gw324) ⟨by decide, by decide⟩ (ddX8_mail (41, .invokevirtual 136, 3) (List.mem_of_getElem? (i := 23) rfl)) ?_
  refine k_callV h hl (aX5_fewestLitSteps l) (ci := 5) (C := RX5) (T := TX5) (N := 2) rfl ⟨rfl, rfl⟩ (n := 4) (by decide +kernel) (q_gV gw492 gw493 gw494 gw45 gw491) ⟨by decide, by decide⟩ (ddX8_mail (44, .invokevirtual 233, 3) (List.mem_of_getElem? (i := 24) rfl)) ?_
  exact k_iret h hQ (ddX8_mail (47, .ireturn, 1) (List.mem_of_getElem? (i := 25) rfl))
theorem sX8_mail_26 {l : Launch} {X : q_CX} (hl : X.2.1 = l) (hQ : q_QM X) (h : q_OK X yX8_mail cX8_mail 4 (some .int) rmX8_mail (Cond.code yX8_mail cX8_mail 4 (some .int) :: q_G)) : q_SK X 4 26 (BX8_mail_26) := by
  refine k_ldc (v := (-1000000002)) h (ddX8_mail (26, .ldc 82, 2) (List.mem_of_getElem? (i := 13) rfl)) (List.mem_cons_of_mem _ gw140) ?_
  exact k_iret h hQ (ddX8_mail (28, .ireturn, 1) (List.mem_of_getElem? (i := 14) rfl))
theorem sX8_mail_19 {l : Launch} {X : q_CX} (hl : X.2.1 = l) (hQ : q_QM X) (h : q_OK X yX8_mail cX8_mail 4 (some .int) rmX8_mail (Cond.code yX8_mail cX8_mail 4 (some .int) :: q_G)) : q_SK X 4 19 (BX8_mail_19) := by
  refine k_iload_n (i := 3) h (ddX8_mail (19, .iload_n 3, 1) (List.mem_of_getElem? (i := 10) rfl)) rfl ?_
  refine k_callS h hl (aX8_isStep l) ⟨rfl, rfl⟩ (n := 1) (by decide +kernel) (q_gS gw370 gw369 gw91 gw368) ⟨by decide, by decide⟩ (ddX8_mail (20, .invokestatic 176, 3) (List.mem_of_getElem? (i := 11) rfl)) ?_
  refine k_ifne h (ddX8_mail (23, .ifCond .ne 6, 3) (List.mem_of_getElem? (i := 12) rfl)) (tgt := 29) (by decide) ?_ ?_
  · exact sX8_mail_29 hl hQ h
  · exact sX8_mail_26 hl hQ h
theorem sX8_mail_8 {l : Launch} {X : q_CX} (hl : X.2.1 = l) (hQ : q_QM X) (h : q_OK X yX8_mail cX8_mail 4 (some .int) rmX8_mail (Cond.code yX8_mail cX8_mail 4 (some .int) :: q_G)) : q_SK X 4 8 (BX8_mail_8) := by
  refine k_aload_n (i := 0) h (ddX8_mail (8, .aload_n 0, 1) (List.mem_of_getElem? (i := 4) rfl)) rfl ?_
  refine k_iload_n (i := 2) h (ddX8_mail (9, .iload_n 2, 1) (List.mem_of_getElem? (i := 5) rfl)) rfl ?_
  refine k_callV h hl (aX8_isPlace l) (ci := 8) (C := RX8) (T := TX8) (N := 11) rfl ⟨rfl, rfl⟩ (n := 1) (by decide +kernel) (q_gV gw341 gw342 gw343 gw91 gw340) ⟨by decide, by decide⟩ (ddX8_mail (10, .invokevirtual 161, 3) (List.mem_of_getElem? (i := 6) rfl)) ?_
  refine k_ifne h (ddX8_mail (13, .ifCond .ne 6, 3) (List.mem_of_getElem? (i := 7) rfl)) (tgt := 19) (by decide) ?_ ?_
  · exact sX8_mail_19 hl hQ h
  · exact sX8_mail_16 hl hQ h
theorem sX8_mail_0 {l : Launch} {X : q_CX} (hl : X.2.1 = l) (hQ : q_QM X) (h : q_OK X yX8_mail cX8_mail 4 (some .int) rmX8_mail (Cond.code yX8_mail cX8_mail 4 (some .int) :: q_G)) : q_SK X 4 0 (BX8_mail_0) := by
  refine k_aload_n (i := 0) h (ddX8_mail (0, .aload_n 0, 1) (List.mem_of_getElem? (i := 0) rfl)) rfl ?_
  refine k_iload_n (i := 1) h (ddX8_mail (1, .iload_n 1, 1) (List.mem_of_getElem? (i := 1) rfl)) rfl ?_
  refine k_callV h hl (aX8_isPlace l) (ci := 8) (C := RX8) (T := TX8) (N := 11) rfl ⟨rfl, rfl⟩ (n := 1) (by decide +kernel) (q_gV gw341 gw342 gw343 gw91 gw340) ⟨by decide, by decide⟩ (ddX8_mail (2, .invokevirtual 161, 3) (List.mem_of_getElem? (i := 2) rfl)) ?_
  refine k_ifeq h (ddX8_mail (5, .ifCond .eq 11, 3) (List.mem_of_getElem? (i := 3) rfl)) (tgt := 16) (by decide) ?_ ?_
  · exact sX8_mail_16 hl hQ h
  · exact sX8_mail_8 hl hQ h
theorem aX8_mail (l : Launch) (as : List Value) (sh : q_Sh) (m : q_Mm) (R : q_KR) (hw : wX8_mail as sh m R) : q_AM l yX8_mail (Cond.code yX8_mail cX8_mail 4 (some .int) :: q_G) rmX8_mail as sh m R := by
  refine q_met (code := TX8_mail) (by decide) (fun X hl hQ _ h pc => ?_) hw.1 hw.2
  unfold TX8_mail
  exact k_at (sX8_mail_0 hl hQ h) (k_no)
/-! TumblingRock$Rock.stepsTillCross(III)I -/
abbrev dlX4_stepsTillCross : List (Nat × (Instr × Nat)) := [(0, .iload_n 3, 1), (1, .istore 4, 2), (3, .iconst 0, 1), (4, .istore 5, 2), (6, .iload 5, 2), (8, .aload_n 0, 1), (9, .getfield 73, 3), (12, .if_icmp .ge 71, 3), (15, .aload_n 0, 1), (16, .iload_n 1, 1), (17, .iload 4, 2), (19, .invokevirtual 123, 3), (22, .iconst 1, 1), (23, .if_icmp .ne 18, 3), (26, .aload_n 0, 1), (27, .iload_n 2, 1), (28, .iload 4, 2), (30, .invokevirtual 123, 3), (33, .iconst 1, 1), (34, .if_icmp .ne 7, 3), (37, .iconst 1, 1), (38, .goto 4, 3), (41, .iconst 0, 1), (42, .istore 6, 2), (44, .iload 6, 2), (46, .ifCond .eq 23, 3), (49, .aload_n 0, 1), (50, .iload_n 1, 1), (51, .iload 4, 2), (53, .invokevirtual 87, 3), (56, .aload_n 0, 1), (57, .iload_n 2, 1), (58, .iload 4, 2), (60, .invokevirtual 87, 3), (63, .if_icmp .ne 6, 3), (66, .iload 5, 2), (68, .ireturn, 1), (69, .aload_n 0, 1), (70, .iload 4, 2), (72, .invokevirtual 126, 3), (75, .istore 4, 2), (77, .iinc 5 1, 3), (80, .goto (-74), 3), (83, .iconst (-1), 1), (84, .ireturn, 1)]
theorem ddX4_stepsTillCross : ∀ q ∈ dlX4_stepsTillCross, decode cX4_stepsTillCross q.1 = .ok q.2 := by decide +kernel
theorem sX4_stepsTillCross_0 {l : Launch} {X : q_CX} (hl : X.2.1 = l) (hQ : q_QM X) (h : q_OK X yX4_stepsTillCross cX4_stepsTillCross 7 (some .int) rmX4_stepsTillCross (Cond.code yX4_stepsTillCross cX4_stepsTillCross 7 (some .int) :: q_G)) : q_SK X 7 0 (BX4_stepsTillCross_0) := by
  refine k_iload_n (i := 3) h (ddX4_stepsTillCross (0, .iload_n 3, 1) (List.mem_of_getElem? (i := 0) rfl)) rfl ?_
  refine k_istore (i := 4) h (ddX4_stepsTillCross (1, .istore 4, 2) (List.mem_of_getElem? (i := 1) rfl)) (by decide) ?_
  refine k_iconst (v := 0) h (ddX4_stepsTillCross (3, .iconst 0, 1) (List.mem_of_getElem? (i := 2) rfl)) (by decide) ?_
  refine k_istore (i := 5) h (ddX4_stepsTillCross (4, .istore 5, 2) (List.mem_of_getElem? (i := 3) rfl)) (by decide) ?_
  exact k_cut
theorem sX4_stepsTillCross_83 {l : Launch} {X : q_CX} (hl : X.2.1 = l) (hQ : q_QM X) (h : q_OK X yX4_stepsTillCross cX4_stepsTillCross 7 (some .int) rmX4_stepsTillCross (Cond.code yX4_stepsTillCross cX4_stepsTillCross 7 (some .int) :: q_G)) : q_SK X 7 83 (BX4_stepsTillCross_83) := by
  refine k_iconst (v := (-1)) h (ddX4_stepsTillCross (83, .iconst (-1), 1) (List.mem_of_getElem? (i := 43) rfl)) (by decide) ?_
  exact k_iret h hQ (ddX4_stepsTillCross (84, .ireturn, 1) (List.mem_of_getElem? (i := 44) rfl))
theorem sX4_stepsTillCross_41 {l : Launch} {X : q_CX} (hl : X.2.1 = l) (hQ : q_QM X) (h : q_OK X yX4_stepsTillCross cX4_stepsTillCross 7 (some .int) rmX4_stepsTillCross (Cond.code yX4_stepsTillCross cX4_stepsTillCross 7 (some .int) :: q_G)) : q_SK X 7 41 (BX4_stepsTillCross_41) := by
  refine k_iconst (v := 0) h (ddX4_stepsTillCross (41, .iconst 0, 1) (List.mem_of_getElem? (i := 22) rfl)) (by decide) ?_
  exact k_cut
theorem sX4_stepsTillCross_37 {l : Launch} {X : q_CX} (hl : X.2.1 = l) (hQ : q_QM X) (h : q_OK X yX4_stepsTillCross cX4_stepsTillCross 7 (some .int) rmX4_stepsTillCross (Cond.code yX4_stepsTillCross cX4_stepsTillCross 7 (some .int) :: q_G)) : q_SK X 7 37 (BX4_stepsTillCross_37) := by
  refine k_iconst (v := 1) h (ddX4_stepsTillCross (37, .iconst 1, 1) (List.mem_of_getElem? (i := 20) rfl)) (by decide) ?_
  refine k_goto h (ddX4_stepsTillCross (38, .goto 4, 3) (List.mem_of_getElem? (i := 21) rfl)) (tgt := 42) (by decide) ?_
  exact k_cut
theorem sX4_stepsTillCross_26 {l : Launch} {X : q_CX} (hl : X.2.1 = l) (hQ : q_QM X) (h : q_OK X yX4_stepsTillCross cX4_stepsTillCross 7 (some .int) rmX4_stepsTillCross (Cond.code yX4_stepsTillCross cX4_stepsTillCross 7 (some .int) :: q_G)) : q_SK X 7 26 (BX4_stepsTillCross_26) := by
  refine k_aload_n (i := 0) h (ddX4_stepsTillCross (26, .aload_n 0, 1) (List.mem_of_getElem? (i := 14) rfl)) rfl ?_
  refine k_iload_n (i := 2) h (ddX4_stepsTillCross (27, .iload_n 2, 1) (List.mem_of_getElem? (i := 15) rfl)) rfl ?_
  refine k_iload (i := 4) h (ddX4_stepsTillCross (28, .iload 4, 2) (List.mem_of_getElem? (i := 16) rfl)) ?_
  refine k_callV h hl (aX4_litBit l) (ci := 4) (C := RX4) (T := TX4) (N := 14) rfl ⟨rfl, rfl⟩ (n := 2) (by decide +kernel) (q_gV gw348 gw349 gw350 gw71 gw347) ⟨by decide, by decide⟩ (ddX4_stepsTillCross (30, .invokevirtual 123, 3) (List.mem_of_getElem? (i := 17) rfl)) ?_
  refine k_iconst (v := 1) h (ddX4_stepsTillCross (33, .iconst 1, 1) (List.mem_of_getElem? (i := 18) rfl)) (by decide) ?_
  refine k_icne h (ddX4_stepsTillCross (34, .if_icmp .ne 7, 3) (List.mem_of_getElem? (i := 19) rfl)) (tgt := 41) (by decide) ?_ ?_
  · exact sX4_stepsTillCross_41 hl hQ h
  · exact sX4_stepsTillCross_37 hl hQ h
theorem sX4_stepsTillCross_15 {l : Launch} {X : q_CX} (hl : X.2.1 = l) (hQ : q_QM X) (h : q_OK X yX4_stepsTillCross cX4_stepsTillCross 7 (some .int) rmX4_stepsTillCross (Cond.code yX4_stepsTillCross cX4_stepsTillCross 7 (some .int) :: q_G)) : q_SK X 7 15 (BX4_stepsTillCross_15) := by
  refine k_aload_n (i := 0) h (ddX4_stepsTillCross (15, .aload_n 0, 1) (List.mem_of_getElem? (i := 8) rfl)) rfl ?_
  refine k_iload_n (i := 1) h (ddX4_stepsTillCross (16, .iload_n 1, 1) (List.mem_of_getElem? (i := 9) rfl)) rfl ?_
  refine k_iload (i := 4) h (ddX4_stepsTillCross (17, .iload 4, 2) (List.mem_of_getElem? (i := 10) rfl)) ?_
  refine k_callV h hl (aX4_litBit l) (ci := 4) (C := RX4) (T := TX4) (N := 14) rfl ⟨rfl, rfl⟩ (n := 2) (by decide +kernel) (q_gV gw348 gw349 gw350 gw71 gw347) ⟨by decide, by decide⟩ (ddX4_stepsTillCross (19, .invokevirtual 123, 3) (List.mem_of_getElem? (i := 11) rfl)) ?_
  refine k_iconst (v := 1) h (ddX4_stepsTillCross (22, .iconst 1, 1) (List.mem_of_getElem? (i := 12) rfl)) (by decide) ?_
  refine k_icne h (ddX4_stepsTillCross (23, .if_icmp .ne 18, 3) (List.mem_of_getElem? (i := 13) rfl)) (tgt := 41) (by decide) ?_ ?_
  · exact sX4_stepsTillCross_41 hl hQ h
  · exact sX4_stepsTillCross_26 hl hQ h
theorem sX4_stepsTillCross_6 {l : Launch} {X : q_CX} (hl : X.2.1 = l) (hQ : q_QM X) (h : q_OK X yX4_stepsTillCross cX4_stepsTillCross 7 (some .int) rmX4_stepsTillCross (Cond.code yX4_stepsTillCross cX4_stepsTillCross 7 (some .int) :: q_G)) : q_SK X 7 6 (BX4_stepsTillCross_6) := by
  refine k_iload (i := 5) h (ddX4_stepsTillCross (6, .iload 5, 2) (List.mem_of_getElem? (i := 4) rfl)) ?_
  refine k_aload_n (i := 0) h (ddX4_stepsTillCross (8, .aload_n 0, 1) (List.mem_of_getElem? (i := 5) rfl)) rfl ?_
  refine k_getf (ci := 4) (j := 5) (C := RX4) (T := TX4) (N := 14) h rfl (fun w hw => List.mem_cons_of_mem _ (q_inX4 w hw)) (by decide) (List.mem_cons_of_mem _ gw97) (ddX4_stepsTillCross (9, .getfield 73, 3) (List.mem_of_getElem? (i := 6) rfl)) ?_
  refine k_icge h (ddX4_stepsTillCross (12, .if_icmp .ge 71, 3) (List.mem_of_getElem? (i := 7) rfl)) (tgt := 83) (by decide) ?_ ?_
  · exact sX4_stepsTillCross_83 hl hQ h
  · exact sX4_stepsTillCross_15 hl hQ h
theorem sX4_stepsTillCross_69 {l : Launch} {X : q_CX} (hl : X.2.1 = l) (hQ : q_QM X) (h : q_OK X yX4_stepsTillCross cX4_stepsTillCross 7 (some .int) rmX4_stepsTillCross (Cond.code yX4_stepsTillCross cX4_stepsTillCross 7 (some .int) :: q_G)) : q_SK X 7 69 (BX4_stepsTillCross_69) := by
  refine k_aload_n (i := 0) h (ddX4_stepsTillCross (69, .aload_n 0, 1) (List.mem_of_getElem? (i := 37) rfl)) rfl ?_
  refine k_iload (i := 4) h (ddX4_stepsTillCross (70, .iload 4, 2) (List.mem_of_getElem? (i := 38) rfl)) ?_
  refine k_callV h hl (aX4_stepLater l) (ci := 4) (C := RX4) (T := TX4) (N := 14) rfl ⟨rfl, rfl⟩ (n := 1) (by decide +kernel) (q_gV gw355 gw356 gw357 gw71 gw354) ⟨by decide, by decide⟩ (ddX4_stepsTillCross (72, .invokevirtual 126, 3) (List.mem_of_getElem? (i := 39) rfl)) ?_
  refine k_istore (i := 4) h (ddX4_stepsTillCross (75, .istore 4, 2) (List.mem_of_getElem? (i := 40) rfl)) (by decide) ?_
  refine k_iinc (d := 1) h (ddX4_stepsTillCross (77, .iinc 5 1, 3) (List.mem_of_getElem? (i := 41) rfl)) (by decide) (by decide) ?_
  refine k_goto h (ddX4_stepsTillCross (80, .goto (-74), 3) (List.mem_of_getElem? (i := 42) rfl)) (tgt := 6) (by decide) ?_
  exact k_cut
theorem sX4_stepsTillCross_66 {l : Launch} {X : q_CX} (hl : X.2.1 = l) (hQ : q_QM X) (h : q_OK X yX4_stepsTillCross cX4_stepsTillCross 7 (some .int) rmX4_stepsTillCross (Cond.code yX4_stepsTillCross cX4_stepsTillCross 7 (some .int) :: q_G)) : q_SK X 7 66 (BX4_stepsTillCross_66) := by
  refine k_iload (i := 5) h (ddX4_stepsTillCross (66, .iload 5, 2) (List.mem_of_getElem? (i := 35) rfl)) ?_
  exact k_iret h hQ (ddX4_stepsTillCross (68, .ireturn, 1) (List.mem_of_getElem? (i := 36) rfl))
theorem sX4_stepsTillCross_49 {l : Launch} {X : q_CX} (hl : X.2.1 = l) (hQ : q_QM X) (h : q_OK X yX4_stepsTillCross cX4_stepsTillCross 7 (some .int) rmX4_stepsTillCross (Cond.code yX4_stepsTillCross cX4_stepsTillCross 7 (some .int) :: q_G)) : q_SK X 7 49 (BX4_stepsTillCross_49) := by
  refine k_aload_n (i := 0) h (ddX4_stepsTillCross (49, .aload_n 0, 1) (List.mem_of_getElem? (i := 26) rfl)) rfl ?_
  refine k_iload_n (i := 1) h (ddX4_stepsTillCross (50, .iload_n 1, 1) (List.mem_of_getElem? (i := 27) rfl)) rfl ?_
  refine k_iload (i := 4) h (ddX4_stepsTillCross (51, .iload 4, 2) (List.mem_of_getElem? (i := 28) rfl)) ?_
  refine k_callV h hl (aX4_heightOf l) (ci := 4) (C := RX4) (T := TX4) (N := 14) rfl ⟨rfl, rfl⟩ (n := 2) (by decide +kernel) (q_gV gw113 gw114 gw115 gw71 gw112) ⟨by decide, by decide⟩ (ddX4_stepsTillCross (53, .invokevirtual 87, 3) (List.mem_of_getElem? (i := 29) rfl)) ?_
  refine k_aload_n (i := 0) h (ddX4_stepsTillCross (56, .aload_n 0, 1) (List.mem_of_getElem? (i := 30) rfl)) rfl ?_
  refine k_iload_n (i := 2) h (ddX4_stepsTillCross (57, .iload_n 2, 1) (List.mem_of_getElem? (i := 31) rfl)) rfl ?_
  refine k_iload (i := 4) h (ddX4_stepsTillCross (58, .iload 4, 2) (List.mem_of_getElem? (i := 32) rfl)) ?_
  refine k_callV h hl (aX4_heightOf l) (ci := 4) (C := RX4) (T := TX4) (N := 14) rfl ⟨rfl, rfl⟩ (n := 2) (by decide +kernel) (q_gV gw113 gw114 gw115 gw71 gw112) ⟨by decide, by decide⟩ (ddX4_stepsTillCross (60, .invokevirtual 87, 3) (List.mem_of_getElem? (i := 33) rfl)) ?_
  refine k_icne h (ddX4_stepsTillCross (63, .if_icmp .ne 6, 3) (List.mem_of_getElem? (i := 34) rfl)) (tgt := 69) (by decide) ?_ ?_
  · exact sX4_stepsTillCross_69 hl hQ h
  · exact sX4_stepsTillCross_66 hl hQ h
theorem sX4_stepsTillCross_42 {l : Launch} {X : q_CX} (hl : X.2.1 = l) (hQ : q_QM X) (h : q_OK X yX4_stepsTillCross cX4_stepsTillCross 7 (some .int) rmX4_stepsTillCross (Cond.code yX4_stepsTillCross cX4_stepsTillCross 7 (some .int) :: q_G)) : q_SK X 7 42 (BX4_stepsTillCross_42) := by
  refine k_istore (i := 6) h (ddX4_stepsTillCross (42, .istore 6, 2) (List.mem_of_getElem? (i := 23) rfl)) (by decide) ?_
  refine k_iload (i := 6) h (ddX4_stepsTillCross (44, .iload 6, 2) (List.mem_of_getElem? (i := 24) rfl)) ?_
  refine k_ifeq h (ddX4_stepsTillCross (46, .ifCond .eq 23, 3) (List.mem_of_getElem? (i := 25) rfl)) (tgt := 69) (by decide) ?_ ?_
  · exact sX4_stepsTillCross_69 hl hQ h
  · exact sX4_stepsTillCross_49 hl hQ h
theorem aX4_stepsTillCross (l : Launch) (as : List Value) (sh : q_Sh) (m : q_Mm) (R : q_KR) (hw : wX4_stepsTillCross as sh m R) : q_AM l yX4_stepsTillCross (Cond.code yX4_stepsTillCross cX4_stepsTillCross 7 (some .int) :: q_G) rmX4_stepsTillCross as sh m R := by
  refine q_met (code := TX4_stepsTillCross) (by decide) (fun X hl hQ _ h pc => ?_) hw.1 hw.2
  unfold TX4_stepsTillCross
  exact k_at (sX4_stepsTillCross_0 hl hQ h) (k_at (sX4_stepsTillCross_6 hl hQ h) (k_at (sX4_stepsTillCross_42 hl hQ h) (k_no)))
/-! TumblingRock.cross(III)I -/
abbrev dlX8_cross : List (Nat × (Instr × Nat)) := [(0, .aload_n 0, 1), (1, .iload_n 1, 1), (2, .invokevirtual 161, 3), (5, .ifCond .eq 16, 3), (8, .aload_n 0, 1), (9, .iload_n 2, 1), (10, .invokevirtual 161, 3), (13, .ifCond .eq 8, 3), (16, .iload_n 1, 1), (17, .iload_n 2, 1), (18, .if_icmp .ne 6, 3), (21, .ldc 147, 2), (23, .ireturn, 1), (24, .iload_n 3, 1), (25, .invokestatic 176, 3), (28, .ifCond .ne 6, 3), (31, .ldc 82, 2), (33, .ireturn, 1), (34, .aload_n 0, 1), (35, .getfield 71, 3), (38, .iload_n 1, 1), (39, .iload_n 2, 1), (40, .aload_n 0, 1), (41, .iload_n 3, 1), (42, .invokevirtual 136, 3), (45, .invokevirtual 237, 3), (48, .istore 4, 2), (50, .iload 4, 2), (52, .iconst (-1), 1), (53, .if_icmp .ne 7, 3), (56, .iconst (-1), 1), (57, .goto 7, 3), (60, .iload_n 3, 1), (61, .iload 4, 2), (63, .iadd, 1), (64, .ireturn, 1)]
theorem ddX8_cross : ∀ q ∈ dlX8_cross, decode cX8_cross q.1 = .ok q.2 := by decide +kernel
theorem sX8_cross_21 {l : Launch} {X : q_CX} (hl : X.2.1 = l) (hQ : q_QM X) (h : q_OK X yX8_cross cX8_cross 5 (some .int) rmX8_cross (Cond.code yX8_cross cX8_cross 5 (some .int) :: q_G)) : q_SK X 5 21 (BX8_cross_21) := by
  refine k_ldc (v := (-1000000001)) h (ddX8_cross (21, .ldc 147, 2) (List.mem_of_getElem? (i := 11) rfl)) (List.mem_cons_of_mem _ gw336) ?_
  exact k_iret h hQ (ddX8_cross (23, .ireturn, 1) (List.mem_of_getElem? (i := 12) rfl))
theorem sX8_cross_64 {l : Launch} {X : q_CX} (hl : X.2.1 = l) (hQ : q_QM X) (h : q_OK X yX8_cross cX8_cross 5 (some .int) rmX8_cross (Cond.code yX8_cross cX8_cross 5 (some .int) :: q_G)) : q_SK X 5 64 (BX8_cross_64) := by
  exact k_iret h hQ (ddX8_cross (64, .ireturn, 1) (List.mem_of_getElem? (i := 35) rfl))
theorem sX8_cross_60 {l : Launch} {X : q_CX} (hl : X.2.1 = l) (hQ : q_QM X) (h : q_OK X yX8_cross cX8_cross 5 (some .int) rmX8_cross (Cond.code yX8_cross cX8_cross 5 (some .int) :: q_G)) : q_SK X 5 60 (BX8_cross_60) := by
  refine k_iload_n (i := 3) h (ddX8_cross (60, .iload_n 3, 1) (List.mem_of_getElem? (i := 32) rfl)) rfl ?_
  refine k_iload (i := 4) h (ddX8_cross (61, .iload 4, 2) (List.mem_of_getElem? (i := 33) rfl)) ?_
  refine k_iadd h (ddX8_cross (63, .iadd, 1) (List.mem_of_getElem? (i := 34) rfl)) ?_
  exact sX8_cross_64 hl hQ h
theorem sX8_cross_56 {l : Launch} {X : q_CX} (hl : X.2.1 = l) (hQ : q_QM X) (h : q_OK X yX8_cross cX8_cross 5 (some .int) rmX8_cross (Cond.code yX8_cross cX8_cross 5 (some .int) :: q_G)) : q_SK X 5 56 (BX8_cross_56) := by
  refine k_iconst (v := (-1)) h (ddX8_cross (56, .iconst (-1), 1) (List.mem_of_getElem? (i := 30) rfl)) (by decide) ?_
  refine k_goto h (ddX8_cross (57, .goto 7, 3) (List.mem_of_getElem? (i := 31) rfl)) (tgt := 64) (by decide) ?_
  exact sX8_cross_64 hl hQ h
theorem sX8_cross_34 {l : Launch} {X : q_CX} (hl : X.2.1 = l) (hQ : q_QM X) (h : q_OK X yX8_cross cX8_cross 5 (some .int) rmX8_cross (Cond.code yX8_cross cX8_cross 5 (some .int) :: q_G)) : q_SK X 5 34 (BX8_cross_34) := by
  refine k_aload_n (i := 0) h (ddX8_cross (34, .aload_n 0, 1) (List.mem_of_getElem? (i := 18) rfl)) rfl ?_
  refine k_getf (ci := 8) (j := 9) (C := RX8) (T := TX8) (N := 11) h rfl (fun w hw => List.mem_cons_of_mem _ (q_inX8 w hw)) (by decide) (List.mem_cons_of_mem _ gw135) (ddX8_cross (35, .getfield 71, 3) (List.mem_of_getElem? (i := 19) rfl)) ?_
  refine k_iload_n (i := 1) h (ddX8_cross (38, .iload_n 1, 1) (List.mem_of_getElem? (i := 20) rfl)) rfl ?_
  refine k_iload_n (i := 2) h (ddX8_cross (39, .iload_n 2, 1) (List.mem_of_getElem? (i := 21) rfl)) rfl ?_
  refine k_aload_n (i := 0) h (ddX8_cross (40, .aload_n 0, 1) (List.mem_of_getElem? (i := 22) rfl)) rfl ?_
  refine k_iload_n (i := 3) h (ddX8_cross (41, .iload_n 3, 1) (List.mem_of_getElem? (i := 23) rfl)) rfl ?_
  refine k_callV h hl (aX8_standingAt l) (ci := 8) (C := RX8) (T := TX8) (N := 11) rfl ⟨rfl, rfl⟩ (n := 1) (by decide +kernel) (q_gV gw325 gw326 gw327 gw91 gw324) ⟨by decide, by decide⟩ (ddX8_cross (42, .invokevirtual 136, 3) (List.mem_of_getElem? (i := 24) rfl)) ?_
  refine k_callV h hl (aX4_stepsTillCross l) (ci := 4) (C := RX4) (T := TX4) (N := 14) rfl ⟨rfl, rfl⟩ (n := 3) (by decide +kernel) (q_gV gw496 gw497 gw498 gw71 gw495) ⟨by decide, by decide⟩ (ddX8_cross (45, .invokevirtual 237, 3) (List.mem_of_getElem? (i := 25) rfl)) ?_
  refine k_istore (i := 4) h (ddX8_cross (48, .istore 4, 2) (List.mem_of_getElem? (i := 26) rfl)) (by decide) ?_
  refine k_iload (i := 4) h (ddX8_cross (50, .iload 4, 2) (List.mem_of_getElem? (i := 27) rfl)) ?_
  refine k_iconst (v := (-1)) h (ddX8_cross (52, .iconst (-1), 1) (List.mem_of_getElem? (i := 28) rfl)) (by decide) ?_
  refine k_icne h (ddX8_cross (53, .if_icmp .ne 7, 3) (List.mem_of_getElem? (i := 29) rfl)) (tgt := 60) (by decide) ?_ ?_
  · exact sX8_cross_60 hl hQ h
  · exact sX8_cross_56 hl hQ h
theorem sX8_cross_31 {l : Launch} {X : q_CX} (hl : X.2.1 = l) (hQ : q_QM X) (h : q_OK X yX8_cross cX8_cross 5 (some .int) rmX8_cross (Cond.code yX8_cross cX8_cross 5 (some .int) :: q_G)) : q_SK X 5 31 (BX8_cross_31) := by
  refine k_ldc (v := (-1000000002)) h (ddX8_cross (31, .ldc 82, 2) (List.mem_of_getElem? (i := 16) rfl)) (List.mem_cons_of_mem _ gw140) ?_
  exact k_iret h hQ (ddX8_cross (33, .ireturn, 1) (List.mem_of_getElem? (i := 17) rfl))
theorem sX8_cross_24 {l : Launch} {X : q_CX} (hl : X.2.1 = l) (hQ : q_QM X) (h : q_OK X yX8_cross cX8_cross 5 (some .int) rmX8_cross (Cond.code yX8_cross cX8_cross 5 (some .int) :: q_G)) : q_SK X 5 24 (BX8_cross_24) := by
  refine k_iload_n (i := 3) h (ddX8_cross (24, .iload_n 3, 1) (List.mem_of_getElem? (i := 13) rfl)) rfl ?_
  refine k_callS h hl (aX8_isStep l) ⟨rfl, rfl⟩ (n := 1) (by decide +kernel) (q_gS gw370 gw369 gw91 gw368) ⟨by decide, by decide⟩ (ddX8_cross (25, .invokestatic 176, 3) (List.mem_of_getElem? (i := 14) rfl)) ?_
  refine k_ifne h (ddX8_cross (28, .ifCond .ne 6, 3) (List.mem_of_getElem? (i := 15) rfl)) (tgt := 34) (by decide) ?_ ?_
  · exact sX8_cross_34 hl hQ h
  · exact sX8_cross_31 hl hQ h
theorem sX8_cross_16 {l : Launch} {X : q_CX} (hl : X.2.1 = l) (hQ : q_QM X) (h : q_OK X yX8_cross cX8_cross 5 (some .int) rmX8_cross (Cond.code yX8_cross cX8_cross 5 (some .int) :: q_G)) : q_SK X 5 16 (BX8_cross_16) := by
  refine k_iload_n (i := 1) h (ddX8_cross (16, .iload_n 1, 1) (List.mem_of_getElem? (i := 8) rfl)) rfl ?_
  refine k_iload_n (i := 2) h (ddX8_cross (17, .iload_n 2, 1) (List.mem_of_getElem? (i := 9) rfl)) rfl ?_
  refine k_icne h (ddX8_cross (18, .if_icmp .ne 6, 3) (List.mem_of_getElem? (i := 10) rfl)) (tgt := 24) (by decide) ?_ ?_
  · exact sX8_cross_24 hl hQ h
  · exact sX8_cross_21 hl hQ h
theorem sX8_cross_8 {l : Launch} {X : q_CX} (hl : X.2.1 = l) (hQ : q_QM X) (h : q_OK X yX8_cross cX8_cross 5 (some .int) rmX8_cross (Cond.code yX8_cross cX8_cross 5 (some .int) :: q_G)) : q_SK X 5 8 (BX8_cross_8) := by
  refine k_aload_n (i := 0) h (ddX8_cross (8, .aload_n 0, 1) (List.mem_of_getElem? (i := 4) rfl)) rfl ?_
  refine k_iload_n (i := 2) h (ddX8_cross (9, .iload_n 2, 1) (List.mem_of_getElem? (i := 5) rfl)) rfl ?_
  refine k_callV h hl (aX8_isPlace l) (ci := 8) (C := RX8) (T := TX8) (N := 11) rfl ⟨rfl, rfl⟩ (n := 1) (by decide +kernel) (q_gV gw341 gw342 gw343 gw91 gw340) ⟨by decide, by decide⟩ (ddX8_cross (10, .invokevirtual 161, 3) (List.mem_of_getElem? (i := 6) rfl)) ?_
  refine k_ifeq h (ddX8_cross (13, .ifCond .eq 8, 3) (List.mem_of_getElem? (i := 7) rfl)) (tgt := 21) (by decide) ?_ ?_
  · exact sX8_cross_21 hl hQ h
  · exact sX8_cross_16 hl hQ h
theorem sX8_cross_0 {l : Launch} {X : q_CX} (hl : X.2.1 = l) (hQ : q_QM X) (h : q_OK X yX8_cross cX8_cross 5 (some .int) rmX8_cross (Cond.code yX8_cross cX8_cross 5 (some .int) :: q_G)) : q_SK X 5 0 (BX8_cross_0) := by
  refine k_aload_n (i := 0) h (ddX8_cross (0, .aload_n 0, 1) (List.mem_of_getElem? (i := 0) rfl)) rfl ?_
  refine k_iload_n (i := 1) h (ddX8_cross (1, .iload_n 1, 1) (List.mem_of_getElem? (i := 1) rfl)) rfl ?_
  refine k_callV h hl (aX8_isPlace l) (ci := 8) (C := RX8) (T := TX8) (N := 11) rfl ⟨rfl, rfl⟩ (n := 1) (by decide +kernel) (q_gV gw341 gw342 gw343 gw91 gw340) ⟨by decide, by decide⟩ (ddX8_cross (2, .invokevirtual 161, 3) (List.mem_of_getElem? (i := 2) rfl)) ?_
  refine k_ifeq h (ddX8_cross (5, .ifCond .eq 16, 3) (List.mem_of_getElem? (i := 3) rfl)) (tgt := 21) (by decide) ?_ ?_
  · exact sX8_cross_21 hl hQ h
  · exact sX8_cross_8 hl hQ h
theorem aX8_cross (l : Launch) (as : List Value) (sh : q_Sh) (m : q_Mm) (R : q_KR) (hw : wX8_cross as sh m R) : q_AM l yX8_cross (Cond.code yX8_cross cX8_cross 5 (some .int) :: q_G) rmX8_cross as sh m R := by
  refine q_met (code := TX8_cross) (by decide) (fun X hl hQ _ h pc => ?_) hw.1 hw.2
  unfold TX8_cross
  exact k_at (sX8_cross_0 hl hQ h) (k_no)
/-! TumblingRock.store()I -/
abbrev dlX8_store : List (Nat × (Instr × Nat)) := [(0, .iconst (-1), 1), (1, .istore_n 1, 1), (2, .aload_n 0, 1), (3, .getfield 71, 3), (6, .getfield 120, 3), (9, .iconst 1, 1), (10, .iadd, 1), (11, .istore_n 2, 1), (12, .iconst 0, 1), (13, .istore_n 3, 1), (14, .iload_n 3, 1), (15, .aload_n 0, 1), (16, .getfield 71, 3), (19, .getfield 105, 3), (22, .if_icmp .ge 37, 3), (25, .aload_n 0, 1), (26, .getfield 71, 3), (29, .iload_n 3, 1), (30, .aload_n 0, 1), (31, .getfield 28, 3), (34, .getfield 155, 3), (37, .invokevirtual 170, 3), (40, .istore 4, 2), (42, .iload 4, 2), (44, .iload_n 2, 1), (45, .if_icmp .ge 8, 3), (48, .iload 4, 2), (50, .istore_n 2, 1), (51, .iload_n 3, 1), (52, .istore_n 1, 1), (53, .iinc 3 1, 3), (56, .goto (-42), 3), (59, .iload_n 1, 1), (60, .ireturn, 1)]
theorem ddX8_store : ∀ q ∈ dlX8_store, decode cX8_store q.1 = .ok q.2 := by decide +kernel
theorem sX8_store_0 {l : Launch} {X : q_CX} (hl : X.2.1 = l) (hQ : q_QM X) (h : q_OK X yX8_store cX8_store 5 (some .int) rmX8_store (Cond.code yX8_store cX8_store 5 (some .int) :: q_G)) : q_SK X 5 0 (BX8_store_0) := by
  refine k_iconst (v := (-1)) h (ddX8_store (0, .iconst (-1), 1) (List.mem_of_getElem? (i := 0) rfl)) (by decide) ?_
  refine k_istore_n (i := 1) h (ddX8_store (1, .istore_n 1, 1) (List.mem_of_getElem? (i := 1) rfl)) rfl (by decide) ?_
  refine k_aload_n (i := 0) h (ddX8_store (2, .aload_n 0, 1) (List.mem_of_getElem? (i := 2) rfl)) rfl ?_
  refine k_getf (ci := 8) (j := 9) (C := RX8) (T := TX8) (N := 11) h rfl (fun w hw => List.mem_cons_of_mem _ (q_inX8 w hw)) (by decide) (List.mem_cons_of_mem _ gw135) (ddX8_store (3, .getfield 71, 3) (List.mem_of_getElem? (i := 3) rfl)) ?_
  refine k_getf (ci := 4) (j := 5) (C := RX4) (T := TX4) (N := 14) h rfl (fun w hw => List.mem_cons_of_mem _ (q_inX4 w hw)) (by decide) (List.mem_cons_of_mem _ gw317) (ddX8_store (6, .getfield 120, 3) (List.mem_of_getElem? (i := 4) rfl)) ?_
  refine k_iconst (v := 1) h (ddX8_store (9, .iconst 1, 1) (List.mem_of_getElem? (i := 5) rfl)) (by decide) ?_
  refine k_iadd h (ddX8_store (10, .iadd, 1) (List.mem_of_getElem? (i := 6) rfl)) ?_
  refine k_istore_n (i := 2) h (ddX8_store (11, .istore_n 2, 1) (List.mem_of_getElem? (i := 7) rfl)) rfl (by decide) ?_
  refine k_iconst (v := 0) h (ddX8_store (12, .iconst 0, 1) (List.mem_of_getElem? (i := 8) rfl)) (by decide) ?_
  refine k_istore_n (i := 3) h (ddX8_store (13, .istore_n 3, 1) (List.mem_of_getElem? (i := 9) rfl)) rfl (by decide) ?_
  exact k_cut
theorem sX8_store_59 {l : Launch} {X : q_CX} (hl : X.2.1 = l) (hQ : q_QM X) (h : q_OK X yX8_store cX8_store 5 (some .int) rmX8_store (Cond.code yX8_store cX8_store 5 (some .int) :: q_G)) : q_SK X 5 59 (BX8_store_59) := by
  refine k_iload_n (i := 1) h (ddX8_store (59, .iload_n 1, 1) (List.mem_of_getElem? (i := 32) rfl)) rfl ?_
  exact k_iret h hQ (ddX8_store (60, .ireturn, 1) (List.mem_of_getElem? (i := 33) rfl))
theorem sX8_store_53 {l : Launch} {X : q_CX} (hl : X.2.1 = l) (hQ : q_QM X) (h : q_OK X yX8_store cX8_store 5 (some .int) rmX8_store (Cond.code yX8_store cX8_store 5 (some .int) :: q_G)) : q_SK X 5 53 (BX8_store_53) := by
  refine k_iinc (d := 1) h (ddX8_store (53, .iinc 3 1, 3) (List.mem_of_getElem? (i := 30) rfl)) (by decide) (by decide) ?_
  refine k_goto h (ddX8_store (56, .goto (-42), 3) (List.mem_of_getElem? (i := 31) rfl)) (tgt := 14) (by decide) ?_
  exact k_cut
theorem sX8_store_48 {l : Launch} {X : q_CX} (hl : X.2.1 = l) (hQ : q_QM X) (h : q_OK X yX8_store cX8_store 5 (some .int) rmX8_store (Cond.code yX8_store cX8_store 5 (some .int) :: q_G)) : q_SK X 5 48 (BX8_store_48) := by
  refine k_iload (i := 4) h (ddX8_store (48, .iload 4, 2) (List.mem_of_getElem? (i := 26) rfl)) ?_
  refine k_istore_n (i := 2) h (ddX8_store (50, .istore_n 2, 1) (List.mem_of_getElem? (i := 27) rfl)) rfl (by decide) ?_
  refine k_iload_n (i := 3) h (ddX8_store (51, .iload_n 3, 1) (List.mem_of_getElem? (i := 28) rfl)) rfl ?_
  refine k_istore_n (i := 1) h (ddX8_store (52, .istore_n 1, 1) (List.mem_of_getElem? (i := 29) rfl)) rfl (by decide) ?_
  exact sX8_store_53 hl hQ h
theorem sX8_store_25 {l : Launch} {X : q_CX} (hl : X.2.1 = l) (hQ : q_QM X) (h : q_OK X yX8_store cX8_store 5 (some .int) rmX8_store (Cond.code yX8_store cX8_store 5 (some .int) :: q_G)) : q_SK X 5 25 (BX8_store_25) := by
  refine k_aload_n (i := 0) h (ddX8_store (25, .aload_n 0, 1) (List.mem_of_getElem? (i := 15) rfl)) rfl ?_
  refine k_getf (ci := 8) (j := 9) (C := RX8) (T := TX8) (N := 11) h rfl (fun w hw => List.mem_cons_of_mem _ (q_inX8 w hw)) (by decide) (List.mem_cons_of_mem _ gw135) (ddX8_store (26, .getfield 71, 3) (List.mem_of_getElem? (i := 16) rfl)) ?_
  refine k_iload_n (i := 3) h (ddX8_store (29, .iload_n 3, 1) (List.mem_of_getElem? (i := 17) rfl)) rfl ?_
  refine k_aload_n (i := 0) h (ddX8_store (30, .aload_n 0, 1) (List.mem_of_getElem? (i := 18) rfl)) rfl ?_
  refine k_getf (ci := 8) (j := 2) (C := RX8) (T := TX8) (N := 11) h rfl (fun w hw => List.mem_cons_of_mem _ (q_inX8 w hw)) (by decide) (List.mem_cons_of_mem _ gw28) (ddX8_store (31, .getfield 28, 3) (List.mem_of_getElem? (i := 19) rfl)) ?_
  refine k_getf (ci := 1) (j := 0) (C := RX1) (T := TX1) (N := 5) h rfl (fun w hw => List.mem_cons_of_mem _ (q_inX1 w hw)) (by decide) (List.mem_cons_of_mem _ gw322) (ddX8_store (34, .getfield 155, 3) (List.mem_of_getElem? (i := 20) rfl)) ?_
  refine k_callV h hl (aX4_longestDark l) (ci := 4) (C := RX4) (T := TX4) (N := 14) rfl ⟨rfl, rfl⟩ (n := 2) (by decide +kernel) (q_gV gw360 gw361 gw362 gw71 gw359) ⟨by decide, by decide⟩ (ddX8_store (37, .invokevirtual 170, 3) (List.mem_of_getElem? (i := 21) rfl)) ?_
  refine k_istore (i := 4) h (ddX8_store (40, .istore 4, 2) (List.mem_of_getElem? (i := 22) rfl)) (by decide) ?_
  refine k_iload (i := 4) h (ddX8_store (42, .iload 4, 2) (List.mem_of_getElem? (i := 23) rfl)) ?_
  refine k_iload_n (i := 2) h (ddX8_store (44, .iload_n 2, 1) (List.mem_of_getElem? (i := 24) rfl)) rfl ?_
  refine k_icge h (ddX8_store (45, .if_icmp .ge 8, 3) (List.mem_of_getElem? (i := 25) rfl)) (tgt := 53) (by decide) ?_ ?_
  · exact sX8_store_53 hl hQ h
  · exact sX8_store_48 hl hQ h
theorem sX8_store_14 {l : Launch} {X : q_CX} (hl : X.2.1 = l) (hQ : q_QM X) (h : q_OK X yX8_store cX8_store 5 (some .int) rmX8_store (Cond.code yX8_store cX8_store 5 (some .int) :: q_G)) : q_SK X 5 14 (BX8_store_14) := by
  refine k_iload_n (i := 3) h (ddX8_store (14, .iload_n 3, 1) (List.mem_of_getElem? (i := 10) rfl)) rfl ?_
  refine k_aload_n (i := 0) h (ddX8_store (15, .aload_n 0, 1) (List.mem_of_getElem? (i := 11) rfl)) rfl ?_
  refine k_getf (ci := 8) (j := 9) (C := RX8) (T := TX8) (N := 11) h rfl (fun w hw => List.mem_cons_of_mem _ (q_inX8 w hw)) (by decide) (List.mem_cons_of_mem _ gw135) (ddX8_store (16, .getfield 71, 3) (List.mem_of_getElem? (i := 12) rfl)) ?_
  refine k_getf (ci := 4) (j := 1) (C := RX4) (T := TX4) (N := 14) h rfl (fun w hw => List.mem_cons_of_mem _ (q_inX4 w hw)) (by decide) (List.mem_cons_of_mem _ gw312) (ddX8_store (19, .getfield 105, 3) (List.mem_of_getElem? (i := 13) rfl)) ?_
  refine k_icge h (ddX8_store (22, .if_icmp .ge 37, 3) (List.mem_of_getElem? (i := 14) rfl)) (tgt := 59) (by decide) ?_ ?_
  · exact sX8_store_59 hl hQ h
  · exact sX8_store_25 hl hQ h
theorem aX8_store (l : Launch) (as : List Value) (sh : q_Sh) (m : q_Mm) (R : q_KR) (hw : wX8_store as sh m R) : q_AM l yX8_store (Cond.code yX8_store cX8_store 5 (some .int) :: q_G) rmX8_store as sh m R := by
  refine q_met (code := TX8_store) (by decide) (fun X hl hQ _ h pc => ?_) hw.1 hw.2
  unfold TX8_store
  exact k_at (sX8_store_0 hl hQ h) (k_at (sX8_store_14 hl hQ h) (k_no))
/-! TumblingRock$Sight.fitAt(I)I -/
abbrev dlX6_fitAt : List (Nat × (Instr × Nat)) := [(0, .aload_n 0, 1), (1, .getfield 9, 3), (4, .iload_n 1, 1), (5, .invokestatic 44, 3), (8, .ireturn, 1)]
theorem ddX6_fitAt : ∀ q ∈ dlX6_fitAt, decode cX6_fitAt q.1 = .ok q.2 := by decide +kernel
theorem sX6_fitAt_0 {l : Launch} {X : q_CX} (hl : X.2.1 = l) (hQ : q_QM X) (h : q_OK X yX6_fitAt cX6_fitAt 2 (some .int) rmX6_fitAt (Cond.code yX6_fitAt cX6_fitAt 2 (some .int) :: q_G)) : q_SK X 2 0 (BX6_fitAt_0) := by
  refine k_aload_n (i := 0) h (ddX6_fitAt (0, .aload_n 0, 1) (List.mem_of_getElem? (i := 0) rfl)) rfl ?_
  refine k_getf (ci := 6) (j := 6) (C := RX6) (T := TX6) (N := 8) h rfl (fun w hw => List.mem_cons_of_mem _ (q_inX6 w hw)) (by decide) (List.mem_cons_of_mem _ gw36) (ddX6_fitAt (1, .getfield 9, 3) (List.mem_of_getElem? (i := 1) rfl)) ?_
  refine k_iload_n (i := 1) h (ddX6_fitAt (4, .iload_n 1, 1) (List.mem_of_getElem? (i := 2) rfl)) rfl ?_
  refine k_callN h hl (aX8_at l) ⟨rfl, rfl⟩ (n := 2) (by decide +kernel) (q_gN gw98) (by decide +kernel) (List.mem_cons_of_mem _ gw91) (List.mem_cons_of_mem _ gw99) ⟨by decide, by decide⟩ (ddX6_fitAt (5, .invokestatic 44, 3) (List.mem_of_getElem? (i := 3) rfl)) ?_
  exact k_iret h hQ (ddX6_fitAt (8, .ireturn, 1) (List.mem_of_getElem? (i := 4) rfl))
theorem aX6_fitAt (l : Launch) (as : List Value) (sh : q_Sh) (m : q_Mm) (R : q_KR) (hw : wX6_fitAt as sh m R) : q_AM l yX6_fitAt (Cond.code yX6_fitAt cX6_fitAt 2 (some .int) :: q_G) rmX6_fitAt as sh m R := by
  refine q_met (code := TX6_fitAt) (by decide) (fun X hl hQ _ h pc => ?_) hw.1 hw.2
  unfold TX6_fitAt
  exact k_at (sX6_fitAt_0 hl hQ h) (k_no)
/-! TumblingRock$Sight.narrow(LTumblingRock$Rock;IIZ)V -/
abbrev dlX6_narrow : List (Nat × (Instr × Nat)) := [(0, .iload 4, 2), (2, .ifCond .eq 7, 3), (5, .iconst 1, 1), (6, .goto 4, 3), (9, .iconst 0, 1), (10, .istore 5, 2), (12, .iconst 0, 1), (13, .istore 6, 2), (15, .iconst 0, 1), (16, .istore 7, 2), (18, .iload 7, 2), (20, .aload_n 0, 1), (21, .getfield 18, 3), (24, .if_icmp .ge 53, 3), (27, .aload_n 0, 1), (28, .iload 7, 2), (30, .invokevirtual 48, 3), (33, .istore 8, 2), (35, .aload_n 1, 1), (36, .iload_n 2, 1), (37, .aload_n 1, 1), (38, .iload 8, 2), (40, .iload_n 3, 1), (41, .iload_n 3, 1), (42, .iload_n 3, 1), (43, .invokevirtual 52, 3), (46, .invokevirtual 56, 3), (49, .iload 5, 2), (51, .if_icmp .eq 6, 3), (54, .goto 17, 3), (57, .aload_n 0, 1), (58, .getfield 9, 3), (61, .iload 6, 2), (63, .iload 8, 2), (65, .invokestatic 40, 3), (68, .iinc 6 1, 3), (71, .iinc 7 1, 3), (74, .goto (-56), 3), (77, .aload_n 0, 1), (78, .iload 6, 2), (80, .putfield 18, 3), (83, .aload_n 0, 1), (84, .dup, 1), (85, .getfield 22, 3), (88, .iconst 1, 1), (89, .iadd, 1), (90, .putfield 22, 3), (93, .aload_n 0, 1), (94, .iconst 0, 1), (95, .putfield 25, 3), (98, .return_, 1)]
theorem ddX6_narrow : ∀ q ∈ dlX6_narrow, decode cX6_narrow q.1 = .ok q.2 := by decide +kernel
theorem sX6_narrow_10 {l : Launch} {X : q_CX} (hl : X.2.1 = l) (hQ : q_QM X) (h : q_OK X yX6_narrow cX6_narrow 9 none rmX6_narrow (Cond.code yX6_narrow cX6_narrow 9 none :: q_G)) : q_SK X 9 10 (BX6_narrow_10) := by
  refine k_istore (i := 5) h (ddX6_narrow (10, .istore 5, 2) (List.mem_of_getElem? (i := 5) rfl)) (by decide) ?_
  refine k_iconst (v := 0) h (ddX6_narrow (12, .iconst 0, 1) (List.mem_of_getElem? (i := 6) rfl)) (by decide) ?_
  refine k_istore (i := 6) h (ddX6_narrow (13, .istore 6, 2) (List.mem_of_getElem? (i := 7) rfl)) (by decide) ?_
  refine k_iconst (v := 0) h (ddX6_narrow (15, .iconst 0, 1) (List.mem_of_getElem? (i := 8) rfl)) (by decide) ?_
  refine k_istore (i := 7) h (ddX6_narrow (16, .istore 7, 2) (List.mem_of_getElem? (i := 9) rfl)) (by decide) ?_
  exact k_cut
theorem sX6_narrow_9 {l : Launch} {X : q_CX} (hl : X.2.1 = l) (hQ : q_QM X) (h : q_OK X yX6_narrow cX6_narrow 9 none rmX6_narrow (Cond.code yX6_narrow cX6_narrow 9 none :: q_G)) : q_SK X 9 9 (BX6_narrow_9) := by
  refine k_iconst (v := 0) h (ddX6_narrow (9, .iconst 0, 1) (List.mem_of_getElem? (i := 4) rfl)) (by decide) ?_
  exact sX6_narrow_10 hl hQ h
theorem sX6_narrow_5 {l : Launch} {X : q_CX} (hl : X.2.1 = l) (hQ : q_QM X) (h : q_OK X yX6_narrow cX6_narrow 9 none rmX6_narrow (Cond.code yX6_narrow cX6_narrow 9 none :: q_G)) : q_SK X 9 5 (BX6_narrow_5) := by
  refine k_iconst (v := 1) h (ddX6_narrow (5, .iconst 1, 1) (List.mem_of_getElem? (i := 2) rfl)) (by decide) ?_
  refine k_goto h (ddX6_narrow (6, .goto 4, 3) (List.mem_of_getElem? (i := 3) rfl)) (tgt := 10) (by decide) ?_
  exact sX6_narrow_10 hl hQ h
theorem sX6_narrow_0 {l : Launch} {X : q_CX} (hl : X.2.1 = l) (hQ : q_QM X) (h : q_OK X yX6_narrow cX6_narrow 9 none rmX6_narrow (Cond.code yX6_narrow cX6_narrow 9 none :: q_G)) : q_SK X 9 0 (BX6_narrow_0) := by
  refine k_iload (i := 4) h (ddX6_narrow (0, .iload 4, 2) (List.mem_of_getElem? (i := 0) rfl)) ?_
  refine k_ifeq h (ddX6_narrow (2, .ifCond .eq 7, 3) (List.mem_of_getElem? (i := 1) rfl)) (tgt := 9) (by decide) ?_ ?_
  · exact sX6_narrow_9 hl hQ h
  · exact sX6_narrow_5 hl hQ h
theorem sX6_narrow_77 {l : Launch} {X : q_CX} (hl : X.2.1 = l) (hQ : q_QM X) (h : q_OK X yX6_narrow cX6_narrow 9 none rmX6_narrow (Cond.code yX6_narrow cX6_narrow 9 none :: q_G)) : q_SK X 9 77 (BX6_narrow_77) := by
  refine k_aload_n (i := 0) h (ddX6_narrow (77, .aload_n 0, 1) (List.mem_of_getElem? (i := 38) rfl)) rfl ?_
  refine k_iload (i := 6) h (ddX6_narrow (78, .iload 6, 2) (List.mem_of_getElem? (i := 39) rfl)) ?_
  refine k_putf (ci := 6) (j := 1) (C := RX6) (T := TX6) (N := 8) h rfl (fun w hw => List.mem_cons_of_mem _ (q_inX6 w hw)) (by decide) (List.mem_cons_of_mem _ gw38) tyX6 tyX6_ok nmX6 (by decide +kernel) (by decide +kernel) (ddX6_narrow (80, .putfield 18, 3) (List.mem_of_getElem? (i := 40) rfl)) ?_
  refine k_aload_n (i := 0) h (ddX6_narrow (83, .aload_n 0, 1) (List.mem_of_getElem? (i := 41) rfl)) rfl ?_
  refine k_dup h (ddX6_narrow (84, .dup, 1) (List.mem_of_getElem? (i := 42) rfl)) ?_
  refine k_getf (ci := 6) (j := 0) (C := RX6) (T := TX6) (N := 8) h rfl (fun w hw => List.mem_cons_of_mem _ (q_inX6 w hw)) (by decide) (List.mem_cons_of_mem _ gw296) (ddX6_narrow (85, .getfield 22, 3) (List.mem_of_getElem? (i := 43) rfl)) ?_
  refine k_iconst (v := 1) h (ddX6_narrow (88, .iconst 1, 1) (List.mem_of_getElem? (i := 44) rfl)) (by decide) ?_
  refine k_iadd h (ddX6_narrow (89, .iadd, 1) (List.mem_of_getElem? (i := 45) rfl)) ?_
  refine k_putf (ci := 6) (j := 0) (C := RX6) (T := TX6) (N := 8) h rfl (fun w hw => List.mem_cons_of_mem _ (q_inX6 w hw)) (by decide) (List.mem_cons_of_mem _ gw296) tyX6 tyX6_ok nmX6 (by decide +kernel) (by decide +kernel) (ddX6_narrow (90, .putfield 22, 3) (List.mem_of_getElem? (i := 46) rfl)) ?_
  refine k_aload_n (i := 0) h (ddX6_narrow (93, .aload_n 0, 1) (List.mem_of_getElem? (i := 47) rfl)) rfl ?_
  refine k_iconst (v := 0) h (ddX6_narrow (94, .iconst 0, 1) (List.mem_of_getElem? (i := 48) rfl)) (by decide) ?_
  refine k_putz (ci := 6) (j := 5) (C := RX6) (T := TX6) (N := 8) h rfl (fun w hw => List.mem_cons_of_mem _ (q_inX6 w hw)) (by decide) (List.mem_cons_of_mem _ gw297) tyX6 tyX6_ok nmX6 (by decide +kernel) (by decide +kernel) (ddX6_narrow (95, .putfield 25, 3) (List.mem_of_getElem? (i := 49) rfl)) ?_
  exact k_vret h hQ (ddX6_narrow (98, .return_, 1) (List.mem_of_getElem? (i := 50) rfl))
theorem sX6_narrow_71 {l : Launch} {X : q_CX} (hl : X.2.1 = l) (hQ : q_QM X) (h : q_OK X yX6_narrow cX6_narrow 9 none rmX6_narrow (Cond.code yX6_narrow cX6_narrow 9 none :: q_G)) : q_SK X 9 71 (BX6_narrow_71) := by
  refine k_iinc (d := 1) h (ddX6_narrow (71, .iinc 7 1, 3) (List.mem_of_getElem? (i := 36) rfl)) (by decide) (by decide) ?_
  refine k_goto h (ddX6_narrow (74, .goto (-56), 3) (List.mem_of_getElem? (i := 37) rfl)) (tgt := 18) (by decide) ?_
  exact k_cut
theorem sX6_narrow_57 {l : Launch} {X : q_CX} (hl : X.2.1 = l) (hQ : q_QM X) (h : q_OK X yX6_narrow cX6_narrow 9 none rmX6_narrow (Cond.code yX6_narrow cX6_narrow 9 none :: q_G)) : q_SK X 9 57 (BX6_narrow_57) := by
  refine k_aload_n (i := 0) h (ddX6_narrow (57, .aload_n 0, 1) (List.mem_of_getElem? (i := 30) rfl)) rfl ?_
  refine k_getf (ci := 6) (j := 6) (C := RX6) (T := TX6) (N := 8) h rfl (fun w hw => List.mem_cons_of_mem _ (q_inX6 w hw)) (by decide) (List.mem_cons_of_mem _ gw36) (ddX6_narrow (58, .getfield 9, 3) (List.mem_of_getElem? (i := 31) rfl)) ?_
  refine k_iload (i := 6) h (ddX6_narrow (61, .iload 6, 2) (List.mem_of_getElem? (i := 32) rfl)) ?_
  refine k_iload (i := 8) h (ddX6_narrow (63, .iload 8, 2) (List.mem_of_getElem? (i := 33) rfl)) ?_
  refine k_callN h hl (aX8_put l) ⟨rfl, rfl⟩ (n := 3) (by decide +kernel) (q_gN gw143) (by decide +kernel) (List.mem_cons_of_mem _ gw91) (List.mem_cons_of_mem _ gw144) ⟨by decide, by decide⟩ (ddX6_narrow (65, .invokestatic 40, 3) (List.mem_of_getElem? (i := 34) rfl)) ?_
  refine k_iinc (d := 1) h (ddX6_narrow (68, .iinc 6 1, 3) (List.mem_of_getElem? (i := 35) rfl)) (by decide) (by decide) ?_
  exact sX6_narrow_71 hl hQ h
theorem sX6_narrow_54 {l : Launch} {X : q_CX} (hl : X.2.1 = l) (hQ : q_QM X) (h : q_OK X yX6_narrow cX6_narrow 9 none rmX6_narrow (Cond.code yX6_narrow cX6_narrow 9 none :: q_G)) : q_SK X 9 54 (BX6_narrow_54) := by
  refine k_goto h (ddX6_narrow (54, .goto 17, 3) (List.mem_of_getElem? (i := 29) rfl)) (tgt := 71) (by decide) ?_
  exact sX6_narrow_71 hl hQ h
theorem sX6_narrow_27 {l : Launch} {X : q_CX} (hl : X.2.1 = l) (hQ : q_QM X) (h : q_OK X yX6_narrow cX6_narrow 9 none rmX6_narrow (Cond.code yX6_narrow cX6_narrow 9 none :: q_G)) : q_SK X 9 27 (BX6_narrow_27) := by
  refine k_aload_n (i := 0) h (ddX6_narrow (27, .aload_n 0, 1) (List.mem_of_getElem? (i := 14) rfl)) rfl ?_
  refine k_iload (i := 7) h (ddX6_narrow (28, .iload 7, 2) (List.mem_of_getElem? (i := 15) rfl)) ?_
  refine k_callV h hl (aX6_fitAt l) (ci := 6) (C := RX6) (T := TX6) (N := 8) rfl ⟨rfl, rfl⟩ (n := 1) (by decide +kernel) (q_gV gw500 gw501 gw502 gw34 gw499) ⟨by decide, by decide⟩ (ddX6_narrow (30, .invokevirtual 48, 3) (List.mem_of_getElem? (i := 16) rfl)) ?_
  refine k_istore (i := 8) h (ddX6_narrow (33, .istore 8, 2) (List.mem_of_getElem? (i := 17) rfl)) (by decide) ?_
  refine k_aload_n (i := 1) h (ddX6_narrow (35, .aload_n 1, 1) (List.mem_of_getElem? (i := 18) rfl)) rfl ?_
  refine k_iload_n (i := 2) h (ddX6_narrow (36, .iload_n 2, 1) (List.mem_of_getElem? (i := 19) rfl)) rfl ?_
  refine k_aload_n (i := 1) h (ddX6_narrow (37, .aload_n 1, 1) (List.mem_of_getElem? (i := 20) rfl)) rfl ?_
  refine k_iload (i := 8) h (ddX6_narrow (38, .iload 8, 2) (List.mem_of_getElem? (i := 21) rfl)) ?_
  refine k_iload_n (i := 3) h (ddX6_narrow (40, .iload_n 3, 1) (List.mem_of_getElem? (i := 22) rfl)) rfl ?_
  refine k_iload_n (i := 3) h (ddX6_narrow (41, .iload_n 3, 1) (List.mem_of_getElem? (i := 23) rfl)) rfl ?_
  refine k_iload_n (i := 3) h (ddX6_narrow (42, .iload_n 3, 1) (List.mem_of_getElem? (i := 24) rfl)) rfl ?_
  refine k_callV h hl (aX4_moved l) (ci := 4) (C := RX4) (T := TX4) (N := 14) rfl ⟨rfl, rfl⟩ (n := 4) (by decide +kernel) (q_gV gw503 gw126 gw127 gw71 gw124) ⟨by decide, by decide⟩ (ddX6_narrow (43, .invokevirtual 52, 3) (List.mem_of_getElem? (i := 25) rfl)) ?_
  refine k_callV h hl (aX4_litBit l) (ci := 4) (C := RX4) (T := TX4) (N := 14) rfl ⟨rfl, rfl⟩ (n := 2) (by decide +kernel) (q_gV gw504 gw349 gw350 gw71 gw347) ⟨by decide, by decide⟩ (ddX6_narrow (46, .invokevirtual 56, 3) (List.mem_of_getElem? (i := 26) rfl)) ?_
  refine k_iload (i := 5) h (ddX6_narrow (49, .iload 5, 2) (List.mem_of_getElem? (i := 27) rfl)) ?_
  refine k_iceq h (ddX6_narrow (51, .if_icmp .eq 6, 3) (List.mem_of_getElem? (i := 28) rfl)) (tgt := 57) (by decide) ?_ ?_
  · exact sX6_narrow_57 hl hQ h
  · exact sX6_narrow_54 hl hQ h
theorem sX6_narrow_18 {l : Launch} {X : q_CX} (hl : X.2.1 = l) (hQ : q_QM X) (h : q_OK X yX6_narrow cX6_narrow 9 none rmX6_narrow (Cond.code yX6_narrow cX6_narrow 9 none :: q_G)) : q_SK X 9 18 (BX6_narrow_18) := by
  refine k_iload (i := 7) h (ddX6_narrow (18, .iload 7, 2) (List.mem_of_getElem? (i := 10) rfl)) ?_
  refine k_aload_n (i := 0) h (ddX6_narrow (20, .aload_n 0, 1) (List.mem_of_getElem? (i := 11) rfl)) rfl ?_
  refine k_getf (ci := 6) (j := 1) (C := RX6) (T := TX6) (N := 8) h rfl (fun w hw => List.mem_cons_of_mem _ (q_inX6 w hw)) (by decide) (List.mem_cons_of_mem _ gw38) (ddX6_narrow (21, .getfield 18, 3) (List.mem_of_getElem? (i := 12) rfl)) ?_
  refine k_icge h (ddX6_narrow (24, .if_icmp .ge 53, 3) (List.mem_of_getElem? (i := 13) rfl)) (tgt := 77) (by decide) ?_ ?_
  · exact sX6_narrow_77 hl hQ h
  · exact sX6_narrow_27 hl hQ h
theorem aX6_narrow (l : Launch) (as : List Value) (sh : q_Sh) (m : q_Mm) (R : q_KR) (hw : wX6_narrow as sh m R) : q_AM l yX6_narrow (Cond.code yX6_narrow cX6_narrow 9 none :: q_G) rmX6_narrow as sh m R := by
  refine q_met (code := TX6_narrow) (by decide) (fun X hl hQ _ h pc => ?_) hw.1 hw.2
  unfold TX6_narrow
  exact k_at (sX6_narrow_0 hl hQ h) (k_at (sX6_narrow_18 hl hQ h) (k_no))
/-! TumblingRock.see(IIZ)I -/
abbrev dlX8_see : List (Nat × (Instr × Nat)) := [(0, .aload_n 0, 1), (1, .iload_n 1, 1), (2, .invokevirtual 161, 3), (5, .ifCond .ne 6, 3), (8, .ldc 147, 2), (10, .ireturn, 1), (11, .iload_n 2, 1), (12, .iconst 0, 1), (13, .sipush 9999, 3), (16, .invokestatic 78, 3), (19, .ifCond .ne 6, 3), (22, .ldc 82, 2), (24, .ireturn, 1), (25, .aload_n 0, 1), (26, .getfield 43, 3), (29, .getfield 132, 3), (32, .bipush 20, 2), (34, .if_icmp .lt 6, 3), (37, .ldc 91, 2), (39, .ireturn, 1), (40, .aload_n 0, 1), (41, .getfield 43, 3), (44, .aload_n 0, 1), (45, .getfield 71, 3), (48, .iload_n 1, 1), (49, .iload_n 2, 1), (50, .iload_n 3, 1), (51, .invokevirtual 240, 3), (54, .aload_n 0, 1), (55, .getfield 43, 3), (58, .getfield 132, 3), (61, .ireturn, 1)]
theorem ddX8_see : ∀ q ∈ dlX8_see, decode cX8_see q.1 = .ok q.2 := by decide +kernel
theorem sX8_see_40 {l : Launch} {X : q_CX} (hl : X.2.1 = l) (hQ : q_QM X) (h : q_OK X yX8_see cX8_see 4 (some .int) rmX8_see (Cond.code yX8_see cX8_see 4 (some .int) :: q_G)) : q_SK X 4 40 (BX8_see_40) := by
  refine k_aload_n (i := 0) h (ddX8_see (40, .aload_n 0, 1) (List.mem_of_getElem? (i := 20) rfl)) rfl ?_
  refine k_getf (ci := 8) (j := 5) (C := RX8) (T := TX8) (N := 11) h rfl (fun w hw => List.mem_cons_of_mem _ (q_inX8 w hw)) (by decide) (List.mem_cons_of_mem _ gw42) (ddX8_see (41, .getfield 43, 3) (List.mem_of_getElem? (i := 21) rfl)) ?_
  refine k_aload_n (i := 0) h (ddX8_see (44, .aload_n 0, 1) (List.mem_of_getElem? (i := 22) rfl)) rfl ?_
  refine k_getf (ci := 8) (j := 9) (C := RX8) (T := TX8) (N := 11) h rfl (fun w hw => List.mem_cons_of_mem _ (q_inX8 w hw)) (by decide) (List.mem_cons_of_mem _ gw135) (ddX8_see (45, .getfield 71, 3) (List.mem_of_getElem? (i := 23) rfl)) ?_
  refine k_iload_n (i := 1) h (ddX8_see (48, .iload_n 1, 1) (List.mem_of_getElem? (i := 24) rfl)) rfl ?_
  refine k_iload_n (i := 2) h (ddX8_see (49, .iload_n 2, 1) (List.mem_of_getElem? (i := 25) rfl)) rfl ?_
  refine k_iload_n (i := 3) h (ddX8_see (50, .iload_n 3, 1) (List.mem_of_getElem? (i := 26) rfl)) rfl ?_
  refine k_callV h hl (aX6_narrow l) (ci := 6) (C := RX6) (T := TX6) (N := 8) rfl ⟨rfl, rfl⟩ (n := 4) (by decide +kernel) (q_gV gw506 gw507 gw508 gw34 gw505) ⟨by decide, by decide⟩ (ddX8_see (51, .invokevirtual 240, 3) (List.mem_of_getElem? (i := 27) rfl)) ?_
  refine k_aload_n (i := 0) h (ddX8_see (54, .aload_n 0, 1) (List.mem_of_getElem? (i := 28) rfl)) rfl ?_
  refine k_getf (ci := 8) (j := 5) (C := RX8) (T := TX8) (N := 11) h rfl (fun w hw => List.mem_cons_of_mem _ (q_inX8 w hw)) (by decide) (List.mem_cons_of_mem _ gw42) (ddX8_see (55, .getfield 43, 3) (List.mem_of_getElem? (i := 29) rfl)) ?_
  refine k_getf (ci := 6) (j := 0) (C := RX6) (T := TX6) (N := 8) h rfl (fun w hw => List.mem_cons_of_mem _ (q_inX6 w hw)) (by decide) (List.mem_cons_of_mem _ gw321) (ddX8_see (58, .getfield 132, 3) (List.mem_of_getElem? (i := 30) rfl)) ?_
  exact k_iret h hQ (ddX8_see (61, .ireturn, 1) (List.mem_of_getElem? (i := 31) rfl))
theorem sX8_see_37 {l : Launch} {X : q_CX} (hl : X.2.1 = l) (hQ : q_QM X) (h : q_OK X yX8_see cX8_see 4 (some .int) rmX8_see (Cond.code yX8_see cX8_see 4 (some .int) :: q_G)) : q_SK X 4 37 (BX8_see_37) := by
  refine k_ldc (v := (-1000000004)) h (ddX8_see (37, .ldc 91, 2) (List.mem_of_getElem? (i := 18) rfl)) (List.mem_cons_of_mem _ gw150) ?_
  exact k_iret h hQ (ddX8_see (39, .ireturn, 1) (List.mem_of_getElem? (i := 19) rfl))
theorem sX8_see_25 {l : Launch} {X : q_CX} (hl : X.2.1 = l) (hQ : q_QM X) (h : q_OK X yX8_see cX8_see 4 (some .int) rmX8_see (Cond.code yX8_see cX8_see 4 (some .int) :: q_G)) : q_SK X 4 25 (BX8_see_25) := by
  refine k_aload_n (i := 0) h (ddX8_see (25, .aload_n 0, 1) (List.mem_of_getElem? (i := 13) rfl)) rfl ?_
  refine k_getf (ci := 8) (j := 5) (C := RX8) (T := TX8) (N := 11) h rfl (fun w hw => List.mem_cons_of_mem _ (q_inX8 w hw)) (by decide) (List.mem_cons_of_mem _ gw42) (ddX8_see (26, .getfield 43, 3) (List.mem_of_getElem? (i := 14) rfl)) ?_
  refine k_getf (ci := 6) (j := 0) (C := RX6) (T := TX6) (N := 8) h rfl (fun w hw => List.mem_cons_of_mem _ (q_inX6 w hw)) (by decide) (List.mem_cons_of_mem _ gw321) (ddX8_see (29, .getfield 132, 3) (List.mem_of_getElem? (i := 15) rfl)) ?_
  refine k_bipush (v := 20) h (ddX8_see (32, .bipush 20, 2) (List.mem_of_getElem? (i := 16) rfl)) (by decide) ?_
  refine k_iclt h (ddX8_see (34, .if_icmp .lt 6, 3) (List.mem_of_getElem? (i := 17) rfl)) (tgt := 40) (by decide) ?_ ?_
  · exact sX8_see_40 hl hQ h
  · exact sX8_see_37 hl hQ h
theorem sX8_see_22 {l : Launch} {X : q_CX} (hl : X.2.1 = l) (hQ : q_QM X) (h : q_OK X yX8_see cX8_see 4 (some .int) rmX8_see (Cond.code yX8_see cX8_see 4 (some .int) :: q_G)) : q_SK X 4 22 (BX8_see_22) := by
  refine k_ldc (v := (-1000000002)) h (ddX8_see (22, .ldc 82, 2) (List.mem_of_getElem? (i := 11) rfl)) (List.mem_cons_of_mem _ gw140) ?_
  exact k_iret h hQ (ddX8_see (24, .ireturn, 1) (List.mem_of_getElem? (i := 12) rfl))
theorem sX8_see_11 {l : Launch} {X : q_CX} (hl : X.2.1 = l) (hQ : q_QM X) (h : q_OK X yX8_see cX8_see 4 (some .int) rmX8_see (Cond.code yX8_see cX8_see 4 (some .int) :: q_G)) : q_SK X 4 11 (BX8_see_11) := by
  refine k_iload_n (i := 2) h (ddX8_see (11, .iload_n 2, 1) (List.mem_of_getElem? (i := 6) rfl)) rfl ?_
  refine k_iconst (v := 0) h (ddX8_see (12, .iconst 0, 1) (List.mem_of_getElem? (i := 7) rfl)) (by decide) ?_
  refine k_sipush (v := 9999) h (ddX8_see (13, .sipush 9999, 3) (List.mem_of_getElem? (i := 8) rfl)) (by decide) ?_
  refine k_callS h hl (aX8_inside l) ⟨rfl, rfl⟩ (n := 3) (by decide +kernel) (q_gS gw139 gw138 gw91 gw137) ⟨by decide, by decide⟩ (ddX8_see (16, .invokestatic 78, 3) (List.mem_of_getElem? (i := 9) rfl)) ?_
  refine k_ifne h (ddX8_see (19, .ifCond .ne 6, 3) (List.mem_of_getElem? (i := 10) rfl)) (tgt := 25) (by decide) ?_ ?_
  · exact sX8_see_25 hl hQ h
  · exact sX8_see_22 hl hQ h
theorem sX8_see_8 {l : Launch} {X : q_CX} (hl : X.2.1 = l) (hQ : q_QM X) (h : q_OK X yX8_see cX8_see 4 (some .int) rmX8_see (Cond.code yX8_see cX8_see 4 (some .int) :: q_G)) : q_SK X 4 8 (BX8_see_8) := by
  refine k_ldc (v := (-1000000001)) h (ddX8_see (8, .ldc 147, 2) (List.mem_of_getElem? (i := 4) rfl)) (List.mem_cons_of_mem _ gw336) ?_
  exact k_iret h hQ (ddX8_see (10, .ireturn, 1) (List.mem_of_getElem? (i := 5) rfl))
theorem sX8_see_0 {l : Launch} {X : q_CX} (hl : X.2.1 = l) (hQ : q_QM X) (h : q_OK X yX8_see cX8_see 4 (some .int) rmX8_see (Cond.code yX8_see cX8_see 4 (some .int) :: q_G)) : q_SK X 4 0 (BX8_see_0) := by
  refine k_aload_n (i := 0) h (ddX8_see (0, .aload_n 0, 1) (List.mem_of_getElem? (i := 0) rfl)) rfl ?_
  refine k_iload_n (i := 1) h (ddX8_see (1, .iload_n 1, 1) (List.mem_of_getElem? (i := 1) rfl)) rfl ?_
  refine k_callV h hl (aX8_isPlace l) (ci := 8) (C := RX8) (T := TX8) (N := 11) rfl ⟨rfl, rfl⟩ (n := 1) (by decide +kernel) (q_gV gw341 gw342 gw343 gw91 gw340) ⟨by decide, by decide⟩ (ddX8_see (2, .invokevirtual 161, 3) (List.mem_of_getElem? (i := 2) rfl)) ?_
  refine k_ifne h (ddX8_see (5, .ifCond .ne 6, 3) (List.mem_of_getElem? (i := 3) rfl)) (tgt := 11) (by decide) ?_ ?_
  · exact sX8_see_11 hl hQ h
  · exact sX8_see_8 hl hQ h
theorem aX8_see (l : Launch) (as : List Value) (sh : q_Sh) (m : q_Mm) (R : q_KR) (hw : wX8_see as sh m R) : q_AM l yX8_see (Cond.code yX8_see cX8_see 4 (some .int) :: q_G) rmX8_see as sh m R := by
  refine q_met (code := TX8_see) (by decide) (fun X hl hQ _ h pc => ?_) hw.1 hw.2
  unfold TX8_see
  exact k_at (sX8_see_0 hl hQ h) (k_no)
/-! TumblingRock.fits(II)I -/
abbrev dlX8_fits : List (Nat × (Instr × Nat)) := [(0, .iload_n 1, 1), (1, .iconst (-1), 1), (2, .if_icmp .ne 11, 3), (5, .aload_n 0, 1), (6, .getfield 43, 3), (9, .getfield 244, 3), (12, .ireturn, 1), (13, .aload_n 0, 1), (14, .iload_n 2, 1), (15, .invokevirtual 143, 3), (18, .ifCond .ne 6, 3), (21, .ldc 147, 2), (23, .ireturn, 1), (24, .iload_n 1, 1), (25, .iconst 0, 1), (26, .aload_n 0, 1), (27, .getfield 43, 3), (30, .getfield 244, 3), (33, .iconst 1, 1), (34, .isub, 1), (35, .invokestatic 78, 3), (38, .ifCond .ne 5, 3), (41, .iconst (-1), 1), (42, .ireturn, 1), (43, .aload_n 0, 1), (44, .getfield 71, 3), (47, .aload_n 0, 1), (48, .getfield 43, 3), (51, .iload_n 1, 1), (52, .invokevirtual 247, 3), (55, .iload_n 2, 1), (56, .invokevirtual 148, 3), (59, .ireturn, 1)]
theorem ddX8_fits : ∀ q ∈ dlX8_fits, decode cX8_fits q.1 = .ok q.2 := by decide +kernel
theorem sX8_fits_43 {l : Launch} {X : q_CX} (hl : X.2.1 = l) (hQ : q_QM X) (h : q_OK X yX8_fits cX8_fits 3 (some .int) rmX8_fits (Cond.code yX8_fits cX8_fits 3 (some .int) :: q_G)) : q_SK X 3 43 (BX8_fits_43) := by
  refine k_aload_n (i := 0) h (ddX8_fits (43, .aload_n 0, 1) (List.mem_of_getElem? (i := 24) rfl)) rfl ?_
  refine k_getf (ci := 8) (j := 9) (C := RX8) (T := TX8) (N := 11) h rfl (fun w hw => List.mem_cons_of_mem _ (q_inX8 w hw)) (by decide) (List.mem_cons_of_mem _ gw135) (ddX8_fits (44, .getfield 71, 3) (List.mem_of_getElem? (i := 25) rfl)) ?_
  refine k_aload_n (i := 0) h (ddX8_fits (47, .aload_n 0, 1) (List.mem_of_getElem? (i := 26) rfl)) rfl ?_
  refine k_getf (ci := 8) (j := 5) (C := RX8) (T := TX8) (N := 11) h rfl (fun w hw => List.mem_cons_of_mem _ (q_inX8 w hw)) (by decide) (List.mem_cons_of_mem _ gw42) (ddX8_fits (48, .getfield 43, 3) (List.mem_of_getElem? (i := 27) rfl)) ?_
  refine k_iload_n (i := 1) h (ddX8_fits (51, .iload_n 1, 1) (List.mem_of_getElem? (i := 28) rfl)) rfl ?_
  refine k_callV h hl (aX6_fitAt l) (ci := 6) (C := RX6) (T := TX6) (N := 8) rfl ⟨rfl, rfl⟩ (n := 1) (by decide +kernel) (q_gV gw510 gw501 gw502 gw34 gw499) ⟨by decide, by decide⟩ (ddX8_fits (52, .invokevirtual 247, 3) (List.mem_of_getElem? (i := 29) rfl)) ?_
  refine k_iload_n (i := 2) h (ddX8_fits (55, .iload_n 2, 1) (List.mem_of_getElem? (i := 30) rfl)) rfl ?_
  refine k_callV h hl (aX4_digit l) (ci := 4) (C := RX4) (T := TX4) (N := 14) rfl ⟨rfl, rfl⟩ (n := 2) (by decide +kernel) (q_gV gw337 gw106 gw107 gw71 gw104) ⟨by decide, by decide⟩ (ddX8_fits (56, .invokevirtual 148, 3) (List.mem_of_getElem? (i := 31) rfl)) ?_
  exact k_iret h hQ (ddX8_fits (59, .ireturn, 1) (List.mem_of_getElem? (i := 32) rfl))
theorem sX8_fits_41 {l : Launch} {X : q_CX} (hl : X.2.1 = l) (hQ : q_QM X) (h : q_OK X yX8_fits cX8_fits 3 (some .int) rmX8_fits (Cond.code yX8_fits cX8_fits 3 (some .int) :: q_G)) : q_SK X 3 41 (BX8_fits_41) := by
  refine k_iconst (v := (-1)) h (ddX8_fits (41, .iconst (-1), 1) (List.mem_of_getElem? (i := 22) rfl)) (by decide) ?_
  exact k_iret h hQ (ddX8_fits (42, .ireturn, 1) (List.mem_of_getElem? (i := 23) rfl))
theorem sX8_fits_24 {l : Launch} {X : q_CX} (hl : X.2.1 = l) (hQ : q_QM X) (h : q_OK X yX8_fits cX8_fits 3 (some .int) rmX8_fits (Cond.code yX8_fits cX8_fits 3 (some .int) :: q_G)) : q_SK X 3 24 (BX8_fits_24) := by
  refine k_iload_n (i := 1) h (ddX8_fits (24, .iload_n 1, 1) (List.mem_of_getElem? (i := 13) rfl)) rfl ?_
  refine k_iconst (v := 0) h (ddX8_fits (25, .iconst 0, 1) (List.mem_of_getElem? (i := 14) rfl)) (by decide) ?_
  refine k_aload_n (i := 0) h (ddX8_fits (26, .aload_n 0, 1) (List.mem_of_getElem? (i := 15) rfl)) rfl ?_
  refine k_getf (ci := 8) (j := 5) (C := RX8) (T := TX8) (N := 11) h rfl (fun w hw => List.mem_cons_of_mem _ (q_inX8 w hw)) (by decide) (List.mem_cons_of_mem _ gw42) (ddX8_fits (27, .getfield 43, 3) (List.mem_of_getElem? (i := 16) rfl)) ?_
  refine k_getf (ci := 6) (j := 1) (C := RX6) (T := TX6) (N := 8) h rfl (fun w hw => List.mem_cons_of_mem _ (q_inX6 w hw)) (by decide) (List.mem_cons_of_mem _ gw509) (ddX8_fits (30, .getfield 244, 3) (List.mem_of_getElem? (i := 17) rfl)) ?_
  refine k_iconst (v := 1) h (ddX8_fits (33, .iconst 1, 1) (List.mem_of_getElem? (i := 18) rfl)) (by decide) ?_
  refine k_isub h (ddX8_fits (34, .isub, 1) (List.mem_of_getElem? (i := 19) rfl)) ?_
  refine k_callS h hl (aX8_inside l) ⟨rfl, rfl⟩ (n := 3) (by decide +kernel) (q_gS gw139 gw138 gw91 gw137) ⟨by decide, by decide⟩ (ddX8_fits (35, .invokestatic 78, 3) (List.mem_of_getElem? (i := 20) rfl)) ?_
  refine k_ifne h (ddX8_fits (38, .ifCond .ne 5, 3) (List.mem_of_getElem? (i := 21) rfl)) (tgt := 43) (by decide) ?_ ?_
  · exact sX8_fits_43 hl hQ h
  · exact sX8_fits_41 hl hQ h
theorem sX8_fits_21 {l : Launch} {X : q_CX} (hl : X.2.1 = l) (hQ : q_QM X) (h : q_OK X yX8_fits cX8_fits 3 (some .int) rmX8_fits (Cond.code yX8_fits cX8_fits 3 (some .int) :: q_G)) : q_SK X 3 21 (BX8_fits_21) := by
  refine k_ldc (v := (-1000000001)) h (ddX8_fits (21, .ldc 147, 2) (List.mem_of_getElem? (i := 11) rfl)) (List.mem_cons_of_mem _ gw336) ?_
  exact k_iret h hQ (ddX8_fits (23, .ireturn, 1) (List.mem_of_getElem? (i := 12) rfl))
theorem sX8_fits_13 {l : Launch} {X : q_CX} (hl : X.2.1 = l) (hQ : q_QM X) (h : q_OK X yX8_fits cX8_fits 3 (some .int) rmX8_fits (Cond.code yX8_fits cX8_fits 3 (some .int) :: q_G)) : q_SK X 3 13 (BX8_fits_13) := by
  refine k_aload_n (i := 0) h (ddX8_fits (13, .aload_n 0, 1) (List.mem_of_getElem? (i := 7) rfl)) rfl ?_
  refine k_iload_n (i := 2) h (ddX8_fits (14, .iload_n 2, 1) (List.mem_of_getElem? (i := 8) rfl)) rfl ?_
  refine k_callV h hl (aX8_isTurning l) (ci := 8) (C := RX8) (T := TX8) (N := 11) rfl ⟨rfl, rfl⟩ (n := 1) (by decide +kernel) (q_gV gw333 gw334 gw335 gw91 gw332) ⟨by decide, by decide⟩ (ddX8_fits (15, .invokevirtual 143, 3) (List.mem_of_getElem? (i := 9) rfl)) ?_
  refine k_ifne h (ddX8_fits (18, .ifCond .ne 6, 3) (List.mem_of_getElem? (i := 10) rfl)) (tgt := 24) (by decide) ?_ ?_
  · exact sX8_fits_24 hl hQ h
  · exact sX8_fits_21 hl hQ h
theorem sX8_fits_5 {l : Launch} {X : q_CX} (hl : X.2.1 = l) (hQ : q_QM X) (h : q_OK X yX8_fits cX8_fits 3 (some .int) rmX8_fits (Cond.code yX8_fits cX8_fits 3 (some .int) :: q_G)) : q_SK X 3 5 (BX8_fits_5) := by
  refine k_aload_n (i := 0) h (ddX8_fits (5, .aload_n 0, 1) (List.mem_of_getElem? (i := 3) rfl)) rfl ?_
  refine k_getf (ci := 8) (j := 5) (C := RX8) (T := TX8) (N := 11) h rfl (fun w hw => List.mem_cons_of_mem _ (q_inX8 w hw)) (by decide) (List.mem_cons_of_mem _ gw42) (ddX8_fits (6, .getfield 43, 3) (List.mem_of_getElem? (i := 4) rfl)) ?_
  refine k_getf (ci := 6) (j := 1) (C := RX6) (T := TX6) (N := 8) h rfl (fun w hw => List.mem_cons_of_mem _ (q_inX6 w hw)) (by decide) (List.mem_cons_of_mem _ gw509) (ddX8_fits (9, .getfield 244, 3) (List.mem_of_getElem? (i := 5) rfl)) ?_
  exact k_iret h hQ (ddX8_fits (12, .ireturn, 1) (List.mem_of_getElem? (i := 6) rfl))
theorem sX8_fits_0 {l : Launch} {X : q_CX} (hl : X.2.1 = l) (hQ : q_QM X) (h : q_OK X yX8_fits cX8_fits 3 (some .int) rmX8_fits (Cond.code yX8_fits cX8_fits 3 (some .int) :: q_G)) : q_SK X 3 0 (BX8_fits_0) := by
  refine k_iload_n (i := 1) h (ddX8_fits (0, .iload_n 1, 1) (List.mem_of_getElem? (i := 0) rfl)) rfl ?_
  refine k_iconst (v := (-1)) h (ddX8_fits (1, .iconst (-1), 1) (List.mem_of_getElem? (i := 1) rfl)) (by decide) ?_
  refine k_icne h (ddX8_fits (2, .if_icmp .ne 11, 3) (List.mem_of_getElem? (i := 2) rfl)) (tgt := 13) (by decide) ?_ ?_
  · exact sX8_fits_13 hl hQ h
  · exact sX8_fits_5 hl hQ h
theorem aX8_fits (l : Launch) (as : List Value) (sh : q_Sh) (m : q_Mm) (R : q_KR) (hw : wX8_fits as sh m R) : q_AM l yX8_fits (Cond.code yX8_fits cX8_fits 3 (some .int) :: q_G) rmX8_fits as sh m R := by
  refine q_met (code := TX8_fits) (by decide) (fun X hl hQ _ h pc => ?_) hw.1 hw.2
  unfold TX8_fits
  exact k_at (sX8_fits_0 hl hQ h) (k_no)
/-! TumblingRock$Sight.addLit(II)V -/
abbrev dlX6_addLit : List (Nat × (Instr × Nat)) := [(0, .iconst 0, 1), (1, .istore_n 3, 1), (2, .iload_n 3, 1), (3, .bipush 8, 2), (5, .if_icmp .ge 44, 3), (8, .iload_n 1, 1), (9, .iload_n 3, 1), (10, .iadd, 1), (11, .istore 4, 2), (13, .iload 4, 2), (15, .ifCond .lt 28, 3), (18, .iload 4, 2), (20, .aload_n 0, 1), (21, .getfield 15, 3), (24, .arraylength, 1), (25, .if_icmp .ge 18, 3), (28, .aload_n 0, 1), (29, .getfield 15, 3), (32, .iload 4, 2), (34, .dup2, 1), (35, .iaload, 1), (36, .iload_n 2, 1), (37, .iload_n 3, 1), (38, .ishr, 1), (39, .iconst 1, 1), (40, .iand, 1), (41, .iadd, 1), (42, .iastore, 1), (43, .iinc 3 1, 3), (46, .goto (-44), 3), (49, .return_, 1)]
theorem ddX6_addLit : ∀ q ∈ dlX6_addLit, decode cX6_addLit q.1 = .ok q.2 := by decide +kernel
theorem sX6_addLit_0 {l : Launch} {X : q_CX} (hl : X.2.1 = l) (hQ : q_QM X) (h : q_OK X yX6_addLit cX6_addLit 5 none rmX6_addLit (Cond.code yX6_addLit cX6_addLit 5 none :: q_G)) : q_SK X 5 0 (BX6_addLit_0) := by
  refine k_iconst (v := 0) h (ddX6_addLit (0, .iconst 0, 1) (List.mem_of_getElem? (i := 0) rfl)) (by decide) ?_
  refine k_istore_n (i := 3) h (ddX6_addLit (1, .istore_n 3, 1) (List.mem_of_getElem? (i := 1) rfl)) rfl (by decide) ?_
  exact k_cut
theorem sX6_addLit_49 {l : Launch} {X : q_CX} (hl : X.2.1 = l) (hQ : q_QM X) (h : q_OK X yX6_addLit cX6_addLit 5 none rmX6_addLit (Cond.code yX6_addLit cX6_addLit 5 none :: q_G)) : q_SK X 5 49 (BX6_addLit_49) := by
  exact k_vret h hQ (ddX6_addLit (49, .return_, 1) (List.mem_of_getElem? (i := 30) rfl))
theorem sX6_addLit_43 {l : Launch} {X : q_CX} (hl : X.2.1 = l) (hQ : q_QM X) (h : q_OK X yX6_addLit cX6_addLit 5 none rmX6_addLit (Cond.code yX6_addLit cX6_addLit 5 none :: q_G)) : q_SK X 5 43 (BX6_addLit_43) := by
  refine k_iinc (d := 1) h (ddX6_addLit (43, .iinc 3 1, 3) (List.mem_of_getElem? (i := 28) rfl)) (by decide) (by decide) ?_
  refine k_goto h (ddX6_addLit (46, .goto (-44), 3) (List.mem_of_getElem? (i := 29) rfl)) (tgt := 2) (by decide) ?_
  exact k_cut
theorem sX6_addLit_28 {l : Launch} {X : q_CX} (hl : X.2.1 = l) (hQ : q_QM X) (h : q_OK X yX6_addLit cX6_addLit 5 none rmX6_addLit (Cond.code yX6_addLit cX6_addLit 5 none :: q_G)) : q_SK X 5 28 (BX6_addLit_28) := by
  refine k_aload_n (i := 0) h (ddX6_addLit (28, .aload_n 0, 1) (List.mem_of_getElem? (i := 16) rfl)) rfl ?_
  refine k_getf (ci := 6) (j := 7) (C := RX6) (T := TX6) (N := 8) h rfl (fun w hw => List.mem_cons_of_mem _ (q_inX6 w hw)) (by decide) (List.mem_cons_of_mem _ gw37) (ddX6_addLit (29, .getfield 15, 3) (List.mem_of_getElem? (i := 17) rfl)) ?_
  refine k_iload (i := 4) h (ddX6_addLit (32, .iload 4, 2) (List.mem_of_getElem? (i := 18) rfl)) ?_
  refine k_dup2 h (ddX6_addLit (34, .dup2, 1) (List.mem_of_getElem? (i := 19) rfl)) ?_
  refine k_iald h (ddX6_addLit (35, .iaload, 1) (List.mem_of_getElem? (i := 20) rfl)) ?_
  refine k_iload_n (i := 2) h (ddX6_addLit (36, .iload_n 2, 1) (List.mem_of_getElem? (i := 21) rfl)) rfl ?_
  refine k_iload_n (i := 3) h (ddX6_addLit (37, .iload_n 3, 1) (List.mem_of_getElem? (i := 22) rfl)) rfl ?_
  refine k_ishr h (ddX6_addLit (38, .ishr, 1) (List.mem_of_getElem? (i := 23) rfl)) ?_
  refine k_iconst (v := 1) h (ddX6_addLit (39, .iconst 1, 1) (List.mem_of_getElem? (i := 24) rfl)) (by decide) ?_
  refine k_iand h (ddX6_addLit (40, .iand, 1) (List.mem_of_getElem? (i := 25) rfl)) ?_
  refine k_iadd h (ddX6_addLit (41, .iadd, 1) (List.mem_of_getElem? (i := 26) rfl)) ?_
  refine k_iast h (ddX6_addLit (42, .iastore, 1) (List.mem_of_getElem? (i := 27) rfl)) ?_
  exact sX6_addLit_43 hl hQ h
theorem sX6_addLit_18 {l : Launch} {X : q_CX} (hl : X.2.1 = l) (hQ : q_QM X) (h : q_OK X yX6_addLit cX6_addLit 5 none rmX6_addLit (Cond.code yX6_addLit cX6_addLit 5 none :: q_G)) : q_SK X 5 18 (BX6_addLit_18) := by
  refine k_iload (i := 4) h (ddX6_addLit (18, .iload 4, 2) (List.mem_of_getElem? (i := 11) rfl)) ?_
  refine k_aload_n (i := 0) h (ddX6_addLit (20, .aload_n 0, 1) (List.mem_of_getElem? (i := 12) rfl)) rfl ?_
  refine k_getf (ci := 6) (j := 7) (C := RX6) (T := TX6) (N := 8) h rfl (fun w hw => List.mem_cons_of_mem _ (q_inX6 w hw)) (by decide) (List.mem_cons_of_mem _ gw37) (ddX6_addLit (21, .getfield 15, 3) (List.mem_of_getElem? (i := 13) rfl)) ?_
  refine k_alen h (ddX6_addLit (24, .arraylength, 1) (List.mem_of_getElem? (i := 14) rfl)) ?_
  refine k_icge h (ddX6_addLit (25, .if_icmp .ge 18, 3) (List.mem_of_getElem? (i := 15) rfl)) (tgt := 43) (by decide) ?_ ?_
  · exact sX6_addLit_43 hl hQ h
  · exact sX6_addLit_28 hl hQ h
theorem sX6_addLit_8 {l : Launch} {X : q_CX} (hl : X.2.1 = l) (hQ : q_QM X) (h : q_OK X yX6_addLit cX6_addLit 5 none rmX6_addLit (Cond.code yX6_addLit cX6_addLit 5 none :: q_G)) : q_SK X 5 8 (BX6_addLit_8) := by
  refine k_iload_n (i := 1) h (ddX6_addLit (8, .iload_n 1, 1) (List.mem_of_getElem? (i := 5) rfl)) rfl ?_
  refine k_iload_n (i := 3) h (ddX6_addLit (9, .iload_n 3, 1) (List.mem_of_getElem? (i := 6) rfl)) rfl ?_
  refine k_iadd h (ddX6_addLit (10, .iadd, 1) (List.mem_of_getElem? (i := 7) rfl)) ?_
  refine k_istore (i := 4) h (ddX6_addLit (11, .istore 4, 2) (List.mem_of_getElem? (i := 8) rfl)) (by decide) ?_
  refine k_iload (i := 4) h (ddX6_addLit (13, .iload 4, 2) (List.mem_of_getElem? (i := 9) rfl)) ?_
  refine k_iflt h (ddX6_addLit (15, .ifCond .lt 28, 3) (List.mem_of_getElem? (i := 10) rfl)) (tgt := 43) (by decide) ?_ ?_
  · exact sX6_addLit_43 hl hQ h
  · exact sX6_addLit_18 hl hQ h
theorem sX6_addLit_2 {l : Launch} {X : q_CX} (hl : X.2.1 = l) (hQ : q_QM X) (h : q_OK X yX6_addLit cX6_addLit 5 none rmX6_addLit (Cond.code yX6_addLit cX6_addLit 5 none :: q_G)) : q_SK X 5 2 (BX6_addLit_2) := by
  refine k_iload_n (i := 3) h (ddX6_addLit (2, .iload_n 3, 1) (List.mem_of_getElem? (i := 2) rfl)) rfl ?_
  refine k_bipush (v := 8) h (ddX6_addLit (3, .bipush 8, 2) (List.mem_of_getElem? (i := 3) rfl)) (by decide) ?_
  refine k_icge h (ddX6_addLit (5, .if_icmp .ge 44, 3) (List.mem_of_getElem? (i := 4) rfl)) (tgt := 49) (by decide) ?_ ?_
  · exact sX6_addLit_49 hl hQ h
  · exact sX6_addLit_8 hl hQ h
theorem aX6_addLit (l : Launch) (as : List Value) (sh : q_Sh) (m : q_Mm) (R : q_KR) (hw : wX6_addLit as sh m R) : q_AM l yX6_addLit (Cond.code yX6_addLit cX6_addLit 5 none :: q_G) rmX6_addLit as sh m R := by
  refine q_met (code := TX6_addLit) (by decide) (fun X hl hQ _ h pc => ?_) hw.1 hw.2
  unfold TX6_addLit
  exact k_at (sX6_addLit_0 hl hQ h) (k_at (sX6_addLit_2 hl hQ h) (k_no))
/-! TumblingRock$Sight.countLit(LTumblingRock$Rock;)V -/
abbrev dlX6_countLit : List (Nat × (Instr × Nat)) := [(0, .iconst 0, 1), (1, .istore_n 2, 1), (2, .iload_n 2, 1), (3, .aload_n 0, 1), (4, .getfield 15, 3), (7, .arraylength, 1), (8, .if_icmp .ge 16, 3), (11, .aload_n 0, 1), (12, .getfield 15, 3), (15, .iload_n 2, 1), (16, .iconst 0, 1), (17, .iastore, 1), (18, .iinc 2 1, 3), (21, .goto (-19), 3), (24, .iconst 0, 1), (25, .istore_n 2, 1), (26, .iload_n 2, 1), (27, .aload_n 0, 1), (28, .getfield 18, 3), (31, .if_icmp .ge 51, 3), (34, .aload_n 0, 1), (35, .iload_n 2, 1), (36, .invokevirtual 48, 3), (39, .istore_n 3, 1), (40, .iconst 0, 1), (41, .istore 4, 2), (43, .iload 4, 2), (45, .bipush 24, 2), (47, .if_icmp .ge 29, 3), (50, .aload_n 0, 1), (51, .iload 4, 2), (53, .bipush 8, 2), (55, .imul, 1), (56, .aload_n 1, 1), (57, .iload_n 3, 1), (58, .invokevirtual 79, 3), (61, .invokevirtual 82, 3), (64, .aload_n 1, 1), (65, .iload_n 3, 1), (66, .invokevirtual 85, 3), (69, .istore_n 3, 1), (70, .iinc 4 1, 3), (73, .goto (-30), 3), (76, .iinc 2 1, 3), (79, .goto (-53), 3), (82, .return_, 1)]
theorem ddX6_countLit : ∀ q ∈ dlX6_countLit, decode cX6_countLit q.1 = .ok q.2 := by decide +kernel
theorem sX6_countLit_0 {l : Launch} {X : q_CX} (hl : X.2.1 = l) (hQ : q_QM X) (h : q_OK X yX6_countLit cX6_countLit 5 none rmX6_countLit (Cond.code yX6_countLit cX6_countLit 5 none :: q_G)) : q_SK X 5 0 (BX6_countLit_0) := by
  refine k_iconst (v := 0) h (ddX6_countLit (0, .iconst 0, 1) (List.mem_of_getElem? (i := 0) rfl)) (by decide) ?_
  refine k_istore_n (i := 2) h (ddX6_countLit (1, .istore_n 2, 1) (List.mem_of_getElem? (i := 1) rfl)) rfl (by decide) ?_
  exact k_cut
theorem sX6_countLit_24 {l : Launch} {X : q_CX} (hl : X.2.1 = l) (hQ : q_QM X) (h : q_OK X yX6_countLit cX6_countLit 5 none rmX6_countLit (Cond.code yX6_countLit cX6_countLit 5 none :: q_G)) : q_SK X 5 24 (BX6_countLit_24) := by
  refine k_iconst (v := 0) h (ddX6_countLit (24, .iconst 0, 1) (List.mem_of_getElem? (i := 14) rfl)) (by decide) ?_
  refine k_istore_n (i := 2) h (ddX6_countLit (25, .istore_n 2, 1) (List.mem_of_getElem? (i := 15) rfl)) rfl (by decide) ?_
  exact k_cut
theorem sX6_countLit_11 {l : Launch} {X : q_CX} (hl : X.2.1 = l) (hQ : q_QM X) (h : q_OK X yX6_countLit cX6_countLit 5 none rmX6_countLit (Cond.code yX6_countLit cX6_countLit 5 none :: q_G)) : q_SK X 5 11 (BX6_countLit_11) := by
  refine k_aload_n (i := 0) h (ddX6_countLit (11, .aload_n 0, 1) (List.mem_of_getElem? (i := 7) rfl)) rfl ?_
  refine k_getf (ci := 6) (j := 7) (C := RX6) (T := TX6) (N := 8) h rfl (fun w hw => List.mem_cons_of_mem _ (q_inX6 w hw)) (by decide) (List.mem_cons_of_mem _ gw37) (ddX6_countLit (12, .getfield 15, 3) (List.mem_of_getElem? (i := 8) rfl)) ?_
  refine k_iload_n (i := 2) h (ddX6_countLit (15, .iload_n 2, 1) (List.mem_of_getElem? (i := 9) rfl)) rfl ?_
  refine k_iconst (v := 0) h (ddX6_countLit (16, .iconst 0, 1) (List.mem_of_getElem? (i := 10) rfl)) (by decide) ?_
  refine k_iast h (ddX6_countLit (17, .iastore, 1) (List.mem_of_getElem? (i := 11) rfl)) ?_
  refine k_iinc (d := 1) h (ddX6_countLit (18, .iinc 2 1, 3) (List.mem_of_getElem? (i := 12) rfl)) (by decide) (by decide) ?_
  refine k_goto h (ddX6_countLit (21, .goto (-19), 3) (List.mem_of_getElem? (i := 13) rfl)) (tgt := 2) (by decide) ?_
  exact k_cut
theorem sX6_countLit_2 {l : Launch} {X : q_CX} (hl : X.2.1 = l) (hQ : q_QM X) (h : q_OK X yX6_countLit cX6_countLit 5 none rmX6_countLit (Cond.code yX6_countLit cX6_countLit 5 none :: q_G)) : q_SK X 5 2 (BX6_countLit_2) := by
  refine k_iload_n (i := 2) h (ddX6_countLit (2, .iload_n 2, 1) (List.mem_of_getElem? (i := 2) rfl)) rfl ?_
  refine k_aload_n (i := 0) h (ddX6_countLit (3, .aload_n 0, 1) (List.mem_of_getElem? (i := 3) rfl)) rfl ?_
  refine k_getf (ci := 6) (j := 7) (C := RX6) (T := TX6) (N := 8) h rfl (fun w hw => List.mem_cons_of_mem _ (q_inX6 w hw)) (by decide) (List.mem_cons_of_mem _ gw37) (ddX6_countLit (4, .getfield 15, 3) (List.mem_of_getElem? (i := 4) rfl)) ?_
  refine k_alen h (ddX6_countLit (7, .arraylength, 1) (List.mem_of_getElem? (i := 5) rfl)) ?_
  refine k_icge h (ddX6_countLit (8, .if_icmp .ge 16, 3) (List.mem_of_getElem? (i := 6) rfl)) (tgt := 24) (by decide) ?_ ?_
  · exact sX6_countLit_24 hl hQ h
  · exact sX6_countLit_11 hl hQ h
theorem sX6_countLit_82 {l : Launch} {X : q_CX} (hl : X.2.1 = l) (hQ : q_QM X) (h : q_OK X yX6_countLit cX6_countLit 5 none rmX6_countLit (Cond.code yX6_countLit cX6_countLit 5 none :: q_G)) : q_SK X 5 82 (BX6_countLit_82) := by
  exact k_vret h hQ (ddX6_countLit (82, .return_, 1) (List.mem_of_getElem? (i := 45) rfl))
theorem sX6_countLit_34 {l : Launch} {X : q_CX} (hl : X.2.1 = l) (hQ : q_QM X) (h : q_OK X yX6_countLit cX6_countLit 5 none rmX6_countLit (Cond.code yX6_countLit cX6_countLit 5 none :: q_G)) : q_SK X 5 34 (BX6_countLit_34) := by
  refine k_aload_n (i := 0) h (ddX6_countLit (34, .aload_n 0, 1) (List.mem_of_getElem? (i := 20) rfl)) rfl ?_
  refine k_iload_n (i := 2) h (ddX6_countLit (35, .iload_n 2, 1) (List.mem_of_getElem? (i := 21) rfl)) rfl ?_
  refine k_callV h hl (aX6_fitAt l) (ci := 6) (C := RX6) (T := TX6) (N := 8) rfl ⟨rfl, rfl⟩ (n := 1) (by decide +kernel) (q_gV gw500 gw501 gw502 gw34 gw499) ⟨by decide, by decide⟩ (ddX6_countLit (36, .invokevirtual 48, 3) (List.mem_of_getElem? (i := 22) rfl)) ?_
  refine k_istore_n (i := 3) h (ddX6_countLit (39, .istore_n 3, 1) (List.mem_of_getElem? (i := 23) rfl)) rfl (by decide) ?_
  refine k_iconst (v := 0) h (ddX6_countLit (40, .iconst 0, 1) (List.mem_of_getElem? (i := 24) rfl)) (by decide) ?_
  refine k_istore (i := 4) h (ddX6_countLit (41, .istore 4, 2) (List.mem_of_getElem? (i := 25) rfl)) (by decide) ?_
  exact k_cut
theorem sX6_countLit_26 {l : Launch} {X : q_CX} (hl : X.2.1 = l) (hQ : q_QM X) (h : q_OK X yX6_countLit cX6_countLit 5 none rmX6_countLit (Cond.code yX6_countLit cX6_countLit 5 none :: q_G)) : q_SK X 5 26 (BX6_countLit_26) := by
  refine k_iload_n (i := 2) h (ddX6_countLit (26, .iload_n 2, 1) (List.mem_of_getElem? (i := 16) rfl)) rfl ?_
  refine k_aload_n (i := 0) h (ddX6_countLit (27, .aload_n 0, 1) (List.mem_of_getElem? (i := 17) rfl)) rfl ?_
  refine k_getf (ci := 6) (j := 1) (C := RX6) (T := TX6) (N := 8) h rfl (fun w hw => List.mem_cons_of_mem _ (q_inX6 w hw)) (by decide) (List.mem_cons_of_mem _ gw38) (ddX6_countLit (28, .getfield 18, 3) (List.mem_of_getElem? (i := 18) rfl)) ?_
  refine k_icge h (ddX6_countLit (31, .if_icmp .ge 51, 3) (List.mem_of_getElem? (i := 19) rfl)) (tgt := 82) (by decide) ?_ ?_
  · exact sX6_countLit_82 hl hQ h
  · exact sX6_countLit_34 hl hQ h
theorem sX6_countLit_76 {l : Launch} {X : q_CX} (hl : X.2.1 = l) (hQ : q_QM X) (h : q_OK X yX6_countLit cX6_countLit 5 none rmX6_countLit (Cond.code yX6_countLit cX6_countLit 5 none :: q_G)) : q_SK X 5 76 (BX6_countLit_76) := by
  refine k_iinc (d := 1) h (ddX6_countLit (76, .iinc 2 1, 3) (List.mem_of_getElem? (i := 43) rfl)) (by decide) (by decide) ?_
  refine k_goto h (ddX6_countLit (79, .goto (-53), 3) (List.mem_of_getElem? (i := 44) rfl)) (tgt := 26) (by decide) ?_
  exact k_cut
theorem sX6_countLit_50 {l : Launch} {X : q_CX} (hl : X.2.1 = l) (hQ : q_QM X) (h : q_OK X yX6_countLit cX6_countLit 5 none rmX6_countLit (Cond.code yX6_countLit cX6_countLit 5 none :: q_G)) : q_SK X 5 50 (BX6_countLit_50) := by
  refine k_aload_n (i := 0) h (ddX6_countLit (50, .aload_n 0, 1) (List.mem_of_getElem? (i := 29) rfl)) rfl ?_
  refine k_iload (i := 4) h (ddX6_countLit (51, .iload 4, 2) (List.mem_of_getElem? (i := 30) rfl)) ?_
  refine k_bipush (v := 8) h (ddX6_countLit (53, .bipush 8, 2) (List.mem_of_getElem? (i := 31) rfl)) (by decide) ?_
  refine k_imul h (ddX6_countLit (55, .imul, 1) (List.mem_of_getElem? (i := 32) rfl)) ?_
  refine k_aload_n (i := 1) h (ddX6_countLit (56, .aload_n 1, 1) (List.mem_of_getElem? (i := 33) rfl)) rfl ?_
  refine k_iload_n (i := 3) h (ddX6_countLit (57, .iload_n 3, 1) (List.mem_of_getElem? (i := 34) rfl)) rfl ?_
  refine k_callV h hl (aX4_litSet l) (ci := 4) (C := RX4) (T := TX4) (N := 14) rfl ⟨rfl, rfl⟩ (n := 1) (by decide +kernel) (q_gV gw514 gw330 gw331 gw71 gw328) ⟨by decide, by decide⟩ (ddX6_countLit (58, .invokevirtual 79, 3) (List.mem_of_getElem? (i := 35) rfl)) ?_
  refine k_callV h hl (aX6_addLit l) (ci := 6) (C := RX6) (T := TX6) (N := 8) rfl ⟨rfl, rfl⟩ (n := 2) (by decide +kernel) (q_gV gw516 gw517 gw518 gw34 gw515) ⟨by decide, by decide⟩ (ddX6_countLit (61, .invokevirtual 82, 3) (List.mem_of_getElem? (i := 36) rfl)) ?_
  refine k_aload_n (i := 1) h (ddX6_countLit (64, .aload_n 1, 1) (List.mem_of_getElem? (i := 37) rfl)) rfl ?_
  refine k_iload_n (i := 3) h (ddX6_countLit (65, .iload_n 3, 1) (List.mem_of_getElem? (i := 38) rfl)) rfl ?_
  refine k_callV h hl (aX4_stepLater l) (ci := 4) (C := RX4) (T := TX4) (N := 14) rfl ⟨rfl, rfl⟩ (n := 1) (by decide +kernel) (q_gV gw519 gw356 gw357 gw71 gw354) ⟨by decide, by decide⟩ (ddX6_countLit (66, .invokevirtual 85, 3) (List.mem_of_getElem? (i := 39) rfl)) ?_
  refine k_istore_n (i := 3) h (ddX6_countLit (69, .istore_n 3, 1) (List.mem_of_getElem? (i := 40) rfl)) rfl (by decide) ?_
  refine k_iinc (d := 1) h (ddX6_countLit (70, .iinc 4 1, 3) (List.mem_of_getElem? (i := 41) rfl)) (by decide) (by decide) ?_
  refine k_goto h (ddX6_countLit (73, .goto (-30), 3) (List.mem_of_getElem? (i := 42) rfl)) (tgt := 43) (by decide) ?_
  exact k_cut
theorem sX6_countLit_43 {l : Launch} {X : q_CX} (hl : X.2.1 = l) (hQ : q_QM X) (h : q_OK X yX6_countLit cX6_countLit 5 none rmX6_countLit (Cond.code yX6_countLit cX6_countLit 5 none :: q_G)) : q_SK X 5 43 (BX6_countLit_43) := by
  refine k_iload (i := 4) h (ddX6_countLit (43, .iload 4, 2) (List.mem_of_getElem? (i := 26) rfl)) ?_
  refine k_bipush (v := 24) h (ddX6_countLit (45, .bipush 24, 2) (List.mem_of_getElem? (i := 27) rfl)) (by decide) ?_
  refine k_icge h (ddX6_countLit (47, .if_icmp .ge 29, 3) (List.mem_of_getElem? (i := 28) rfl)) (tgt := 76) (by decide) ?_ ?_
  · exact sX6_countLit_76 hl hQ h
  · exact sX6_countLit_50 hl hQ h
theorem aX6_countLit (l : Launch) (as : List Value) (sh : q_Sh) (m : q_Mm) (R : q_KR) (hw : wX6_countLit as sh m R) : q_AM l yX6_countLit (Cond.code yX6_countLit cX6_countLit 5 none :: q_G) rmX6_countLit as sh m R := by
  refine q_met (code := TX6_countLit) (by decide) (fun X hl hQ _ h pc => ?_) hw.1 hw.2
  unfold TX6_countLit
  exact k_at (sX6_countLit_0 hl hQ h) (k_at (sX6_countLit_2 hl hQ h) (k_at (sX6_countLit_26 hl hQ h) (k_at (sX6_countLit_43 hl hQ h) (k_no))))
/-! TumblingRock$Sight.tryLook(II)V -/
abbrev dlX6_tryLook : List (Nat × (Instr × Nat)) := [(0, .aload_n 0, 1), (1, .getfield 15, 3), (4, .iload_n 1, 1), (5, .bipush 8, 2), (7, .imul, 1), (8, .iload_n 2, 1), (9, .iadd, 1), (10, .invokestatic 44, 3), (13, .istore_n 3, 1), (14, .iload_n 3, 1), (15, .aload_n 0, 1), (16, .getfield 18, 3), (19, .iload_n 3, 1), (20, .isub, 1), (21, .invokestatic 88, 3), (24, .istore 4, 2), (26, .iload 4, 2), (28, .aload_n 0, 1), (29, .getfield 18, 3), (32, .if_icmp .eq 20, 3), (35, .aload_n 0, 1), (36, .getfield 65, 3), (39, .iconst (-1), 1), (40, .if_icmp .eq 13, 3), (43, .iload 4, 2), (45, .aload_n 0, 1), (46, .getfield 65, 3), (49, .if_icmp .lt 4, 3), (52, .return_, 1), (53, .aload_n 0, 1), (54, .iload 4, 2), (56, .putfield 65, 3), (59, .aload_n 0, 1), (60, .iload_n 1, 1), (61, .putfield 62, 3), (64, .aload_n 0, 1), (65, .iload_n 2, 1), (66, .putfield 59, 3), (69, .return_, 1)]
theorem ddX6_tryLook : ∀ q ∈ dlX6_tryLook, decode cX6_tryLook q.1 = .ok q.2 := by decide +kernel
theorem sX6_tryLook_52 {l : Launch} {X : q_CX} (hl : X.2.1 = l) (hQ : q_QM X) (h : q_OK X yX6_tryLook cX6_tryLook 5 none rmX6_tryLook (Cond.code yX6_tryLook cX6_tryLook 5 none :: q_G)) : q_SK X 5 52 (BX6_tryLook_52) := by
  exact k_vret h hQ (ddX6_tryLook (52, .return_, 1) (List.mem_of_getElem? (i := 28) rfl))
theorem sX6_tryLook_53 {l : Launch} {X : q_CX} (hl : X.2.1 = l) (hQ : q_QM X) (h : q_OK X yX6_tryLook cX6_tryLook 5 none rmX6_tryLook (Cond.code yX6_tryLook cX6_tryLook 5 none :: q_G)) : q_SK X 5 53 (BX6_tryLook_53) := by
  refine k_aload_n (i := 0) h (ddX6_tryLook (53, .aload_n 0, 1) (List.mem_of_getElem? (i := 29) rfl)) rfl ?_
  refine k_iload (i := 4) h (ddX6_tryLook (54, .iload 4, 2) (List.mem_of_getElem? (i := 30) rfl)) ?_
  refine k_putf (ci := 6) (j := 4) (C := RX6) (T := TX6) (N := 8) h rfl (fun w hw => List.mem_cons_of_mem _ (q_inX6 w hw)) (by decide) (List.mem_cons_of_mem _ gw513) tyX6 tyX6_ok nmX6 (by decide +kernel) (by decide +kernel) (ddX6_tryLook (56, .putfield 65, 3) (List.mem_of_getElem? (i := 31) rfl)) ?_
  refine k_aload_n (i := 0) h (ddX6_tryLook (59, .aload_n 0, 1) (List.mem_of_getElem? (i := 32) rfl)) rfl ?_
  refine k_iload_n (i := 1) h (ddX6_tryLook (60, .iload_n 1, 1) (List.mem_of_getElem? (i := 33) rfl)) rfl ?_
  refine k_putf (ci := 6) (j := 3) (C := RX6) (T := TX6) (N := 8) h rfl (fun w hw => List.mem_cons_of_mem _ (q_inX6 w hw)) (by decide) (List.mem_cons_of_mem _ gw512) tyX6 tyX6_ok nmX6 (by decide +kernel) (by decide +kernel) (ddX6_tryLook (61, .putfield 62, 3) (List.mem_of_getElem? (i := 34) rfl)) ?_
  refine k_aload_n (i := 0) h (ddX6_tryLook (64, .aload_n 0, 1) (List.mem_of_getElem? (i := 35) rfl)) rfl ?_
  refine k_iload_n (i := 2) h (ddX6_tryLook (65, .iload_n 2, 1) (List.mem_of_getElem? (i := 36) rfl)) rfl ?_
  refine k_putf (ci := 6) (j := 2) (C := RX6) (T := TX6) (N := 8) h rfl (fun w hw => List.mem_cons_of_mem _ (q_inX6 w hw)) (by decide) (List.mem_cons_of_mem _ gw511) tyX6 tyX6_ok nmX6 (by decide +kernel) (by decide +kernel) (ddX6_tryLook (66, .putfield 59, 3) (List.mem_of_getElem? (i := 37) rfl)) ?_
  exact k_vret h hQ (ddX6_tryLook (69, .return_, 1) (List.mem_of_getElem? (i := 38) rfl))
theorem sX6_tryLook_43 {l : Launch} {X : q_CX} (hl : X.2.1 = l) (hQ : q_QM X) (h : q_OK X yX6_tryLook cX6_tryLook 5 none rmX6_tryLook (Cond.code yX6_tryLook cX6_tryLook 5 none :: q_G)) : q_SK X 5 43 (BX6_tryLook_43) := by
  refine k_iload (i := 4) h (ddX6_tryLook (43, .iload 4, 2) (List.mem_of_getElem? (i := 24) rfl)) ?_
  refine k_aload_n (i := 0) h (ddX6_tryLook (45, .aload_n 0, 1) (List.mem_of_getElem? (i := 25) rfl)) rfl ?_
  refine k_getf (ci := 6) (j := 4) (C := RX6) (T := TX6) (N := 8) h rfl (fun w hw => List.mem_cons_of_mem _ (q_inX6 w hw)) (by decide) (List.mem_cons_of_mem _ gw513) (ddX6_tryLook (46, .getfield 65, 3) (List.mem_of_getElem? (i := 26) rfl)) ?_
  refine k_iclt h (ddX6_tryLook (49, .if_icmp .lt 4, 3) (List.mem_of_getElem? (i := 27) rfl)) (tgt := 53) (by decide) ?_ ?_
  · exact sX6_tryLook_53 hl hQ h
  · exact sX6_tryLook_52 hl hQ h
theorem sX6_tryLook_35 {l : Launch} {X : q_CX} (hl : X.2.1 = l) (hQ : q_QM X) (h : q_OK X yX6_tryLook cX6_tryLook 5 none rmX6_tryLook (Cond.code yX6_tryLook cX6_tryLook 5 none :: q_G)) : q_SK X 5 35 (BX6_tryLook_35) := by
  refine k_aload_n (i := 0) h (ddX6_tryLook (35, .aload_n 0, 1) (List.mem_of_getElem? (i := 20) rfl)) rfl ?_
  refine k_getf (ci := 6) (j := 4) (C := RX6) (T := TX6) (N := 8) h rfl (fun w hw => List.mem_cons_of_mem _ (q_inX6 w hw)) (by decide) (List.mem_cons_of_mem _ gw513) (ddX6_tryLook (36, .getfield 65, 3) (List.mem_of_getElem? (i := 21) rfl)) ?_
  refine k_iconst (v := (-1)) h (ddX6_tryLook (39, .iconst (-1), 1) (List.mem_of_getElem? (i := 22) rfl)) (by decide) ?_
  refine k_iceq h (ddX6_tryLook (40, .if_icmp .eq 13, 3) (List.mem_of_getElem? (i := 23) rfl)) (tgt := 53) (by decide) ?_ ?_
  · exact sX6_tryLook_53 hl hQ h
  · exact sX6_tryLook_43 hl hQ h
theorem sX6_tryLook_0 {l : Launch} {X : q_CX} (hl : X.2.1 = l) (hQ : q_QM X) (h : q_OK X yX6_tryLook cX6_tryLook 5 none rmX6_tryLook (Cond.code yX6_tryLook cX6_tryLook 5 none :: q_G)) : q_SK X 5 0 (BX6_tryLook_0) := by
  refine k_aload_n (i := 0) h (ddX6_tryLook (0, .aload_n 0, 1) (List.mem_of_getElem? (i := 0) rfl)) rfl ?_
  refine k_getf (ci := 6) (j := 7) (C := RX6) (T := TX6) (N := 8) h rfl (fun w hw => List.mem_cons_of_mem _ (q_inX6 w hw)) (by decide) (List.mem_cons_of_mem _ gw37) (ddX6_tryLook (1, .getfield 15, 3) (List.mem_of_getElem? (i := 1) rfl)) ?_
  refine k_iload_n (i := 1) h (ddX6_tryLook (4, .iload_n 1, 1) (List.mem_of_getElem? (i := 2) rfl)) rfl ?_
  refine k_bipush (v := 8) h (ddX6_tryLook (5, .bipush 8, 2) (List.mem_of_getElem? (i := 3) rfl)) (by decide) ?_
  refine k_imul h (ddX6_tryLook (7, .imul, 1) (List.mem_of_getElem? (i := 4) rfl)) ?_
  refine k_iload_n (i := 2) h (ddX6_tryLook (8, .iload_n 2, 1) (List.mem_of_getElem? (i := 5) rfl)) rfl ?_
  refine k_iadd h (ddX6_tryLook (9, .iadd, 1) (List.mem_of_getElem? (i := 6) rfl)) ?_
  refine k_callN h hl (aX8_at l) ⟨rfl, rfl⟩ (n := 2) (by decide +kernel) (q_gN gw98) (by decide +kernel) (List.mem_cons_of_mem _ gw91) (List.mem_cons_of_mem _ gw99) ⟨by decide, by decide⟩ (ddX6_tryLook (10, .invokestatic 44, 3) (List.mem_of_getElem? (i := 7) rfl)) ?_
  refine k_istore_n (i := 3) h (ddX6_tryLook (13, .istore_n 3, 1) (List.mem_of_getElem? (i := 8) rfl)) rfl (by decide) ?_
  refine k_iload_n (i := 3) h (ddX6_tryLook (14, .iload_n 3, 1) (List.mem_of_getElem? (i := 9) rfl)) rfl ?_
  refine k_aload_n (i := 0) h (ddX6_tryLook (15, .aload_n 0, 1) (List.mem_of_getElem? (i := 10) rfl)) rfl ?_
  refine k_getf (ci := 6) (j := 1) (C := RX6) (T := TX6) (N := 8) h rfl (fun w hw => List.mem_cons_of_mem _ (q_inX6 w hw)) (by decide) (List.mem_cons_of_mem _ gw38) (ddX6_tryLook (16, .getfield 18, 3) (List.mem_of_getElem? (i := 11) rfl)) ?_
  refine k_iload_n (i := 3) h (ddX6_tryLook (19, .iload_n 3, 1) (List.mem_of_getElem? (i := 12) rfl)) rfl ?_
  refine k_isub h (ddX6_tryLook (20, .isub, 1) (List.mem_of_getElem? (i := 13) rfl)) ?_
  refine k_mmax h (List.mem_cons_of_mem _ gw525) (List.mem_cons_of_mem _ gw352) (List.mem_cons_of_mem _ gw301) (List.mem_cons_of_mem _ gw353) (by decide) (by decide) (ddX6_tryLook (21, .invokestatic 88, 3) (List.mem_of_getElem? (i := 14) rfl)) ?_
  refine k_istore (i := 4) h (ddX6_tryLook (24, .istore 4, 2) (List.mem_of_getElem? (i := 15) rfl)) (by decide) ?_
  refine k_iload (i := 4) h (ddX6_tryLook (26, .iload 4, 2) (List.mem_of_getElem? (i := 16) rfl)) ?_
  refine k_aload_n (i := 0) h (ddX6_tryLook (28, .aload_n 0, 1) (List.mem_of_getElem? (i := 17) rfl)) rfl ?_
  refine k_getf (ci := 6) (j := 1) (C := RX6) (T := TX6) (N := 8) h rfl (fun w hw => List.mem_cons_of_mem _ (q_inX6 w hw)) (by decide) (List.mem_cons_of_mem _ gw38) (ddX6_tryLook (29, .getfield 18, 3) (List.mem_of_getElem? (i := 18) rfl)) ?_
  refine k_iceq h (ddX6_tryLook (32, .if_icmp .eq 20, 3) (List.mem_of_getElem? (i := 19) rfl)) (tgt := 52) (by decide) ?_ ?_
  · exact sX6_tryLook_52 hl hQ h
  · exact sX6_tryLook_35 hl hQ h
theorem aX6_tryLook (l : Launch) (as : List Value) (sh : q_Sh) (m : q_Mm) (R : q_KR) (hw : wX6_tryLook as sh m R) : q_AM l yX6_tryLook (Cond.code yX6_tryLook cX6_tryLook 5 none :: q_G) rmX6_tryLook as sh m R := by
  refine q_met (code := TX6_tryLook) (by decide) (fun X hl hQ _ h pc => ?_) hw.1 hw.2
  unfold TX6_tryLook
  exact k_at (sX6_tryLook_0 hl hQ h) (k_no)
/-! TumblingRock$Sight.findLook(LTumblingRock$Rock;)V -/
abbrev dlX6_findLook : List (Nat × (Instr × Nat)) := [(0, .aload_n 0, 1), (1, .getfield 25, 3), (4, .ifCond .eq 4, 3), (7, .return_, 1), (8, .aload_n 0, 1), (9, .iconst 1, 1), (10, .putfield 25, 3), (13, .aload_n 0, 1), (14, .iconst (-1), 1), (15, .putfield 59, 3), (18, .aload_n 0, 1), (19, .iconst (-1), 1), (20, .putfield 62, 3), (23, .aload_n 0, 1), (24, .iconst (-1), 1), (25, .putfield 65, 3), (28, .aload_n 0, 1), (29, .aload_n 1, 1), (30, .invokevirtual 68, 3), (33, .iconst 0, 1), (34, .istore_n 2, 1), (35, .iload_n 2, 1), (36, .bipush 24, 2), (38, .if_icmp .ge 31, 3), (41, .iconst 0, 1), (42, .istore_n 3, 1), (43, .iload_n 3, 1), (44, .aload_n 1, 1), (45, .getfield 72, 3), (48, .if_icmp .ge 15, 3), (51, .aload_n 0, 1), (52, .iload_n 2, 1), (53, .iload_n 3, 1), (54, .invokevirtual 75, 3), (57, .iinc 3 1, 3), (60, .goto (-17), 3), (63, .iinc 2 1, 3), (66, .goto (-31), 3), (69, .return_, 1)]
theorem ddX6_findLook : ∀ q ∈ dlX6_findLook, decode cX6_findLook q.1 = .ok q.2 := by decide +kernel
theorem sX6_findLook_8 {l : Launch} {X : q_CX} (hl : X.2.1 = l) (hQ : q_QM X) (h : q_OK X yX6_findLook cX6_findLook 4 none rmX6_findLook (Cond.code yX6_findLook cX6_findLook 4 none :: q_G)) : q_SK X 4 8 (BX6_findLook_8) := by
  refine k_aload_n (i := 0) h (ddX6_findLook (8, .aload_n 0, 1) (List.mem_of_getElem? (i := 4) rfl)) rfl ?_
  refine k_iconst (v := 1) h (ddX6_findLook (9, .iconst 1, 1) (List.mem_of_getElem? (i := 5) rfl)) (by decide) ?_
  refine k_putz (ci := 6) (j := 5) (C := RX6) (T := TX6) (N := 8) h rfl (fun w hw => List.mem_cons_of_mem _ (q_inX6 w hw)) (by decide) (List.mem_cons_of_mem _ gw297) tyX6 tyX6_ok nmX6 (by decide +kernel) (by decide +kernel) (ddX6_findLook (10, .putfield 25, 3) (List.mem_of_getElem? (i := 6) rfl)) ?_
  refine k_aload_n (i := 0) h (ddX6_findLook (13, .aload_n 0, 1) (List.mem_of_getElem? (i := 7) rfl)) rfl ?_
  refine k_iconst (v := (-1)) h (ddX6_findLook (14, .iconst (-1), 1) (List.mem_of_getElem? (i := 8) rfl)) (by decide) ?_
  refine k_putf (ci := 6) (j := 2) (C := RX6) (T := TX6) (N := 8) h rfl (fun w hw => List.mem_cons_of_mem _ (q_inX6 w hw)) (by decide) (List.mem_cons_of_mem _ gw511) tyX6 tyX6_ok nmX6 (by decide +kernel) (by decide +kernel) (ddX6_findLook (15, .putfield 59, 3) (List.mem_of_getElem? (i := 9) rfl)) ?_
  refine k_aload_n (i := 0) h (ddX6_findLook (18, .aload_n 0, 1) (List.mem_of_getElem? (i := 10) rfl)) rfl ?_
  refine k_iconst (v := (-1)) h (ddX6_findLook (19, .iconst (-1), 1) (List.mem_of_getElem? (i := 11) rfl)) (by decide) ?_
  refine k_putf (ci := 6) (j := 3) (C := RX6) (T := TX6) (N := 8) h rfl (fun w hw => List.mem_cons_of_mem _ (q_inX6 w hw)) (by decide) (List.mem_cons_of_mem _ gw512) tyX6 tyX6_ok nmX6 (by decide +kernel) (by decide +kernel) (ddX6_findLook (20, .putfield 62, 3) (List.mem_of_getElem? (i := 12) rfl)) ?_
  refine k_aload_n (i := 0) h (ddX6_findLook (23, .aload_n 0, 1) (List.mem_of_getElem? (i := 13) rfl)) rfl ?_
  refine k_iconst (v := (-1)) h (ddX6_findLook (24, .iconst (-1), 1) (List.mem_of_getElem? (i := 14) rfl)) (by decide) ?_
  refine k_putf (ci := 6) (j := 4) (C := RX6) (T := TX6) (N := 8) h rfl (fun w hw => List.mem_cons_of_mem _ (q_inX6 w hw)) (by decide) (List.mem_cons_of_mem _ gw513) tyX6 tyX6_ok nmX6 (by decide +kernel) (by decide +kernel) (ddX6_findLook (25, .putfield 65, 3) (List.mem_of_getElem? (i := 15) rfl)) ?_
  refine k_aload_n (i := 0) h (ddX6_findLook (28, .aload_n 0, 1) (List.mem_of_getElem? (i := 16) rfl)) rfl ?_
  refine k_aload_n (i := 1) h (ddX6_findLook (29, .aload_n 1, 1) (List.mem_of_getElem? (i := 17) rfl)) rfl ?_
  refine k_callV h hl (aX6_countLit l) (ci := 6) (C := RX6) (T := TX6) (N := 8) rfl ⟨rfl, rfl⟩ (n := 1) (by decide +kernel) (q_gV gw521 gw522 gw523 gw34 gw520) ⟨by decide, by decide⟩ (ddX6_findLook (30, .invokevirtual 68, 3) (List.mem_of_getElem? (i := 18) rfl)) ?_
  refine k_iconst (v := 0) h (ddX6_findLook (33, .iconst 0, 1) (List.mem_of_getElem? (i := 19) rfl)) (by decide) ?_
  refine k_istore_n (i := 2) h (ddX6_findLook (34, .istore_n 2, 1) (List.mem_of_getElem? (i := 20) rfl)) rfl (by decide) ?_
  exact k_cut
theorem sX6_findLook_7 {l : Launch} {X : q_CX} (hl : X.2.1 = l) (hQ : q_QM X) (h : q_OK X yX6_findLook cX6_findLook 4 none rmX6_findLook (Cond.code yX6_findLook cX6_findLook 4 none :: q_G)) : q_SK X 4 7 (BX6_findLook_7) := by
  exact k_vret h hQ (ddX6_findLook (7, .return_, 1) (List.mem_of_getElem? (i := 3) rfl))
theorem sX6_findLook_0 {l : Launch} {X : q_CX} (hl : X.2.1 = l) (hQ : q_QM X) (h : q_OK X yX6_findLook cX6_findLook 4 none rmX6_findLook (Cond.code yX6_findLook cX6_findLook 4 none :: q_G)) : q_SK X 4 0 (BX6_findLook_0) := by
  refine k_aload_n (i := 0) h (ddX6_findLook (0, .aload_n 0, 1) (List.mem_of_getElem? (i := 0) rfl)) rfl ?_
  refine k_getf (ci := 6) (j := 5) (C := RX6) (T := TX6) (N := 8) h rfl (fun w hw => List.mem_cons_of_mem _ (q_inX6 w hw)) (by decide) (List.mem_cons_of_mem _ gw297) (ddX6_findLook (1, .getfield 25, 3) (List.mem_of_getElem? (i := 1) rfl)) ?_
  refine k_ifeq h (ddX6_findLook (4, .ifCond .eq 4, 3) (List.mem_of_getElem? (i := 2) rfl)) (tgt := 8) (by decide) ?_ ?_
  · exact sX6_findLook_8 hl hQ h
  · exact sX6_findLook_7 hl hQ h
theorem sX6_findLook_69 {l : Launch} {X : q_CX} (hl : X.2.1 = l) (hQ : q_QM X) (h : q_OK X yX6_findLook cX6_findLook 4 none rmX6_findLook (Cond.code yX6_findLook cX6_findLook 4 none :: q_G)) : q_SK X 4 69 (BX6_findLook_69) := by
  exact k_vret h hQ (ddX6_findLook (69, .return_, 1) (List.mem_of_getElem? (i := 38) rfl))
theorem sX6_findLook_41 {l : Launch} {X : q_CX} (hl : X.2.1 = l) (hQ : q_QM X) (h : q_OK X yX6_findLook cX6_findLook 4 none rmX6_findLook (Cond.code yX6_findLook cX6_findLook 4 none :: q_G)) : q_SK X 4 41 (BX6_findLook_41) := by
  refine k_iconst (v := 0) h (ddX6_findLook (41, .iconst 0, 1) (List.mem_of_getElem? (i := 24) rfl)) (by decide) ?_
  refine k_istore_n (i := 3) h (ddX6_findLook (42, .istore_n 3, 1) (List.mem_of_getElem? (i := 25) rfl)) rfl (by decide) ?_
  exact k_cut
theorem sX6_findLook_35 {l : Launch} {X : q_CX} (hl : X.2.1 = l) (hQ : q_QM X) (h : q_OK X yX6_findLook cX6_findLook 4 none rmX6_findLook (Cond.code yX6_findLook cX6_findLook 4 none :: q_G)) : q_SK X 4 35 (BX6_findLook_35) := by
  refine k_iload_n (i := 2) h (ddX6_findLook (35, .iload_n 2, 1) (List.mem_of_getElem? (i := 21) rfl)) rfl ?_
  refine k_bipush (v := 24) h (ddX6_findLook (36, .bipush 24, 2) (List.mem_of_getElem? (i := 22) rfl)) (by decide) ?_
  refine k_icge h (ddX6_findLook (38, .if_icmp .ge 31, 3) (List.mem_of_getElem? (i := 23) rfl)) (tgt := 69) (by decide) ?_ ?_
  · exact sX6_findLook_69 hl hQ h
  · exact sX6_findLook_41 hl hQ h
theorem sX6_findLook_63 {l : Launch} {X : q_CX} (hl : X.2.1 = l) (hQ : q_QM X) (h : q_OK X yX6_findLook cX6_findLook 4 none rmX6_findLook (Cond.code yX6_findLook cX6_findLook 4 none :: q_G)) : q_SK X 4 63 (BX6_findLook_63) := by
  refine k_iinc (d := 1) h (ddX6_findLook (63, .iinc 2 1, 3) (List.mem_of_getElem? (i := 36) rfl)) (by decide) (by decide) ?_
  refine k_goto h (ddX6_findLook (66, .goto (-31), 3) (List.mem_of_getElem? (i := 37) rfl)) (tgt := 35) (by decide) ?_
  exact k_cut
theorem sX6_findLook_51 {l : Launch} {X : q_CX} (hl : X.2.1 = l) (hQ : q_QM X) (h : q_OK X yX6_findLook cX6_findLook 4 none rmX6_findLook (Cond.code yX6_findLook cX6_findLook 4 none :: q_G)) : q_SK X 4 51 (BX6_findLook_51) := by
  refine k_aload_n (i := 0) h (ddX6_findLook (51, .aload_n 0, 1) (List.mem_of_getElem? (i := 30) rfl)) rfl ?_
  refine k_iload_n (i := 2) h (ddX6_findLook (52, .iload_n 2, 1) (List.mem_of_getElem? (i := 31) rfl)) rfl ?_
  refine k_iload_n (i := 3) h (ddX6_findLook (53, .iload_n 3, 1) (List.mem_of_getElem? (i := 32) rfl)) rfl ?_
  refine k_callV h hl (aX6_tryLook l) (ci := 6) (C := RX6) (T := TX6) (N := 8) rfl ⟨rfl, rfl⟩ (n := 2) (by decide +kernel) (q_gV gw527 gw528 gw529 gw34 gw526) ⟨by decide, by decide⟩ (ddX6_findLook (54, .invokevirtual 75, 3) (List.mem_of_getElem? (i := 33) rfl)) ?_
  refine k_iinc (d := 1) h (ddX6_findLook (57, .iinc 3 1, 3) (List.mem_of_getElem? (i := 34) rfl)) (by decide) (by decide) ?_
  refine k_goto h (ddX6_findLook (60, .goto (-17), 3) (List.mem_of_getElem? (i := 35) rfl)) (tgt := 43) (by decide) ?_
  exact k_cut
theorem sX6_findLook_43 {l : Launch} {X : q_CX} (hl : X.2.1 = l) (hQ : q_QM X) (h : q_OK X yX6_findLook cX6_findLook 4 none rmX6_findLook (Cond.code yX6_findLook cX6_findLook 4 none :: q_G)) : q_SK X 4 43 (BX6_findLook_43) := by
  refine k_iload_n (i := 3) h (ddX6_findLook (43, .iload_n 3, 1) (List.mem_of_getElem? (i := 26) rfl)) rfl ?_
  refine k_aload_n (i := 1) h (ddX6_findLook (44, .aload_n 1, 1) (List.mem_of_getElem? (i := 27) rfl)) rfl ?_
  refine k_getf (ci := 4) (j := 1) (C := RX4) (T := TX4) (N := 14) h rfl (fun w hw => List.mem_cons_of_mem _ (q_inX4 w hw)) (by decide) (List.mem_cons_of_mem _ gw524) (ddX6_findLook (45, .getfield 72, 3) (List.mem_of_getElem? (i := 28) rfl)) ?_
  refine k_icge h (ddX6_findLook (48, .if_icmp .ge 15, 3) (List.mem_of_getElem? (i := 29) rfl)) (tgt := 63) (by decide) ?_ ?_
  · exact sX6_findLook_63 hl hQ h
  · exact sX6_findLook_51 hl hQ h
theorem aX6_findLook (l : Launch) (as : List Value) (sh : q_Sh) (m : q_Mm) (R : q_KR) (hw : wX6_findLook as sh m R) : q_AM l yX6_findLook (Cond.code yX6_findLook cX6_findLook 4 none :: q_G) rmX6_findLook as sh m R := by
  refine q_met (code := TX6_findLook) (by decide) (fun X hl hQ _ h pc => ?_) hw.1 hw.2
  unfold TX6_findLook
  exact k_at (sX6_findLook_0 hl hQ h) (k_at (sX6_findLook_35 hl hQ h) (k_at (sX6_findLook_43 hl hQ h) (k_no)))
/-! TumblingRock.look(I)I -/
abbrev dlX8_look : List (Nat × (Instr × Nat)) := [(0, .iload_n 1, 1), (1, .iconst 0, 1), (2, .iconst 2, 1), (3, .invokestatic 78, 3), (6, .ifCond .ne 6, 3), (9, .ldc 82, 2), (11, .ireturn, 1), (12, .aload_n 0, 1), (13, .getfield 43, 3), (16, .aload_n 0, 1), (17, .getfield 71, 3), (20, .invokevirtual 250, 3), (23, .iload_n 1, 1), (24, .ifCond .ne 11, 3), (27, .aload_n 0, 1), (28, .getfield 43, 3), (31, .getfield 254, 3), (34, .ireturn, 1), (35, .iload_n 1, 1), (36, .iconst 1, 1), (37, .if_icmp .ne 13, 3), (40, .aload_n 0, 1), (41, .getfield 43, 3), (44, .getfield 257, 3), (47, .goto 10, 3), (50, .aload_n 0, 1), (51, .getfield 43, 3), (54, .getfield 260, 3), (57, .ireturn, 1)]
theorem ddX8_look : ∀ q ∈ dlX8_look, decode cX8_look q.1 = .ok q.2 := by decide +kernel
theorem sX8_look_57 {l : Launch} {X : q_CX} (hl : X.2.1 = l) (hQ : q_QM X) (h : q_OK X yX8_look cX8_look 2 (some .int) rmX8_look (Cond.code yX8_look cX8_look 2 (some .int) :: q_G)) : q_SK X 2 57 (BX8_look_57) := by
  exact k_iret h hQ (ddX8_look (57, .ireturn, 1) (List.mem_of_getElem? (i := 28) rfl))
theorem sX8_look_50 {l : Launch} {X : q_CX} (hl : X.2.1 = l) (hQ : q_QM X) (h : q_OK X yX8_look cX8_look 2 (some .int) rmX8_look (Cond.code yX8_look cX8_look 2 (some .int) :: q_G)) : q_SK X 2 50 (BX8_look_50) := by
  refine k_aload_n (i := 0) h (ddX8_look (50, .aload_n 0, 1) (List.mem_of_getElem? (i := 25) rfl)) rfl ?_
  refine k_getf (ci := 8) (j := 5) (C := RX8) (T := TX8) (N := 11) h rfl (fun w hw => List.mem_cons_of_mem _ (q_inX8 w hw)) (by decide) (List.mem_cons_of_mem _ gw42) (ddX8_look (51, .getfield 43, 3) (List.mem_of_getElem? (i := 26) rfl)) ?_
  refine k_getf (ci := 6) (j := 4) (C := RX6) (T := TX6) (N := 8) h rfl (fun w hw => List.mem_cons_of_mem _ (q_inX6 w hw)) (by decide) (List.mem_cons_of_mem _ gw536) (ddX8_look (54, .getfield 260, 3) (List.mem_of_getElem? (i := 27) rfl)) ?_
  exact sX8_look_57 hl hQ h
theorem sX8_look_40 {l : Launch} {X : q_CX} (hl : X.2.1 = l) (hQ : q_QM X) (h : q_OK X yX8_look cX8_look 2 (some .int) rmX8_look (Cond.code yX8_look cX8_look 2 (some .int) :: q_G)) : q_SK X 2 40 (BX8_look_40) := by
  refine k_aload_n (i := 0) h (ddX8_look (40, .aload_n 0, 1) (List.mem_of_getElem? (i := 21) rfl)) rfl ?_
  refine k_getf (ci := 8) (j := 5) (C := RX8) (T := TX8) (N := 11) h rfl (fun w hw => List.mem_cons_of_mem _ (q_inX8 w hw)) (by decide) (List.mem_cons_of_mem _ gw42) (ddX8_look (41, .getfield 43, 3) (List.mem_of_getElem? (i := 22) rfl)) ?_
  refine k_getf (ci := 6) (j := 3) (C := RX6) (T := TX6) (N := 8) h rfl (fun w hw => List.mem_cons_of_mem _ (q_inX6 w hw)) (by decide) (List.mem_cons_of_mem _ gw535) (ddX8_look (44, .getfield 257, 3) (List.mem_of_getElem? (i := 23) rfl)) ?_
  refine k_goto h (ddX8_look (47, .goto 10, 3) (List.mem_of_getElem? (i := 24) rfl)) (tgt := 57) (by decide) ?_
  exact sX8_look_57 hl hQ h
theorem sX8_look_35 {l : Launch} {X : q_CX} (hl : X.2.1 = l) (hQ : q_QM X) (h : q_OK X yX8_look cX8_look 2 (some .int) rmX8_look (Cond.code yX8_look cX8_look 2 (some .int) :: q_G)) : q_SK X 2 35 (BX8_look_35) := by
  refine k_iload_n (i := 1) h (ddX8_look (35, .iload_n 1, 1) (List.mem_of_getElem? (i := 18) rfl)) rfl ?_
  refine k_iconst (v := 1) h (ddX8_look (36, .iconst 1, 1) (List.mem_of_getElem? (i := 19) rfl)) (by decide) ?_
  refine k_icne h (ddX8_look (37, .if_icmp .ne 13, 3) (List.mem_of_getElem? (i := 20) rfl)) (tgt := 50) (by decide) ?_ ?_
  · exact sX8_look_50 hl hQ h
  · exact sX8_look_40 hl hQ h
theorem sX8_look_27 {l : Launch} {X : q_CX} (hl : X.2.1 = l) (hQ : q_QM X) (h : q_OK X yX8_look cX8_look 2 (some .int) rmX8_look (Cond.code yX8_look cX8_look 2 (some .int) :: q_G)) : q_SK X 2 27 (BX8_look_27) := by
  refine k_aload_n (i := 0) h (ddX8_look (27, .aload_n 0, 1) (List.mem_of_getElem? (i := 14) rfl)) rfl ?_
  refine k_getf (ci := 8) (j := 5) (C := RX8) (T := TX8) (N := 11) h rfl (fun w hw => List.mem_cons_of_mem _ (q_inX8 w hw)) (by decide) (List.mem_cons_of_mem _ gw42) (ddX8_look (28, .getfield 43, 3) (List.mem_of_getElem? (i := 15) rfl)) ?_
  refine k_getf (ci := 6) (j := 2) (C := RX6) (T := TX6) (N := 8) h rfl (fun w hw => List.mem_cons_of_mem _ (q_inX6 w hw)) (by decide) (List.mem_cons_of_mem _ gw534) (ddX8_look (31, .getfield 254, 3) (List.mem_of_getElem? (i := 16) rfl)) ?_
  exact k_iret h hQ (ddX8_look (34, .ireturn, 1) (List.mem_of_getElem? (i := 17) rfl))
theorem sX8_look_12 {l : Launch} {X : q_CX} (hl : X.2.1 = l) (hQ : q_QM X) (h : q_OK X yX8_look cX8_look 2 (some .int) rmX8_look (Cond.code yX8_look cX8_look 2 (some .int) :: q_G)) : q_SK X 2 12 (BX8_look_12) := by
  refine k_aload_n (i := 0) h (ddX8_look (12, .aload_n 0, 1) (List.mem_of_getElem? (i := 7) rfl)) rfl ?_
  refine k_getf (ci := 8) (j := 5) (C := RX8) (T := TX8) (N := 11) h rfl (fun w hw => List.mem_cons_of_mem _ (q_inX8 w hw)) (by decide) (List.mem_cons_of_mem _ gw42) (ddX8_look (13, .getfield 43, 3) (List.mem_of_getElem? (i := 8) rfl)) ?_
  refine k_aload_n (i := 0) h (ddX8_look (16, .aload_n 0, 1) (List.mem_of_getElem? (i := 9) rfl)) rfl ?_
  refine k_getf (ci := 8) (j := 9) (C := RX8) (T := TX8) (N := 11) h rfl (fun w hw => List.mem_cons_of_mem _ (q_inX8 w hw)) (by decide) (List.mem_cons_of_mem _ gw135) (ddX8_look (17, .getfield 71, 3) (List.mem_of_getElem? (i := 10) rfl)) ?_
  refine k_callV h hl (aX6_findLook l) (ci := 6) (C := RX6) (T := TX6) (N := 8) rfl ⟨rfl, rfl⟩ (n := 1) (by decide +kernel) (q_gV gw531 gw532 gw533 gw34 gw530) ⟨by decide, by decide⟩ (ddX8_look (20, .invokevirtual 250, 3) (List.mem_of_getElem? (i := 11) rfl)) ?_
  refine k_iload_n (i := 1) h (ddX8_look (23, .iload_n 1, 1) (List.mem_of_getElem? (i := 12) rfl)) rfl ?_
  refine k_ifne h (ddX8_look (24, .ifCond .ne 11, 3) (List.mem_of_getElem? (i := 13) rfl)) (tgt := 35) (by decide) ?_ ?_
  · exact sX8_look_35 hl hQ h
  · exact sX8_look_27 hl hQ h
theorem sX8_look_9 {l : Launch} {X : q_CX} (hl : X.2.1 = l) (hQ : q_QM X) (h : q_OK X yX8_look cX8_look 2 (some .int) rmX8_look (Cond.code yX8_look cX8_look 2 (some .int) :: q_G)) : q_SK X 2 9 (BX8_look_9) := by
  refine k_ldc (v := (-1000000002)) h (ddX8_look (9, .ldc 82, 2) (List.mem_of_getElem? (i := 5) rfl)) (List.mem_cons_of_mem _ gw140) ?_
  exact k_iret h hQ (ddX8_look (11, .ireturn, 1) (List.mem_of_getElem? (i := 6) rfl))
theorem sX8_look_0 {l : Launch} {X : q_CX} (hl : X.2.1 = l) (hQ : q_QM X) (h : q_OK X yX8_look cX8_look 2 (some .int) rmX8_look (Cond.code yX8_look cX8_look 2 (some .int) :: q_G)) : q_SK X 2 0 (BX8_look_0) := by
  refine k_iload_n (i := 1) h (ddX8_look (0, .iload_n 1, 1) (List.mem_of_getElem? (i := 0) rfl)) rfl ?_
  refine k_iconst (v := 0) h (ddX8_look (1, .iconst 0, 1) (List.mem_of_getElem? (i := 1) rfl)) (by decide) ?_
  refine k_iconst (v := 2) h (ddX8_look (2, .iconst 2, 1) (List.mem_of_getElem? (i := 2) rfl)) (by decide) ?_
  refine k_callS h hl (aX8_inside l) ⟨rfl, rfl⟩ (n := 3) (by decide +kernel) (q_gS gw139 gw138 gw91 gw137) ⟨by decide, by decide⟩ (ddX8_look (3, .invokestatic 78, 3) (List.mem_of_getElem? (i := 3) rfl)) ?_
  refine k_ifne h (ddX8_look (6, .ifCond .ne 6, 3) (List.mem_of_getElem? (i := 4) rfl)) (tgt := 12) (by decide) ?_ ?_
  · exact sX8_look_12 hl hQ h
  · exact sX8_look_9 hl hQ h
theorem aX8_look (l : Launch) (as : List Value) (sh : q_Sh) (m : q_Mm) (R : q_KR) (hw : wX8_look as sh m R) : q_AM l yX8_look (Cond.code yX8_look cX8_look 2 (some .int) :: q_G) rmX8_look as sh m R := by
  refine q_met (code := TX8_look) (by decide) (fun X hl hQ _ h pc => ?_) hw.1 hw.2
  unfold TX8_look
  exact k_at (sX8_look_0 hl hQ h) (k_no)
/-! TumblingRock$Mender.reach(II)V -/
abbrev dlX2_reach : List (Nat × (Instr × Nat)) := [(0, .aload_n 0, 1), (1, .getfield 9, 3), (4, .iload_n 1, 1), (5, .invokestatic 35, 3), (8, .iconst (-1), 1), (9, .if_icmp .eq 4, 3), (12, .return_, 1), (13, .aload_n 0, 1), (14, .getfield 9, 3), (17, .iload_n 1, 1), (18, .iload_n 2, 1), (19, .invokestatic 39, 3), (22, .aload_n 0, 1), (23, .getfield 15, 3), (26, .aload_n 0, 1), (27, .getfield 18, 3), (30, .iload_n 1, 1), (31, .invokestatic 39, 3), (34, .aload_n 0, 1), (35, .dup, 1), (36, .getfield 18, 3), (39, .iconst 1, 1), (40, .iadd, 1), (41, .putfield 18, 3), (44, .return_, 1)]
theorem ddX2_reach : ∀ q ∈ dlX2_reach, decode cX2_reach q.1 = .ok q.2 := by decide +kernel
theorem sX2_reach_13 {l : Launch} {X : q_CX} (hl : X.2.1 = l) (hQ : q_QM X) (h : q_OK X yX2_reach cX2_reach 3 none rmX2_reach (Cond.code yX2_reach cX2_reach 3 none :: q_G)) : q_SK X 3 13 (BX2_reach_13) := by
  refine k_aload_n (i := 0) h (ddX2_reach (13, .aload_n 0, 1) (List.mem_of_getElem? (i := 7) rfl)) rfl ?_
  refine k_getf (ci := 2) (j := 0) (C := RX2) (T := TX2) (N := 3) h rfl (fun w hw => List.mem_cons_of_mem _ (q_inX2 w hw)) (by decide) (List.mem_cons_of_mem _ gw56) (ddX2_reach (14, .getfield 9, 3) (List.mem_of_getElem? (i := 8) rfl)) ?_
  refine k_iload_n (i := 1) h (ddX2_reach (17, .iload_n 1, 1) (List.mem_of_getElem? (i := 9) rfl)) rfl ?_
  refine k_iload_n (i := 2) h (ddX2_reach (18, .iload_n 2, 1) (List.mem_of_getElem? (i := 10) rfl)) rfl ?_
  refine k_callN h hl (aX8_put l) ⟨rfl, rfl⟩ (n := 3) (by decide +kernel) (q_gN gw143) (by decide +kernel) (List.mem_cons_of_mem _ gw91) (List.mem_cons_of_mem _ gw144) ⟨by decide, by decide⟩ (ddX2_reach (19, .invokestatic 39, 3) (List.mem_of_getElem? (i := 11) rfl)) ?_
  refine k_aload_n (i := 0) h (ddX2_reach (22, .aload_n 0, 1) (List.mem_of_getElem? (i := 12) rfl)) rfl ?_
  refine k_getf (ci := 2) (j := 1) (C := RX2) (T := TX2) (N := 3) h rfl (fun w hw => List.mem_cons_of_mem _ (q_inX2 w hw)) (by decide) (List.mem_cons_of_mem _ gw57) (ddX2_reach (23, .getfield 15, 3) (List.mem_of_getElem? (i := 13) rfl)) ?_
  refine k_aload_n (i := 0) h (ddX2_reach (26, .aload_n 0, 1) (List.mem_of_getElem? (i := 14) rfl)) rfl ?_
  refine k_getf (ci := 2) (j := 2) (C := RX2) (T := TX2) (N := 3) h rfl (fun w hw => List.mem_cons_of_mem _ (q_inX2 w hw)) (by decide) (List.mem_cons_of_mem _ gw537) (ddX2_reach (27, .getfield 18, 3) (List.mem_of_getElem? (i := 15) rfl)) ?_
  refine k_iload_n (i := 1) h (ddX2_reach (30, .iload_n 1, 1) (List.mem_of_getElem? (i := 16) rfl)) rfl ?_
  refine k_callN h hl (aX8_put l) ⟨rfl, rfl⟩ (n := 3) (by decide +kernel) (q_gN gw143) (by decide +kernel) (List.mem_cons_of_mem _ gw91) (List.mem_cons_of_mem _ gw144) ⟨by decide, by decide⟩ (ddX2_reach (31, .invokestatic 39, 3) (List.mem_of_getElem? (i := 17) rfl)) ?_
  refine k_aload_n (i := 0) h (ddX2_reach (34, .aload_n 0, 1) (List.mem_of_getElem? (i := 18) rfl)) rfl ?_
  refine k_dup h (ddX2_reach (35, .dup, 1) (List.mem_of_getElem? (i := 19) rfl)) ?_
  refine k_getf (ci := 2) (j := 2) (C := RX2) (T := TX2) (N := 3) h rfl (fun w hw => List.mem_cons_of_mem _ (q_inX2 w hw)) (by decide) (List.mem_cons_of_mem _ gw537) (ddX2_reach (36, .getfield 18, 3) (List.mem_of_getElem? (i := 20) rfl)) ?_
  refine k_iconst (v := 1) h (ddX2_reach (39, .iconst 1, 1) (List.mem_of_getElem? (i := 21) rfl)) (by decide) ?_
  refine k_iadd h (ddX2_reach (40, .iadd, 1) (List.mem_of_getElem? (i := 22) rfl)) ?_
  refine k_putf (ci := 2) (j := 2) (C := RX2) (T := TX2) (N := 3) h rfl (fun w hw => List.mem_cons_of_mem _ (q_inX2 w hw)) (by decide) (List.mem_cons_of_mem _ gw537) tyX2 tyX2_ok nmX2 (by decide +kernel) (by decide +kernel) (ddX2_reach (41, .putfield 18, 3) (List.mem_of_getElem? (i := 23) rfl)) ?_
  exact k_vret h hQ (ddX2_reach (44, .return_, 1) (List.mem_of_getElem? (i := 24) rfl))
theorem sX2_reach_12 {l : Launch} {X : q_CX} (hl : X.2.1 = l) (hQ : q_QM X) (h : q_OK X yX2_reach cX2_reach 3 none rmX2_reach (Cond.code yX2_reach cX2_reach 3 none :: q_G)) : q_SK X 3 12 (BX2_reach_12) := by
  exact k_vret h hQ (ddX2_reach (12, .return_, 1) (List.mem_of_getElem? (i := 6) rfl))
theorem sX2_reach_0 {l : Launch} {X : q_CX} (hl : X.2.1 = l) (hQ : q_QM X) (h : q_OK X yX2_reach cX2_reach 3 none rmX2_reach (Cond.code yX2_reach cX2_reach 3 none :: q_G)) : q_SK X 3 0 (BX2_reach_0) := by
  refine k_aload_n (i := 0) h (ddX2_reach (0, .aload_n 0, 1) (List.mem_of_getElem? (i := 0) rfl)) rfl ?_
  refine k_getf (ci := 2) (j := 0) (C := RX2) (T := TX2) (N := 3) h rfl (fun w hw => List.mem_cons_of_mem _ (q_inX2 w hw)) (by decide) (List.mem_cons_of_mem _ gw56) (ddX2_reach (1, .getfield 9, 3) (List.mem_of_getElem? (i := 1) rfl)) ?_
  refine k_iload_n (i := 1) h (ddX2_reach (4, .iload_n 1, 1) (List.mem_of_getElem? (i := 2) rfl)) rfl ?_
  refine k_callN h hl (aX8_at l) ⟨rfl, rfl⟩ (n := 2) (by decide +kernel) (q_gN gw98) (by decide +kernel) (List.mem_cons_of_mem _ gw91) (List.mem_cons_of_mem _ gw99) ⟨by decide, by decide⟩ (ddX2_reach (5, .invokestatic 35, 3) (List.mem_of_getElem? (i := 3) rfl)) ?_
  refine k_iconst (v := (-1)) h (ddX2_reach (8, .iconst (-1), 1) (List.mem_of_getElem? (i := 4) rfl)) (by decide) ?_
  refine k_iceq h (ddX2_reach (9, .if_icmp .eq 4, 3) (List.mem_of_getElem? (i := 5) rfl)) (tgt := 13) (by decide) ?_ ?_
  · exact sX2_reach_13 hl hQ h
  · exact sX2_reach_12 hl hQ h
theorem aX2_reach (l : Launch) (as : List Value) (sh : q_Sh) (m : q_Mm) (R : q_KR) (hw : wX2_reach as sh m R) : q_AM l yX2_reach (Cond.code yX2_reach cX2_reach 3 none :: q_G) rmX2_reach as sh m R := by
  refine q_met (code := TX2_reach) (by decide) (fun X hl hQ _ h pc => ?_) hw.1 hw.2
  unfold TX2_reach
  exact k_at (sX2_reach_0 hl hQ h) (k_no)
/-! TumblingRock$Rock.backBy(II)I -/
abbrev dlX4_backBy : List (Nat × (Instr × Nat)) := [(0, .bipush 12, 2), (2, .aload_n 0, 1), (3, .iload_n 2, 1), (4, .invokevirtual 59, 3), (7, .imul, 1), (8, .aload_n 0, 1), (9, .iload_n 1, 1), (10, .iload_n 2, 1), (11, .invokevirtual 101, 3), (14, .isub, 1), (15, .ireturn, 1)]
theorem ddX4_backBy : ∀ q ∈ dlX4_backBy, decode cX4_backBy q.1 = .ok q.2 := by decide +kernel
theorem sX4_backBy_0 {l : Launch} {X : q_CX} (hl : X.2.1 = l) (hQ : q_QM X) (h : q_OK X yX4_backBy cX4_backBy 3 (some .int) rmX4_backBy (Cond.code yX4_backBy cX4_backBy 3 (some .int) :: q_G)) : q_SK X 3 0 (BX4_backBy_0) := by
  refine k_bipush (v := 12) h (ddX4_backBy (0, .bipush 12, 2) (List.mem_of_getElem? (i := 0) rfl)) (by decide) ?_
  refine k_aload_n (i := 0) h (ddX4_backBy (2, .aload_n 0, 1) (List.mem_of_getElem? (i := 1) rfl)) rfl ?_
  refine k_iload_n (i := 2) h (ddX4_backBy (3, .iload_n 2, 1) (List.mem_of_getElem? (i := 2) rfl)) rfl ?_
  refine k_callV h hl (aX4_size l) (ci := 4) (C := RX4) (T := TX4) (N := 14) rfl ⟨rfl, rfl⟩ (n := 1) (by decide +kernel) (q_gV gw226 gw227 gw228 gw71 gw225) ⟨by decide, by decide⟩ (ddX4_backBy (4, .invokevirtual 59, 3) (List.mem_of_getElem? (i := 3) rfl)) ?_
  refine k_imul h (ddX4_backBy (7, .imul, 1) (List.mem_of_getElem? (i := 4) rfl)) ?_
  refine k_aload_n (i := 0) h (ddX4_backBy (8, .aload_n 0, 1) (List.mem_of_getElem? (i := 5) rfl)) rfl ?_
  refine k_iload_n (i := 1) h (ddX4_backBy (9, .iload_n 1, 1) (List.mem_of_getElem? (i := 6) rfl)) rfl ?_
  refine k_iload_n (i := 2) h (ddX4_backBy (10, .iload_n 2, 1) (List.mem_of_getElem? (i := 7) rfl)) rfl ?_
  refine k_callV h hl (aX4_shove l) (ci := 4) (C := RX4) (T := TX4) (N := 14) rfl ⟨rfl, rfl⟩ (n := 2) (by decide +kernel) (q_gV gw385 gw386 gw387 gw71 gw384) ⟨by decide, by decide⟩ (ddX4_backBy (11, .invokevirtual 101, 3) (List.mem_of_getElem? (i := 8) rfl)) ?_
  refine k_isub h (ddX4_backBy (14, .isub, 1) (List.mem_of_getElem? (i := 9) rfl)) ?_
  exact k_iret h hQ (ddX4_backBy (15, .ireturn, 1) (List.mem_of_getElem? (i := 10) rfl))
theorem aX4_backBy (l : Launch) (as : List Value) (sh : q_Sh) (m : q_Mm) (R : q_KR) (hw : wX4_backBy as sh m R) : q_AM l yX4_backBy (Cond.code yX4_backBy cX4_backBy 3 (some .int) :: q_G) rmX4_backBy as sh m R := by
  refine q_met (code := TX4_backBy) (by decide) (fun X hl hQ _ h pc => ?_) hw.1 hw.2
  unfold TX4_backBy
  exact k_at (sX4_backBy_0 hl hQ h) (k_no)
/-! TumblingRock$Rock.unpushed(II)I -/
abbrev dlX4_unpushed : List (Nat × (Instr × Nat)) := [(0, .aload_n 0, 1), (1, .iload_n 1, 1), (2, .aload_n 0, 1), (3, .iload_n 2, 1), (4, .iconst 0, 1), (5, .invokevirtual 104, 3), (8, .aload_n 0, 1), (9, .iload_n 2, 1), (10, .iconst 1, 1), (11, .invokevirtual 104, 3), (14, .aload_n 0, 1), (15, .iload_n 2, 1), (16, .iconst 2, 1), (17, .invokevirtual 104, 3), (20, .invokevirtual 79, 3), (23, .ireturn, 1)]
theorem ddX4_unpushed : ∀ q ∈ dlX4_unpushed, decode cX4_unpushed q.1 = .ok q.2 := by decide +kernel
theorem sX4_unpushed_0 {l : Launch} {X : q_CX} (hl : X.2.1 = l) (hQ : q_QM X) (h : q_OK X yX4_unpushed cX4_unpushed 3 (some .int) rmX4_unpushed (Cond.code yX4_unpushed cX4_unpushed 3 (some .int) :: q_G)) : q_SK X 3 0 (BX4_unpushed_0) := by
  refine k_aload_n (i := 0) h (ddX4_unpushed (0, .aload_n 0, 1) (List.mem_of_getElem? (i := 0) rfl)) rfl ?_
  refine k_iload_n (i := 1) h (ddX4_unpushed (1, .iload_n 1, 1) (List.mem_of_getElem? (i := 1) rfl)) rfl ?_
  refine k_aload_n (i := 0) h (ddX4_unpushed (2, .aload_n 0, 1) (List.mem_of_getElem? (i := 2) rfl)) rfl ?_
  refine k_iload_n (i := 2) h (ddX4_unpushed (3, .iload_n 2, 1) (List.mem_of_getElem? (i := 3) rfl)) rfl ?_
  refine k_iconst (v := 0) h (ddX4_unpushed (4, .iconst 0, 1) (List.mem_of_getElem? (i := 4) rfl)) (by decide) ?_
  refine k_callV h hl (aX4_backBy l) (ci := 4) (C := RX4) (T := TX4) (N := 14) rfl ⟨rfl, rfl⟩ (n := 2) (by decide +kernel) (q_gV gw544 gw545 gw546 gw71 gw543) ⟨by decide, by decide⟩ (ddX4_unpushed (5, .invokevirtual 104, 3) (List.mem_of_getElem? (i := 5) rfl)) ?_
  refine k_aload_n (i := 0) h (ddX4_unpushed (8, .aload_n 0, 1) (List.mem_of_getElem? (i := 6) rfl)) rfl ?_
  refine k_iload_n (i := 2) h (ddX4_unpushed (9, .iload_n 2, 1) (List.mem_of_getElem? (i := 7) rfl)) rfl ?_
  refine k_iconst (v := 1) h (ddX4_unpushed (10, .iconst 1, 1) (List.mem_of_getElem? (i := 8) rfl)) (by decide) ?_
  refine k_callV h hl (aX4_backBy l) (ci := 4) (C := RX4) (T := TX4) (N := 14) rfl ⟨rfl, rfl⟩ (n := 2) (by decide +kernel) (q_gV gw544 gw545 gw546 gw71 gw543) ⟨by decide, by decide⟩ (ddX4_unpushed (11, .invokevirtual 104, 3) (List.mem_of_getElem? (i := 9) rfl)) ?_
  refine k_aload_n (i := 0) h (ddX4_unpushed (14, .aload_n 0, 1) (List.mem_of_getElem? (i := 10) rfl)) rfl ?_
  refine k_iload_n (i := 2) h (ddX4_unpushed (15, .iload_n 2, 1) (List.mem_of_getElem? (i := 11) rfl)) rfl ?_
  refine k_iconst (v := 2) h (ddX4_unpushed (16, .iconst 2, 1) (List.mem_of_getElem? (i := 12) rfl)) (by decide) ?_
  refine k_callV h hl (aX4_backBy l) (ci := 4) (C := RX4) (T := TX4) (N := 14) rfl ⟨rfl, rfl⟩ (n := 2) (by decide +kernel) (q_gV gw544 gw545 gw546 gw71 gw543) ⟨by decide, by decide⟩ (ddX4_unpushed (17, .invokevirtual 104, 3) (List.mem_of_getElem? (i := 13) rfl)) ?_
  refine k_callV h hl (aX4_moved l) (ci := 4) (C := RX4) (T := TX4) (N := 14) rfl ⟨rfl, rfl⟩ (n := 4) (by decide +kernel) (q_gV gw125 gw126 gw127 gw71 gw124) ⟨by decide, by decide⟩ (ddX4_unpushed (20, .invokevirtual 79, 3) (List.mem_of_getElem? (i := 14) rfl)) ?_
  exact k_iret h hQ (ddX4_unpushed (23, .ireturn, 1) (List.mem_of_getElem? (i := 15) rfl))
theorem aX4_unpushed (l : Launch) (as : List Value) (sh : q_Sh) (m : q_Mm) (R : q_KR) (hw : wX4_unpushed as sh m R) : q_AM l yX4_unpushed (Cond.code yX4_unpushed cX4_unpushed 3 (some .int) :: q_G) rmX4_unpushed as sh m R := by
  refine q_met (code := TX4_unpushed) (by decide) (fun X hl hQ _ h pc => ?_) hw.1 hw.2
  unfold TX4_unpushed
  exact k_at (sX4_unpushed_0 hl hQ h) (k_no)
/-! TumblingRock$Mender.fewest(LTumblingRock$Rock;II)I -/
abbrev dlX2_fewest : List (Nat × (Instr × Nat)) := [(0, .iload_n 3, 1), (1, .iconst (-1), 1), (2, .if_icmp .ne 5, 3), (5, .iconst (-1), 1), (6, .ireturn, 1), (7, .iconst 0, 1), (8, .istore 4, 2), (10, .iload 4, 2), (12, .sipush 1728, 3), (15, .if_icmp .ge 17, 3), (18, .aload_n 0, 1), (19, .getfield 9, 3), (22, .iload 4, 2), (24, .iconst (-1), 1), (25, .iastore, 1), (26, .iinc 4 1, 3), (29, .goto (-19), 3), (32, .aload_n 0, 1), (33, .iconst 0, 1), (34, .putfield 18, 3), (37, .aload_n 0, 1), (38, .iload_n 3, 1), (39, .iconst 0, 1), (40, .invokevirtual 22, 3), (43, .iconst 0, 1), (44, .istore 4, 2), (46, .iload 4, 2), (48, .aload_n 0, 1), (49, .getfield 18, 3), (52, .if_icmp .ge 67, 3), (55, .iload 4, 2), (57, .sipush 1728, 3), (60, .if_icmp .ge 59, 3), (63, .aload_n 0, 1), (64, .getfield 15, 3), (67, .iload 4, 2), (69, .iaload, 1), (70, .istore 5, 2), (72, .iconst 0, 1), (73, .istore 6, 2), (75, .iload 6, 2), (77, .aload_n 1, 1), (78, .getfield 26, 3), (81, .if_icmp .ge 32, 3), (84, .aload_n 0, 1), (85, .aload_n 1, 1), (86, .iload 5, 2), (88, .iload 6, 2), (90, .invokevirtual 31, 3), (93, .aload_n 0, 1), (94, .getfield 9, 3), (97, .iload 5, 2), (99, .invokestatic 35, 3), (102, .iconst 1, 1), (103, .iadd, 1), (104, .invokevirtual 22, 3), (107, .iinc 6 1, 3), (110, .goto (-35), 3), (113, .iinc 4 1, 3), (116, .goto (-70), 3), (119, .aload_n 0, 1), (120, .getfield 9, 3), (123, .iload_n 2, 1), (124, .invokestatic 35, 3), (127, .ireturn, 1)]
theorem ddX2_fewest : ∀ q ∈ dlX2_fewest, decode cX2_fewest q.1 = .ok q.2 := by decide +kernel
theorem sX2_fewest_7 {l : Launch} {X : q_CX} (hl : X.2.1 = l) (hQ : q_QM X) (h : q_OK X yX2_fewest cX2_fewest 7 (some .int) rmX2_fewest (Cond.code yX2_fewest cX2_fewest 7 (some .int) :: q_G)) : q_SK X 7 7 (BX2_fewest_7) := by
  refine k_iconst (v := 0) h (ddX2_fewest (7, .iconst 0, 1) (List.mem_of_getElem? (i := 5) rfl)) (by decide) ?_
  refine k_istore (i := 4) h (ddX2_fewest (8, .istore 4, 2) (List.mem_of_getElem? (i := 6) rfl)) (by decide) ?_
  exact k_cut
theorem sX2_fewest_5 {l : Launch} {X : q_CX} (hl : X.2.1 = l) (hQ : q_QM X) (h : q_OK X yX2_fewest cX2_fewest 7 (some .int) rmX2_fewest (Cond.code yX2_fewest cX2_fewest 7 (some .int) :: q_G)) : q_SK X 7 5 (BX2_fewest_5) := by
  refine k_iconst (v := (-1)) h (ddX2_fewest (5, .iconst (-1), 1) (List.mem_of_getElem? (i := 3) rfl)) (by decide) ?_
  exact k_iret h hQ (ddX2_fewest (6, .ireturn, 1) (List.mem_of_getElem? (i := 4) rfl))
theorem sX2_fewest_0 {l : Launch} {X : q_CX} (hl : X.2.1 = l) (hQ : q_QM X) (h : q_OK X yX2_fewest cX2_fewest 7 (some .int) rmX2_fewest (Cond.code yX2_fewest cX2_fewest 7 (some .int) :: q_G)) : q_SK X 7 0 (BX2_fewest_0) := by
  refine k_iload_n (i := 3) h (ddX2_fewest (0, .iload_n 3, 1) (List.mem_of_getElem? (i := 0) rfl)) rfl ?_
  refine k_iconst (v := (-1)) h (ddX2_fewest (1, .iconst (-1), 1) (List.mem_of_getElem? (i := 1) rfl)) (by decide) ?_
  refine k_icne h (ddX2_fewest (2, .if_icmp .ne 5, 3) (List.mem_of_getElem? (i := 2) rfl)) (tgt := 7) (by decide) ?_ ?_
  · exact sX2_fewest_7 hl hQ h
  · exact sX2_fewest_5 hl hQ h
theorem sX2_fewest_32 {l : Launch} {X : q_CX} (hl : X.2.1 = l) (hQ : q_QM X) (h : q_OK X yX2_fewest cX2_fewest 7 (some .int) rmX2_fewest (Cond.code yX2_fewest cX2_fewest 7 (some .int) :: q_G)) : q_SK X 7 32 (BX2_fewest_32) := by
  refine k_aload_n (i := 0) h (ddX2_fewest (32, .aload_n 0, 1) (List.mem_of_getElem? (i := 17) rfl)) rfl ?_
  refine k_iconst (v := 0) h (ddX2_fewest (33, .iconst 0, 1) (List.mem_of_getElem? (i := 18) rfl)) (by decide) ?_
  refine k_putf (ci := 2) (j := 2) (C := RX2) (T := TX2) (N := 3) h rfl (fun w hw => List.mem_cons_of_mem _ (q_inX2 w hw)) (by decide) (List.mem_cons_of_mem _ gw537) tyX2 tyX2_ok nmX2 (by decide +kernel) (by decide +kernel) (ddX2_fewest (34, .putfield 18, 3) (List.mem_of_getElem? (i := 19) rfl)) ?_
  refine k_aload_n (i := 0) h (ddX2_fewest (37, .aload_n 0, 1) (List.mem_of_getElem? (i := 20) rfl)) rfl ?_
  refine k_iload_n (i := 3) h (ddX2_fewest (38, .iload_n 3, 1) (List.mem_of_getElem? (i := 21) rfl)) rfl ?_
  refine k_iconst (v := 0) h (ddX2_fewest (39, .iconst 0, 1) (List.mem_of_getElem? (i := 22) rfl)) (by decide) ?_
  refine k_callV h hl (aX2_reach l) (ci := 2) (C := RX2) (T := TX2) (N := 3) rfl ⟨rfl, rfl⟩ (n := 2) (by decide +kernel) (q_gV gw539 gw540 gw541 gw54 gw538) ⟨by decide, by decide⟩ (ddX2_fewest (40, .invokevirtual 22, 3) (List.mem_of_getElem? (i := 23) rfl)) ?_
  refine k_iconst (v := 0) h (ddX2_fewest (43, .iconst 0, 1) (List.mem_of_getElem? (i := 24) rfl)) (by decide) ?_
  refine k_istore (i := 4) h (ddX2_fewest (44, .istore 4, 2) (List.mem_of_getElem? (i := 25) rfl)) (by decide) ?_
  exact k_cut
theorem sX2_fewest_18 {l : Launch} {X : q_CX} (hl : X.2.1 = l) (hQ : q_QM X) (h : q_OK X yX2_fewest cX2_fewest 7 (some .int) rmX2_fewest (Cond.code yX2_fewest cX2_fewest 7 (some .int) :: q_G)) : q_SK X 7 18 (BX2_fewest_18) := by
  refine k_aload_n (i := 0) h (ddX2_fewest (18, .aload_n 0, 1) (List.mem_of_getElem? (i := 10) rfl)) rfl ?_
  refine k_getf (ci := 2) (j := 0) (C := RX2) (T := TX2) (N := 3) h rfl (fun w hw => List.mem_cons_of_mem _ (q_inX2 w hw)) (by decide) (List.mem_cons_of_mem _ gw56) (ddX2_fewest (19, .getfield 9, 3) (List.mem_of_getElem? (i := 11) rfl)) ?_
  refine k_iload (i := 4) h (ddX2_fewest (22, .iload 4, 2) (List.mem_of_getElem? (i := 12) rfl)) ?_
  refine k_iconst (v := (-1)) h (ddX2_fewest (24, .iconst (-1), 1) (List.mem_of_getElem? (i := 13) rfl)) (by decide) ?_
  refine k_iast h (ddX2_fewest (25, .iastore, 1) (List.mem_of_getElem? (i := 14) rfl)) ?_
  refine k_iinc (d := 1) h (ddX2_fewest (26, .iinc 4 1, 3) (List.mem_of_getElem? (i := 15) rfl)) (by decide) (by decide) ?_
  refine k_goto h (ddX2_fewest (29, .goto (-19), 3) (List.mem_of_getElem? (i := 16) rfl)) (tgt := 10) (by decide) ?_
  exact k_cut
theorem sX2_fewest_10 {l : Launch} {X : q_CX} (hl : X.2.1 = l) (hQ : q_QM X) (h : q_OK X yX2_fewest cX2_fewest 7 (some .int) rmX2_fewest (Cond.code yX2_fewest cX2_fewest 7 (some .int) :: q_G)) : q_SK X 7 10 (BX2_fewest_10) := by
  refine k_iload (i := 4) h (ddX2_fewest (10, .iload 4, 2) (List.mem_of_getElem? (i := 7) rfl)) ?_
  refine k_sipush (v := 1728) h (ddX2_fewest (12, .sipush 1728, 3) (List.mem_of_getElem? (i := 8) rfl)) (by decide) ?_
  refine k_icge h (ddX2_fewest (15, .if_icmp .ge 17, 3) (List.mem_of_getElem? (i := 9) rfl)) (tgt := 32) (by decide) ?_ ?_
  · exact sX2_fewest_32 hl hQ h
  · exact sX2_fewest_18 hl hQ h
theorem sX2_fewest_119 {l : Launch} {X : q_CX} (hl : X.2.1 = l) (hQ : q_QM X) (h : q_OK X yX2_fewest cX2_fewest 7 (some .int) rmX2_fewest (Cond.code yX2_fewest cX2_fewest 7 (some .int) :: q_G)) : q_SK X 7 119 (BX2_fewest_119) := by
  refine k_aload_n (i := 0) h (ddX2_fewest (119, .aload_n 0, 1) (List.mem_of_getElem? (i := 60) rfl)) rfl ?_
  refine k_getf (ci := 2) (j := 0) (C := RX2) (T := TX2) (N := 3) h rfl (fun w hw => List.mem_cons_of_mem _ (q_inX2 w hw)) (by decide) (List.mem_cons_of_mem _ gw56) (ddX2_fewest (120, .getfield 9, 3) (List.mem_of_getElem? (i := 61) rfl)) ?_
  refine k_iload_n (i := 2) h (ddX2_fewest (123, .iload_n 2, 1) (List.mem_of_getElem? (i := 62) rfl)) rfl ?_
  refine k_callN h hl (aX8_at l) ⟨rfl, rfl⟩ (n := 2) (by decide +kernel) (q_gN gw98) (by decide +kernel) (List.mem_cons_of_mem _ gw91) (List.mem_cons_of_mem _ gw99) ⟨by decide, by decide⟩ (ddX2_fewest (124, .invokestatic 35, 3) (List.mem_of_getElem? (i := 63) rfl)) ?_
  exact k_iret h hQ (ddX2_fewest (127, .ireturn, 1) (List.mem_of_getElem? (i := 64) rfl))
theorem sX2_fewest_63 {l : Launch} {X : q_CX} (hl : X.2.1 = l) (hQ : q_QM X) (h : q_OK X yX2_fewest cX2_fewest 7 (some .int) rmX2_fewest (Cond.code yX2_fewest cX2_fewest 7 (some .int) :: q_G)) : q_SK X 7 63 (BX2_fewest_63) := by
  refine k_aload_n (i := 0) h (ddX2_fewest (63, .aload_n 0, 1) (List.mem_of_getElem? (i := 33) rfl)) rfl ?_
  refine k_getf (ci := 2) (j := 1) (C := RX2) (T := TX2) (N := 3) h rfl (fun w hw => List.mem_cons_of_mem _ (q_inX2 w hw)) (by decide) (List.mem_cons_of_mem _ gw57) (ddX2_fewest (64, .getfield 15, 3) (List.mem_of_getElem? (i := 34) rfl)) ?_
  refine k_iload (i := 4) h (ddX2_fewest (67, .iload 4, 2) (List.mem_of_getElem? (i := 35) rfl)) ?_
  refine k_iald h (ddX2_fewest (69, .iaload, 1) (List.mem_of_getElem? (i := 36) rfl)) ?_
  refine k_istore (i := 5) h (ddX2_fewest (70, .istore 5, 2) (List.mem_of_getElem? (i := 37) rfl)) (by decide) ?_
  refine k_iconst (v := 0) h (ddX2_fewest (72, .iconst 0, 1) (List.mem_of_getElem? (i := 38) rfl)) (by decide) ?_
  refine k_istore (i := 6) h (ddX2_fewest (73, .istore 6, 2) (List.mem_of_getElem? (i := 39) rfl)) (by decide) ?_
  exact k_cut
theorem sX2_fewest_55 {l : Launch} {X : q_CX} (hl : X.2.1 = l) (hQ : q_QM X) (h : q_OK X yX2_fewest cX2_fewest 7 (some .int) rmX2_fewest (Cond.code yX2_fewest cX2_fewest 7 (some .int) :: q_G)) : q_SK X 7 55 (BX2_fewest_55) := by
  refine k_iload (i := 4) h (ddX2_fewest (55, .iload 4, 2) (List.mem_of_getElem? (i := 30) rfl)) ?_
  refine k_sipush (v := 1728) h (ddX2_fewest (57, .sipush 1728, 3) (List.mem_of_getElem? (i := 31) rfl)) (by decide) ?_
  refine k_icge h (ddX2_fewest (60, .if_icmp .ge 59, 3) (List.mem_of_getElem? (i := 32) rfl)) (tgt := 119) (by decide) ?_ ?_
  · exact sX2_fewest_119 hl hQ h
  · exact sX2_fewest_63 hl hQ h
theorem sX2_fewest_46 {l : Launch} {X : q_CX} (hl : X.2.1 = l) (hQ : q_QM X) (h : q_OK X yX2_fewest cX2_fewest 7 (some .int) rmX2_fewest (Cond.code yX2_fewest cX2_fewest 7 (some .int) :: q_G)) : q_SK X 7 46 (BX2_fewest_46) := by
  refine k_iload (i := 4) h (ddX2_fewest (46, .iload 4, 2) (List.mem_of_getElem? (i := 26) rfl)) ?_
  refine k_aload_n (i := 0) h (ddX2_fewest (48, .aload_n 0, 1) (List.mem_of_getElem? (i := 27) rfl)) rfl ?_
  refine k_getf (ci := 2) (j := 2) (C := RX2) (T := TX2) (N := 3) h rfl (fun w hw => List.mem_cons_of_mem _ (q_inX2 w hw)) (by decide) (List.mem_cons_of_mem _ gw537) (ddX2_fewest (49, .getfield 18, 3) (List.mem_of_getElem? (i := 28) rfl)) ?_
  refine k_icge h (ddX2_fewest (52, .if_icmp .ge 67, 3) (List.mem_of_getElem? (i := 29) rfl)) (tgt := 119) (by decide) ?_ ?_
  · exact sX2_fewest_119 hl hQ h
  · exact sX2_fewest_55 hl hQ h
theorem sX2_fewest_113 {l : Launch} {X : q_CX} (hl : X.2.1 = l) (hQ : q_QM X) (h : q_OK X yX2_fewest cX2_fewest 7 (some .int) rmX2_fewest (Cond.code yX2_fewest cX2_fewest 7 (some .int) :: q_G)) : q_SK X 7 113 (BX2_fewest_113) := by
  refine k_iinc (d := 1) h (ddX2_fewest (113, .iinc 4 1, 3) (List.mem_of_getElem? (i := 58) rfl)) (by decide) (by decide) ?_
  refine k_goto h (ddX2_fewest (116, .goto (-70), 3) (List.mem_of_getElem? (i := 59) rfl)) (tgt := 46) (by decide) ?_
  exact k_cut
theorem sX2_fewest_84 {l : Launch} {X : q_CX} (hl : X.2.1 = l) (hQ : q_QM X) (h : q_OK X yX2_fewest cX2_fewest 7 (some .int) rmX2_fewest (Cond.code yX2_fewest cX2_fewest 7 (some .int) :: q_G)) : q_SK X 7 84 (BX2_fewest_84) := by
  refine k_aload_n (i := 0) h (ddX2_fewest (84, .aload_n 0, 1) (List.mem_of_getElem? (i := 44) rfl)) rfl ?_
  refine k_aload_n (i := 1) h (ddX2_fewest (85, .aload_n 1, 1) (List.mem_of_getElem? (i := 45) rfl)) rfl ?_
  refine k_iload (i := 5) h (ddX2_fewest (86, .iload 5, 2) (List.mem_of_getElem? (i := 46) rfl)) ?_
  refine k_iload (i := 6) h (ddX2_fewest (88, .iload 6, 2) (List.mem_of_getElem? (i := 47) rfl)) ?_
  refine k_callV h hl (aX4_unpushed l) (ci := 4) (C := RX4) (T := TX4) (N := 14) rfl ⟨rfl, rfl⟩ (n := 2) (by decide +kernel) (q_gV gw548 gw549 gw550 gw71 gw547) ⟨by decide, by decide⟩ (ddX2_fewest (90, .invokevirtual 31, 3) (List.mem_of_getElem? (i := 48) rfl)) ?_
  refine k_aload_n (i := 0) h (ddX2_fewest (93, .aload_n 0, 1) (List.mem_of_getElem? (i := 49) rfl)) rfl ?_
  refine k_getf (ci := 2) (j := 0) (C := RX2) (T := TX2) (N := 3) h rfl (fun w hw => List.mem_cons_of_mem _ (q_inX2 w hw)) (by decide) (List.mem_cons_of_mem _ gw56) (ddX2_fewest (94, .getfield 9, 3) (List.mem_of_getElem? (i := 50) rfl)) ?_
  refine k_iload (i := 5) h (ddX2_fewest (97, .iload 5, 2) (List.mem_of_getElem? (i := 51) rfl)) ?_
  refine k_callN h hl (aX8_at l) ⟨rfl, rfl⟩ (n := 2) (by decide +kernel) (q_gN gw98) (by decide +kernel) (List.mem_cons_of_mem _ gw91) (List.mem_cons_of_mem _ gw99) ⟨by decide, by decide⟩ (ddX2_fewest (99, .invokestatic 35, 3) (List.mem_of_getElem? (i := 52) rfl)) ?_
  refine k_iconst (v := 1) h (ddX2_fewest (102, .iconst 1, 1) (List.mem_of_getElem? (i := 53) rfl)) (by decide) ?_
  refine k_iadd h (ddX2_fewest (103, .iadd, 1) (List.mem_of_getElem? (i := 54) rfl)) ?_
  refine k_callV h hl (aX2_reach l) (ci := 2) (C := RX2) (T := TX2) (N := 3) rfl ⟨rfl, rfl⟩ (n := 2) (by decide +kernel) (q_gV gw539 gw540 gw541 gw54 gw538) ⟨by decide, by decide⟩ (ddX2_fewest (104, .invokevirtual 22, 3) (List.mem_of_getElem? (i := 55) rfl)) ?_
  refine k_iinc (d := 1) h (ddX2_fewest (107, .iinc 6 1, 3) (List.mem_of_getElem? (i := 56) rfl)) (by decide) (by decide) ?_
  refine k_goto h (ddX2_fewest (110, .goto (-35), 3) (List.mem_of_getElem? (i := 57) rfl)) (tgt := 75) (by decide) ?_
  exact k_cut
theorem sX2_fewest_75 {l : Launch} {X : q_CX} (hl : X.2.1 = l) (hQ : q_QM X) (h : q_OK X yX2_fewest cX2_fewest 7 (some .int) rmX2_fewest (Cond.code yX2_fewest cX2_fewest 7 (some .int) :: q_G)) : q_SK X 7 75 (BX2_fewest_75) := by
  refine k_iload (i := 6) h (ddX2_fewest (75, .iload 6, 2) (List.mem_of_getElem? (i := 40) rfl)) ?_
  refine k_aload_n (i := 1) h (ddX2_fewest (77, .aload_n 1, 1) (List.mem_of_getElem? (i := 41) rfl)) rfl ?_
  refine k_getf (ci := 4) (j := 3) (C := RX4) (T := TX4) (N := 14) h rfl (fun w hw => List.mem_cons_of_mem _ (q_inX4 w hw)) (by decide) (List.mem_cons_of_mem _ gw542) (ddX2_fewest (78, .getfield 26, 3) (List.mem_of_getElem? (i := 42) rfl)) ?_
  refine k_icge h (ddX2_fewest (81, .if_icmp .ge 32, 3) (List.mem_of_getElem? (i := 43) rfl)) (tgt := 113) (by decide) ?_ ?_
  · exact sX2_fewest_113 hl hQ h
  · exact sX2_fewest_84 hl hQ h
theorem aX2_fewest (l : Launch) (as : List Value) (sh : q_Sh) (m : q_Mm) (R : q_KR) (hw : wX2_fewest as sh m R) : q_AM l yX2_fewest (Cond.code yX2_fewest cX2_fewest 7 (some .int) :: q_G) rmX2_fewest as sh m R := by
  refine q_met (code := TX2_fewest) (by decide) (fun X hl hQ _ h pc => ?_) hw.1 hw.2
  unfold TX2_fewest
  exact k_at (sX2_fewest_0 hl hQ h) (k_at (sX2_fewest_10 hl hQ h) (k_at (sX2_fewest_46 hl hQ h) (k_at (sX2_fewest_75 hl hQ h) (k_no))))
