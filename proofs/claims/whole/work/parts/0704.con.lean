/-! Contracts, leaves first; written by wip/whole/gen.py. -/
/-! TumblingRock$Rock.stepLater(I)I -/
abbrev dlX4_stepLater : List (Nat × (Instr × Nat)) := [(0, .aload_n 0, 1), (1, .getfield 33, 3), (4, .iload_n 1, 1), (5, .invokestatic 90, 3), (8, .ireturn, 1)]
theorem ddX4_stepLater : ∀ q ∈ dlX4_stepLater, decode cX4_stepLater q.1 = .ok q.2 := by decide +kernel
theorem sX4_stepLater_0 {l : Launch} {X : q_CX} (hl : X.2.1 = l) (hQ : q_QM X) (h : q_OK X yX4_stepLater cX4_stepLater 2 (some .int) rmX4_stepLater (Cond.code yX4_stepLater cX4_stepLater 2 (some .int) :: q_G)) : q_SK X 2 0 (BX4_stepLater_0) := by
  refine k_aload_n (i := 0) h (ddX4_stepLater (0, .aload_n 0, 1) (List.mem_of_getElem? (i := 0) rfl)) rfl ?_
  refine k_getf (ci := 4) (j := 13) (C := RX4) (T := TX4) (N := 14) h rfl (fun w hw => List.mem_cons_of_mem _ (q_inX4 w hw)) (by decide) (List.mem_cons_of_mem _ gw80) (ddX4_stepLater (1, .getfield 33, 3) (List.mem_of_getElem? (i := 1) rfl)) ?_
  refine k_iload_n (i := 1) h (ddX4_stepLater (4, .iload_n 1, 1) (List.mem_of_getElem? (i := 2) rfl)) rfl ?_
  refine k_callN h hl (aX8_at l) ⟨rfl, rfl⟩ (n := 2) (by decide +kernel) (q_gN gw98) (by decide +kernel) (List.mem_cons_of_mem _ gw91) (List.mem_cons_of_mem _ gw99) ⟨by decide, by decide⟩ (ddX4_stepLater (5, .invokestatic 90, 3) (List.mem_of_getElem? (i := 3) rfl)) ?_
  exact k_iret h hQ (ddX4_stepLater (8, .ireturn, 1) (List.mem_of_getElem? (i := 4) rfl))
theorem aX4_stepLater (l : Launch) (as : List Value) (sh : q_Sh) (m : q_Mm) (R : q_KR) (hw : wX4_stepLater as sh m R) : q_AM l yX4_stepLater (Cond.code yX4_stepLater cX4_stepLater 2 (some .int) :: q_G) rmX4_stepLater as sh m R := by
  refine q_met (code := TX4_stepLater) (by decide) (fun X hl hQ _ h pc => ?_) hw.1 hw.2
  unfold TX4_stepLater
  exact k_at (sX4_stepLater_0 hl hQ h) (k_no)
/-! TumblingRock$Rock.longestDark(II)I -/
abbrev dlX4_longestDark : List (Nat × (Instr × Nat)) := [(0, .iconst 0, 1), (1, .istore_n 3, 1), (2, .iconst 0, 1), (3, .istore 4, 2), (5, .iload_n 2, 1), (6, .istore 5, 2), (8, .iconst 0, 1), (9, .istore 6, 2), (11, .iload 6, 2), (13, .iconst 2, 1), (14, .aload_n 0, 1), (15, .getfield 73, 3), (18, .imul, 1), (19, .if_icmp .ge 45, 3), (22, .aload_n 0, 1), (23, .iload_n 1, 1), (24, .iload 5, 2), (26, .invokevirtual 123, 3), (29, .iconst 1, 1), (30, .if_icmp .ne 7, 3), (33, .iconst 0, 1), (34, .goto 7, 3), (37, .iload 4, 2), (39, .iconst 1, 1), (40, .iadd, 1), (41, .istore 4, 2), (43, .iload_n 3, 1), (44, .iload 4, 2), (46, .invokestatic 132, 3), (49, .istore_n 3, 1), (50, .aload_n 0, 1), (51, .iload 5, 2), (53, .invokevirtual 126, 3), (56, .istore 5, 2), (58, .iinc 6 1, 3), (61, .goto (-50), 3), (64, .iload_n 3, 1), (65, .aload_n 0, 1), (66, .getfield 73, 3), (69, .invokestatic 137, 3), (72, .ireturn, 1)]
theorem ddX4_longestDark : ∀ q ∈ dlX4_longestDark, decode cX4_longestDark q.1 = .ok q.2 := by decide +kernel
theorem sX4_longestDark_0 {l : Launch} {X : q_CX} (hl : X.2.1 = l) (hQ : q_QM X) (h : q_OK X yX4_longestDark cX4_longestDark 7 (some .int) rmX4_longestDark (Cond.code yX4_longestDark cX4_longestDark 7 (some .int) :: q_G)) : q_SK X 7 0 (BX4_longestDark_0) := by
  refine k_iconst (v := 0) h (ddX4_longestDark (0, .iconst 0, 1) (List.mem_of_getElem? (i := 0) rfl)) (by decide) ?_
  refine k_istore_n (i := 3) h (ddX4_longestDark (1, .istore_n 3, 1) (List.mem_of_getElem? (i := 1) rfl)) rfl (by decide) ?_
  refine k_iconst (v := 0) h (ddX4_longestDark (2, .iconst 0, 1) (List.mem_of_getElem? (i := 2) rfl)) (by decide) ?_
  refine k_istore (i := 4) h (ddX4_longestDark (3, .istore 4, 2) (List.mem_of_getElem? (i := 3) rfl)) (by decide) ?_
  refine k_iload_n (i := 2) h (ddX4_longestDark (5, .iload_n 2, 1) (List.mem_of_getElem? (i := 4) rfl)) rfl ?_
  refine k_istore (i := 5) h (ddX4_longestDark (6, .istore 5, 2) (List.mem_of_getElem? (i := 5) rfl)) (by decide) ?_
  refine k_iconst (v := 0) h (ddX4_longestDark (8, .iconst 0, 1) (List.mem_of_getElem? (i := 6) rfl)) (by decide) ?_
  refine k_istore (i := 6) h (ddX4_longestDark (9, .istore 6, 2) (List.mem_of_getElem? (i := 7) rfl)) (by decide) ?_
  exact k_cut
theorem sX4_longestDark_64 {l : Launch} {X : q_CX} (hl : X.2.1 = l) (hQ : q_QM X) (h : q_OK X yX4_longestDark cX4_longestDark 7 (some .int) rmX4_longestDark (Cond.code yX4_longestDark cX4_longestDark 7 (some .int) :: q_G)) : q_SK X 7 64 (BX4_longestDark_64) := by
  refine k_iload_n (i := 3) h (ddX4_longestDark (64, .iload_n 3, 1) (List.mem_of_getElem? (i := 36) rfl)) rfl ?_
  refine k_aload_n (i := 0) h (ddX4_longestDark (65, .aload_n 0, 1) (List.mem_of_getElem? (i := 37) rfl)) rfl ?_
  refine k_getf (ci := 4) (j := 5) (C := RX4) (T := TX4) (N := 14) h rfl (fun w hw => List.mem_cons_of_mem _ (q_inX4 w hw)) (by decide) (List.mem_cons_of_mem _ gw97) (ddX4_longestDark (66, .getfield 73, 3) (List.mem_of_getElem? (i := 38) rfl)) ?_
  refine k_mmin h (List.mem_cons_of_mem _ gw358) (List.mem_cons_of_mem _ gw300) (List.mem_cons_of_mem _ gw301) (List.mem_cons_of_mem _ gw302) (by decide) (by decide) (ddX4_longestDark (69, .invokestatic 137, 3) (List.mem_of_getElem? (i := 39) rfl)) ?_
  exact k_iret h hQ (ddX4_longestDark (72, .ireturn, 1) (List.mem_of_getElem? (i := 40) rfl))
theorem sX4_longestDark_41 {l : Launch} {X : q_CX} (hl : X.2.1 = l) (hQ : q_QM X) (h : q_OK X yX4_longestDark cX4_longestDark 7 (some .int) rmX4_longestDark (Cond.code yX4_longestDark cX4_longestDark 7 (some .int) :: q_G)) : q_SK X 7 41 (BX4_longestDark_41) := by
  refine k_istore (i := 4) h (ddX4_longestDark (41, .istore 4, 2) (List.mem_of_getElem? (i := 25) rfl)) (by decide) ?_
  refine k_iload_n (i := 3) h (ddX4_longestDark (43, .iload_n 3, 1) (List.mem_of_getElem? (i := 26) rfl)) rfl ?_
  refine k_iload (i := 4) h (ddX4_longestDark (44, .iload 4, 2) (List.mem_of_getElem? (i := 27) rfl)) ?_
  refine k_mmax h (List.mem_cons_of_mem _ gw351) (List.mem_cons_of_mem _ gw352) (List.mem_cons_of_mem _ gw301) (List.mem_cons_of_mem _ gw353) (by decide) (by decide) (ddX4_longestDark (46, .invokestatic 132, 3) (List.mem_of_getElem? (i := 28) rfl)) ?_
  refine k_istore_n (i := 3) h (ddX4_longestDark (49, .istore_n 3, 1) (List.mem_of_getElem? (i := 29) rfl)) rfl (by decide) ?_
  refine k_aload_n (i := 0) h (ddX4_longestDark (50, .aload_n 0, 1) (List.mem_of_getElem? (i := 30) rfl)) rfl ?_
  refine k_iload (i := 5) h (ddX4_longestDark (51, .iload 5, 2) (List.mem_of_getElem? (i := 31) rfl)) ?_
  refine k_callV h hl (aX4_stepLater l) (ci := 4) (C := RX4) (T := TX4) (N := 14) rfl ⟨rfl, rfl⟩ (n := 1) (by decide +kernel) (q_gV gw355 gw356 gw357 gw71 gw354) ⟨by decide, by decide⟩ (ddX4_longestDark (53, .invokevirtual 126, 3) (List.mem_of_getElem? (i := 32) rfl)) ?_
  refine k_istore (i := 5) h (ddX4_longestDark (56, .istore 5, 2) (List.mem_of_getElem? (i := 33) rfl)) (by decide) ?_
  refine k_iinc (d := 1) h (ddX4_longestDark (58, .iinc 6 1, 3) (List.mem_of_getElem? (i := 34) rfl)) (by decide) (by decide) ?_
  refine k_goto h (ddX4_longestDark (61, .goto (-50), 3) (List.mem_of_getElem? (i := 35) rfl)) (tgt := 11) (by decide) ?_
  exact k_cut
theorem sX4_longestDark_37 {l : Launch} {X : q_CX} (hl : X.2.1 = l) (hQ : q_QM X) (h : q_OK X yX4_longestDark cX4_longestDark 7 (some .int) rmX4_longestDark (Cond.code yX4_longestDark cX4_longestDark 7 (some .int) :: q_G)) : q_SK X 7 37 (BX4_longestDark_37) := by
  refine k_iload (i := 4) h (ddX4_longestDark (37, .iload 4, 2) (List.mem_of_getElem? (i := 22) rfl)) ?_
  refine k_iconst (v := 1) h (ddX4_longestDark (39, .iconst 1, 1) (List.mem_of_getElem? (i := 23) rfl)) (by decide) ?_
  refine k_iadd h (ddX4_longestDark (40, .iadd, 1) (List.mem_of_getElem? (i := 24) rfl)) ?_
  exact sX4_longestDark_41 hl hQ h
theorem sX4_longestDark_33 {l : Launch} {X : q_CX} (hl : X.2.1 = l) (hQ : q_QM X) (h : q_OK X yX4_longestDark cX4_longestDark 7 (some .int) rmX4_longestDark (Cond.code yX4_longestDark cX4_longestDark 7 (some .int) :: q_G)) : q_SK X 7 33 (BX4_longestDark_33) := by
  refine k_iconst (v := 0) h (ddX4_longestDark (33, .iconst 0, 1) (List.mem_of_getElem? (i := 20) rfl)) (by decide) ?_
  refine k_goto h (ddX4_longestDark (34, .goto 7, 3) (List.mem_of_getElem? (i := 21) rfl)) (tgt := 41) (by decide) ?_
  exact sX4_longestDark_41 hl hQ h
theorem sX4_longestDark_22 {l : Launch} {X : q_CX} (hl : X.2.1 = l) (hQ : q_QM X) (h : q_OK X yX4_longestDark cX4_longestDark 7 (some .int) rmX4_longestDark (Cond.code yX4_longestDark cX4_longestDark 7 (some .int) :: q_G)) : q_SK X 7 22 (BX4_longestDark_22) := by
  refine k_aload_n (i := 0) h (ddX4_longestDark (22, .aload_n 0, 1) (List.mem_of_getElem? (i := 14) rfl)) rfl ?_
  refine k_iload_n (i := 1) h (ddX4_longestDark (23, .iload_n 1, 1) (List.mem_of_getElem? (i := 15) rfl)) rfl ?_
  refine k_iload (i := 5) h (ddX4_longestDark (24, .iload 5, 2) (List.mem_of_getElem? (i := 16) rfl)) ?_
  refine k_callV h hl (aX4_litBit l) (ci := 4) (C := RX4) (T := TX4) (N := 14) rfl ⟨rfl, rfl⟩ (n := 2) (by decide +kernel) (q_gV gw348 gw349 gw350 gw71 gw347) ⟨by decide, by decide⟩ (ddX4_longestDark (26, .invokevirtual 123, 3) (List.mem_of_getElem? (i := 17) rfl)) ?_
  refine k_iconst (v := 1) h (ddX4_longestDark (29, .iconst 1, 1) (List.mem_of_getElem? (i := 18) rfl)) (by decide) ?_
  refine k_icne h (ddX4_longestDark (30, .if_icmp .ne 7, 3) (List.mem_of_getElem? (i := 19) rfl)) (tgt := 37) (by decide) ?_ ?_
  · exact sX4_longestDark_37 hl hQ h
  · exact sX4_longestDark_33 hl hQ h
theorem sX4_longestDark_11 {l : Launch} {X : q_CX} (hl : X.2.1 = l) (hQ : q_QM X) (h : q_OK X yX4_longestDark cX4_longestDark 7 (some .int) rmX4_longestDark (Cond.code yX4_longestDark cX4_longestDark 7 (some .int) :: q_G)) : q_SK X 7 11 (BX4_longestDark_11) := by
  refine k_iload (i := 6) h (ddX4_longestDark (11, .iload 6, 2) (List.mem_of_getElem? (i := 8) rfl)) ?_
  refine k_iconst (v := 2) h (ddX4_longestDark (13, .iconst 2, 1) (List.mem_of_getElem? (i := 9) rfl)) (by decide) ?_
  refine k_aload_n (i := 0) h (ddX4_longestDark (14, .aload_n 0, 1) (List.mem_of_getElem? (i := 10) rfl)) rfl ?_
  refine k_getf (ci := 4) (j := 5) (C := RX4) (T := TX4) (N := 14) h rfl (fun w hw => List.mem_cons_of_mem _ (q_inX4 w hw)) (by decide) (List.mem_cons_of_mem _ gw97) (ddX4_longestDark (15, .getfield 73, 3) (List.mem_of_getElem? (i := 11) rfl)) ?_
  refine k_imul h (ddX4_longestDark (18, .imul, 1) (List.mem_of_getElem? (i := 12) rfl)) ?_
  refine k_icge h (ddX4_longestDark (19, .if_icmp .ge 45, 3) (List.mem_of_getElem? (i := 13) rfl)) (tgt := 64) (by decide) ?_ ?_
  · exact sX4_longestDark_64 hl hQ h
  · exact sX4_longestDark_22 hl hQ h
theorem aX4_longestDark (l : Launch) (as : List Value) (sh : q_Sh) (m : q_Mm) (R : q_KR) (hw : wX4_longestDark as sh m R) : q_AM l yX4_longestDark (Cond.code yX4_longestDark cX4_longestDark 7 (some .int) :: q_G) rmX4_longestDark as sh m R := by
  refine q_met (code := TX4_longestDark) (by decide) (fun X hl hQ _ h pc => ?_) hw.1 hw.2
  unfold TX4_longestDark
  exact k_at (sX4_longestDark_0 hl hQ h) (k_at (sX4_longestDark_11 hl hQ h) (k_no))
/-! TumblingRock$Rock.litSteps(II)I -/
abbrev dlX4_litSteps : List (Nat × (Instr × Nat)) := [(0, .iconst 0, 1), (1, .istore_n 3, 1), (2, .iload_n 2, 1), (3, .istore 4, 2), (5, .iconst 0, 1), (6, .istore 5, 2), (8, .iload 5, 2), (10, .aload_n 0, 1), (11, .getfield 73, 3), (14, .if_icmp .ge 27, 3), (17, .iload_n 3, 1), (18, .aload_n 0, 1), (19, .iload_n 1, 1), (20, .iload 4, 2), (22, .invokevirtual 123, 3), (25, .iadd, 1), (26, .istore_n 3, 1), (27, .aload_n 0, 1), (28, .iload 4, 2), (30, .invokevirtual 126, 3), (33, .istore 4, 2), (35, .iinc 5 1, 3), (38, .goto (-30), 3), (41, .iload_n 3, 1), (42, .ireturn, 1)]
theorem ddX4_litSteps : ∀ q ∈ dlX4_litSteps, decode cX4_litSteps q.1 = .ok q.2 := by decide +kernel
theorem sX4_litSteps_0 {l : Launch} {X : q_CX} (hl : X.2.1 = l) (hQ : q_QM X) (h : q_OK X yX4_litSteps cX4_litSteps 6 (some .int) rmX4_litSteps (Cond.code yX4_litSteps cX4_litSteps 6 (some .int) :: q_G)) : q_SK X 6 0 (BX4_litSteps_0) := by
  refine k_iconst (v := 0) h (ddX4_litSteps (0, .iconst 0, 1) (List.mem_of_getElem? (i := 0) rfl)) (by decide) ?_
  refine k_istore_n (i := 3) h (ddX4_litSteps (1, .istore_n 3, 1) (List.mem_of_getElem? (i := 1) rfl)) rfl (by decide) ?_
  refine k_iload_n (i := 2) h (ddX4_litSteps (2, .iload_n 2, 1) (List.mem_of_getElem? (i := 2) rfl)) rfl ?_
  refine k_istore (i := 4) h (ddX4_litSteps (3, .istore 4, 2) (List.mem_of_getElem? (i := 3) rfl)) (by decide) ?_
  refine k_iconst (v := 0) h (ddX4_litSteps (5, .iconst 0, 1) (List.mem_of_getElem? (i := 4) rfl)) (by decide) ?_
  refine k_istore (i := 5) h (ddX4_litSteps (6, .istore 5, 2) (List.mem_of_getElem? (i := 5) rfl)) (by decide) ?_
  exact k_cut
theorem sX4_litSteps_41 {l : Launch} {X : q_CX} (hl : X.2.1 = l) (hQ : q_QM X) (h : q_OK X yX4_litSteps cX4_litSteps 6 (some .int) rmX4_litSteps (Cond.code yX4_litSteps cX4_litSteps 6 (some .int) :: q_G)) : q_SK X 6 41 (BX4_litSteps_41) := by
  refine k_iload_n (i := 3) h (ddX4_litSteps (41, .iload_n 3, 1) (List.mem_of_getElem? (i := 23) rfl)) rfl ?_
  exact k_iret h hQ (ddX4_litSteps (42, .ireturn, 1) (List.mem_of_getElem? (i := 24) rfl))
theorem sX4_litSteps_17 {l : Launch} {X : q_CX} (hl : X.2.1 = l) (hQ : q_QM X) (h : q_OK X yX4_litSteps cX4_litSteps 6 (some .int) rmX4_litSteps (Cond.code yX4_litSteps cX4_litSteps 6 (some .int) :: q_G)) : q_SK X 6 17 (BX4_litSteps_17) := by
  refine k_iload_n (i := 3) h (ddX4_litSteps (17, .iload_n 3, 1) (List.mem_of_getElem? (i := 10) rfl)) rfl ?_
  refine k_aload_n (i := 0) h (ddX4_litSteps (18, .aload_n 0, 1) (List.mem_of_getElem? (i := 11) rfl)) rfl ?_
  refine k_iload_n (i := 1) h (ddX4_litSteps (19, .iload_n 1, 1) (List.mem_of_getElem? (i := 12) rfl)) rfl ?_
  refine k_iload (i := 4) h (ddX4_litSteps (20, .iload 4, 2) (List.mem_of_getElem? (i := 13) rfl)) ?_
  refine k_callV h hl (aX4_litBit l) (ci := 4) (C := RX4) (T := TX4) (N := 14) rfl ⟨rfl, rfl⟩ (n := 2) (by decide +kernel) (q_gV gw348 gw349 gw350 gw71 gw347) ⟨by decide, by decide⟩ (ddX4_litSteps (22, .invokevirtual 123, 3) (List.mem_of_getElem? (i := 14) rfl)) ?_
  refine k_iadd h (ddX4_litSteps (25, .iadd, 1) (List.mem_of_getElem? (i := 15) rfl)) ?_
  refine k_istore_n (i := 3) h (ddX4_litSteps (26, .istore_n 3, 1) (List.mem_of_getElem? (i := 16) rfl)) rfl (by decide) ?_
  refine k_aload_n (i := 0) h (ddX4_litSteps (27, .aload_n 0, 1) (List.mem_of_getElem? (i := 17) rfl)) rfl ?_
  refine k_iload (i := 4) h (ddX4_litSteps (28, .iload 4, 2) (List.mem_of_getElem? (i := 18) rfl)) ?_
  refine k_callV h hl (aX4_stepLater l) (ci := 4) (C := RX4) (T := TX4) (N := 14) rfl ⟨rfl, rfl⟩ (n := 1) (by decide +kernel) (q_gV gw355 gw356 gw357 gw71 gw354) ⟨by decide, by decide⟩ (ddX4_litSteps (30, .invokevirtual 126, 3) (List.mem_of_getElem? (i := 19) rfl)) ?_
  refine k_istore (i := 4) h (ddX4_litSteps (33, .istore 4, 2) (List.mem_of_getElem? (i := 20) rfl)) (by decide) ?_
  refine k_iinc (d := 1) h (ddX4_litSteps (35, .iinc 5 1, 3) (List.mem_of_getElem? (i := 21) rfl)) (by decide) (by decide) ?_
  refine k_goto h (ddX4_litSteps (38, .goto (-30), 3) (List.mem_of_getElem? (i := 22) rfl)) (tgt := 8) (by decide) ?_
  exact k_cut
theorem sX4_litSteps_8 {l : Launch} {X : q_CX} (hl : X.2.1 = l) (hQ : q_QM X) (h : q_OK X yX4_litSteps cX4_litSteps 6 (some .int) rmX4_litSteps (Cond.code yX4_litSteps cX4_litSteps 6 (some .int) :: q_G)) : q_SK X 6 8 (BX4_litSteps_8) := by
  refine k_iload (i := 5) h (ddX4_litSteps (8, .iload 5, 2) (List.mem_of_getElem? (i := 6) rfl)) ?_
  refine k_aload_n (i := 0) h (ddX4_litSteps (10, .aload_n 0, 1) (List.mem_of_getElem? (i := 7) rfl)) rfl ?_
  refine k_getf (ci := 4) (j := 5) (C := RX4) (T := TX4) (N := 14) h rfl (fun w hw => List.mem_cons_of_mem _ (q_inX4 w hw)) (by decide) (List.mem_cons_of_mem _ gw97) (ddX4_litSteps (11, .getfield 73, 3) (List.mem_of_getElem? (i := 8) rfl)) ?_
  refine k_icge h (ddX4_litSteps (14, .if_icmp .ge 27, 3) (List.mem_of_getElem? (i := 9) rfl)) (tgt := 41) (by decide) ?_ ?_
  · exact sX4_litSteps_41 hl hQ h
  · exact sX4_litSteps_17 hl hQ h
theorem aX4_litSteps (l : Launch) (as : List Value) (sh : q_Sh) (m : q_Mm) (R : q_KR) (hw : wX4_litSteps as sh m R) : q_AM l yX4_litSteps (Cond.code yX4_litSteps cX4_litSteps 6 (some .int) :: q_G) rmX4_litSteps as sh m R := by
  refine q_met (code := TX4_litSteps) (by decide) (fun X hl hQ _ h pc => ?_) hw.1 hw.2
  unfold TX4_litSteps
  exact k_at (sX4_litSteps_0 hl hQ h) (k_at (sX4_litSteps_8 hl hQ h) (k_no))
/-! TumblingRock.place(II)I -/
abbrev dlX8_place : List (Nat × (Instr × Nat)) := [(0, .aload_n 0, 1), (1, .iload_n 1, 1), (2, .invokevirtual 161, 3), (5, .ifCond .ne 6, 3), (8, .ldc 147, 2), (10, .ireturn, 1), (11, .iload_n 2, 1), (52, .aload_n 0, 1), (53, .getfield 71, 3), (56, .iload_n 1, 1), (57, .iload_n 2, 1), (58, .invokevirtual 164, 3), (61, .ireturn, 1), (62, .aload_n 0, 1), (63, .getfield 71, 3), (66, .iload_n 1, 1), (67, .invokevirtual 167, 3), (70, .ireturn, 1), (71, .aload_n 0, 1), (72, .getfield 71, 3), (75, .iload_n 1, 1), (76, .aload_n 0, 1), (77, .getfield 28, 3), (80, .getfield 155, 3), (83, .invokevirtual 170, 3), (86, .ireturn, 1), (87, .aload_n 0, 1), (88, .getfield 71, 3), (91, .iload_n 1, 1), (92, .aload_n 0, 1), (93, .getfield 28, 3), (96, .getfield 155, 3), (99, .invokevirtual 173, 3), (102, .ireturn, 1), (103, .ldc 82, 2), (105, .ireturn, 1)]
theorem ddX8_place : ∀ q ∈ dlX8_place, decode cX8_place q.1 = .ok q.2 := by decide +kernel
theorem sX8_place_52 {l : Launch} {X : q_CX} (hl : X.2.1 = l) (hQ : q_QM X) (h : q_OK X yX8_place cX8_place 3 (some .int) rmX8_place (Cond.code yX8_place cX8_place 3 (some .int) :: q_G)) : q_SK X 3 52 (BX8_place_52) := by
  refine k_aload_n (i := 0) h (ddX8_place (52, .aload_n 0, 1) (List.mem_of_getElem? (i := 7) rfl)) rfl ?_
  refine k_getf (ci := 8) (j := 9) (C := RX8) (T := TX8) (N := 11) h rfl (fun w hw => List.mem_cons_of_mem _ (q_inX8 w hw)) (by decide) (List.mem_cons_of_mem _ gw135) (ddX8_place (53, .getfield 71, 3) (List.mem_of_getElem? (i := 8) rfl)) ?_
  refine k_iload_n (i := 1) h (ddX8_place (56, .iload_n 1, 1) (List.mem_of_getElem? (i := 9) rfl)) rfl ?_
  refine k_iload_n (i := 2) h (ddX8_place (57, .iload_n 2, 1) (List.mem_of_getElem? (i := 10) rfl)) rfl ?_
  refine k_callV h hl (aX4_face l) (ci := 4) (C := RX4) (T := TX4) (N := 14) rfl ⟨rfl, rfl⟩ (n := 2) (by decide +kernel) (q_gV gw344 gw102 gw103 gw71 gw100) ⟨by decide, by decide⟩ (ddX8_place (58, .invokevirtual 164, 3) (List.mem_of_getElem? (i := 11) rfl)) ?_
  exact k_iret h hQ (ddX8_place (61, .ireturn, 1) (List.mem_of_getElem? (i := 12) rfl))
theorem sX8_place_62 {l : Launch} {X : q_CX} (hl : X.2.1 = l) (hQ : q_QM X) (h : q_OK X yX8_place cX8_place 3 (some .int) rmX8_place (Cond.code yX8_place cX8_place 3 (some .int) :: q_G)) : q_SK X 3 62 (BX8_place_62) := by
  refine k_aload_n (i := 0) h (ddX8_place (62, .aload_n 0, 1) (List.mem_of_getElem? (i := 13) rfl)) rfl ?_
  refine k_getf (ci := 8) (j := 9) (C := RX8) (T := TX8) (N := 11) h rfl (fun w hw => List.mem_cons_of_mem _ (q_inX8 w hw)) (by decide) (List.mem_cons_of_mem _ gw135) (ddX8_place (63, .getfield 71, 3) (List.mem_of_getElem? (i := 14) rfl)) ?_
  refine k_iload_n (i := 1) h (ddX8_place (66, .iload_n 1, 1) (List.mem_of_getElem? (i := 15) rfl)) rfl ?_
  refine k_callV h hl (aX4_road l) (ci := 4) (C := RX4) (T := TX4) (N := 14) rfl ⟨rfl, rfl⟩ (n := 1) (by decide +kernel) (q_gV gw345 gw253 gw254 gw71 gw251) ⟨by decide, by decide⟩ (ddX8_place (67, .invokevirtual 167, 3) (List.mem_of_getElem? (i := 16) rfl)) ?_
  exact k_iret h hQ (ddX8_place (70, .ireturn, 1) (List.mem_of_getElem? (i := 17) rfl))
theorem sX8_place_71 {l : Launch} {X : q_CX} (hl : X.2.1 = l) (hQ : q_QM X) (h : q_OK X yX8_place cX8_place 3 (some .int) rmX8_place (Cond.code yX8_place cX8_place 3 (some .int) :: q_G)) : q_SK X 3 71 (BX8_place_71) := by
  refine k_aload_n (i := 0) h (ddX8_place (71, .aload_n 0, 1) (List.mem_of_getElem? (i := 18) rfl)) rfl ?_
  refine k_getf (ci := 8) (j := 9) (C := RX8) (T := TX8) (N := 11) h rfl (fun w hw => List.mem_cons_of_mem _ (q_inX8 w hw)) (by decide) (List.mem_cons_of_mem _ gw135) (ddX8_place (72, .getfield 71, 3) (List.mem_of_getElem? (i := 19) rfl)) ?_
  refine k_iload_n (i := 1) h (ddX8_place (75, .iload_n 1, 1) (List.mem_of_getElem? (i := 20) rfl)) rfl ?_
  refine k_aload_n (i := 0) h (ddX8_place (76, .aload_n 0, 1) (List.mem_of_getElem? (i := 21) rfl)) rfl ?_
  refine k_getf (ci := 8) (j := 2) (C := RX8) (T := TX8) (N := 11) h rfl (fun w hw => List.mem_cons_of_mem _ (q_inX8 w hw)) (by decide) (List.mem_cons_of_mem _ gw28) (ddX8_place (77, .getfield 28, 3) (List.mem_of_getElem? (i := 22) rfl)) ?_
  refine k_getf (ci := 1) (j := 0) (C := RX1) (T := TX1) (N := 5) h rfl (fun w hw => List.mem_cons_of_mem _ (q_inX1 w hw)) (by decide) (List.mem_cons_of_mem _ gw322) (ddX8_place (80, .getfield 155, 3) (List.mem_of_getElem? (i := 23) rfl)) ?_
  refine k_callV h hl (aX4_longestDark l) (ci := 4) (C := RX4) (T := TX4) (N := 14) rfl ⟨rfl, rfl⟩ (n := 2) (by decide +kernel) (q_gV gw360 gw361 gw362 gw71 gw359) ⟨by decide, by decide⟩ (ddX8_place (83, .invokevirtual 170, 3) (List.mem_of_getElem? (i := 24) rfl)) ?_
  exact k_iret h hQ (ddX8_place (86, .ireturn, 1) (List.mem_of_getElem? (i := 25) rfl))
theorem sX8_place_87 {l : Launch} {X : q_CX} (hl : X.2.1 = l) (hQ : q_QM X) (h : q_OK X yX8_place cX8_place 3 (some .int) rmX8_place (Cond.code yX8_place cX8_place 3 (some .int) :: q_G)) : q_SK X 3 87 (BX8_place_87) := by
  refine k_aload_n (i := 0) h (ddX8_place (87, .aload_n 0, 1) (List.mem_of_getElem? (i := 26) rfl)) rfl ?_
  refine k_getf (ci := 8) (j := 9) (C := RX8) (T := TX8) (N := 11) h rfl (fun w hw => List.mem_cons_of_mem _ (q_inX8 w hw)) (by decide) (List.mem_cons_of_mem _ gw135) (ddX8_place (88, .getfield 71, 3) (List.mem_of_getElem? (i := 27) rfl)) ?_
  refine k_iload_n (i := 1) h (ddX8_place (91, .iload_n 1, 1) (List.mem_of_getElem? (i := 28) rfl)) rfl ?_
  refine k_aload_n (i := 0) h (ddX8_place (92, .aload_n 0, 1) (List.mem_of_getElem? (i := 29) rfl)) rfl ?_
  refine k_getf (ci := 8) (j := 2) (C := RX8) (T := TX8) (N := 11) h rfl (fun w hw => List.mem_cons_of_mem _ (q_inX8 w hw)) (by decide) (List.mem_cons_of_mem _ gw28) (ddX8_place (93, .getfield 28, 3) (List.mem_of_getElem? (i := 30) rfl)) ?_
  refine k_getf (ci := 1) (j := 0) (C := RX1) (T := TX1) (N := 5) h rfl (fun w hw => List.mem_cons_of_mem _ (q_inX1 w hw)) (by decide) (List.mem_cons_of_mem _ gw322) (ddX8_place (96, .getfield 155, 3) (List.mem_of_getElem? (i := 31) rfl)) ?_
  refine k_callV h hl (aX4_litSteps l) (ci := 4) (C := RX4) (T := TX4) (N := 14) rfl ⟨rfl, rfl⟩ (n := 2) (by decide +kernel) (q_gV gw364 gw365 gw366 gw71 gw363) ⟨by decide, by decide⟩ (ddX8_place (99, .invokevirtual 173, 3) (List.mem_of_getElem? (i := 32) rfl)) ?_
  exact k_iret h hQ (ddX8_place (102, .ireturn, 1) (List.mem_of_getElem? (i := 33) rfl))
theorem sX8_place_103 {l : Launch} {X : q_CX} (hl : X.2.1 = l) (hQ : q_QM X) (h : q_OK X yX8_place cX8_place 3 (some .int) rmX8_place (Cond.code yX8_place cX8_place 3 (some .int) :: q_G)) : q_SK X 3 103 (BX8_place_103) := by
  refine k_ldc (v := (-1000000002)) h (ddX8_place (103, .ldc 82, 2) (List.mem_of_getElem? (i := 34) rfl)) (List.mem_cons_of_mem _ gw140) ?_
  exact k_iret h hQ (ddX8_place (105, .ireturn, 1) (List.mem_of_getElem? (i := 35) rfl))
theorem sX8_place_11 {l : Launch} {X : q_CX} (hl : X.2.1 = l) (hQ : q_QM X) (h : q_OK X yX8_place cX8_place 3 (some .int) rmX8_place (Cond.code yX8_place cX8_place 3 (some .int) :: q_G)) : q_SK X 3 11 (BX8_place_11) := by
  refine k_iload_n (i := 2) h (ddX8_place (11, .iload_n 2, 1) (List.mem_of_getElem? (i := 6) rfl)) rfl ?_
  refine k_sw h (dflt := 91) (hi := 5) (offs := #[40, 40, 40, 50, 59, 75]) (len := 40) (tgt := 103) (by decide +kernel) (by decide) (by decide) ⟨⟨40, 52, rfl, by decide, by exact sX8_place_52 hl hQ h⟩, ⟨⟨40, 52, rfl, by decide, by exact sX8_place_52 hl hQ h⟩, ⟨⟨40, 52, rfl, by decide, by exact sX8_place_52 hl hQ h⟩, ⟨⟨50, 62, rfl, by decide, by exact sX8_place_62 hl hQ h⟩, ⟨⟨59, 71, rfl, by decide, by exact sX8_place_71 hl hQ h⟩, ⟨⟨75, 87, rfl, by decide, by exact sX8_place_87 hl hQ h⟩, trivial⟩⟩⟩⟩⟩⟩ (by decide) ?_
  exact sX8_place_103 hl hQ h
theorem sX8_place_8 {l : Launch} {X : q_CX} (hl : X.2.1 = l) (hQ : q_QM X) (h : q_OK X yX8_place cX8_place 3 (some .int) rmX8_place (Cond.code yX8_place cX8_place 3 (some .int) :: q_G)) : q_SK X 3 8 (BX8_place_8) := by
  refine k_ldc (v := (-1000000001)) h (ddX8_place (8, .ldc 147, 2) (List.mem_of_getElem? (i := 4) rfl)) (List.mem_cons_of_mem _ gw336) ?_
  exact k_iret h hQ (ddX8_place (10, .ireturn, 1) (List.mem_of_getElem? (i := 5) rfl))
theorem sX8_place_0 {l : Launch} {X : q_CX} (hl : X.2.1 = l) (hQ : q_QM X) (h : q_OK X yX8_place cX8_place 3 (some .int) rmX8_place (Cond.code yX8_place cX8_place 3 (some .int) :: q_G)) : q_SK X 3 0 (BX8_place_0) := by
  refine k_aload_n (i := 0) h (ddX8_place (0, .aload_n 0, 1) (List.mem_of_getElem? (i := 0) rfl)) rfl ?_
  refine k_iload_n (i := 1) h (ddX8_place (1, .iload_n 1, 1) (List.mem_of_getElem? (i := 1) rfl)) rfl ?_
  refine k_callV h hl (aX8_isPlace l) (ci := 8) (C := RX8) (T := TX8) (N := 11) rfl ⟨rfl, rfl⟩ (n := 1) (by decide +kernel) (q_gV gw341 gw342 gw343 gw91 gw340) ⟨by decide, by decide⟩ (ddX8_place (2, .invokevirtual 161, 3) (List.mem_of_getElem? (i := 2) rfl)) ?_
  refine k_ifne h (ddX8_place (5, .ifCond .ne 6, 3) (List.mem_of_getElem? (i := 3) rfl)) (tgt := 11) (by decide) ?_ ?_
  · exact sX8_place_11 hl hQ h
  · exact sX8_place_8 hl hQ h
theorem aX8_place (l : Launch) (as : List Value) (sh : q_Sh) (m : q_Mm) (R : q_KR) (hw : wX8_place as sh m R) : q_AM l yX8_place (Cond.code yX8_place cX8_place 3 (some .int) :: q_G) rmX8_place as sh m R := by
  refine q_met (code := TX8_place) (by decide) (fun X hl hQ _ h pc => ?_) hw.1 hw.2
  unfold TX8_place
  exact k_at (sX8_place_0 hl hQ h) (k_no)
/-! TumblingRock.isStep(I)Z -/
abbrev dlX8_isStep : List (Nat × (Instr × Nat)) := [(0, .iload_n 0, 1), (1, .iconst 0, 1), (2, .ldc_w 296, 3), (5, .invokestatic 78, 3), (8, .ireturn, 1)]
theorem ddX8_isStep : ∀ q ∈ dlX8_isStep, decode cX8_isStep q.1 = .ok q.2 := by decide +kernel
theorem sX8_isStep_0 {l : Launch} {X : q_CX} (hl : X.2.1 = l) (hQ : q_QM X) (h : q_OK X yX8_isStep cX8_isStep 1 (some .boolean) rmX8_isStep (Cond.code yX8_isStep cX8_isStep 1 (some .boolean) :: q_G)) : q_SK X 1 0 (BX8_isStep_0) := by
  refine k_iload_n (i := 0) h (ddX8_isStep (0, .iload_n 0, 1) (List.mem_of_getElem? (i := 0) rfl)) rfl ?_
  refine k_iconst (v := 0) h (ddX8_isStep (1, .iconst 0, 1) (List.mem_of_getElem? (i := 1) rfl)) (by decide) ?_
  refine k_ldcw (v := 999999) h (ddX8_isStep (2, .ldc_w 296, 3) (List.mem_of_getElem? (i := 2) rfl)) (List.mem_cons_of_mem _ gw367) ?_
  refine k_callS h hl (aX8_inside l) ⟨rfl, rfl⟩ (n := 3) (by decide +kernel) (q_gS gw139 gw138 gw91 gw137) ⟨by decide, by decide⟩ (ddX8_isStep (5, .invokestatic 78, 3) (List.mem_of_getElem? (i := 3) rfl)) ?_
  exact k_zret h hQ (ddX8_isStep (8, .ireturn, 1) (List.mem_of_getElem? (i := 4) rfl))
theorem aX8_isStep (l : Launch) (as : List Value) (sh : q_Sh) (m : q_Mm) (R : q_KR) (hw : wX8_isStep as sh m R) : q_AM l yX8_isStep (Cond.code yX8_isStep cX8_isStep 1 (some .boolean) :: q_G) rmX8_isStep as sh m R := by
  refine q_met (code := TX8_isStep) (by decide) (fun X hl hQ _ h pc => ?_) hw.1 hw.2
  unfold TX8_isStep
  exact k_at (sX8_isStep_0 hl hQ h) (k_no)
/-! TumblingRock.height(II)I -/
abbrev dlX8_height : List (Nat × (Instr × Nat)) := [(0, .aload_n 0, 1), (1, .iload_n 1, 1), (2, .invokevirtual 161, 3), (5, .ifCond .ne 6, 3), (8, .ldc 147, 2), (10, .ireturn, 1), (11, .iload_n 2, 1), (12, .invokestatic 176, 3), (15, .ifCond .ne 6, 3), (18, .ldc 82, 2), (20, .ireturn, 1), (21, .aload_n 0, 1), (22, .getfield 71, 3), (25, .iload_n 1, 1), (26, .aload_n 0, 1), (27, .iload_n 2, 1), (28, .invokevirtual 136, 3), (31, .invokevirtual 179, 3), (34, .ireturn, 1)]
theorem ddX8_height : ∀ q ∈ dlX8_height, decode cX8_height q.1 = .ok q.2 := by decide +kernel
theorem sX8_height_21 {l : Launch} {X : q_CX} (hl : X.2.1 = l) (hQ : q_QM X) (h : q_OK X yX8_height cX8_height 3 (some .int) rmX8_height (Cond.code yX8_height cX8_height 3 (some .int) :: q_G)) : q_SK X 3 21 (BX8_height_21) := by
  refine k_aload_n (i := 0) h (ddX8_height (21, .aload_n 0, 1) (List.mem_of_getElem? (i := 11) rfl)) rfl ?_
  refine k_getf (ci := 8) (j := 9) (C := RX8) (T := TX8) (N := 11) h rfl (fun w hw => List.mem_cons_of_mem _ (q_inX8 w hw)) (by decide) (List.mem_cons_of_mem _ gw135) (ddX8_height (22, .getfield 71, 3) (List.mem_of_getElem? (i := 12) rfl)) ?_
  refine k_iload_n (i := 1) h (ddX8_height (25, .iload_n 1, 1) (List.mem_of_getElem? (i := 13) rfl)) rfl ?_
  refine k_aload_n (i := 0) h (ddX8_height (26, .aload_n 0, 1) (List.mem_of_getElem? (i := 14) rfl)) rfl ?_
  refine k_iload_n (i := 2) h (ddX8_height (27, .iload_n 2, 1) (List.mem_of_getElem? (i := 15) rfl)) rfl ?_
  refine k_callV h hl (aX8_standingAt l) (ci := 8) (C := RX8) (T := TX8) (N := 11) rfl ⟨rfl, rfl⟩ (n := 1) (by decide +kernel) (q_gV gw325 gw326 gw327 gw91 gw324) ⟨by decide, by decide⟩ (ddX8_height (28, .invokevirtual 136, 3) (List.mem_of_getElem? (i := 16) rfl)) ?_
  refine k_callV h hl (aX4_heightOf l) (ci := 4) (C := RX4) (T := TX4) (N := 14) rfl ⟨rfl, rfl⟩ (n := 2) (by decide +kernel) (q_gV gw371 gw114 gw115 gw71 gw112) ⟨by decide, by decide⟩ (ddX8_height (31, .invokevirtual 179, 3) (List.mem_of_getElem? (i := 17) rfl)) ?_
  exact k_iret h hQ (ddX8_height (34, .ireturn, 1) (List.mem_of_getElem? (i := 18) rfl))
theorem sX8_height_18 {l : Launch} {X : q_CX} (hl : X.2.1 = l) (hQ : q_QM X) (h : q_OK X yX8_height cX8_height 3 (some .int) rmX8_height (Cond.code yX8_height cX8_height 3 (some .int) :: q_G)) : q_SK X 3 18 (BX8_height_18) := by
  refine k_ldc (v := (-1000000002)) h (ddX8_height (18, .ldc 82, 2) (List.mem_of_getElem? (i := 9) rfl)) (List.mem_cons_of_mem _ gw140) ?_
  exact k_iret h hQ (ddX8_height (20, .ireturn, 1) (List.mem_of_getElem? (i := 10) rfl))
theorem sX8_height_11 {l : Launch} {X : q_CX} (hl : X.2.1 = l) (hQ : q_QM X) (h : q_OK X yX8_height cX8_height 3 (some .int) rmX8_height (Cond.code yX8_height cX8_height 3 (some .int) :: q_G)) : q_SK X 3 11 (BX8_height_11) := by
  refine k_iload_n (i := 2) h (ddX8_height (11, .iload_n 2, 1) (List.mem_of_getElem? (i := 6) rfl)) rfl ?_
  refine k_callS h hl (aX8_isStep l) ⟨rfl, rfl⟩ (n := 1) (by decide +kernel) (q_gS gw370 gw369 gw91 gw368) ⟨by decide, by decide⟩ (ddX8_height (12, .invokestatic 176, 3) (List.mem_of_getElem? (i := 7) rfl)) ?_
  refine k_ifne h (ddX8_height (15, .ifCond .ne 6, 3) (List.mem_of_getElem? (i := 8) rfl)) (tgt := 21) (by decide) ?_ ?_
  · exact sX8_height_21 hl hQ h
  · exact sX8_height_18 hl hQ h
theorem sX8_height_8 {l : Launch} {X : q_CX} (hl : X.2.1 = l) (hQ : q_QM X) (h : q_OK X yX8_height cX8_height 3 (some .int) rmX8_height (Cond.code yX8_height cX8_height 3 (some .int) :: q_G)) : q_SK X 3 8 (BX8_height_8) := by
  refine k_ldc (v := (-1000000001)) h (ddX8_height (8, .ldc 147, 2) (List.mem_of_getElem? (i := 4) rfl)) (List.mem_cons_of_mem _ gw336) ?_
  exact k_iret h hQ (ddX8_height (10, .ireturn, 1) (List.mem_of_getElem? (i := 5) rfl))
theorem sX8_height_0 {l : Launch} {X : q_CX} (hl : X.2.1 = l) (hQ : q_QM X) (h : q_OK X yX8_height cX8_height 3 (some .int) rmX8_height (Cond.code yX8_height cX8_height 3 (some .int) :: q_G)) : q_SK X 3 0 (BX8_height_0) := by
  refine k_aload_n (i := 0) h (ddX8_height (0, .aload_n 0, 1) (List.mem_of_getElem? (i := 0) rfl)) rfl ?_
  refine k_iload_n (i := 1) h (ddX8_height (1, .iload_n 1, 1) (List.mem_of_getElem? (i := 1) rfl)) rfl ?_
  refine k_callV h hl (aX8_isPlace l) (ci := 8) (C := RX8) (T := TX8) (N := 11) rfl ⟨rfl, rfl⟩ (n := 1) (by decide +kernel) (q_gV gw341 gw342 gw343 gw91 gw340) ⟨by decide, by decide⟩ (ddX8_height (2, .invokevirtual 161, 3) (List.mem_of_getElem? (i := 2) rfl)) ?_
  refine k_ifne h (ddX8_height (5, .ifCond .ne 6, 3) (List.mem_of_getElem? (i := 3) rfl)) (tgt := 11) (by decide) ?_ ?_
  · exact sX8_height_11 hl hQ h
  · exact sX8_height_8 hl hQ h
theorem aX8_height (l : Launch) (as : List Value) (sh : q_Sh) (m : q_Mm) (R : q_KR) (hw : wX8_height as sh m R) : q_AM l yX8_height (Cond.code yX8_height cX8_height 3 (some .int) :: q_G) rmX8_height as sh m R := by
  refine q_met (code := TX8_height) (by decide) (fun X hl hQ _ h pc => ?_) hw.1 hw.2
  unfold TX8_height
  exact k_at (sX8_height_0 hl hQ h) (k_no)
/-! TumblingRock$Farm.goOn(LTumblingRock$Rock;)I -/
abbrev dlX1_goOn : List (Nat × (Instr × Nat)) := [(0, .aload_n 0, 1), (1, .dup, 1), (2, .getfield 18, 3), (5, .iconst 1, 1), (6, .iadd, 1), (7, .putfield 18, 3), (10, .aload_n 1, 1), (11, .aload_n 0, 1), (12, .getfield 15, 3), (15, .aload_n 1, 1), (16, .aload_n 0, 1), (17, .getfield 9, 3), (20, .aload_n 0, 1), (21, .getfield 18, 3), (24, .aload_n 0, 1), (25, .getfield 18, 3), (28, .aload_n 0, 1), (29, .getfield 18, 3), (32, .invokevirtual 27, 3), (35, .invokevirtual 33, 3), (38, .istore_n 2, 1), (39, .aload_n 0, 1), (40, .dup, 1), (41, .getfield 21, 3), (44, .iload_n 2, 1), (45, .iadd, 1), (46, .putfield 21, 3), (49, .iload_n 2, 1), (50, .ireturn, 1)]
theorem ddX1_goOn : ∀ q ∈ dlX1_goOn, decode cX1_goOn q.1 = .ok q.2 := by decide +kernel
theorem sX1_goOn_0 {l : Launch} {X : q_CX} (hl : X.2.1 = l) (hQ : q_QM X) (h : q_OK X yX1_goOn cX1_goOn 3 (some .int) rmX1_goOn (Cond.code yX1_goOn cX1_goOn 3 (some .int) :: q_G)) : q_SK X 3 0 (BX1_goOn_0) := by
  refine k_aload_n (i := 0) h (ddX1_goOn (0, .aload_n 0, 1) (List.mem_of_getElem? (i := 0) rfl)) rfl ?_
  refine k_dup h (ddX1_goOn (1, .dup, 1) (List.mem_of_getElem? (i := 1) rfl)) ?_
  refine k_getf (ci := 1) (j := 2) (C := RX1) (T := TX1) (N := 5) h rfl (fun w hw => List.mem_cons_of_mem _ (q_inX1 w hw)) (by decide) (List.mem_cons_of_mem _ gw290) (ddX1_goOn (2, .getfield 18, 3) (List.mem_of_getElem? (i := 2) rfl)) ?_
  refine k_iconst (v := 1) h (ddX1_goOn (5, .iconst 1, 1) (List.mem_of_getElem? (i := 3) rfl)) (by decide) ?_
  refine k_iadd h (ddX1_goOn (6, .iadd, 1) (List.mem_of_getElem? (i := 4) rfl)) ?_
  refine k_putf (ci := 1) (j := 2) (C := RX1) (T := TX1) (N := 5) h rfl (fun w hw => List.mem_cons_of_mem _ (q_inX1 w hw)) (by decide) (List.mem_cons_of_mem _ gw290) tyX1 tyX1_ok nmX1 (by decide +kernel) (by decide +kernel) (ddX1_goOn (7, .putfield 18, 3) (List.mem_of_getElem? (i := 5) rfl)) ?_
  refine k_aload_n (i := 1) h (ddX1_goOn (10, .aload_n 1, 1) (List.mem_of_getElem? (i := 6) rfl)) rfl ?_
  refine k_aload_n (i := 0) h (ddX1_goOn (11, .aload_n 0, 1) (List.mem_of_getElem? (i := 7) rfl)) rfl ?_
  refine k_getf (ci := 1) (j := 1) (C := RX1) (T := TX1) (N := 5) h rfl (fun w hw => List.mem_cons_of_mem _ (q_inX1 w hw)) (by decide) (List.mem_cons_of_mem _ gw289) (ddX1_goOn (12, .getfield 15, 3) (List.mem_of_getElem? (i := 8) rfl)) ?_
  refine k_aload_n (i := 1) h (ddX1_goOn (15, .aload_n 1, 1) (List.mem_of_getElem? (i := 9) rfl)) rfl ?_
  refine k_aload_n (i := 0) h (ddX1_goOn (16, .aload_n 0, 1) (List.mem_of_getElem? (i := 10) rfl)) rfl ?_
  refine k_getf (ci := 1) (j := 0) (C := RX1) (T := TX1) (N := 5) h rfl (fun w hw => List.mem_cons_of_mem _ (q_inX1 w hw)) (by decide) (List.mem_cons_of_mem _ gw288) (ddX1_goOn (17, .getfield 9, 3) (List.mem_of_getElem? (i := 11) rfl)) ?_
  refine k_aload_n (i := 0) h (ddX1_goOn (20, .aload_n 0, 1) (List.mem_of_getElem? (i := 12) rfl)) rfl ?_
  refine k_getf (ci := 1) (j := 2) (C := RX1) (T := TX1) (N := 5) h rfl (fun w hw => List.mem_cons_of_mem _ (q_inX1 w hw)) (by decide) (List.mem_cons_of_mem _ gw290) (ddX1_goOn (21, .getfield 18, 3) (List.mem_of_getElem? (i := 13) rfl)) ?_
  refine k_aload_n (i := 0) h (ddX1_goOn (24, .aload_n 0, 1) (List.mem_of_getElem? (i := 14) rfl)) rfl ?_
  refine k_getf (ci := 1) (j := 2) (C := RX1) (T := TX1) (N := 5) h rfl (fun w hw => List.mem_cons_of_mem _ (q_inX1 w hw)) (by decide) (List.mem_cons_of_mem _ gw290) (ddX1_goOn (25, .getfield 18, 3) (List.mem_of_getElem? (i := 15) rfl)) ?_
  refine k_aload_n (i := 0) h (ddX1_goOn (28, .aload_n 0, 1) (List.mem_of_getElem? (i := 16) rfl)) rfl ?_
  refine k_getf (ci := 1) (j := 2) (C := RX1) (T := TX1) (N := 5) h rfl (fun w hw => List.mem_cons_of_mem _ (q_inX1 w hw)) (by decide) (List.mem_cons_of_mem _ gw290) (ddX1_goOn (29, .getfield 18, 3) (List.mem_of_getElem? (i := 17) rfl)) ?_
  refine k_callV h hl (aX4_moved l) (ci := 4) (C := RX4) (T := TX4) (N := 14) rfl ⟨rfl, rfl⟩ (n := 4) (by decide +kernel) (q_gV gw373 gw126 gw127 gw71 gw124) ⟨by decide, by decide⟩ (ddX1_goOn (32, .invokevirtual 27, 3) (List.mem_of_getElem? (i := 18) rfl)) ?_
  refine k_callV h hl (aX4_litBit l) (ci := 4) (C := RX4) (T := TX4) (N := 14) rfl ⟨rfl, rfl⟩ (n := 2) (by decide +kernel) (q_gV gw374 gw349 gw350 gw71 gw347) ⟨by decide, by decide⟩ (ddX1_goOn (35, .invokevirtual 33, 3) (List.mem_of_getElem? (i := 19) rfl)) ?_
  refine k_istore_n (i := 2) h (ddX1_goOn (38, .istore_n 2, 1) (List.mem_of_getElem? (i := 20) rfl)) rfl (by decide) ?_
  refine k_aload_n (i := 0) h (ddX1_goOn (39, .aload_n 0, 1) (List.mem_of_getElem? (i := 21) rfl)) rfl ?_
  refine k_dup h (ddX1_goOn (40, .dup, 1) (List.mem_of_getElem? (i := 22) rfl)) ?_
  refine k_getf (ci := 1) (j := 3) (C := RX1) (T := TX1) (N := 5) h rfl (fun w hw => List.mem_cons_of_mem _ (q_inX1 w hw)) (by decide) (List.mem_cons_of_mem _ gw291) (ddX1_goOn (41, .getfield 21, 3) (List.mem_of_getElem? (i := 23) rfl)) ?_
  refine k_iload_n (i := 2) h (ddX1_goOn (44, .iload_n 2, 1) (List.mem_of_getElem? (i := 24) rfl)) rfl ?_
  refine k_iadd h (ddX1_goOn (45, .iadd, 1) (List.mem_of_getElem? (i := 25) rfl)) ?_
  refine k_putf (ci := 1) (j := 3) (C := RX1) (T := TX1) (N := 5) h rfl (fun w hw => List.mem_cons_of_mem _ (q_inX1 w hw)) (by decide) (List.mem_cons_of_mem _ gw291) tyX1 tyX1_ok nmX1 (by decide +kernel) (by decide +kernel) (ddX1_goOn (46, .putfield 21, 3) (List.mem_of_getElem? (i := 26) rfl)) ?_
  refine k_iload_n (i := 2) h (ddX1_goOn (49, .iload_n 2, 1) (List.mem_of_getElem? (i := 27) rfl)) rfl ?_
  exact k_iret h hQ (ddX1_goOn (50, .ireturn, 1) (List.mem_of_getElem? (i := 28) rfl))
theorem aX1_goOn (l : Launch) (as : List Value) (sh : q_Sh) (m : q_Mm) (R : q_KR) (hw : wX1_goOn as sh m R) : q_AM l yX1_goOn (Cond.code yX1_goOn cX1_goOn 3 (some .int) :: q_G) rmX1_goOn as sh m R := by
  refine q_met (code := TX1_goOn) (by decide) (fun X hl hQ _ h pc => ?_) hw.1 hw.2
  unfold TX1_goOn
  exact k_at (sX1_goOn_0 hl hQ h) (k_no)
/-! TumblingRock.stay(I)I -/
abbrev dlX8_stay : List (Nat × (Instr × Nat)) := [(0, .iload_n 1, 1), (1, .iconst 1, 1), (2, .sipush 999, 3), (5, .invokestatic 78, 3), (8, .ifCond .ne 6, 3), (11, .ldc 82, 2), (13, .ireturn, 1), (14, .aload_n 0, 1), (15, .getfield 71, 3), (18, .getfield 105, 3), (21, .ifCond .ne 6, 3), (24, .ldc 182, 2), (26, .ireturn, 1), (27, .iconst 0, 1), (28, .istore_n 2, 1), (29, .iconst 0, 1), (30, .istore_n 3, 1), (31, .iload_n 3, 1), (32, .iload_n 1, 1), (33, .if_icmp .ge 23, 3), (36, .iload_n 2, 1), (37, .aload_n 0, 1), (38, .getfield 28, 3), (41, .aload_n 0, 1), (42, .getfield 71, 3), (45, .invokevirtual 183, 3), (48, .iadd, 1), (49, .istore_n 2, 1), (50, .iinc 3 1, 3), (53, .goto (-22), 3), (56, .iload_n 2, 1), (57, .ireturn, 1)]
theorem ddX8_stay : ∀ q ∈ dlX8_stay, decode cX8_stay q.1 = .ok q.2 := by decide +kernel
theorem sX8_stay_27 {l : Launch} {X : q_CX} (hl : X.2.1 = l) (hQ : q_QM X) (h : q_OK X yX8_stay cX8_stay 4 (some .int) rmX8_stay (Cond.code yX8_stay cX8_stay 4 (some .int) :: q_G)) : q_SK X 4 27 (BX8_stay_27) := by
  refine k_iconst (v := 0) h (ddX8_stay (27, .iconst 0, 1) (List.mem_of_getElem? (i := 13) rfl)) (by decide) ?_
  refine k_istore_n (i := 2) h (ddX8_stay (28, .istore_n 2, 1) (List.mem_of_getElem? (i := 14) rfl)) rfl (by decide) ?_
  refine k_iconst (v := 0) h (ddX8_stay (29, .iconst 0, 1) (List.mem_of_getElem? (i := 15) rfl)) (by decide) ?_
  refine k_istore_n (i := 3) h (ddX8_stay (30, .istore_n 3, 1) (List.mem_of_getElem? (i := 16) rfl)) rfl (by decide) ?_
  exact k_cut
theorem sX8_stay_24 {l : Launch} {X : q_CX} (hl : X.2.1 = l) (hQ : q_QM X) (h : q_OK X yX8_stay cX8_stay 4 (some .int) rmX8_stay (Cond.code yX8_stay cX8_stay 4 (some .int) :: q_G)) : q_SK X 4 24 (BX8_stay_24) := by
  refine k_ldc (v := (-1000000003)) h (ddX8_stay (24, .ldc 182, 2) (List.mem_of_getElem? (i := 11) rfl)) (List.mem_cons_of_mem _ gw372) ?_
  exact k_iret h hQ (ddX8_stay (26, .ireturn, 1) (List.mem_of_getElem? (i := 12) rfl))
theorem sX8_stay_14 {l : Launch} {X : q_CX} (hl : X.2.1 = l) (hQ : q_QM X) (h : q_OK X yX8_stay cX8_stay 4 (some .int) rmX8_stay (Cond.code yX8_stay cX8_stay 4 (some .int) :: q_G)) : q_SK X 4 14 (BX8_stay_14) := by
  refine k_aload_n (i := 0) h (ddX8_stay (14, .aload_n 0, 1) (List.mem_of_getElem? (i := 7) rfl)) rfl ?_
  refine k_getf (ci := 8) (j := 9) (C := RX8) (T := TX8) (N := 11) h rfl (fun w hw => List.mem_cons_of_mem _ (q_inX8 w hw)) (by decide) (List.mem_cons_of_mem _ gw135) (ddX8_stay (15, .getfield 71, 3) (List.mem_of_getElem? (i := 8) rfl)) ?_
  refine k_getf (ci := 4) (j := 1) (C := RX4) (T := TX4) (N := 14) h rfl (fun w hw => List.mem_cons_of_mem _ (q_inX4 w hw)) (by decide) (List.mem_cons_of_mem _ gw312) (ddX8_stay (18, .getfield 105, 3) (List.mem_of_getElem? (i := 9) rfl)) ?_
  refine k_ifne h (ddX8_stay (21, .ifCond .ne 6, 3) (List.mem_of_getElem? (i := 10) rfl)) (tgt := 27) (by decide) ?_ ?_
  · exact sX8_stay_27 hl hQ h
  · exact sX8_stay_24 hl hQ h
theorem sX8_stay_11 {l : Launch} {X : q_CX} (hl : X.2.1 = l) (hQ : q_QM X) (h : q_OK X yX8_stay cX8_stay 4 (some .int) rmX8_stay (Cond.code yX8_stay cX8_stay 4 (some .int) :: q_G)) : q_SK X 4 11 (BX8_stay_11) := by
  refine k_ldc (v := (-1000000002)) h (ddX8_stay (11, .ldc 82, 2) (List.mem_of_getElem? (i := 5) rfl)) (List.mem_cons_of_mem _ gw140) ?_
  exact k_iret h hQ (ddX8_stay (13, .ireturn, 1) (List.mem_of_getElem? (i := 6) rfl))
theorem sX8_stay_0 {l : Launch} {X : q_CX} (hl : X.2.1 = l) (hQ : q_QM X) (h : q_OK X yX8_stay cX8_stay 4 (some .int) rmX8_stay (Cond.code yX8_stay cX8_stay 4 (some .int) :: q_G)) : q_SK X 4 0 (BX8_stay_0) := by
  refine k_iload_n (i := 1) h (ddX8_stay (0, .iload_n 1, 1) (List.mem_of_getElem? (i := 0) rfl)) rfl ?_
  refine k_iconst (v := 1) h (ddX8_stay (1, .iconst 1, 1) (List.mem_of_getElem? (i := 1) rfl)) (by decide) ?_
  refine k_sipush (v := 999) h (ddX8_stay (2, .sipush 999, 3) (List.mem_of_getElem? (i := 2) rfl)) (by decide) ?_
  refine k_callS h hl (aX8_inside l) ⟨rfl, rfl⟩ (n := 3) (by decide +kernel) (q_gS gw139 gw138 gw91 gw137) ⟨by decide, by decide⟩ (ddX8_stay (5, .invokestatic 78, 3) (List.mem_of_getElem? (i := 3) rfl)) ?_
  refine k_ifne h (ddX8_stay (8, .ifCond .ne 6, 3) (List.mem_of_getElem? (i := 4) rfl)) (tgt := 14) (by decide) ?_ ?_
  · exact sX8_stay_14 hl hQ h
  · exact sX8_stay_11 hl hQ h
theorem sX8_stay_56 {l : Launch} {X : q_CX} (hl : X.2.1 = l) (hQ : q_QM X) (h : q_OK X yX8_stay cX8_stay 4 (some .int) rmX8_stay (Cond.code yX8_stay cX8_stay 4 (some .int) :: q_G)) : q_SK X 4 56 (BX8_stay_56) := by
  refine k_iload_n (i := 2) h (ddX8_stay (56, .iload_n 2, 1) (List.mem_of_getElem? (i := 30) rfl)) rfl ?_
  exact k_iret h hQ (ddX8_stay (57, .ireturn, 1) (List.mem_of_getElem? (i := 31) rfl))
theorem sX8_stay_36 {l : Launch} {X : q_CX} (hl : X.2.1 = l) (hQ : q_QM X) (h : q_OK X yX8_stay cX8_stay 4 (some .int) rmX8_stay (Cond.code yX8_stay cX8_stay 4 (some .int) :: q_G)) : q_SK X 4 36 (BX8_stay_36) := by
  refine k_iload_n (i := 2) h (ddX8_stay (36, .iload_n 2, 1) (List.mem_of_getElem? (i := 20) rfl)) rfl ?_
  refine k_aload_n (i := 0) h (ddX8_stay (37, .aload_n 0, 1) (List.mem_of_getElem? (i := 21) rfl)) rfl ?_
  refine k_getf (ci := 8) (j := 2) (C := RX8) (T := TX8) (N := 11) h rfl (fun w hw => List.mem_cons_of_mem _ (q_inX8 w hw)) (by decide) (List.mem_cons_of_mem _ gw28) (ddX8_stay (38, .getfield 28, 3) (List.mem_of_getElem? (i := 22) rfl)) ?_
  refine k_aload_n (i := 0) h (ddX8_stay (41, .aload_n 0, 1) (List.mem_of_getElem? (i := 23) rfl)) rfl ?_
  refine k_getf (ci := 8) (j := 9) (C := RX8) (T := TX8) (N := 11) h rfl (fun w hw => List.mem_cons_of_mem _ (q_inX8 w hw)) (by decide) (List.mem_cons_of_mem _ gw135) (ddX8_stay (42, .getfield 71, 3) (List.mem_of_getElem? (i := 24) rfl)) ?_
  refine k_callV h hl (aX1_goOn l) (ci := 1) (C := RX1) (T := TX1) (N := 5) rfl ⟨rfl, rfl⟩ (n := 1) (by decide +kernel) (q_gV gw376 gw377 gw378 gw24 gw375) ⟨by decide, by decide⟩ (ddX8_stay (45, .invokevirtual 183, 3) (List.mem_of_getElem? (i := 25) rfl)) ?_
  refine k_iadd h (ddX8_stay (48, .iadd, 1) (List.mem_of_getElem? (i := 26) rfl)) ?_
  refine k_istore_n (i := 2) h (ddX8_stay (49, .istore_n 2, 1) (List.mem_of_getElem? (i := 27) rfl)) rfl (by decide) ?_
  refine k_iinc (d := 1) h (ddX8_stay (50, .iinc 3 1, 3) (List.mem_of_getElem? (i := 28) rfl)) (by decide) (by decide) ?_
  refine k_goto h (ddX8_stay (53, .goto (-22), 3) (List.mem_of_getElem? (i := 29) rfl)) (tgt := 31) (by decide) ?_
  exact k_cut
theorem sX8_stay_31 {l : Launch} {X : q_CX} (hl : X.2.1 = l) (hQ : q_QM X) (h : q_OK X yX8_stay cX8_stay 4 (some .int) rmX8_stay (Cond.code yX8_stay cX8_stay 4 (some .int) :: q_G)) : q_SK X 4 31 (BX8_stay_31) := by
  refine k_iload_n (i := 3) h (ddX8_stay (31, .iload_n 3, 1) (List.mem_of_getElem? (i := 17) rfl)) rfl ?_
  refine k_iload_n (i := 1) h (ddX8_stay (32, .iload_n 1, 1) (List.mem_of_getElem? (i := 18) rfl)) rfl ?_
  refine k_icge h (ddX8_stay (33, .if_icmp .ge 23, 3) (List.mem_of_getElem? (i := 19) rfl)) (tgt := 56) (by decide) ?_ ?_
  · exact sX8_stay_56 hl hQ h
  · exact sX8_stay_36 hl hQ h
theorem aX8_stay (l : Launch) (as : List Value) (sh : q_Sh) (m : q_Mm) (R : q_KR) (hw : wX8_stay as sh m R) : q_AM l yX8_stay (Cond.code yX8_stay cX8_stay 4 (some .int) :: q_G) rmX8_stay as sh m R := by
  refine q_met (code := TX8_stay) (by decide) (fun X hl hQ _ h pc => ?_) hw.1 hw.2
  unfold TX8_stay
  exact k_at (sX8_stay_0 hl hQ h) (k_at (sX8_stay_31 hl hQ h) (k_no))
/-! TumblingRock.go(I)I -/
abbrev dlX8_go : List (Nat × (Instr × Nat)) := [(0, .aload_n 0, 1), (1, .iload_n 1, 1), (2, .invokevirtual 161, 3), (5, .ifCond .ne 6, 3), (8, .ldc 147, 2), (10, .ireturn, 1), (11, .aload_n 0, 1), (12, .getfield 71, 3), (15, .aload_n 0, 1), (16, .getfield 28, 3), (19, .getfield 126, 3), (22, .iload_n 1, 1), (23, .invokevirtual 187, 3), (26, .ifCond .ne 6, 3), (29, .ldc 182, 2), (31, .ireturn, 1), (32, .aload_n 0, 1), (33, .getfield 28, 3), (36, .iload_n 1, 1), (37, .putfield 126, 3), (40, .aload_n 0, 1), (41, .getfield 28, 3), (44, .aload_n 0, 1), (45, .getfield 71, 3), (48, .invokevirtual 183, 3), (51, .ireturn, 1)]
theorem ddX8_go : ∀ q ∈ dlX8_go, decode cX8_go q.1 = .ok q.2 := by decide +kernel
theorem sX8_go_32 {l : Launch} {X : q_CX} (hl : X.2.1 = l) (hQ : q_QM X) (h : q_OK X yX8_go cX8_go 2 (some .int) rmX8_go (Cond.code yX8_go cX8_go 2 (some .int) :: q_G)) : q_SK X 2 32 (BX8_go_32) := by
  refine k_aload_n (i := 0) h (ddX8_go (32, .aload_n 0, 1) (List.mem_of_getElem? (i := 16) rfl)) rfl ?_
  refine k_getf (ci := 8) (j := 2) (C := RX8) (T := TX8) (N := 11) h rfl (fun w hw => List.mem_cons_of_mem _ (q_inX8 w hw)) (by decide) (List.mem_cons_of_mem _ gw28) (ddX8_go (33, .getfield 28, 3) (List.mem_of_getElem? (i := 17) rfl)) ?_
  refine k_iload_n (i := 1) h (ddX8_go (36, .iload_n 1, 1) (List.mem_of_getElem? (i := 18) rfl)) rfl ?_
  refine k_putf (ci := 1) (j := 1) (C := RX1) (T := TX1) (N := 5) h rfl (fun w hw => List.mem_cons_of_mem _ (q_inX1 w hw)) (by decide) (List.mem_cons_of_mem _ gw319) tyX1 tyX1_ok nmX1 (by decide +kernel) (by decide +kernel) (ddX8_go (37, .putfield 126, 3) (List.mem_of_getElem? (i := 19) rfl)) ?_
  refine k_aload_n (i := 0) h (ddX8_go (40, .aload_n 0, 1) (List.mem_of_getElem? (i := 20) rfl)) rfl ?_
  refine k_getf (ci := 8) (j := 2) (C := RX8) (T := TX8) (N := 11) h rfl (fun w hw => List.mem_cons_of_mem _ (q_inX8 w hw)) (by decide) (List.mem_cons_of_mem _ gw28) (ddX8_go (41, .getfield 28, 3) (List.mem_of_getElem? (i := 21) rfl)) ?_
  refine k_aload_n (i := 0) h (ddX8_go (44, .aload_n 0, 1) (List.mem_of_getElem? (i := 22) rfl)) rfl ?_
  refine k_getf (ci := 8) (j := 9) (C := RX8) (T := TX8) (N := 11) h rfl (fun w hw => List.mem_cons_of_mem _ (q_inX8 w hw)) (by decide) (List.mem_cons_of_mem _ gw135) (ddX8_go (45, .getfield 71, 3) (List.mem_of_getElem? (i := 23) rfl)) ?_
  refine k_callV h hl (aX1_goOn l) (ci := 1) (C := RX1) (T := TX1) (N := 5) rfl ⟨rfl, rfl⟩ (n := 1) (by decide +kernel) (q_gV gw376 gw377 gw378 gw24 gw375) ⟨by decide, by decide⟩ (ddX8_go (48, .invokevirtual 183, 3) (List.mem_of_getElem? (i := 24) rfl)) ?_
  exact k_iret h hQ (ddX8_go (51, .ireturn, 1) (List.mem_of_getElem? (i := 25) rfl))
theorem sX8_go_29 {l : Launch} {X : q_CX} (hl : X.2.1 = l) (hQ : q_QM X) (h : q_OK X yX8_go cX8_go 2 (some .int) rmX8_go (Cond.code yX8_go cX8_go 2 (some .int) :: q_G)) : q_SK X 2 29 (BX8_go_29) := by
  refine k_ldc (v := (-1000000003)) h (ddX8_go (29, .ldc 182, 2) (List.mem_of_getElem? (i := 14) rfl)) (List.mem_cons_of_mem _ gw372) ?_
  exact k_iret h hQ (ddX8_go (31, .ireturn, 1) (List.mem_of_getElem? (i := 15) rfl))
theorem sX8_go_11 {l : Launch} {X : q_CX} (hl : X.2.1 = l) (hQ : q_QM X) (h : q_OK X yX8_go cX8_go 2 (some .int) rmX8_go (Cond.code yX8_go cX8_go 2 (some .int) :: q_G)) : q_SK X 2 11 (BX8_go_11) := by
  refine k_aload_n (i := 0) h (ddX8_go (11, .aload_n 0, 1) (List.mem_of_getElem? (i := 6) rfl)) rfl ?_
  refine k_getf (ci := 8) (j := 9) (C := RX8) (T := TX8) (N := 11) h rfl (fun w hw => List.mem_cons_of_mem _ (q_inX8 w hw)) (by decide) (List.mem_cons_of_mem _ gw135) (ddX8_go (12, .getfield 71, 3) (List.mem_of_getElem? (i := 7) rfl)) ?_
  refine k_aload_n (i := 0) h (ddX8_go (15, .aload_n 0, 1) (List.mem_of_getElem? (i := 8) rfl)) rfl ?_
  refine k_getf (ci := 8) (j := 2) (C := RX8) (T := TX8) (N := 11) h rfl (fun w hw => List.mem_cons_of_mem _ (q_inX8 w hw)) (by decide) (List.mem_cons_of_mem _ gw28) (ddX8_go (16, .getfield 28, 3) (List.mem_of_getElem? (i := 9) rfl)) ?_
  refine k_getf (ci := 1) (j := 1) (C := RX1) (T := TX1) (N := 5) h rfl (fun w hw => List.mem_cons_of_mem _ (q_inX1 w hw)) (by decide) (List.mem_cons_of_mem _ gw319) (ddX8_go (19, .getfield 126, 3) (List.mem_of_getElem? (i := 10) rfl)) ?_
  refine k_iload_n (i := 1) h (ddX8_go (22, .iload_n 1, 1) (List.mem_of_getElem? (i := 11) rfl)) rfl ?_
  refine k_callV h hl (aX4_leads l) (ci := 4) (C := RX4) (T := TX4) (N := 14) rfl ⟨rfl, rfl⟩ (n := 2) (by decide +kernel) (q_gV gw379 gw259 gw260 gw71 gw257) ⟨by decide, by decide⟩ (ddX8_go (23, .invokevirtual 187, 3) (List.mem_of_getElem? (i := 12) rfl)) ?_
  refine k_ifne h (ddX8_go (26, .ifCond .ne 6, 3) (List.mem_of_getElem? (i := 13) rfl)) (tgt := 32) (by decide) ?_ ?_
  · exact sX8_go_32 hl hQ h
  · exact sX8_go_29 hl hQ h
theorem sX8_go_8 {l : Launch} {X : q_CX} (hl : X.2.1 = l) (hQ : q_QM X) (h : q_OK X yX8_go cX8_go 2 (some .int) rmX8_go (Cond.code yX8_go cX8_go 2 (some .int) :: q_G)) : q_SK X 2 8 (BX8_go_8) := by
  refine k_ldc (v := (-1000000001)) h (ddX8_go (8, .ldc 147, 2) (List.mem_of_getElem? (i := 4) rfl)) (List.mem_cons_of_mem _ gw336) ?_
  exact k_iret h hQ (ddX8_go (10, .ireturn, 1) (List.mem_of_getElem? (i := 5) rfl))
theorem sX8_go_0 {l : Launch} {X : q_CX} (hl : X.2.1 = l) (hQ : q_QM X) (h : q_OK X yX8_go cX8_go 2 (some .int) rmX8_go (Cond.code yX8_go cX8_go 2 (some .int) :: q_G)) : q_SK X 2 0 (BX8_go_0) := by
  refine k_aload_n (i := 0) h (ddX8_go (0, .aload_n 0, 1) (List.mem_of_getElem? (i := 0) rfl)) rfl ?_
  refine k_iload_n (i := 1) h (ddX8_go (1, .iload_n 1, 1) (List.mem_of_getElem? (i := 1) rfl)) rfl ?_
  refine k_callV h hl (aX8_isPlace l) (ci := 8) (C := RX8) (T := TX8) (N := 11) rfl ⟨rfl, rfl⟩ (n := 1) (by decide +kernel) (q_gV gw341 gw342 gw343 gw91 gw340) ⟨by decide, by decide⟩ (ddX8_go (2, .invokevirtual 161, 3) (List.mem_of_getElem? (i := 2) rfl)) ?_
  refine k_ifne h (ddX8_go (5, .ifCond .ne 6, 3) (List.mem_of_getElem? (i := 3) rfl)) (tgt := 11) (by decide) ?_ ?_
  · exact sX8_go_11 hl hQ h
  · exact sX8_go_8 hl hQ h
theorem aX8_go (l : Launch) (as : List Value) (sh : q_Sh) (m : q_Mm) (R : q_KR) (hw : wX8_go as sh m R) : q_AM l yX8_go (Cond.code yX8_go cX8_go 2 (some .int) :: q_G) rmX8_go as sh m R := by
  refine q_met (code := TX8_go) (by decide) (fun X hl hQ _ h pc => ?_) hw.1 hw.2
  unfold TX8_go
  exact k_at (sX8_go_0 hl hQ h) (k_no)
/-! TumblingRock$Rock.knocked(III)I -/
abbrev dlX4_knocked : List (Nat × (Instr × Nat)) := [(0, .aload_n 0, 1), (1, .iload_n 1, 1), (2, .iload_n 2, 1), (3, .ifCond .ne 7, 3), (6, .iload_n 3, 1), (7, .goto 4, 3), (10, .iconst 0, 1), (11, .iload_n 2, 1), (12, .iconst 1, 1), (13, .if_icmp .ne 7, 3), (16, .iload_n 3, 1), (17, .goto 4, 3), (20, .iconst 0, 1), (21, .iload_n 2, 1), (22, .iconst 2, 1), (23, .if_icmp .ne 7, 3), (26, .iload_n 3, 1), (27, .goto 4, 3), (30, .iconst 0, 1), (31, .invokevirtual 79, 3), (34, .ireturn, 1)]
theorem ddX4_knocked : ∀ q ∈ dlX4_knocked, decode cX4_knocked q.1 = .ok q.2 := by decide +kernel
theorem sX4_knocked_10 {l : Launch} {X : q_CX} (hl : X.2.1 = l) (hQ : q_QM X) (h : q_OK X yX4_knocked cX4_knocked 4 (some .int) rmX4_knocked (Cond.code yX4_knocked cX4_knocked 4 (some .int) :: q_G)) : q_SK X 4 10 (BX4_knocked_10) := by
  refine k_iconst (v := 0) h (ddX4_knocked (10, .iconst 0, 1) (List.mem_of_getElem? (i := 6) rfl)) (by decide) ?_
  exact k_cut
theorem sX4_knocked_6 {l : Launch} {X : q_CX} (hl : X.2.1 = l) (hQ : q_QM X) (h : q_OK X yX4_knocked cX4_knocked 4 (some .int) rmX4_knocked (Cond.code yX4_knocked cX4_knocked 4 (some .int) :: q_G)) : q_SK X 4 6 (BX4_knocked_6) := by
  refine k_iload_n (i := 3) h (ddX4_knocked (6, .iload_n 3, 1) (List.mem_of_getElem? (i := 4) rfl)) rfl ?_
  refine k_goto h (ddX4_knocked (7, .goto 4, 3) (List.mem_of_getElem? (i := 5) rfl)) (tgt := 11) (by decide) ?_
  exact k_cut
theorem sX4_knocked_0 {l : Launch} {X : q_CX} (hl : X.2.1 = l) (hQ : q_QM X) (h : q_OK X yX4_knocked cX4_knocked 4 (some .int) rmX4_knocked (Cond.code yX4_knocked cX4_knocked 4 (some .int) :: q_G)) : q_SK X 4 0 (BX4_knocked_0) := by
  refine k_aload_n (i := 0) h (ddX4_knocked (0, .aload_n 0, 1) (List.mem_of_getElem? (i := 0) rfl)) rfl ?_
  refine k_iload_n (i := 1) h (ddX4_knocked (1, .iload_n 1, 1) (List.mem_of_getElem? (i := 1) rfl)) rfl ?_
  refine k_iload_n (i := 2) h (ddX4_knocked (2, .iload_n 2, 1) (List.mem_of_getElem? (i := 2) rfl)) rfl ?_
  refine k_ifne h (ddX4_knocked (3, .ifCond .ne 7, 3) (List.mem_of_getElem? (i := 3) rfl)) (tgt := 10) (by decide) ?_ ?_
  · exact sX4_knocked_10 hl hQ h
  · exact sX4_knocked_6 hl hQ h
theorem sX4_knocked_31 {l : Launch} {X : q_CX} (hl : X.2.1 = l) (hQ : q_QM X) (h : q_OK X yX4_knocked cX4_knocked 4 (some .int) rmX4_knocked (Cond.code yX4_knocked cX4_knocked 4 (some .int) :: q_G)) : q_SK X 4 31 (BX4_knocked_31) := by
  refine k_callV h hl (aX4_moved l) (ci := 4) (C := RX4) (T := TX4) (N := 14) rfl ⟨rfl, rfl⟩ (n := 4) (by decide +kernel) (q_gV gw125 gw126 gw127 gw71 gw124) ⟨by decide, by decide⟩ (ddX4_knocked (31, .invokevirtual 79, 3) (List.mem_of_getElem? (i := 19) rfl)) ?_
  exact k_iret h hQ (ddX4_knocked (34, .ireturn, 1) (List.mem_of_getElem? (i := 20) rfl))
theorem sX4_knocked_30 {l : Launch} {X : q_CX} (hl : X.2.1 = l) (hQ : q_QM X) (h : q_OK X yX4_knocked cX4_knocked 4 (some .int) rmX4_knocked (Cond.code yX4_knocked cX4_knocked 4 (some .int) :: q_G)) : q_SK X 4 30 (BX4_knocked_30) := by
  refine k_iconst (v := 0) h (ddX4_knocked (30, .iconst 0, 1) (List.mem_of_getElem? (i := 18) rfl)) (by decide) ?_
  exact sX4_knocked_31 hl hQ h
theorem sX4_knocked_26 {l : Launch} {X : q_CX} (hl : X.2.1 = l) (hQ : q_QM X) (h : q_OK X yX4_knocked cX4_knocked 4 (some .int) rmX4_knocked (Cond.code yX4_knocked cX4_knocked 4 (some .int) :: q_G)) : q_SK X 4 26 (BX4_knocked_26) := by
  refine k_iload_n (i := 3) h (ddX4_knocked (26, .iload_n 3, 1) (List.mem_of_getElem? (i := 16) rfl)) rfl ?_
  refine k_goto h (ddX4_knocked (27, .goto 4, 3) (List.mem_of_getElem? (i := 17) rfl)) (tgt := 31) (by decide) ?_
  exact sX4_knocked_31 hl hQ h
theorem sX4_knocked_21 {l : Launch} {X : q_CX} (hl : X.2.1 = l) (hQ : q_QM X) (h : q_OK X yX4_knocked cX4_knocked 4 (some .int) rmX4_knocked (Cond.code yX4_knocked cX4_knocked 4 (some .int) :: q_G)) : q_SK X 4 21 (BX4_knocked_21) := by
  refine k_iload_n (i := 2) h (ddX4_knocked (21, .iload_n 2, 1) (List.mem_of_getElem? (i := 13) rfl)) rfl ?_
  refine k_iconst (v := 2) h (ddX4_knocked (22, .iconst 2, 1) (List.mem_of_getElem? (i := 14) rfl)) (by decide) ?_
  refine k_icne h (ddX4_knocked (23, .if_icmp .ne 7, 3) (List.mem_of_getElem? (i := 15) rfl)) (tgt := 30) (by decide) ?_ ?_
  · exact sX4_knocked_30 hl hQ h
  · exact sX4_knocked_26 hl hQ h
theorem sX4_knocked_20 {l : Launch} {X : q_CX} (hl : X.2.1 = l) (hQ : q_QM X) (h : q_OK X yX4_knocked cX4_knocked 4 (some .int) rmX4_knocked (Cond.code yX4_knocked cX4_knocked 4 (some .int) :: q_G)) : q_SK X 4 20 (BX4_knocked_20) := by
  refine k_iconst (v := 0) h (ddX4_knocked (20, .iconst 0, 1) (List.mem_of_getElem? (i := 12) rfl)) (by decide) ?_
  exact sX4_knocked_21 hl hQ h
theorem sX4_knocked_16 {l : Launch} {X : q_CX} (hl : X.2.1 = l) (hQ : q_QM X) (h : q_OK X yX4_knocked cX4_knocked 4 (some .int) rmX4_knocked (Cond.code yX4_knocked cX4_knocked 4 (some .int) :: q_G)) : q_SK X 4 16 (BX4_knocked_16) := by
  refine k_iload_n (i := 3) h (ddX4_knocked (16, .iload_n 3, 1) (List.mem_of_getElem? (i := 10) rfl)) rfl ?_
  refine k_goto h (ddX4_knocked (17, .goto 4, 3) (List.mem_of_getElem? (i := 11) rfl)) (tgt := 21) (by decide) ?_
  exact sX4_knocked_21 hl hQ h
theorem sX4_knocked_11 {l : Launch} {X : q_CX} (hl : X.2.1 = l) (hQ : q_QM X) (h : q_OK X yX4_knocked cX4_knocked 4 (some .int) rmX4_knocked (Cond.code yX4_knocked cX4_knocked 4 (some .int) :: q_G)) : q_SK X 4 11 (BX4_knocked_11) := by
  refine k_iload_n (i := 2) h (ddX4_knocked (11, .iload_n 2, 1) (List.mem_of_getElem? (i := 7) rfl)) rfl ?_
  refine k_iconst (v := 1) h (ddX4_knocked (12, .iconst 1, 1) (List.mem_of_getElem? (i := 8) rfl)) (by decide) ?_
  refine k_icne h (ddX4_knocked (13, .if_icmp .ne 7, 3) (List.mem_of_getElem? (i := 9) rfl)) (tgt := 20) (by decide) ?_ ?_
  · exact sX4_knocked_20 hl hQ h
  · exact sX4_knocked_16 hl hQ h
theorem aX4_knocked (l : Launch) (as : List Value) (sh : q_Sh) (m : q_Mm) (R : q_KR) (hw : wX4_knocked as sh m R) : q_AM l yX4_knocked (Cond.code yX4_knocked cX4_knocked 4 (some .int) :: q_G) rmX4_knocked as sh m R := by
  refine q_met (code := TX4_knocked) (by decide) (fun X hl hQ _ h pc => ?_) hw.1 hw.2
  unfold TX4_knocked
  exact k_at (sX4_knocked_0 hl hQ h) (k_at (sX4_knocked_11 hl hQ h) (k_no))
/-! TumblingRock.knock(II)I -/
abbrev dlX8_knock : List (Nat × (Instr × Nat)) := [(0, .aload_n 0, 1), (1, .iload_n 1, 1), (2, .invokevirtual 143, 3), (5, .ifCond .ne 6, 3), (8, .ldc 147, 2), (10, .ireturn, 1), (11, .iload_n 2, 1), (12, .iconst 0, 1), (13, .bipush 11, 2), (15, .invokestatic 78, 3), (18, .ifCond .ne 6, 3), (21, .ldc 82, 2), (23, .ireturn, 1), (24, .aload_n 0, 1), (25, .getfield 28, 3), (28, .aload_n 0, 1), (29, .getfield 71, 3), (32, .aload_n 0, 1), (33, .getfield 28, 3), (36, .getfield 155, 3), (39, .iload_n 1, 1), (40, .iload_n 2, 1), (41, .invokevirtual 191, 3), (44, .putfield 155, 3), (47, .aload_n 0, 1), (48, .getfield 71, 3), (51, .aload_n 0, 1), (52, .getfield 28, 3), (55, .getfield 155, 3), (58, .iload_n 1, 1), (59, .invokevirtual 148, 3), (62, .ireturn, 1)]
theorem ddX8_knock : ∀ q ∈ dlX8_knock, decode cX8_knock q.1 = .ok q.2 := by decide +kernel
theorem sX8_knock_24 {l : Launch} {X : q_CX} (hl : X.2.1 = l) (hQ : q_QM X) (h : q_OK X yX8_knock cX8_knock 3 (some .int) rmX8_knock (Cond.code yX8_knock cX8_knock 3 (some .int) :: q_G)) : q_SK X 3 24 (BX8_knock_24) := by
  refine k_aload_n (i := 0) h (ddX8_knock (24, .aload_n 0, 1) (List.mem_of_getElem? (i := 13) rfl)) rfl ?_
  refine k_getf (ci := 8) (j := 2) (C := RX8) (T := TX8) (N := 11) h rfl (fun w hw => List.mem_cons_of_mem _ (q_inX8 w hw)) (by decide) (List.mem_cons_of_mem _ gw28) (ddX8_knock (25, .getfield 28, 3) (List.mem_of_getElem? (i := 14) rfl)) ?_
  refine k_aload_n (i := 0) h (ddX8_knock (28, .aload_n 0, 1) (List.mem_of_getElem? (i := 15) rfl)) rfl ?_
  refine k_getf (ci := 8) (j := 9) (C := RX8) (T := TX8) (N := 11) h rfl (fun w hw => List.mem_cons_of_mem _ (q_inX8 w hw)) (by decide) (List.mem_cons_of_mem _ gw135) (ddX8_knock (29, .getfield 71, 3) (List.mem_of_getElem? (i := 16) rfl)) ?_
  refine k_aload_n (i := 0) h (ddX8_knock (32, .aload_n 0, 1) (List.mem_of_getElem? (i := 17) rfl)) rfl ?_
  refine k_getf (ci := 8) (j := 2) (C := RX8) (T := TX8) (N := 11) h rfl (fun w hw => List.mem_cons_of_mem _ (q_inX8 w hw)) (by decide) (List.mem_cons_of_mem _ gw28) (ddX8_knock (33, .getfield 28, 3) (List.mem_of_getElem? (i := 18) rfl)) ?_
  refine k_getf (ci := 1) (j := 0) (C := RX1) (T := TX1) (N := 5) h rfl (fun w hw => List.mem_cons_of_mem _ (q_inX1 w hw)) (by decide) (List.mem_cons_of_mem _ gw322) (ddX8_knock (36, .getfield 155, 3) (List.mem_of_getElem? (i := 19) rfl)) ?_
  refine k_iload_n (i := 1) h (ddX8_knock (39, .iload_n 1, 1) (List.mem_of_getElem? (i := 20) rfl)) rfl ?_
  refine k_iload_n (i := 2) h (ddX8_knock (40, .iload_n 2, 1) (List.mem_of_getElem? (i := 21) rfl)) rfl ?_
  refine k_callV h hl (aX4_knocked l) (ci := 4) (C := RX4) (T := TX4) (N := 14) rfl ⟨rfl, rfl⟩ (n := 3) (by decide +kernel) (q_gV gw381 gw382 gw383 gw71 gw380) ⟨by decide, by decide⟩ (ddX8_knock (41, .invokevirtual 191, 3) (List.mem_of_getElem? (i := 22) rfl)) ?_
  refine k_putf (ci := 1) (j := 0) (C := RX1) (T := TX1) (N := 5) h rfl (fun w hw => List.mem_cons_of_mem _ (q_inX1 w hw)) (by decide) (List.mem_cons_of_mem _ gw322) tyX1 tyX1_ok nmX1 (by decide +kernel) (by decide +kernel) (ddX8_knock (44, .putfield 155, 3) (List.mem_of_getElem? (i := 23) rfl)) ?_
  refine k_aload_n (i := 0) h (ddX8_knock (47, .aload_n 0, 1) (List.mem_of_getElem? (i := 24) rfl)) rfl ?_
  refine k_getf (ci := 8) (j := 9) (C := RX8) (T := TX8) (N := 11) h rfl (fun w hw => List.mem_cons_of_mem _ (q_inX8 w hw)) (by decide) (List.mem_cons_of_mem _ gw135) (ddX8_knock (48, .getfield 71, 3) (List.mem_of_getElem? (i := 25) rfl)) ?_
  refine k_aload_n (i := 0) h (ddX8_knock (51, .aload_n 0, 1) (List.mem_of_getElem? (i := 26) rfl)) rfl ?_
  refine k_getf (ci := 8) (j := 2) (C := RX8) (T := TX8) (N := 11) h rfl (fun w hw => List.mem_cons_of_mem _ (q_inX8 w hw)) (by decide) (List.mem_cons_of_mem _ gw28) (ddX8_knock (52, .getfield 28, 3) (List.mem_of_getElem? (i := 27) rfl)) ?_
  refine k_getf (ci := 1) (j := 0) (C := RX1) (T := TX1) (N := 5) h rfl (fun w hw => List.mem_cons_of_mem _ (q_inX1 w hw)) (by decide) (List.mem_cons_of_mem _ gw322) (ddX8_knock (55, .getfield 155, 3) (List.mem_of_getElem? (i := 28) rfl)) ?_
  refine k_iload_n (i := 1) h (ddX8_knock (58, .iload_n 1, 1) (List.mem_of_getElem? (i := 29) rfl)) rfl ?_
  refine k_callV h hl (aX4_digit l) (ci := 4) (C := RX4) (T := TX4) (N := 14) rfl ⟨rfl, rfl⟩ (n := 2) (by decide +kernel) (q_gV gw337 gw106 gw107 gw71 gw104) ⟨by decide, by decide⟩ (ddX8_knock (59, .invokevirtual 148, 3) (List.mem_of_getElem? (i := 30) rfl)) ?_
  exact k_iret h hQ (ddX8_knock (62, .ireturn, 1) (List.mem_of_getElem? (i := 31) rfl))
theorem sX8_knock_21 {l : Launch} {X : q_CX} (hl : X.2.1 = l) (hQ : q_QM X) (h : q_OK X yX8_knock cX8_knock 3 (some .int) rmX8_knock (Cond.code yX8_knock cX8_knock 3 (some .int) :: q_G)) : q_SK X 3 21 (BX8_knock_21) := by
  refine k_ldc (v := (-1000000002)) h (ddX8_knock (21, .ldc 82, 2) (List.mem_of_getElem? (i := 11) rfl)) (List.mem_cons_of_mem _ gw140) ?_
  exact k_iret h hQ (ddX8_knock (23, .ireturn, 1) (List.mem_of_getElem? (i := 12) rfl))
theorem sX8_knock_11 {l : Launch} {X : q_CX} (hl : X.2.1 = l) (hQ : q_QM X) (h : q_OK X yX8_knock cX8_knock 3 (some .int) rmX8_knock (Cond.code yX8_knock cX8_knock 3 (some .int) :: q_G)) : q_SK X 3 11 (BX8_knock_11) := by
  refine k_iload_n (i := 2) h (ddX8_knock (11, .iload_n 2, 1) (List.mem_of_getElem? (i := 6) rfl)) rfl ?_
  refine k_iconst (v := 0) h (ddX8_knock (12, .iconst 0, 1) (List.mem_of_getElem? (i := 7) rfl)) (by decide) ?_
  refine k_bipush (v := 11) h (ddX8_knock (13, .bipush 11, 2) (List.mem_of_getElem? (i := 8) rfl)) (by decide) ?_
  refine k_callS h hl (aX8_inside l) ⟨rfl, rfl⟩ (n := 3) (by decide +kernel) (q_gS gw139 gw138 gw91 gw137) ⟨by decide, by decide⟩ (ddX8_knock (15, .invokestatic 78, 3) (List.mem_of_getElem? (i := 9) rfl)) ?_
  refine k_ifne h (ddX8_knock (18, .ifCond .ne 6, 3) (List.mem_of_getElem? (i := 10) rfl)) (tgt := 24) (by decide) ?_ ?_
  · exact sX8_knock_24 hl hQ h
  · exact sX8_knock_21 hl hQ h
theorem sX8_knock_8 {l : Launch} {X : q_CX} (hl : X.2.1 = l) (hQ : q_QM X) (h : q_OK X yX8_knock cX8_knock 3 (some .int) rmX8_knock (Cond.code yX8_knock cX8_knock 3 (some .int) :: q_G)) : q_SK X 3 8 (BX8_knock_8) := by
  refine k_ldc (v := (-1000000001)) h (ddX8_knock (8, .ldc 147, 2) (List.mem_of_getElem? (i := 4) rfl)) (List.mem_cons_of_mem _ gw336) ?_
  exact k_iret h hQ (ddX8_knock (10, .ireturn, 1) (List.mem_of_getElem? (i := 5) rfl))
theorem sX8_knock_0 {l : Launch} {X : q_CX} (hl : X.2.1 = l) (hQ : q_QM X) (h : q_OK X yX8_knock cX8_knock 3 (some .int) rmX8_knock (Cond.code yX8_knock cX8_knock 3 (some .int) :: q_G)) : q_SK X 3 0 (BX8_knock_0) := by
  refine k_aload_n (i := 0) h (ddX8_knock (0, .aload_n 0, 1) (List.mem_of_getElem? (i := 0) rfl)) rfl ?_
  refine k_iload_n (i := 1) h (ddX8_knock (1, .iload_n 1, 1) (List.mem_of_getElem? (i := 1) rfl)) rfl ?_
  refine k_callV h hl (aX8_isTurning l) (ci := 8) (C := RX8) (T := TX8) (N := 11) rfl ⟨rfl, rfl⟩ (n := 1) (by decide +kernel) (q_gV gw333 gw334 gw335 gw91 gw332) ⟨by decide, by decide⟩ (ddX8_knock (2, .invokevirtual 143, 3) (List.mem_of_getElem? (i := 2) rfl)) ?_
  refine k_ifne h (ddX8_knock (5, .ifCond .ne 6, 3) (List.mem_of_getElem? (i := 3) rfl)) (tgt := 11) (by decide) ?_ ?_
  · exact sX8_knock_11 hl hQ h
  · exact sX8_knock_8 hl hQ h
theorem aX8_knock (l : Launch) (as : List Value) (sh : q_Sh) (m : q_Mm) (R : q_KR) (hw : wX8_knock as sh m R) : q_AM l yX8_knock (Cond.code yX8_knock cX8_knock 3 (some .int) :: q_G) rmX8_knock as sh m R := by
  refine q_met (code := TX8_knock) (by decide) (fun X hl hQ _ h pc => ?_) hw.1 hw.2
  unfold TX8_knock
  exact k_at (sX8_knock_0 hl hQ h) (k_no)
/-! TumblingRock$Rock.shove(II)I -/
abbrev dlX4_shove : List (Nat × (Instr × Nat)) := [(0, .aload_n 0, 1), (1, .getfield 27, 3), (4, .iload_n 1, 1), (5, .iconst 3, 1), (6, .imul, 1), (7, .iload_n 2, 1), (8, .iadd, 1), (9, .invokestatic 90, 3), (12, .ireturn, 1)]
theorem ddX4_shove : ∀ q ∈ dlX4_shove, decode cX4_shove q.1 = .ok q.2 := by decide +kernel
theorem sX4_shove_0 {l : Launch} {X : q_CX} (hl : X.2.1 = l) (hQ : q_QM X) (h : q_OK X yX4_shove cX4_shove 3 (some .int) rmX4_shove (Cond.code yX4_shove cX4_shove 3 (some .int) :: q_G)) : q_SK X 3 0 (BX4_shove_0) := by
  refine k_aload_n (i := 0) h (ddX4_shove (0, .aload_n 0, 1) (List.mem_of_getElem? (i := 0) rfl)) rfl ?_
  refine k_getf (ci := 4) (j := 11) (C := RX4) (T := TX4) (N := 14) h rfl (fun w hw => List.mem_cons_of_mem _ (q_inX4 w hw)) (by decide) (List.mem_cons_of_mem _ gw78) (ddX4_shove (1, .getfield 27, 3) (List.mem_of_getElem? (i := 1) rfl)) ?_
  refine k_iload_n (i := 1) h (ddX4_shove (4, .iload_n 1, 1) (List.mem_of_getElem? (i := 2) rfl)) rfl ?_
  refine k_iconst (v := 3) h (ddX4_shove (5, .iconst 3, 1) (List.mem_of_getElem? (i := 3) rfl)) (by decide) ?_
  refine k_imul h (ddX4_shove (6, .imul, 1) (List.mem_of_getElem? (i := 4) rfl)) ?_
  refine k_iload_n (i := 2) h (ddX4_shove (7, .iload_n 2, 1) (List.mem_of_getElem? (i := 5) rfl)) rfl ?_
  refine k_iadd h (ddX4_shove (8, .iadd, 1) (List.mem_of_getElem? (i := 6) rfl)) ?_
  refine k_callN h hl (aX8_at l) ⟨rfl, rfl⟩ (n := 2) (by decide +kernel) (q_gN gw98) (by decide +kernel) (List.mem_cons_of_mem _ gw91) (List.mem_cons_of_mem _ gw99) ⟨by decide, by decide⟩ (ddX4_shove (9, .invokestatic 90, 3) (List.mem_of_getElem? (i := 7) rfl)) ?_
  exact k_iret h hQ (ddX4_shove (12, .ireturn, 1) (List.mem_of_getElem? (i := 8) rfl))
theorem aX4_shove (l : Launch) (as : List Value) (sh : q_Sh) (m : q_Mm) (R : q_KR) (hw : wX4_shove as sh m R) : q_AM l yX4_shove (Cond.code yX4_shove cX4_shove 3 (some .int) :: q_G) rmX4_shove as sh m R := by
  refine q_met (code := TX4_shove) (by decide) (fun X hl hQ _ h pc => ?_) hw.1 hw.2
  unfold TX4_shove
  exact k_at (sX4_shove_0 hl hQ h) (k_no)
/-! TumblingRock$Rock.pushed(II)I -/
abbrev dlX4_pushed : List (Nat × (Instr × Nat)) := [(0, .aload_n 0, 1), (1, .iload_n 1, 1), (2, .aload_n 0, 1), (3, .iload_n 2, 1), (4, .iconst 0, 1), (5, .invokevirtual 101, 3), (8, .aload_n 0, 1), (9, .iload_n 2, 1), (10, .iconst 1, 1), (11, .invokevirtual 101, 3), (14, .aload_n 0, 1), (15, .iload_n 2, 1), (16, .iconst 2, 1), (17, .invokevirtual 101, 3), (20, .invokevirtual 79, 3), (23, .ireturn, 1)]
theorem ddX4_pushed : ∀ q ∈ dlX4_pushed, decode cX4_pushed q.1 = .ok q.2 := by decide +kernel
theorem sX4_pushed_0 {l : Launch} {X : q_CX} (hl : X.2.1 = l) (hQ : q_QM X) (h : q_OK X yX4_pushed cX4_pushed 3 (some .int) rmX4_pushed (Cond.code yX4_pushed cX4_pushed 3 (some .int) :: q_G)) : q_SK X 3 0 (BX4_pushed_0) := by
  refine k_aload_n (i := 0) h (ddX4_pushed (0, .aload_n 0, 1) (List.mem_of_getElem? (i := 0) rfl)) rfl ?_
  refine k_iload_n (i := 1) h (ddX4_pushed (1, .iload_n 1, 1) (List.mem_of_getElem? (i := 1) rfl)) rfl ?_
  refine k_aload_n (i := 0) h (ddX4_pushed (2, .aload_n 0, 1) (List.mem_of_getElem? (i := 2) rfl)) rfl ?_
  refine k_iload_n (i := 2) h (ddX4_pushed (3, .iload_n 2, 1) (List.mem_of_getElem? (i := 3) rfl)) rfl ?_
  refine k_iconst (v := 0) h (ddX4_pushed (4, .iconst 0, 1) (List.mem_of_getElem? (i := 4) rfl)) (by decide) ?_
  refine k_callV h hl (aX4_shove l) (ci := 4) (C := RX4) (T := TX4) (N := 14) rfl ⟨rfl, rfl⟩ (n := 2) (by decide +kernel) (q_gV gw385 gw386 gw387 gw71 gw384) ⟨by decide, by decide⟩ (ddX4_pushed (5, .invokevirtual 101, 3) (List.mem_of_getElem? (i := 5) rfl)) ?_
  refine k_aload_n (i := 0) h (ddX4_pushed (8, .aload_n 0, 1) (List.mem_of_getElem? (i := 6) rfl)) rfl ?_
  refine k_iload_n (i := 2) h (ddX4_pushed (9, .iload_n 2, 1) (List.mem_of_getElem? (i := 7) rfl)) rfl ?_
  refine k_iconst (v := 1) h (ddX4_pushed (10, .iconst 1, 1) (List.mem_of_getElem? (i := 8) rfl)) (by decide) ?_
  refine k_callV h hl (aX4_shove l) (ci := 4) (C := RX4) (T := TX4) (N := 14) rfl ⟨rfl, rfl⟩ (n := 2) (by decide +kernel) (q_gV gw385 gw386 gw387 gw71 gw384) ⟨by decide, by decide⟩ (ddX4_pushed (11, .invokevirtual 101, 3) (List.mem_of_getElem? (i := 9) rfl)) ?_
  refine k_aload_n (i := 0) h (ddX4_pushed (14, .aload_n 0, 1) (List.mem_of_getElem? (i := 10) rfl)) rfl ?_
  refine k_iload_n (i := 2) h (ddX4_pushed (15, .iload_n 2, 1) (List.mem_of_getElem? (i := 11) rfl)) rfl ?_
  refine k_iconst (v := 2) h (ddX4_pushed (16, .iconst 2, 1) (List.mem_of_getElem? (i := 12) rfl)) (by decide) ?_
  refine k_callV h hl (aX4_shove l) (ci := 4) (C := RX4) (T := TX4) (N := 14) rfl ⟨rfl, rfl⟩ (n := 2) (by decide +kernel) (q_gV gw385 gw386 gw387 gw71 gw384) ⟨by decide, by decide⟩ (ddX4_pushed (17, .invokevirtual 101, 3) (List.mem_of_getElem? (i := 13) rfl)) ?_
  refine k_callV h hl (aX4_moved l) (ci := 4) (C := RX4) (T := TX4) (N := 14) rfl ⟨rfl, rfl⟩ (n := 4) (by decide +kernel) (q_gV gw125 gw126 gw127 gw71 gw124) ⟨by decide, by decide⟩ (ddX4_pushed (20, .invokevirtual 79, 3) (List.mem_of_getElem? (i := 14) rfl)) ?_
  exact k_iret h hQ (ddX4_pushed (23, .ireturn, 1) (List.mem_of_getElem? (i := 15) rfl))
theorem aX4_pushed (l : Launch) (as : List Value) (sh : q_Sh) (m : q_Mm) (R : q_KR) (hw : wX4_pushed as sh m R) : q_AM l yX4_pushed (Cond.code yX4_pushed cX4_pushed 3 (some .int) :: q_G) rmX4_pushed as sh m R := by
  refine q_met (code := TX4_pushed) (by decide) (fun X hl hQ _ h pc => ?_) hw.1 hw.2
  unfold TX4_pushed
  exact k_at (sX4_pushed_0 hl hQ h) (k_no)
/-! TumblingRock$Rock.shiftedBy(I)I -/
abbrev dlX4_shiftedBy : List (Nat × (Instr × Nat)) := [(0, .iconst 0, 1), (1, .istore_n 2, 1), (2, .iconst 0, 1), (3, .istore_n 3, 1), (4, .iload_n 3, 1), (5, .aload_n 0, 1), (6, .getfield 42, 3), (9, .if_icmp .ge 29, 3), (12, .aload_n 0, 1), (13, .iload_n 1, 1), (14, .iload_n 3, 1), (15, .invokevirtual 101, 3), (18, .aload_n 0, 1), (19, .iload_n 3, 1), (20, .invokevirtual 59, 3), (23, .invokestatic 83, 3), (26, .ifCond .eq 6, 3), (29, .iinc 2 1, 3), (32, .iinc 3 1, 3), (35, .goto (-31), 3), (38, .iload_n 2, 1), (39, .ireturn, 1)]
theorem ddX4_shiftedBy : ∀ q ∈ dlX4_shiftedBy, decode cX4_shiftedBy q.1 = .ok q.2 := by decide +kernel
theorem sX4_shiftedBy_0 {l : Launch} {X : q_CX} (hl : X.2.1 = l) (hQ : q_QM X) (h : q_OK X yX4_shiftedBy cX4_shiftedBy 4 (some .int) rmX4_shiftedBy (Cond.code yX4_shiftedBy cX4_shiftedBy 4 (some .int) :: q_G)) : q_SK X 4 0 (BX4_shiftedBy_0) := by
  refine k_iconst (v := 0) h (ddX4_shiftedBy (0, .iconst 0, 1) (List.mem_of_getElem? (i := 0) rfl)) (by decide) ?_
  refine k_istore_n (i := 2) h (ddX4_shiftedBy (1, .istore_n 2, 1) (List.mem_of_getElem? (i := 1) rfl)) rfl (by decide) ?_
  refine k_iconst (v := 0) h (ddX4_shiftedBy (2, .iconst 0, 1) (List.mem_of_getElem? (i := 2) rfl)) (by decide) ?_
  refine k_istore_n (i := 3) h (ddX4_shiftedBy (3, .istore_n 3, 1) (List.mem_of_getElem? (i := 3) rfl)) rfl (by decide) ?_
  exact k_cut
theorem sX4_shiftedBy_38 {l : Launch} {X : q_CX} (hl : X.2.1 = l) (hQ : q_QM X) (h : q_OK X yX4_shiftedBy cX4_shiftedBy 4 (some .int) rmX4_shiftedBy (Cond.code yX4_shiftedBy cX4_shiftedBy 4 (some .int) :: q_G)) : q_SK X 4 38 (BX4_shiftedBy_38) := by
  refine k_iload_n (i := 2) h (ddX4_shiftedBy (38, .iload_n 2, 1) (List.mem_of_getElem? (i := 20) rfl)) rfl ?_
  exact k_iret h hQ (ddX4_shiftedBy (39, .ireturn, 1) (List.mem_of_getElem? (i := 21) rfl))
theorem sX4_shiftedBy_32 {l : Launch} {X : q_CX} (hl : X.2.1 = l) (hQ : q_QM X) (h : q_OK X yX4_shiftedBy cX4_shiftedBy 4 (some .int) rmX4_shiftedBy (Cond.code yX4_shiftedBy cX4_shiftedBy 4 (some .int) :: q_G)) : q_SK X 4 32 (BX4_shiftedBy_32) := by
  refine k_iinc (d := 1) h (ddX4_shiftedBy (32, .iinc 3 1, 3) (List.mem_of_getElem? (i := 18) rfl)) (by decide) (by decide) ?_
  refine k_goto h (ddX4_shiftedBy (35, .goto (-31), 3) (List.mem_of_getElem? (i := 19) rfl)) (tgt := 4) (by decide) ?_
  exact k_cut
theorem sX4_shiftedBy_29 {l : Launch} {X : q_CX} (hl : X.2.1 = l) (hQ : q_QM X) (h : q_OK X yX4_shiftedBy cX4_shiftedBy 4 (some .int) rmX4_shiftedBy (Cond.code yX4_shiftedBy cX4_shiftedBy 4 (some .int) :: q_G)) : q_SK X 4 29 (BX4_shiftedBy_29) := by
  refine k_iinc (d := 1) h (ddX4_shiftedBy (29, .iinc 2 1, 3) (List.mem_of_getElem? (i := 17) rfl)) (by decide) (by decide) ?_
  exact sX4_shiftedBy_32 hl hQ h
theorem sX4_shiftedBy_12 {l : Launch} {X : q_CX} (hl : X.2.1 = l) (hQ : q_QM X) (h : q_OK X yX4_shiftedBy cX4_shiftedBy 4 (some .int) rmX4_shiftedBy (Cond.code yX4_shiftedBy cX4_shiftedBy 4 (some .int) :: q_G)) : q_SK X 4 12 (BX4_shiftedBy_12) := by
  refine k_aload_n (i := 0) h (ddX4_shiftedBy (12, .aload_n 0, 1) (List.mem_of_getElem? (i := 8) rfl)) rfl ?_
  refine k_iload_n (i := 1) h (ddX4_shiftedBy (13, .iload_n 1, 1) (List.mem_of_getElem? (i := 9) rfl)) rfl ?_
  refine k_iload_n (i := 3) h (ddX4_shiftedBy (14, .iload_n 3, 1) (List.mem_of_getElem? (i := 10) rfl)) rfl ?_
  refine k_callV h hl (aX4_shove l) (ci := 4) (C := RX4) (T := TX4) (N := 14) rfl ⟨rfl, rfl⟩ (n := 2) (by decide +kernel) (q_gV gw385 gw386 gw387 gw71 gw384) ⟨by decide, by decide⟩ (ddX4_shiftedBy (15, .invokevirtual 101, 3) (List.mem_of_getElem? (i := 11) rfl)) ?_
  refine k_aload_n (i := 0) h (ddX4_shiftedBy (18, .aload_n 0, 1) (List.mem_of_getElem? (i := 12) rfl)) rfl ?_
  refine k_iload_n (i := 3) h (ddX4_shiftedBy (19, .iload_n 3, 1) (List.mem_of_getElem? (i := 13) rfl)) rfl ?_
  refine k_callV h hl (aX4_size l) (ci := 4) (C := RX4) (T := TX4) (N := 14) rfl ⟨rfl, rfl⟩ (n := 1) (by decide +kernel) (q_gV gw226 gw227 gw228 gw71 gw225) ⟨by decide, by decide⟩ (ddX4_shiftedBy (20, .invokevirtual 59, 3) (List.mem_of_getElem? (i := 14) rfl)) ?_
  refine k_callN h hl (aX8_leftOver l) ⟨rfl, rfl⟩ (n := 2) (by decide +kernel) (q_gN gw90) (by decide +kernel) (List.mem_cons_of_mem _ gw91) (List.mem_cons_of_mem _ gw92) ⟨by decide, by decide⟩ (ddX4_shiftedBy (23, .invokestatic 83, 3) (List.mem_of_getElem? (i := 15) rfl)) ?_
  refine k_ifeq h (ddX4_shiftedBy (26, .ifCond .eq 6, 3) (List.mem_of_getElem? (i := 16) rfl)) (tgt := 32) (by decide) ?_ ?_
  · exact sX4_shiftedBy_32 hl hQ h
  · exact sX4_shiftedBy_29 hl hQ h
theorem sX4_shiftedBy_4 {l : Launch} {X : q_CX} (hl : X.2.1 = l) (hQ : q_QM X) (h : q_OK X yX4_shiftedBy cX4_shiftedBy 4 (some .int) rmX4_shiftedBy (Cond.code yX4_shiftedBy cX4_shiftedBy 4 (some .int) :: q_G)) : q_SK X 4 4 (BX4_shiftedBy_4) := by
  refine k_iload_n (i := 3) h (ddX4_shiftedBy (4, .iload_n 3, 1) (List.mem_of_getElem? (i := 4) rfl)) rfl ?_
  refine k_aload_n (i := 0) h (ddX4_shiftedBy (5, .aload_n 0, 1) (List.mem_of_getElem? (i := 5) rfl)) rfl ?_
  refine k_getf (ci := 4) (j := 0) (C := RX4) (T := TX4) (N := 14) h rfl (fun w hw => List.mem_cons_of_mem _ (q_inX4 w hw)) (by decide) (List.mem_cons_of_mem _ gw81) (ddX4_shiftedBy (6, .getfield 42, 3) (List.mem_of_getElem? (i := 6) rfl)) ?_
  refine k_icge h (ddX4_shiftedBy (9, .if_icmp .ge 29, 3) (List.mem_of_getElem? (i := 7) rfl)) (tgt := 38) (by decide) ?_ ?_
  · exact sX4_shiftedBy_38 hl hQ h
  · exact sX4_shiftedBy_12 hl hQ h
theorem aX4_shiftedBy (l : Launch) (as : List Value) (sh : q_Sh) (m : q_Mm) (R : q_KR) (hw : wX4_shiftedBy as sh m R) : q_AM l yX4_shiftedBy (Cond.code yX4_shiftedBy cX4_shiftedBy 4 (some .int) :: q_G) rmX4_shiftedBy as sh m R := by
  refine q_met (code := TX4_shiftedBy) (by decide) (fun X hl hQ _ h pc => ?_) hw.1 hw.2
  unfold TX4_shiftedBy
  exact k_at (sX4_shiftedBy_0 hl hQ h) (k_at (sX4_shiftedBy_4 hl hQ h) (k_no))
/-! TumblingRock.push(I)I -/
abbrev dlX8_push : List (Nat × (Instr × Nat)) := [(0, .iload_n 1, 1), (1, .iconst 0, 1), (2, .aload_n 0, 1), (3, .getfield 71, 3), (6, .getfield 117, 3), (9, .iconst 1, 1), (10, .isub, 1), (11, .invokestatic 78, 3), (14, .ifCond .ne 6, 3), (17, .ldc 147, 2), (19, .ireturn, 1), (20, .aload_n 0, 1), (21, .getfield 28, 3), (24, .aload_n 0, 1), (25, .getfield 71, 3), (28, .aload_n 0, 1), (29, .getfield 28, 3), (32, .getfield 155, 3), (35, .iload_n 1, 1), (36, .invokevirtual 195, 3), (39, .putfield 155, 3), (42, .aload_n 0, 1), (43, .getfield 71, 3), (46, .iload_n 1, 1), (47, .invokevirtual 198, 3), (50, .ireturn, 1)]
theorem ddX8_push : ∀ q ∈ dlX8_push, decode cX8_push q.1 = .ok q.2 := by decide +kernel
theorem sX8_push_20 {l : Launch} {X : q_CX} (hl : X.2.1 = l) (hQ : q_QM X) (h : q_OK X yX8_push cX8_push 2 (some .int) rmX8_push (Cond.code yX8_push cX8_push 2 (some .int) :: q_G)) : q_SK X 2 20 (BX8_push_20) := by
  refine k_aload_n (i := 0) h (ddX8_push (20, .aload_n 0, 1) (List.mem_of_getElem? (i := 11) rfl)) rfl ?_
  refine k_getf (ci := 8) (j := 2) (C := RX8) (T := TX8) (N := 11) h rfl (fun w hw => List.mem_cons_of_mem _ (q_inX8 w hw)) (by decide) (List.mem_cons_of_mem _ gw28) (ddX8_push (21, .getfield 28, 3) (List.mem_of_getElem? (i := 12) rfl)) ?_
  refine k_aload_n (i := 0) h (ddX8_push (24, .aload_n 0, 1) (List.mem_of_getElem? (i := 13) rfl)) rfl ?_
  refine k_getf (ci := 8) (j := 9) (C := RX8) (T := TX8) (N := 11) h rfl (fun w hw => List.mem_cons_of_mem _ (q_inX8 w hw)) (by decide) (List.mem_cons_of_mem _ gw135) (ddX8_push (25, .getfield 71, 3) (List.mem_of_getElem? (i := 14) rfl)) ?_
  refine k_aload_n (i := 0) h (ddX8_push (28, .aload_n 0, 1) (List.mem_of_getElem? (i := 15) rfl)) rfl ?_
  refine k_getf (ci := 8) (j := 2) (C := RX8) (T := TX8) (N := 11) h rfl (fun w hw => List.mem_cons_of_mem _ (q_inX8 w hw)) (by decide) (List.mem_cons_of_mem _ gw28) (ddX8_push (29, .getfield 28, 3) (List.mem_of_getElem? (i := 16) rfl)) ?_
  refine k_getf (ci := 1) (j := 0) (C := RX1) (T := TX1) (N := 5) h rfl (fun w hw => List.mem_cons_of_mem _ (q_inX1 w hw)) (by decide) (List.mem_cons_of_mem _ gw322) (ddX8_push (32, .getfield 155, 3) (List.mem_of_getElem? (i := 17) rfl)) ?_
  refine k_iload_n (i := 1) h (ddX8_push (35, .iload_n 1, 1) (List.mem_of_getElem? (i := 18) rfl)) rfl ?_
  refine k_callV h hl (aX4_pushed l) (ci := 4) (C := RX4) (T := TX4) (N := 14) rfl ⟨rfl, rfl⟩ (n := 2) (by decide +kernel) (q_gV gw389 gw390 gw391 gw71 gw388) ⟨by decide, by decide⟩ (ddX8_push (36, .invokevirtual 195, 3) (List.mem_of_getElem? (i := 19) rfl)) ?_
  refine k_putf (ci := 1) (j := 0) (C := RX1) (T := TX1) (N := 5) h rfl (fun w hw => List.mem_cons_of_mem _ (q_inX1 w hw)) (by decide) (List.mem_cons_of_mem _ gw322) tyX1 tyX1_ok nmX1 (by decide +kernel) (by decide +kernel) (ddX8_push (39, .putfield 155, 3) (List.mem_of_getElem? (i := 20) rfl)) ?_
  refine k_aload_n (i := 0) h (ddX8_push (42, .aload_n 0, 1) (List.mem_of_getElem? (i := 21) rfl)) rfl ?_
  refine k_getf (ci := 8) (j := 9) (C := RX8) (T := TX8) (N := 11) h rfl (fun w hw => List.mem_cons_of_mem _ (q_inX8 w hw)) (by decide) (List.mem_cons_of_mem _ gw135) (ddX8_push (43, .getfield 71, 3) (List.mem_of_getElem? (i := 22) rfl)) ?_
  refine k_iload_n (i := 1) h (ddX8_push (46, .iload_n 1, 1) (List.mem_of_getElem? (i := 23) rfl)) rfl ?_
  refine k_callV h hl (aX4_shiftedBy l) (ci := 4) (C := RX4) (T := TX4) (N := 14) rfl ⟨rfl, rfl⟩ (n := 1) (by decide +kernel) (q_gV gw393 gw394 gw395 gw71 gw392) ⟨by decide, by decide⟩ (ddX8_push (47, .invokevirtual 198, 3) (List.mem_of_getElem? (i := 24) rfl)) ?_
  exact k_iret h hQ (ddX8_push (50, .ireturn, 1) (List.mem_of_getElem? (i := 25) rfl))
theorem sX8_push_17 {l : Launch} {X : q_CX} (hl : X.2.1 = l) (hQ : q_QM X) (h : q_OK X yX8_push cX8_push 2 (some .int) rmX8_push (Cond.code yX8_push cX8_push 2 (some .int) :: q_G)) : q_SK X 2 17 (BX8_push_17) := by
  refine k_ldc (v := (-1000000001)) h (ddX8_push (17, .ldc 147, 2) (List.mem_of_getElem? (i := 9) rfl)) (List.mem_cons_of_mem _ gw336) ?_
  exact k_iret h hQ (ddX8_push (19, .ireturn, 1) (List.mem_of_getElem? (i := 10) rfl))
theorem sX8_push_0 {l : Launch} {X : q_CX} (hl : X.2.1 = l) (hQ : q_QM X) (h : q_OK X yX8_push cX8_push 2 (some .int) rmX8_push (Cond.code yX8_push cX8_push 2 (some .int) :: q_G)) : q_SK X 2 0 (BX8_push_0) := by
  refine k_iload_n (i := 1) h (ddX8_push (0, .iload_n 1, 1) (List.mem_of_getElem? (i := 0) rfl)) rfl ?_
  refine k_iconst (v := 0) h (ddX8_push (1, .iconst 0, 1) (List.mem_of_getElem? (i := 1) rfl)) (by decide) ?_
  refine k_aload_n (i := 0) h (ddX8_push (2, .aload_n 0, 1) (List.mem_of_getElem? (i := 2) rfl)) rfl ?_
  refine k_getf (ci := 8) (j := 9) (C := RX8) (T := TX8) (N := 11) h rfl (fun w hw => List.mem_cons_of_mem _ (q_inX8 w hw)) (by decide) (List.mem_cons_of_mem _ gw135) (ddX8_push (3, .getfield 71, 3) (List.mem_of_getElem? (i := 3) rfl)) ?_
  refine k_getf (ci := 4) (j := 3) (C := RX4) (T := TX4) (N := 14) h rfl (fun w hw => List.mem_cons_of_mem _ (q_inX4 w hw)) (by decide) (List.mem_cons_of_mem _ gw316) (ddX8_push (6, .getfield 117, 3) (List.mem_of_getElem? (i := 4) rfl)) ?_
  refine k_iconst (v := 1) h (ddX8_push (9, .iconst 1, 1) (List.mem_of_getElem? (i := 5) rfl)) (by decide) ?_
  refine k_isub h (ddX8_push (10, .isub, 1) (List.mem_of_getElem? (i := 6) rfl)) ?_
  refine k_callS h hl (aX8_inside l) ⟨rfl, rfl⟩ (n := 3) (by decide +kernel) (q_gS gw139 gw138 gw91 gw137) ⟨by decide, by decide⟩ (ddX8_push (11, .invokestatic 78, 3) (List.mem_of_getElem? (i := 7) rfl)) ?_
  refine k_ifne h (ddX8_push (14, .ifCond .ne 6, 3) (List.mem_of_getElem? (i := 8) rfl)) (tgt := 20) (by decide) ?_ ?_
  · exact sX8_push_20 hl hQ h
  · exact sX8_push_17 hl hQ h
theorem aX8_push (l : Launch) (as : List Value) (sh : q_Sh) (m : q_Mm) (R : q_KR) (hw : wX8_push as sh m R) : q_AM l yX8_push (Cond.code yX8_push cX8_push 2 (some .int) :: q_G) rmX8_push as sh m R := by
  refine q_met (code := TX8_push) (by decide) (fun X hl hQ _ h pc => ?_) hw.1 hw.2
  unfold TX8_push
  exact k_at (sX8_push_0 hl hQ h) (k_no)
/-! TumblingRock$Farm.draw(I)I -/
abbrev dlX1_draw : List (Nat × (Instr × Nat)) := [(0, .aload_n 0, 1), (1, .aload_n 0, 1), (2, .getfield 24, 3), (5, .i2l, 1), (6, .ldc2_w 37, 3), (9, .lmul, 1), (10, .ldc2_w 39, 3), (13, .ladd, 1), (14, .ldc2_w 41, 3), (17, .land, 1), (18, .l2i, 1), (19, .putfield 24, 3), (22, .aload_n 0, 1), (23, .getfield 24, 3), (26, .ldc 43, 2), (28, .idiv, 1), (29, .iload_n 1, 1), (30, .invokestatic 44, 3), (33, .ireturn, 1)]
theorem ddX1_draw : ∀ q ∈ dlX1_draw, decode cX1_draw q.1 = .ok q.2 := by decide +kernel
theorem sX1_draw_0 {l : Launch} {X : q_CX} (hl : X.2.1 = l) (hQ : q_QM X) (h : q_OK X yX1_draw cX1_draw 2 (some .int) rmX1_draw (Cond.code yX1_draw cX1_draw 2 (some .int) :: q_G)) : q_SK X 2 0 (BX1_draw_0) := by
  refine k_aload_n (i := 0) h (ddX1_draw (0, .aload_n 0, 1) (List.mem_of_getElem? (i := 0) rfl)) rfl ?_
  refine k_aload_n (i := 0) h (ddX1_draw (1, .aload_n 0, 1) (List.mem_of_getElem? (i := 1) rfl)) rfl ?_
  refine k_getf (ci := 1) (j := 4) (C := RX1) (T := TX1) (N := 5) h rfl (fun w hw => List.mem_cons_of_mem _ (q_inX1 w hw)) (by decide) (List.mem_cons_of_mem _ gw396) (ddX1_draw (2, .getfield 24, 3) (List.mem_of_getElem? (i := 2) rfl)) ?_
  refine k_i2l h (ddX1_draw (5, .i2l, 1) (List.mem_of_getElem? (i := 3) rfl)) ?_
  refine k_ldc2 (v := 1103515245) h (ddX1_draw (6, .ldc2_w 37, 3) (List.mem_of_getElem? (i := 4) rfl)) (List.mem_cons_of_mem _ gw397) ?_
  refine k_lmul h (ddX1_draw (9, .lmul, 1) (List.mem_of_getElem? (i := 5) rfl)) ?_
  refine k_ldc2 (v := 12345) h (ddX1_draw (10, .ldc2_w 39, 3) (List.mem_of_getElem? (i := 6) rfl)) (List.mem_cons_of_mem _ gw398) ?_
  refine k_ladd h (ddX1_draw (13, .ladd, 1) (List.mem_of_getElem? (i := 7) rfl)) ?_
  refine k_ldc2 (v := 2147483647) h (ddX1_draw (14, .ldc2_w 41, 3) (List.mem_of_getElem? (i := 8) rfl)) (List.mem_cons_of_mem _ gw399) ?_
  refine k_land h (ddX1_draw (17, .land, 1) (List.mem_of_getElem? (i := 9) rfl)) ?_
  refine k_l2i h (ddX1_draw (18, .l2i, 1) (List.mem_of_getElem? (i := 10) rfl)) ?_
  refine k_putf (ci := 1) (j := 4) (C := RX1) (T := TX1) (N := 5) h rfl (fun w hw => List.mem_cons_of_mem _ (q_inX1 w hw)) (by decide) (List.mem_cons_of_mem _ gw396) tyX1 tyX1_ok nmX1 (by decide +kernel) (by decide +kernel) (ddX1_draw (19, .putfield 24, 3) (List.mem_of_getElem? (i := 11) rfl)) ?_
  refine k_aload_n (i := 0) h (ddX1_draw (22, .aload_n 0, 1) (List.mem_of_getElem? (i := 12) rfl)) rfl ?_
  refine k_getf (ci := 1) (j := 4) (C := RX1) (T := TX1) (N := 5) h rfl (fun w hw => List.mem_cons_of_mem _ (q_inX1 w hw)) (by decide) (List.mem_cons_of_mem _ gw396) (ddX1_draw (23, .getfield 24, 3) (List.mem_of_getElem? (i := 13) rfl)) ?_
  refine k_ldc (v := 65536) h (ddX1_draw (26, .ldc 43, 2) (List.mem_of_getElem? (i := 14) rfl)) (List.mem_cons_of_mem _ gw400) ?_
  refine k_idiv h (ddX1_draw (28, .idiv, 1) (List.mem_of_getElem? (i := 15) rfl)) ?_
  refine k_iload_n (i := 1) h (ddX1_draw (29, .iload_n 1, 1) (List.mem_of_getElem? (i := 16) rfl)) rfl ?_
  refine k_callN h hl (aX8_leftOver l) ⟨rfl, rfl⟩ (n := 2) (by decide +kernel) (q_gN gw90) (by decide +kernel) (List.mem_cons_of_mem _ gw91) (List.mem_cons_of_mem _ gw92) ⟨by decide, by decide⟩ (ddX1_draw (30, .invokestatic 44, 3) (List.mem_of_getElem? (i := 17) rfl)) ?_
  exact k_iret h hQ (ddX1_draw (33, .ireturn, 1) (List.mem_of_getElem? (i := 18) rfl))
theorem aX1_draw (l : Launch) (as : List Value) (sh : q_Sh) (m : q_Mm) (R : q_KR) (hw : wX1_draw as sh m R) : q_AM l yX1_draw (Cond.code yX1_draw cX1_draw 2 (some .int) :: q_G) rmX1_draw as sh m R := by
  refine q_met (code := TX1_draw) (by decide) (fun X hl hQ _ h pc => ?_) hw.1 hw.2
  unfold TX1_draw
  exact k_at (sX1_draw_0 hl hQ h) (k_no)
/-! java/lang/Integer.bitCount(I)I -/
abbrev dlJ6_bitCount_0f7a4 : List (Nat × (Instr × Nat)) := [(0, .iload_n 0, 1), (1, .iload_n 0, 1), (2, .iconst 1, 1), (3, .iushr, 1), (4, .ldc_w 265, 3), (7, .iand, 1), (8, .isub, 1), (9, .istore_n 0, 1), (10, .iload_n 0, 1), (11, .ldc_w 266, 3), (14, .iand, 1), (15, .iload_n 0, 1), (16, .iconst 2, 1), (17, .iushr, 1), (18, .ldc_w 266, 3), (21, .iand, 1), (22, .iadd, 1), (23, .istore_n 0, 1), (24, .iload_n 0, 1), (25, .iload_n 0, 1), (26, .iconst 4, 1), (27, .iushr, 1), (28, .iadd, 1), (29, .ldc_w 267, 3), (32, .iand, 1), (33, .istore_n 0, 1), (34, .iload_n 0, 1), (35, .iload_n 0, 1), (36, .bipush 8, 2), (38, .iushr, 1), (39, .iadd, 1), (40, .istore_n 0, 1), (41, .iload_n 0, 1), (42, .iload_n 0, 1), (43, .bipush 16, 2), (45, .iushr, 1), (46, .iadd, 1), (47, .istore_n 0, 1), (48, .iload_n 0, 1), (49, .bipush 63, 2), (51, .iand, 1), (52, .ireturn, 1)]
theorem ddJ6_bitCount_0f7a4 : ∀ q ∈ dlJ6_bitCount_0f7a4, decode cJ6_bitCount_0f7a4 q.1 = .ok q.2 := by decide +kernel
theorem sJ6_bitCount_0f7a4_0 {l : Launch} {X : q_CX} (hl : X.2.1 = l) (hQ : q_QM X) (h : q_OK X yJ6_bitCount_0f7a4 cJ6_bitCount_0f7a4 1 (some .int) rmJ6_bitCount_0f7a4 (Cond.code yJ6_bitCount_0f7a4 cJ6_bitCount_0f7a4 1 (some .int) :: q_G)) : q_SK X 1 0 (BJ6_bitCount_0f7a4_0) := by
  refine k_iload_n (i := 0) h (ddJ6_bitCount_0f7a4 (0, .iload_n 0, 1) (List.mem_of_getElem? (i := 0) rfl)) rfl ?_
  refine k_iload_n (i := 0) h (ddJ6_bitCount_0f7a4 (1, .iload_n 0, 1) (List.mem_of_getElem? (i := 1) rfl)) rfl ?_
  refine k_iconst (v := 1) h (ddJ6_bitCount_0f7a4 (2, .iconst 1, 1) (List.mem_of_getElem? (i := 2) rfl)) (by decide) ?_
  refine k_iushr h (ddJ6_bitCount_0f7a4 (3, .iushr, 1) (List.mem_of_getElem? (i := 3) rfl)) ?_
  refine k_ldcw (v := 1431655765) h (ddJ6_bitCount_0f7a4 (4, .ldc_w 265, 3) (List.mem_of_getElem? (i := 4) rfl)) (List.mem_cons_of_mem _ gw409) ?_
  refine k_iand h (ddJ6_bitCount_0f7a4 (7, .iand, 1) (List.mem_of_getElem? (i := 5) rfl)) ?_
  refine k_isub h (ddJ6_bitCount_0f7a4 (8, .isub, 1) (List.mem_of_getElem? (i := 6) rfl)) ?_
  refine k_istore_n (i := 0) h (ddJ6_bitCount_0f7a4 (9, .istore_n 0, 1) (List.mem_of_getElem? (i := 7) rfl)) rfl (by decide) ?_
  refine k_iload_n (i := 0) h (ddJ6_bitCount_0f7a4 (10, .iload_n 0, 1) (List.mem_of_getElem? (i := 8) rfl)) rfl ?_
  refine k_ldcw (v := 858993459) h (ddJ6_bitCount_0f7a4 (11, .ldc_w 266, 3) (List.mem_of_getElem? (i := 9) rfl)) (List.mem_cons_of_mem _ gw410) ?_
  refine k_iand h (ddJ6_bitCount_0f7a4 (14, .iand, 1) (List.mem_of_getElem? (i := 10) rfl)) ?_
  refine k_iload_n (i := 0) h (ddJ6_bitCount_0f7a4 (15, .iload_n 0, 1) (List.mem_of_getElem? (i := 11) rfl)) rfl ?_
  refine k_iconst (v := 2) h (ddJ6_bitCount_0f7a4 (16, .iconst 2, 1) (List.mem_of_getElem? (i := 12) rfl)) (by decide) ?_
  refine k_iushr h (ddJ6_bitCount_0f7a4 (17, .iushr, 1) (List.mem_of_getElem? (i := 13) rfl)) ?_
  refine k_ldcw (v := 858993459) h (ddJ6_bitCount_0f7a4 (18, .ldc_w 266, 3) (List.mem_of_getElem? (i := 14) rfl)) (List.mem_cons_of_mem _ gw410) ?_
  refine k_iand h (ddJ6_bitCount_0f7a4 (21, .iand, 1) (List.mem_of_getElem? (i := 15) rfl)) ?_
  refine k_iadd h (ddJ6_bitCount_0f7a4 (22, .iadd, 1) (List.mem_of_getElem? (i := 16) rfl)) ?_
  refine k_istore_n (i := 0) h (ddJ6_bitCount_0f7a4 (23, .istore_n 0, 1) (List.mem_of_getElem? (i := 17) rfl)) rfl (by decide) ?_
  refine k_iload_n (i := 0) h (ddJ6_bitCount_0f7a4 (24, .iload_n 0, 1) (List.mem_of_getElem? (i := 18) rfl)) rfl ?_
  refine k_iload_n (i := 0) h (ddJ6_bitCount_0f7a4 (25, .iload_n 0, 1) (List.mem_of_getElem? (i := 19) rfl)) rfl ?_
  refine k_iconst (v := 4) h (ddJ6_bitCount_0f7a4 (26, .iconst 4, 1) (List.mem_of_getElem? (i := 20) rfl)) (by decide) ?_
  refine k_iushr h (ddJ6_bitCount_0f7a4 (27, .iushr, 1) (List.mem_of_getElem? (i := 21) rfl)) ?_
  refine k_iadd h (ddJ6_bitCount_0f7a4 (28, .iadd, 1) (List.mem_of_getElem? (i := 22) rfl)) ?_
  refine k_ldcw (v := 252645135) h (ddJ6_bitCount_0f7a4 (29, .ldc_w 267, 3) (List.mem_of_getElem? (i := 23) rfl)) (List.mem_cons_of_mem _ gw411) ?_
  refine k_iand h (ddJ6_bitCount_0f7a4 (32, .iand, 1) (List.mem_of_getElem? (i := 24) rfl)) ?_
  refine k_istore_n (i := 0) h (ddJ6_bitCount_0f7a4 (33, .istore_n 0, 1) (List.mem_of_getElem? (i := 25) rfl)) rfl (by decide) ?_
  refine k_iload_n (i := 0) h (ddJ6_bitCount_0f7a4 (34, .iload_n 0, 1) (List.mem_of_getElem? (i := 26) rfl)) rfl ?_
  refine k_iload_n (i := 0) h (ddJ6_bitCount_0f7a4 (35, .iload_n 0, 1) (List.mem_of_getElem? (i := 27) rfl)) rfl ?_
  refine k_bipush (v := 8) h (ddJ6_bitCount_0f7a4 (36, .bipush 8, 2) (List.mem_of_getElem? (i := 28) rfl)) (by decide) ?_
  refine k_iushr h (ddJ6_bitCount_0f7a4 (38, .iushr, 1) (List.mem_of_getElem? (i := 29) rfl)) ?_
  refine k_iadd h (ddJ6_bitCount_0f7a4 (39, .iadd, 1) (List.mem_of_getElem? (i := 30) rfl)) ?_
  refine k_istore_n (i := 0) h (ddJ6_bitCount_0f7a4 (40, .istore_n 0, 1) (List.mem_of_getElem? (i := 31) rfl)) rfl (by decide) ?_
  refine k_iload_n (i := 0) h (ddJ6_bitCount_0f7a4 (41, .iload_n 0, 1) (List.mem_of_getElem? (i := 32) rfl)) rfl ?_
  refine k_iload_n (i := 0) h (ddJ6_bitCount_0f7a4 (42, .iload_n 0, 1) (List.mem_of_getElem? (i := 33) rfl)) rfl ?_
  refine k_bipush (v := 16) h (ddJ6_bitCount_0f7a4 (43, .bipush 16, 2) (List.mem_of_getElem? (i := 34) rfl)) (by decide) ?_
  refine k_iushr h (ddJ6_bitCount_0f7a4 (45, .iushr, 1) (List.mem_of_getElem? (i := 35) rfl)) ?_
  refine k_iadd h (ddJ6_bitCount_0f7a4 (46, .iadd, 1) (List.mem_of_getElem? (i := 36) rfl)) ?_
  refine k_istore_n (i := 0) h (ddJ6_bitCount_0f7a4 (47, .istore_n 0, 1) (List.mem_of_getElem? (i := 37) rfl)) rfl (by decide) ?_
  refine k_iload_n (i := 0) h (ddJ6_bitCount_0f7a4 (48, .iload_n 0, 1) (List.mem_of_getElem? (i := 38) rfl)) rfl ?_
  refine k_bipush (v := 63) h (ddJ6_bitCount_0f7a4 (49, .bipush 63, 2) (List.mem_of_getElem? (i := 39) rfl)) (by decide) ?_
  refine k_iand h (ddJ6_bitCount_0f7a4 (51, .iand, 1) (List.mem_of_getElem? (i := 40) rfl)) ?_
  exact k_iret h hQ (ddJ6_bitCount_0f7a4 (52, .ireturn, 1) (List.mem_of_getElem? (i := 41) rfl))
theorem aJ6_bitCount_0f7a4 (l : Launch) (as : List Value) (sh : q_Sh) (m : q_Mm) (R : q_KR) (hw : wJ6_bitCount_0f7a4 as sh m R) : q_AM l yJ6_bitCount_0f7a4 (Cond.code yJ6_bitCount_0f7a4 cJ6_bitCount_0f7a4 1 (some .int) :: q_G) rmJ6_bitCount_0f7a4 as sh m R := by
  refine q_met (code := TJ6_bitCount_0f7a4) (by decide) (fun X hl hQ _ h pc => ?_) hw.1 hw.2
  unfold TJ6_bitCount_0f7a4
  exact k_at (sJ6_bitCount_0f7a4_0 hl hQ h) (k_no)
/-! TumblingRock.memberAt(II)I -/
abbrev dlX8_memberAt : List (Nat × (Instr × Nat)) := [(0, .iconst 0, 1), (1, .istore_n 2, 1), (2, .iconst 0, 1), (3, .istore_n 3, 1), (4, .iload_n 3, 1), (5, .bipush 8, 2), (7, .if_icmp .ge 30, 3), (10, .iload_n 0, 1), (11, .iload_n 3, 1), (12, .invokestatic 297, 3), (15, .ifCond .ne 6, 3), (18, .goto 13, 3), (21, .iload_n 2, 1), (22, .iload_n 1, 1), (23, .if_icmp .ne 5, 3), (26, .iload_n 3, 1), (27, .ireturn, 1), (28, .iinc 2 1, 3), (31, .iinc 3 1, 3), (34, .goto (-30), 3), (37, .iconst (-1), 1), (38, .ireturn, 1)]
theorem ddX8_memberAt : ∀ q ∈ dlX8_memberAt, decode cX8_memberAt q.1 = .ok q.2 := by decide +kernel
theorem sX8_memberAt_0 {l : Launch} {X : q_CX} (hl : X.2.1 = l) (hQ : q_QM X) (h : q_OK X yX8_memberAt cX8_memberAt 4 (some .int) rmX8_memberAt (Cond.code yX8_memberAt cX8_memberAt 4 (some .int) :: q_G)) : q_SK X 4 0 (BX8_memberAt_0) := by
  refine k_iconst (v := 0) h (ddX8_memberAt (0, .iconst 0, 1) (List.mem_of_getElem? (i := 0) rfl)) (by decide) ?_
  refine k_istore_n (i := 2) h (ddX8_memberAt (1, .istore_n 2, 1) (List.mem_of_getElem? (i := 1) rfl)) rfl (by decide) ?_
  refine k_iconst (v := 0) h (ddX8_memberAt (2, .iconst 0, 1) (List.mem_of_getElem? (i := 2) rfl)) (by decide) ?_
  refine k_istore_n (i := 3) h (ddX8_memberAt (3, .istore_n 3, 1) (List.mem_of_getElem? (i := 3) rfl)) rfl (by decide) ?_
  exact k_cut
theorem sX8_memberAt_37 {l : Launch} {X : q_CX} (hl : X.2.1 = l) (hQ : q_QM X) (h : q_OK X yX8_memberAt cX8_memberAt 4 (some .int) rmX8_memberAt (Cond.code yX8_memberAt cX8_memberAt 4 (some .int) :: q_G)) : q_SK X 4 37 (BX8_memberAt_37) := by
  refine k_iconst (v := (-1)) h (ddX8_memberAt (37, .iconst (-1), 1) (List.mem_of_getElem? (i := 20) rfl)) (by decide) ?_
  exact k_iret h hQ (ddX8_memberAt (38, .ireturn, 1) (List.mem_of_getElem? (i := 21) rfl))
theorem sX8_memberAt_31 {l : Launch} {X : q_CX} (hl : X.2.1 = l) (hQ : q_QM X) (h : q_OK X yX8_memberAt cX8_memberAt 4 (some .int) rmX8_memberAt (Cond.code yX8_memberAt cX8_memberAt 4 (some .int) :: q_G)) : q_SK X 4 31 (BX8_memberAt_31) := by
  refine k_iinc (d := 1) h (ddX8_memberAt (31, .iinc 3 1, 3) (List.mem_of_getElem? (i := 18) rfl)) (by decide) (by decide) ?_
  refine k_goto h (ddX8_memberAt (34, .goto (-30), 3) (List.mem_of_getElem? (i := 19) rfl)) (tgt := 4) (by decide) ?_
  exact k_cut
theorem sX8_memberAt_28 {l : Launch} {X : q_CX} (hl : X.2.1 = l) (hQ : q_QM X) (h : q_OK X yX8_memberAt cX8_memberAt 4 (some .int) rmX8_memberAt (Cond.code yX8_memberAt cX8_memberAt 4 (some .int) :: q_G)) : q_SK X 4 28 (BX8_memberAt_28) := by
  refine k_iinc (d := 1) h (ddX8_memberAt (28, .iinc 2 1, 3) (List.mem_of_getElem? (i := 17) rfl)) (by decide) (by decide) ?_
  exact sX8_memberAt_31 hl hQ h
theorem sX8_memberAt_26 {l : Launch} {X : q_CX} (hl : X.2.1 = l) (hQ : q_QM X) (h : q_OK X yX8_memberAt cX8_memberAt 4 (some .int) rmX8_memberAt (Cond.code yX8_memberAt cX8_memberAt 4 (some .int) :: q_G)) : q_SK X 4 26 (BX8_memberAt_26) := by
  refine k_iload_n (i := 3) h (ddX8_memberAt (26, .iload_n 3, 1) (List.mem_of_getElem? (i := 15) rfl)) rfl ?_
  exact k_iret h hQ (ddX8_memberAt (27, .ireturn, 1) (List.mem_of_getElem? (i := 16) rfl))
theorem sX8_memberAt_21 {l : Launch} {X : q_CX} (hl : X.2.1 = l) (hQ : q_QM X) (h : q_OK X yX8_memberAt cX8_memberAt 4 (some .int) rmX8_memberAt (Cond.code yX8_memberAt cX8_memberAt 4 (some .int) :: q_G)) : q_SK X 4 21 (BX8_memberAt_21) := by
  refine k_iload_n (i := 2) h (ddX8_memberAt (21, .iload_n 2, 1) (List.mem_of_getElem? (i := 12) rfl)) rfl ?_
  refine k_iload_n (i := 1) h (ddX8_memberAt (22, .iload_n 1, 1) (List.mem_of_getElem? (i := 13) rfl)) rfl ?_
  refine k_icne h (ddX8_memberAt (23, .if_icmp .ne 5, 3) (List.mem_of_getElem? (i := 14) rfl)) (tgt := 28) (by decide) ?_ ?_
  · exact sX8_memberAt_28 hl hQ h
  · exact sX8_memberAt_26 hl hQ h
theorem sX8_memberAt_18 {l : Launch} {X : q_CX} (hl : X.2.1 = l) (hQ : q_QM X) (h : q_OK X yX8_memberAt cX8_memberAt 4 (some .int) rmX8_memberAt (Cond.code yX8_memberAt cX8_memberAt 4 (some .int) :: q_G)) : q_SK X 4 18 (BX8_memberAt_18) := by
  refine k_goto h (ddX8_memberAt (18, .goto 13, 3) (List.mem_of_getElem? (i := 11) rfl)) (tgt := 31) (by decide) ?_
  exact sX8_memberAt_31 hl hQ h
theorem sX8_memberAt_10 {l : Launch} {X : q_CX} (hl : X.2.1 = l) (hQ : q_QM X) (h : q_OK X yX8_memberAt cX8_memberAt 4 (some .int) rmX8_memberAt (Cond.code yX8_memberAt cX8_memberAt 4 (some .int) :: q_G)) : q_SK X 4 10 (BX8_memberAt_10) := by
  refine k_iload_n (i := 0) h (ddX8_memberAt (10, .iload_n 0, 1) (List.mem_of_getElem? (i := 7) rfl)) rfl ?_
  refine k_iload_n (i := 3) h (ddX8_memberAt (11, .iload_n 3, 1) (List.mem_of_getElem? (i := 8) rfl)) rfl ?_
  refine k_callS h hl (aX8_bit l) ⟨rfl, rfl⟩ (n := 2) (by decide +kernel) (q_gS gw416 gw256 gw91 gw255) ⟨by decide, by decide⟩ (ddX8_memberAt (12, .invokestatic 297, 3) (List.mem_of_getElem? (i := 9) rfl)) ?_
  refine k_ifne h (ddX8_memberAt (15, .ifCond .ne 6, 3) (List.mem_of_getElem? (i := 10) rfl)) (tgt := 21) (by decide) ?_ ?_
  · exact sX8_memberAt_21 hl hQ h
  · exact sX8_memberAt_18 hl hQ h
theorem sX8_memberAt_4 {l : Launch} {X : q_CX} (hl : X.2.1 = l) (hQ : q_QM X) (h : q_OK X yX8_memberAt cX8_memberAt 4 (some .int) rmX8_memberAt (Cond.code yX8_memberAt cX8_memberAt 4 (some .int) :: q_G)) : q_SK X 4 4 (BX8_memberAt_4) := by
  refine k_iload_n (i := 3) h (ddX8_memberAt (4, .iload_n 3, 1) (List.mem_of_getElem? (i := 4) rfl)) rfl ?_
  refine k_bipush (v := 8) h (ddX8_memberAt (5, .bipush 8, 2) (List.mem_of_getElem? (i := 5) rfl)) (by decide) ?_
  refine k_icge h (ddX8_memberAt (7, .if_icmp .ge 30, 3) (List.mem_of_getElem? (i := 6) rfl)) (tgt := 37) (by decide) ?_ ?_
  · exact sX8_memberAt_37 hl hQ h
  · exact sX8_memberAt_10 hl hQ h
theorem aX8_memberAt (l : Launch) (as : List Value) (sh : q_Sh) (m : q_Mm) (R : q_KR) (hw : wX8_memberAt as sh m R) : q_AM l yX8_memberAt (Cond.code yX8_memberAt cX8_memberAt 4 (some .int) :: q_G) rmX8_memberAt as sh m R := by
  refine q_met (code := TX8_memberAt) (by decide) (fun X hl hQ _ h pc => ?_) hw.1 hw.2
  unfold TX8_memberAt
  exact k_at (sX8_memberAt_0 hl hQ h) (k_at (sX8_memberAt_4 hl hQ h) (k_no))
/-! TumblingRock$Farm.goByDraw(I)V -/
abbrev dlX1_goByDraw : List (Nat × (Instr × Nat)) := [(0, .iload_n 1, 1), (1, .ifCond .ne 4, 3), (4, .return_, 1), (5, .aload_n 0, 1), (6, .iload_n 1, 1), (7, .aload_n 0, 1), (8, .iload_n 1, 1), (9, .invokestatic 72, 3), (12, .invokevirtual 47, 3), (15, .invokestatic 77, 3), (18, .putfield 15, 3), (21, .return_, 1)]
theorem ddX1_goByDraw : ∀ q ∈ dlX1_goByDraw, decode cX1_goByDraw q.1 = .ok q.2 := by decide +kernel
theorem sX1_goByDraw_5 {l : Launch} {X : q_CX} (hl : X.2.1 = l) (hQ : q_QM X) (h : q_OK X yX1_goByDraw cX1_goByDraw 2 none rmX1_goByDraw (Cond.code yX1_goByDraw cX1_goByDraw 2 none :: q_G)) : q_SK X 2 5 (BX1_goByDraw_5) := by
  refine k_aload_n (i := 0) h (ddX1_goByDraw (5, .aload_n 0, 1) (List.mem_of_getElem? (i := 3) rfl)) rfl ?_
  refine k_iload_n (i := 1) h (ddX1_goByDraw (6, .iload_n 1, 1) (List.mem_of_getElem? (i := 4) rfl)) rfl ?_
  refine k_aload_n (i := 0) h (ddX1_goByDraw (7, .aload_n 0, 1) (List.mem_of_getElem? (i := 5) rfl)) rfl ?_
  refine k_iload_n (i := 1) h (ddX1_goByDraw (8, .iload_n 1, 1) (List.mem_of_getElem? (i := 6) rfl)) rfl ?_
  refine k_callS h hl (aJ6_bitCount_0f7a4 l) ⟨rfl, rfl⟩ (n := 1) (by decide +kernel) (q_gS gw415 gw414 gw413 gw412) ⟨by decide, by decide⟩ (ddX1_goByDraw (9, .invokestatic 72, 3) (List.mem_of_getElem? (i := 7) rfl)) ?_
  refine k_callV h hl (aX1_draw l) (ci := 1) (C := RX1) (T := TX1) (N := 5) rfl ⟨rfl, rfl⟩ (n := 1) (by decide +kernel) (q_gV gw402 gw403 gw404 gw24 gw401) ⟨by decide, by decide⟩ (ddX1_goByDraw (12, .invokevirtual 47, 3) (List.mem_of_getElem? (i := 8) rfl)) ?_
  refine k_callN h hl (aX8_memberAt l) ⟨rfl, rfl⟩ (n := 2) (by decide +kernel) (q_gN gw417) (by decide +kernel) (List.mem_cons_of_mem _ gw91) (List.mem_cons_of_mem _ gw418) ⟨by decide, by decide⟩ (ddX1_goByDraw (15, .invokestatic 77, 3) (List.mem_of_getElem? (i := 9) rfl)) ?_
  refine k_putf (ci := 1) (j := 1) (C := RX1) (T := TX1) (N := 5) h rfl (fun w hw => List.mem_cons_of_mem _ (q_inX1 w hw)) (by decide) (List.mem_cons_of_mem _ gw289) tyX1 tyX1_ok nmX1 (by decide +kernel) (by decide +kernel) (ddX1_goByDraw (18, .putfield 15, 3) (List.mem_of_getElem? (i := 10) rfl)) ?_
  exact k_vret h hQ (ddX1_goByDraw (21, .return_, 1) (List.mem_of_getElem? (i := 11) rfl))
theorem sX1_goByDraw_4 {l : Launch} {X : q_CX} (hl : X.2.1 = l) (hQ : q_QM X) (h : q_OK X yX1_goByDraw cX1_goByDraw 2 none rmX1_goByDraw (Cond.code yX1_goByDraw cX1_goByDraw 2 none :: q_G)) : q_SK X 2 4 (BX1_goByDraw_4) := by
  exact k_vret h hQ (ddX1_goByDraw (4, .return_, 1) (List.mem_of_getElem? (i := 2) rfl))
theorem sX1_goByDraw_0 {l : Launch} {X : q_CX} (hl : X.2.1 = l) (hQ : q_QM X) (h : q_OK X yX1_goByDraw cX1_goByDraw 2 none rmX1_goByDraw (Cond.code yX1_goByDraw cX1_goByDraw 2 none :: q_G)) : q_SK X 2 0 (BX1_goByDraw_0) := by
  refine k_iload_n (i := 1) h (ddX1_goByDraw (0, .iload_n 1, 1) (List.mem_of_getElem? (i := 0) rfl)) rfl ?_
  refine k_ifne h (ddX1_goByDraw (1, .ifCond .ne 4, 3) (List.mem_of_getElem? (i := 1) rfl)) (tgt := 5) (by decide) ?_ ?_
  · exact sX1_goByDraw_5 hl hQ h
  · exact sX1_goByDraw_4 hl hQ h
theorem aX1_goByDraw (l : Launch) (as : List Value) (sh : q_Sh) (m : q_Mm) (R : q_KR) (hw : wX1_goByDraw as sh m R) : q_AM l yX1_goByDraw (Cond.code yX1_goByDraw cX1_goByDraw 2 none :: q_G) rmX1_goByDraw as sh m R := by
  refine q_met (code := TX1_goByDraw) (by decide) (fun X hl hQ _ h pc => ?_) hw.1 hw.2
  unfold TX1_goByDraw
  exact k_at (sX1_goByDraw_0 hl hQ h) (k_no)
/-! TumblingRock$Farm.goByDraws(LTumblingRock$Rock;)I -/
abbrev dlX1_goByDraws : List (Nat × (Instr × Nat)) := [(0, .aload_n 0, 1), (1, .bipush 8, 2), (3, .invokevirtual 47, 3), (6, .ifCond .ne 37, 3), (9, .aload_n 0, 1), (10, .aload_n 1, 1), (11, .getfield 51, 3), (14, .invokevirtual 47, 3), (17, .istore_n 2, 1), (18, .aload_n 0, 1), (19, .aload_n 1, 1), (20, .aload_n 0, 1), (21, .getfield 9, 3), (24, .iload_n 2, 1), (25, .aload_n 0, 1), (26, .aload_n 1, 1), (27, .iload_n 2, 1), (28, .invokevirtual 54, 3), (31, .invokevirtual 47, 3), (34, .invokevirtual 57, 3), (37, .putfield 9, 3), (40, .goto 15, 3), (43, .aload_n 0, 1), (44, .aload_n 1, 1), (45, .aload_n 0, 1), (46, .getfield 15, 3), (49, .invokevirtual 61, 3), (52, .invokevirtual 64, 3), (55, .aload_n 0, 1), (56, .aload_n 1, 1), (57, .invokevirtual 68, 3), (60, .ireturn, 1)]
theorem ddX1_goByDraws : ∀ q ∈ dlX1_goByDraws, decode cX1_goByDraws q.1 = .ok q.2 := by decide +kernel
theorem sX1_goByDraws_55 {l : Launch} {X : q_CX} (hl : X.2.1 = l) (hQ : q_QM X) (h : q_OK X yX1_goByDraws cX1_goByDraws 3 (some .int) rmX1_goByDraws (Cond.code yX1_goByDraws cX1_goByDraws 3 (some .int) :: q_G)) : q_SK X 3 55 (BX1_goByDraws_55) := by
  refine k_aload_n (i := 0) h (ddX1_goByDraws (55, .aload_n 0, 1) (List.mem_of_getElem? (i := 28) rfl)) rfl ?_
  refine k_aload_n (i := 1) h (ddX1_goByDraws (56, .aload_n 1, 1) (List.mem_of_getElem? (i := 29) rfl)) rfl ?_
  refine k_callV h hl (aX1_goOn l) (ci := 1) (C := RX1) (T := TX1) (N := 5) rfl ⟨rfl, rfl⟩ (n := 1) (by decide +kernel) (q_gV gw423 gw377 gw378 gw24 gw375) ⟨by decide, by decide⟩ (ddX1_goByDraws (57, .invokevirtual 68, 3) (List.mem_of_getElem? (i := 30) rfl)) ?_
  exact k_iret h hQ (ddX1_goByDraws (60, .ireturn, 1) (List.mem_of_getElem? (i := 31) rfl))
theorem sX1_goByDraws_43 {l : Launch} {X : q_CX} (hl : X.2.1 = l) (hQ : q_QM X) (h : q_OK X yX1_goByDraws cX1_goByDraws 3 (some .int) rmX1_goByDraws (Cond.code yX1_goByDraws cX1_goByDraws 3 (some .int) :: q_G)) : q_SK X 3 43 (BX1_goByDraws_43) := by
  refine k_aload_n (i := 0) h (ddX1_goByDraws (43, .aload_n 0, 1) (List.mem_of_getElem? (i := 22) rfl)) rfl ?_
  refine k_aload_n (i := 1) h (ddX1_goByDraws (44, .aload_n 1, 1) (List.mem_of_getElem? (i := 23) rfl)) rfl ?_
  refine k_aload_n (i := 0) h (ddX1_goByDraws (45, .aload_n 0, 1) (List.mem_of_getElem? (i := 24) rfl)) rfl ?_
  refine k_getf (ci := 1) (j := 1) (C := RX1) (T := TX1) (N := 5) h rfl (fun w hw => List.mem_cons_of_mem _ (q_inX1 w hw)) (by decide) (List.mem_cons_of_mem _ gw289) (ddX1_goByDraws (46, .getfield 15, 3) (List.mem_of_getElem? (i := 25) rfl)) ?_
  refine k_callV h hl (aX4_road l) (ci := 4) (C := RX4) (T := TX4) (N := 14) rfl ⟨rfl, rfl⟩ (n := 1) (by decide +kernel) (q_gV gw408 gw253 gw254 gw71 gw251) ⟨by decide, by decide⟩ (ddX1_goByDraws (49, .invokevirtual 61, 3) (List.mem_of_getElem? (i := 26) rfl)) ?_
  refine k_callV h hl (aX1_goByDraw l) (ci := 1) (C := RX1) (T := TX1) (N := 5) rfl ⟨rfl, rfl⟩ (n := 1) (by decide +kernel) (q_gV gw420 gw421 gw422 gw24 gw419) ⟨by decide, by decide⟩ (ddX1_goByDraws (52, .invokevirtual 64, 3) (List.mem_of_getElem? (i := 27) rfl)) ?_
  exact sX1_goByDraws_55 hl hQ h
theorem sX1_goByDraws_9 {l : Launch} {X : q_CX} (hl : X.2.1 = l) (hQ : q_QM X) (h : q_OK X yX1_goByDraws cX1_goByDraws 3 (some .int) rmX1_goByDraws (Cond.code yX1_goByDraws cX1_goByDraws 3 (some .int) :: q_G)) : q_SK X 3 9 (BX1_goByDraws_9) := by
  refine k_aload_n (i := 0) h (ddX1_goByDraws (9, .aload_n 0, 1) (List.mem_of_getElem? (i := 4) rfl)) rfl ?_
  refine k_aload_n (i := 1) h (ddX1_goByDraws (10, .aload_n 1, 1) (List.mem_of_getElem? (i := 5) rfl)) rfl ?_
  refine k_getf (ci := 4) (j := 0) (C := RX4) (T := TX4) (N := 14) h rfl (fun w hw => List.mem_cons_of_mem _ (q_inX4 w hw)) (by decide) (List.mem_cons_of_mem _ gw405) (ddX1_goByDraws (11, .getfield 51, 3) (List.mem_of_getElem? (i := 6) rfl)) ?_
  refine k_callV h hl (aX1_draw l) (ci := 1) (C := RX1) (T := TX1) (N := 5) rfl ⟨rfl, rfl⟩ (n := 1) (by decide +kernel) (q_gV gw402 gw403 gw404 gw24 gw401) ⟨by decide, by decide⟩ (ddX1_goByDraws (14, .invokevirtual 47, 3) (List.mem_of_getElem? (i := 7) rfl)) ?_
  refine k_istore_n (i := 2) h (ddX1_goByDraws (17, .istore_n 2, 1) (List.mem_of_getElem? (i := 8) rfl)) rfl (by decide) ?_
  refine k_aload_n (i := 0) h (ddX1_goByDraws (18, .aload_n 0, 1) (List.mem_of_getElem? (i := 9) rfl)) rfl ?_
  refine k_aload_n (i := 1) h (ddX1_goByDraws (19, .aload_n 1, 1) (List.mem_of_getElem? (i := 10) rfl)) rfl ?_
  refine k_aload_n (i := 0) h (ddX1_goByDraws (20, .aload_n 0, 1) (List.mem_of_getElem? (i := 11) rfl)) rfl ?_
  refine k_getf (ci := 1) (j := 0) (C := RX1) (T := TX1) (N := 5) h rfl (fun w hw => List.mem_cons_of_mem _ (q_inX1 w hw)) (by decide) (List.mem_cons_of_mem _ gw288) (ddX1_goByDraws (21, .getfield 9, 3) (List.mem_of_getElem? (i := 12) rfl)) ?_
  refine k_iload_n (i := 2) h (ddX1_goByDraws (24, .iload_n 2, 1) (List.mem_of_getElem? (i := 13) rfl)) rfl ?_
  refine k_aload_n (i := 0) h (ddX1_goByDraws (25, .aload_n 0, 1) (List.mem_of_getElem? (i := 14) rfl)) rfl ?_
  refine k_aload_n (i := 1) h (ddX1_goByDraws (26, .aload_n 1, 1) (List.mem_of_getElem? (i := 15) rfl)) rfl ?_
  refine k_iload_n (i := 2) h (ddX1_goByDraws (27, .iload_n 2, 1) (List.mem_of_getElem? (i := 16) rfl)) rfl ?_
  refine k_callV h hl (aX4_size l) (ci := 4) (C := RX4) (T := TX4) (N := 14) rfl ⟨rfl, rfl⟩ (n := 1) (by decide +kernel) (q_gV gw406 gw227 gw228 gw71 gw225) ⟨by decide, by decide⟩ (ddX1_goByDraws (28, .invokevirtual 54, 3) (List.mem_of_getElem? (i := 17) rfl)) ?_
  refine k_callV h hl (aX1_draw l) (ci := 1) (C := RX1) (T := TX1) (N := 5) rfl ⟨rfl, rfl⟩ (n := 1) (by decide +kernel) (q_gV gw402 gw403 gw404 gw24 gw401) ⟨by decide, by decide⟩ (ddX1_goByDraws (31, .invokevirtual 47, 3) (List.mem_of_getElem? (i := 18) rfl)) ?_
  refine k_callV h hl (aX4_knocked l) (ci := 4) (C := RX4) (T := TX4) (N := 14) rfl ⟨rfl, rfl⟩ (n := 3) (by decide +kernel) (q_gV gw407 gw382 gw383 gw71 gw380) ⟨by decide, by decide⟩ (ddX1_goByDraws (34, .invokevirtual 57, 3) (List.mem_of_getElem? (i := 19) rfl)) ?_
  refine k_putf (ci := 1) (j := 0) (C := RX1) (T := TX1) (N := 5) h rfl (fun w hw => List.mem_cons_of_mem _ (q_inX1 w hw)) (by decide) (List.mem_cons_of_mem _ gw288) tyX1 tyX1_ok nmX1 (by decide +kernel) (by decide +kernel) (ddX1_goByDraws (37, .putfield 9, 3) (List.mem_of_getElem? (i := 20) rfl)) ?_
  refine k_goto h (ddX1_goByDraws (40, .goto 15, 3) (List.mem_of_getElem? (i := 21) rfl)) (tgt := 55) (by decide) ?_
  exact sX1_goByDraws_55 hl hQ h
theorem sX1_goByDraws_0 {l : Launch} {X : q_CX} (hl : X.2.1 = l) (hQ : q_QM X) (h : q_OK X yX1_goByDraws cX1_goByDraws 3 (some .int) rmX1_goByDraws (Cond.code yX1_goByDraws cX1_goByDraws 3 (some .int) :: q_G)) : q_SK X 3 0 (BX1_goByDraws_0) := by
  refine k_aload_n (i := 0) h (ddX1_goByDraws (0, .aload_n 0, 1) (List.mem_of_getElem? (i := 0) rfl)) rfl ?_
  refine k_bipush (v := 8) h (ddX1_goByDraws (1, .bipush 8, 2) (List.mem_of_getElem? (i := 1) rfl)) (by decide) ?_
  refine k_callV h hl (aX1_draw l) (ci := 1) (C := RX1) (T := TX1) (N := 5) rfl ⟨rfl, rfl⟩ (n := 1) (by decide +kernel) (q_gV gw402 gw403 gw404 gw24 gw401) ⟨by decide, by decide⟩ (ddX1_goByDraws (3, .invokevirtual 47, 3) (List.mem_of_getElem? (i := 2) rfl)) ?_
  refine k_ifne h (ddX1_goByDraws (6, .ifCond .ne 37, 3) (List.mem_of_getElem? (i := 3) rfl)) (tgt := 43) (by decide) ?_ ?_
  · exact sX1_goByDraws_43 hl hQ h
  · exact sX1_goByDraws_9 hl hQ h
theorem aX1_goByDraws (l : Launch) (as : List Value) (sh : q_Sh) (m : q_Mm) (R : q_KR) (hw : wX1_goByDraws as sh m R) : q_AM l yX1_goByDraws (Cond.code yX1_goByDraws cX1_goByDraws 3 (some .int) :: q_G) rmX1_goByDraws as sh m R := by
  refine q_met (code := TX1_goByDraws) (by decide) (fun X hl hQ _ h pc => ?_) hw.1 hw.2
  unfold TX1_goByDraws
  exact k_at (sX1_goByDraws_0 hl hQ h) (k_no)
/-! TumblingRock.drift(I)I -/
abbrev dlX8_drift : List (Nat × (Instr × Nat)) := [(0, .iload_n 1, 1), (1, .iconst 1, 1), (2, .bipush 99, 2), (4, .invokestatic 78, 3), (7, .ifCond .ne 6, 3), (10, .ldc 82, 2), (12, .ireturn, 1), (13, .aload_n 0, 1), (14, .getfield 71, 3), (17, .getfield 111, 3), (20, .ifCond .eq 13, 3), (23, .aload_n 0, 1), (24, .getfield 71, 3), (27, .getfield 105, 3), (30, .ifCond .ne 6, 3), (33, .ldc 182, 2), (35, .ireturn, 1), (36, .iconst 0, 1), (37, .istore_n 2, 1), (38, .iconst 0, 1), (39, .istore_n 3, 1), (40, .iload_n 3, 1), (41, .iload_n 1, 1), (42, .if_icmp .ge 23, 3), (45, .iload_n 2, 1), (46, .aload_n 0, 1), (47, .getfield 28, 3), (50, .aload_n 0, 1), (51, .getfield 71, 3), (54, .invokevirtual 201, 3), (57, .iadd, 1), (58, .istore_n 2, 1), (59, .iinc 3 1, 3), (62, .goto (-22), 3), (65, .iload_n 2, 1), (66, .ireturn, 1)]
theorem ddX8_drift : ∀ q ∈ dlX8_drift, decode cX8_drift q.1 = .ok q.2 := by decide +kernel
theorem sX8_drift_33 {l : Launch} {X : q_CX} (hl : X.2.1 = l) (hQ : q_QM X) (h : q_OK X yX8_drift cX8_drift 4 (some .int) rmX8_drift (Cond.code yX8_drift cX8_drift 4 (some .int) :: q_G)) : q_SK X 4 33 (BX8_drift_33) := by
  refine k_ldc (v := (-1000000003)) h (ddX8_drift (33, .ldc 182, 2) (List.mem_of_getElem? (i := 15) rfl)) (List.mem_cons_of_mem _ gw372) ?_
  exact k_iret h hQ (ddX8_drift (35, .ireturn, 1) (List.mem_of_getElem? (i := 16) rfl))
theorem sX8_drift_36 {l : Launch} {X : q_CX} (hl : X.2.1 = l) (hQ : q_QM X) (h : q_OK X yX8_drift cX8_drift 4 (some .int) rmX8_drift (Cond.code yX8_drift cX8_drift 4 (some .int) :: q_G)) : q_SK X 4 36 (BX8_drift_36) := by
  refine k_iconst (v := 0) h (ddX8_drift (36, .iconst 0, 1) (List.mem_of_getElem? (i := 17) rfl)) (by decide) ?_
  refine k_istore_n (i := 2) h (ddX8_drift (37, .istore_n 2, 1) (List.mem_of_getElem? (i := 18) rfl)) rfl (by decide) ?_
  refine k_iconst (v := 0) h (ddX8_drift (38, .iconst 0, 1) (List.mem_of_getElem? (i := 19) rfl)) (by decide) ?_
  refine k_istore_n (i := 3) h (ddX8_drift (39, .istore_n 3, 1) (List.mem_of_getElem? (i := 20) rfl)) rfl (by decide) ?_
  exact k_cut
theorem sX8_drift_23 {l : Launch} {X : q_CX} (hl : X.2.1 = l) (hQ : q_QM X) (h : q_OK X yX8_drift cX8_drift 4 (some .int) rmX8_drift (Cond.code yX8_drift cX8_drift 4 (some .int) :: q_G)) : q_SK X 4 23 (BX8_drift_23) := by
  refine k_aload_n (i := 0) h (ddX8_drift (23, .aload_n 0, 1) (List.mem_of_getElem? (i := 11) rfl)) rfl ?_
  refine k_getf (ci := 8) (j := 9) (C := RX8) (T := TX8) (N := 11) h rfl (fun w hw => List.mem_cons_of_mem _ (q_inX8 w hw)) (by decide) (List.mem_cons_of_mem _ gw135) (ddX8_drift (24, .getfield 71, 3) (List.mem_of_getElem? (i := 12) rfl)) ?_
  refine k_getf (ci := 4) (j := 1) (C := RX4) (T := TX4) (N := 14) h rfl (fun w hw => List.mem_cons_of_mem _ (q_inX4 w hw)) (by decide) (List.mem_cons_of_mem _ gw312) (ddX8_drift (27, .getfield 105, 3) (List.mem_of_getElem? (i := 13) rfl)) ?_
  refine k_ifne h (ddX8_drift (30, .ifCond .ne 6, 3) (List.mem_of_getElem? (i := 14) rfl)) (tgt := 36) (by decide) ?_ ?_
  · exact sX8_drift_36 hl hQ h
  · exact sX8_drift_33 hl hQ h
theorem sX8_drift_13 {l : Launch} {X : q_CX} (hl : X.2.1 = l) (hQ : q_QM X) (h : q_OK X yX8_drift cX8_drift 4 (some .int) rmX8_drift (Cond.code yX8_drift cX8_drift 4 (some .int) :: q_G)) : q_SK X 4 13 (BX8_drift_13) := by
  refine k_aload_n (i := 0) h (ddX8_drift (13, .aload_n 0, 1) (List.mem_of_getElem? (i := 7) rfl)) rfl ?_
  refine k_getf (ci := 8) (j := 9) (C := RX8) (T := TX8) (N := 11) h rfl (fun w hw => List.mem_cons_of_mem _ (q_inX8 w hw)) (by decide) (List.mem_cons_of_mem _ gw135) (ddX8_drift (14, .getfield 71, 3) (List.mem_of_getElem? (i := 8) rfl)) ?_
  refine k_getf (ci := 4) (j := 0) (C := RX4) (T := TX4) (N := 14) h rfl (fun w hw => List.mem_cons_of_mem _ (q_inX4 w hw)) (by decide) (List.mem_cons_of_mem _ gw314) (ddX8_drift (17, .getfield 111, 3) (List.mem_of_getElem? (i := 9) rfl)) ?_
  refine k_ifeq h (ddX8_drift (20, .ifCond .eq 13, 3) (List.mem_of_getElem? (i := 10) rfl)) (tgt := 33) (by decide) ?_ ?_
  · exact sX8_drift_33 hl hQ h
  · exact sX8_drift_23 hl hQ h
theorem sX8_drift_10 {l : Launch} {X : q_CX} (hl : X.2.1 = l) (hQ : q_QM X) (h : q_OK X yX8_drift cX8_drift 4 (some .int) rmX8_drift (Cond.code yX8_drift cX8_drift 4 (some .int) :: q_G)) : q_SK X 4 10 (BX8_drift_10) := by
  refine k_ldc (v := (-1000000002)) h (ddX8_drift (10, .ldc 82, 2) (List.mem_of_getElem? (i := 5) rfl)) (List.mem_cons_of_mem _ gw140) ?_
  exact k_iret h hQ (ddX8_drift (12, .ireturn, 1) (List.mem_of_getElem? (i := 6) rfl))
theorem sX8_drift_0 {l : Launch} {X : q_CX} (hl : X.2.1 = l) (hQ : q_QM X) (h : q_OK X yX8_drift cX8_drift 4 (some .int) rmX8_drift (Cond.code yX8_drift cX8_drift 4 (some .int) :: q_G)) : q_SK X 4 0 (BX8_drift_0) := by
  refine k_iload_n (i := 1) h (ddX8_drift (0, .iload_n 1, 1) (List.mem_of_getElem? (i := 0) rfl)) rfl ?_
  refine k_iconst (v := 1) h (ddX8_drift (1, .iconst 1, 1) (List.mem_of_getElem? (i := 1) rfl)) (by decide) ?_
  refine k_bipush (v := 99) h (ddX8_drift (2, .bipush 99, 2) (List.mem_of_getElem? (i := 2) rfl)) (by decide) ?_
  refine k_callS h hl (aX8_inside l) ⟨rfl, rfl⟩ (n := 3) (by decide +kernel) (q_gS gw139 gw138 gw91 gw137) ⟨by decide, by decide⟩ (ddX8_drift (4, .invokestatic 78, 3) (List.mem_of_getElem? (i := 3) rfl)) ?_
  refine k_ifne h (ddX8_drift (7, .ifCond .ne 6, 3) (List.mem_of_getElem? (i := 4) rfl)) (tgt := 13) (by decide) ?_ ?_
  · exact sX8_drift_13 hl hQ h
  · exact sX8_drift_10 hl hQ h
theorem sX8_drift_65 {l : Launch} {X : q_CX} (hl : X.2.1 = l) (hQ : q_QM X) (h : q_OK X yX8_drift cX8_drift 4 (some .int) rmX8_drift (Cond.code yX8_drift cX8_drift 4 (some .int) :: q_G)) : q_SK X 4 65 (BX8_drift_65) := by
  refine k_iload_n (i := 2) h (ddX8_drift (65, .iload_n 2, 1) (List.mem_of_getElem? (i := 34) rfl)) rfl ?_
  exact k_iret h hQ (ddX8_drift (66, .ireturn, 1) (List.mem_of_getElem? (i := 35) rfl))
theorem sX8_drift_45 {l : Launch} {X : q_CX} (hl : X.2.1 = l) (hQ : q_QM X) (h : q_OK X yX8_drift cX8_drift 4 (some .int) rmX8_drift (Cond.code yX8_drift cX8_drift 4 (some .int) :: q_G)) : q_SK X 4 45 (BX8_drift_45) := by
  refine k_iload_n (i := 2) h (ddX8_drift (45, .iload_n 2, 1) (List.mem_of_getElem? (i := 24) rfl)) rfl ?_
  refine k_aload_n (i := 0) h (ddX8_drift (46, .aload_n 0, 1) (List.mem_of_getElem? (i := 25) rfl)) rfl ?_
  refine k_getf (ci := 8) (j := 2) (C := RX8) (T := TX8) (N := 11) h rfl (fun w hw => List.mem_cons_of_mem _ (q_inX8 w hw)) (by decide) (List.mem_cons_of_mem _ gw28) (ddX8_drift (47, .getfield 28, 3) (List.mem_of_getElem? (i := 26) rfl)) ?_
  refine k_aload_n (i := 0) h (ddX8_drift (50, .aload_n 0, 1) (List.mem_of_getElem? (i := 27) rfl)) rfl ?_
  refine k_getf (ci := 8) (j := 9) (C := RX8) (T := TX8) (N := 11) h rfl (fun w hw => List.mem_cons_of_mem _ (q_inX8 w hw)) (by decide) (List.mem_cons_of_mem _ gw135) (ddX8_drift (51, .getfield 71, 3) (List.mem_of_getElem? (i := 28) rfl)) ?_
  refine k_callV h hl (aX1_goByDraws l) (ci := 1) (C := RX1) (T := TX1) (N := 5) rfl ⟨rfl, rfl⟩ (n := 1) (by decide +kernel) (q_gV gw425 gw426 gw427 gw24 gw424) ⟨by decide, by decide⟩ (ddX8_drift (54, .invokevirtual 201, 3) (List.mem_of_getElem? (i := 29) rfl)) ?_
  refine k_iadd h (ddX8_drift (57, .iadd, 1) (List.mem_of_getElem? (i := 30) rfl)) ?_
  refine k_istore_n (i := 2) h (ddX8_drift (58, .istore_n 2, 1) (List.mem_of_getElem? (i := 31) rfl)) rfl (by decide) ?_
  refine k_iinc (d := 1) h (ddX8_drift (59, .iinc 3 1, 3) (List.mem_of_getElem? (i := 32) rfl)) (by decide) (by decide) ?_
  refine k_goto h (ddX8_drift (62, .goto (-22), 3) (List.mem_of_getElem? (i := 33) rfl)) (tgt := 40) (by decide) ?_
  exact k_cut
theorem sX8_drift_40 {l : Launch} {X : q_CX} (hl : X.2.1 = l) (hQ : q_QM X) (h : q_OK X yX8_drift cX8_drift 4 (some .int) rmX8_drift (Cond.code yX8_drift cX8_drift 4 (some .int) :: q_G)) : q_SK X 4 40 (BX8_drift_40) := by
  refine k_iload_n (i := 3) h (ddX8_drift (40, .iload_n 3, 1) (List.mem_of_getElem? (i := 21) rfl)) rfl ?_
  refine k_iload_n (i := 1) h (ddX8_drift (41, .iload_n 1, 1) (List.mem_of_getElem? (i := 22) rfl)) rfl ?_
  refine k_icge h (ddX8_drift (42, .if_icmp .ge 23, 3) (List.mem_of_getElem? (i := 23) rfl)) (tgt := 65) (by decide) ?_ ?_
  · exact sX8_drift_65 hl hQ h
  · exact sX8_drift_45 hl hQ h
theorem aX8_drift (l : Launch) (as : List Value) (sh : q_Sh) (m : q_Mm) (R : q_KR) (hw : wX8_drift as sh m R) : q_AM l yX8_drift (Cond.code yX8_drift cX8_drift 4 (some .int) :: q_G) rmX8_drift as sh m R := by
  refine q_met (code := TX8_drift) (by decide) (fun X hl hQ _ h pc => ?_) hw.1 hw.2
  unfold TX8_drift
  exact k_at (sX8_drift_0 hl hQ h) (k_at (sX8_drift_40 hl hQ h) (k_no))
/-! TumblingRock$Rock.stepsTillLit(II)I -/
abbrev dlX4_stepsTillLit : List (Nat × (Instr × Nat)) := [(0, .iload_n 2, 1), (1, .istore_n 3, 1), (2, .iconst 0, 1), (3, .istore 4, 2), (5, .iload 4, 2), (7, .aload_n 0, 1), (8, .getfield 73, 3), (11, .if_icmp .ge 28, 3), (14, .aload_n 0, 1), (15, .iload_n 1, 1), (16, .iload_n 3, 1), (17, .invokevirtual 123, 3), (20, .iconst 1, 1), (21, .if_icmp .ne 6, 3), (24, .iload 4, 2), (26, .ireturn, 1), (27, .aload_n 0, 1), (28, .iload_n 3, 1), (29, .invokevirtual 126, 3), (32, .istore_n 3, 1), (33, .iinc 4 1, 3), (36, .goto (-31), 3), (39, .iconst (-1), 1), (40, .ireturn, 1)]
theorem ddX4_stepsTillLit : ∀ q ∈ dlX4_stepsTillLit, decode cX4_stepsTillLit q.1 = .ok q.2 := by decide +kernel
theorem sX4_stepsTillLit_0 {l : Launch} {X : q_CX} (hl : X.2.1 = l) (hQ : q_QM X) (h : q_OK X yX4_stepsTillLit cX4_stepsTillLit 5 (some .int) rmX4_stepsTillLit (Cond.code yX4_stepsTillLit cX4_stepsTillLit 5 (some .int) :: q_G)) : q_SK X 5 0 (BX4_stepsTillLit_0) := by
  refine k_iload_n (i := 2) h (ddX4_stepsTillLit (0, .iload_n 2, 1) (List.mem_of_getElem? (i := 0) rfl)) rfl ?_
  refine k_istore_n (i := 3) h (ddX4_stepsTillLit (1, .istore_n 3, 1) (List.mem_of_getElem? (i := 1) rfl)) rfl (by decide) ?_
  refine k_iconst (v := 0) h (ddX4_stepsTillLit (2, .iconst 0, 1) (List.mem_of_getElem? (i := 2) rfl)) (by decide) ?_
  refine k_istore (i := 4) h (ddX4_stepsTillLit (3, .istore 4, 2) (List.mem_of_getElem? (i := 3) rfl)) (by decide) ?_
  exact k_cut
theorem sX4_stepsTillLit_39 {l : Launch} {X : q_CX} (hl : X.2.1 = l) (hQ : q_QM X) (h : q_OK X yX4_stepsTillLit cX4_stepsTillLit 5 (some .int) rmX4_stepsTillLit (Cond.code yX4_stepsTillLit cX4_stepsTillLit 5 (some .int) :: q_G)) : q_SK X 5 39 (BX4_stepsTillLit_39) := by
  refine k_iconst (v := (-1)) h (ddX4_stepsTillLit (39, .iconst (-1), 1) (List.mem_of_getElem? (i := 22) rfl)) (by decide) ?_
  exact k_iret h hQ (ddX4_stepsTillLit (40, .ireturn, 1) (List.mem_of_getElem? (i := 23) rfl))
theorem sX4_stepsTillLit_27 {l : Launch} {X : q_CX} (hl : X.2.1 = l) (hQ : q_QM X) (h : q_OK X yX4_stepsTillLit cX4_stepsTillLit 5 (some .int) rmX4_stepsTillLit (Cond.code yX4_stepsTillLit cX4_stepsTillLit 5 (some .int) :: q_G)) : q_SK X 5 27 (BX4_stepsTillLit_27) := by
  refine k_aload_n (i := 0) h (ddX4_stepsTillLit (27, .aload_n 0, 1) (List.mem_of_getElem? (i := 16) rfl)) rfl ?_
  refine k_iload_n (i := 3) h (ddX4_stepsTillLit (28, .iload_n 3, 1) (List.mem_of_getElem? (i := 17) rfl)) rfl ?_
  refine k_callV h hl (aX4_stepLater l) (ci := 4) (C := RX4) (T := TX4) (N := 14) rfl ⟨rfl, rfl⟩ (n := 1) (by decide +kernel) (q_gV gw355 gw356 gw357 gw71 gw354) ⟨by decide, by decide⟩ (ddX4_stepsTillLit (29, .invokevirtual 126, 3) (List.mem_of_getElem? (i := 18) rfl)) ?_
  refine k_istore_n (i := 3) h (ddX4_stepsTillLit (32, .istore_n 3, 1) (List.mem_of_getElem? (i := 19) rfl)) rfl (by decide) ?_
  refine k_iinc (d := 1) h (ddX4_stepsTillLit (33, .iinc 4 1, 3) (List.mem_of_getElem? (i := 20) rfl)) (by decide) (by decide) ?_
  refine k_goto h (ddX4_stepsTillLit (36, .goto (-31), 3) (List.mem_of_getElem? (i := 21) rfl)) (tgt := 5) (by decide) ?_
  exact k_cut
theorem sX4_stepsTillLit_24 {l : Launch} {X : q_CX} (hl : X.2.1 = l) (hQ : q_QM X) (h : q_OK X yX4_stepsTillLit cX4_stepsTillLit 5 (some .int) rmX4_stepsTillLit (Cond.code yX4_stepsTillLit cX4_stepsTillLit 5 (some .int) :: q_G)) : q_SK X 5 24 (BX4_stepsTillLit_24) := by
  refine k_iload (i := 4) h (ddX4_stepsTillLit (24, .iload 4, 2) (List.mem_of_getElem? (i := 14) rfl)) ?_
  exact k_iret h hQ (ddX4_stepsTillLit (26, .ireturn, 1) (List.mem_of_getElem? (i := 15) rfl))
theorem sX4_stepsTillLit_14 {l : Launch} {X : q_CX} (hl : X.2.1 = l) (hQ : q_QM X) (h : q_OK X yX4_stepsTillLit cX4_stepsTillLit 5 (some .int) rmX4_stepsTillLit (Cond.code yX4_stepsTillLit cX4_stepsTillLit 5 (some .int) :: q_G)) : q_SK X 5 14 (BX4_stepsTillLit_14) := by
  refine k_aload_n (i := 0) h (ddX4_stepsTillLit (14, .aload_n 0, 1) (List.mem_of_getElem? (i := 8) rfl)) rfl ?_
  refine k_iload_n (i := 1) h (ddX4_stepsTillLit (15, .iload_n 1, 1) (List.mem_of_getElem? (i := 9) rfl)) rfl ?_
  refine k_iload_n (i := 3) h (ddX4_stepsTillLit (16, .iload_n 3, 1) (List.mem_of_getElem? (i := 10) rfl)) rfl ?_
  refine k_callV h hl (aX4_litBit l) (ci := 4) (C := RX4) (T := TX4) (N := 14) rfl ⟨rfl, rfl⟩ (n := 2) (by decide +kernel) (q_gV gw348 gw349 gw350 gw71 gw347) ⟨by decide, by decide⟩ (ddX4_stepsTillLit (17, .invokevirtual 123, 3) (List.mem_of_getElem? (i := 11) rfl)) ?_
  refine k_iconst (v := 1) h (ddX4_stepsTillLit (20, .iconst 1, 1) (List.mem_of_getElem? (i := 12) rfl)) (by decide) ?_
  refine k_icne h (ddX4_stepsTillLit (21, .if_icmp .ne 6, 3) (List.mem_of_getElem? (i := 13) rfl)) (tgt := 27) (by decide) ?_ ?_
  · exact sX4_stepsTillLit_27 hl hQ h
  · exact sX4_stepsTillLit_24 hl hQ h
theorem sX4_stepsTillLit_5 {l : Launch} {X : q_CX} (hl : X.2.1 = l) (hQ : q_QM X) (h : q_OK X yX4_stepsTillLit cX4_stepsTillLit 5 (some .int) rmX4_stepsTillLit (Cond.code yX4_stepsTillLit cX4_stepsTillLit 5 (some .int) :: q_G)) : q_SK X 5 5 (BX4_stepsTillLit_5) := by
  refine k_iload (i := 4) h (ddX4_stepsTillLit (5, .iload 4, 2) (List.mem_of_getElem? (i := 4) rfl)) ?_
  refine k_aload_n (i := 0) h (ddX4_stepsTillLit (7, .aload_n 0, 1) (List.mem_of_getElem? (i := 5) rfl)) rfl ?_
  refine k_getf (ci := 4) (j := 5) (C := RX4) (T := TX4) (N := 14) h rfl (fun w hw => List.mem_cons_of_mem _ (q_inX4 w hw)) (by decide) (List.mem_cons_of_mem _ gw97) (ddX4_stepsTillLit (8, .getfield 73, 3) (List.mem_of_getElem? (i := 6) rfl)) ?_
  refine k_icge h (ddX4_stepsTillLit (11, .if_icmp .ge 28, 3) (List.mem_of_getElem? (i := 7) rfl)) (tgt := 39) (by decide) ?_ ?_
  · exact sX4_stepsTillLit_39 hl hQ h
  · exact sX4_stepsTillLit_14 hl hQ h
theorem aX4_stepsTillLit (l : Launch) (as : List Value) (sh : q_Sh) (m : q_Mm) (R : q_KR) (hw : wX4_stepsTillLit as sh m R) : q_AM l yX4_stepsTillLit (Cond.code yX4_stepsTillLit cX4_stepsTillLit 5 (some .int) :: q_G) rmX4_stepsTillLit as sh m R := by
  refine q_met (code := TX4_stepsTillLit) (by decide) (fun X hl hQ _ h pc => ?_) hw.1 hw.2
  unfold TX4_stepsTillLit
  exact k_at (sX4_stepsTillLit_0 hl hQ h) (k_at (sX4_stepsTillLit_5 hl hQ h) (k_no))
