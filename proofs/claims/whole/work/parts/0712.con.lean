/-! Contracts, leaves first; written by wip/whole/gen.py. -/
/-! TumblingRockModel.mend(IIII)I -/
abbrev dlX9_mend : List (Nat × (Instr × Nat)) := [(0, .iload_n 1, 1), (1, .i2l, 1), (2, .lconst 0, 1), (3, .ldc2_w 218, 3), (6, .invokestatic 68, 3), (9, .ifCond .eq 27, 3), (12, .iload_n 2, 1), (13, .i2l, 1), (14, .lconst 0, 1), (15, .ldc2_w 218, 3), (18, .invokestatic 68, 3), (21, .ifCond .eq 15, 3), (24, .iload_n 3, 1), (25, .i2l, 1), (26, .lconst 0, 1), (27, .ldc2_w 218, 3), (30, .invokestatic 68, 3), (33, .ifCond .ne 6, 3), (36, .ldc 72, 2), (38, .ireturn, 1), (39, .aload_n 0, 1), (40, .getfield 150, 3), (43, .ifCond .ne 15, 3), (46, .iload 4, 2), (48, .iconst (-1), 1), (49, .if_icmp .ne 7, 3), (52, .iconst 0, 1), (53, .goto 4, 3), (56, .iconst (-1), 1), (57, .ireturn, 1), (58, .iload_n 1, 1), (59, .aload_n 0, 1), (60, .getfield 20, 3), (63, .iconst 0, 1), (64, .iaload, 1), (65, .if_icmp .ge 43, 3), (68, .aload_n 0, 1), (69, .getfield 150, 3), (72, .iconst 2, 1), (73, .if_icmp .lt 13, 3), (76, .iload_n 2, 1), (77, .aload_n 0, 1), (78, .getfield 20, 3), (81, .iconst 1, 1), (82, .iaload, 1), (83, .if_icmp .ge 25, 3), (86, .aload_n 0, 1), (87, .getfield 150, 3), (90, .iconst 3, 1), (91, .if_icmp .lt 13, 3), (94, .iload_n 3, 1), (95, .aload_n 0, 1), (96, .getfield 20, 3), (99, .iconst 2, 1), (100, .iaload, 1), (101, .if_icmp .ge 7, 3), (104, .iconst 1, 1), (105, .goto 4, 3), (108, .iconst 0, 1), (109, .istore 5, 2), (111, .iload 5, 2), (113, .ifCond .ne 5, 3), (116, .iconst (-1), 1), (117, .ireturn, 1), (118, .aload_n 0, 1), (119, .iload_n 1, 1), (120, .aload_n 0, 1), (121, .getfield 20, 3), (124, .iconst 1, 1), (125, .iaload, 1), (126, .imul, 1), (127, .aload_n 0, 1), (128, .getfield 150, 3), (131, .iconst 1, 1), (132, .if_icmp .le 7, 3), (135, .iload_n 2, 1), (136, .goto 4, 3), (139, .iconst 0, 1), (140, .iadd, 1), (141, .aload_n 0, 1), (142, .getfield 20, 3), (145, .iconst 2, 1), (146, .iaload, 1), (147, .imul, 1), (148, .aload_n 0, 1), (149, .getfield 150, 3), (152, .iconst 2, 1), (153, .if_icmp .le 7, 3), (156, .iload_n 3, 1), (157, .goto 4, 3), (160, .iconst 0, 1), (161, .iadd, 1), (162, .invokevirtual 264, 3), (165, .aload_n 0, 1), (166, .getfield 7, 3), (169, .iconst 0, 1), (170, .iaload, 1), (171, .aload_n 0, 1), (172, .getfield 20, 3), (175, .iconst 1, 1), (176, .iaload, 1), (177, .imul, 1), (178, .aload_n 0, 1), (179, .getfield 7, 3), (182, .iconst 1, 1), (183, .iaload, 1), (184, .iadd, 1), (185, .aload_n 0, 1), (186, .getfield 20, 3), (189, .iconst 2, 1), (190, .iaload, 1), (191, .imul, 1), (192, .aload_n 0, 1), (193, .getfield 7, 3), (196, .iconst 2, 1), (197, .iaload, 1), (198, .iadd, 1), (199, .istore 6, 2), (201, .aload_n 0, 1), (202, .getfield 60, 3), (205, .iload 6, 2), (207, .iaload, 1), (208, .istore 7, 2), (210, .iload 7, 2), (212, .ldc 249, 2), (214, .if_icmp .ge 15, 3), (217, .iload 4, 2), (219, .ifCond .lt 10, 3), (222, .iload 4, 2), (224, .iload 7, 2), (226, .if_icmp .lt 23, 3), (229, .iload 7, 2), (231, .ldc 249, 2), (233, .if_icmp .ge 14, 3), (236, .iload 4, 2), (238, .iconst (-1), 1), (239, .if_icmp .ne 8, 3), (242, .iload 7, 2), (244, .goto 4, 3), (247, .iconst (-1), 1), (248, .ireturn, 1), (249, .iconst 0, 1), (250, .istore 8, 2), (252, .iconst 0, 1), (253, .istore 9, 2), (255, .iload 9, 2), (257, .iload 4, 2), (259, .if_icmp .gt 53, 3), (262, .iconst 0, 1), (263, .istore 8, 2), (265, .aload_n 0, 1), (266, .getfield 60, 3), (269, .aload_n 0, 1), (270, .iload 6, 2), (272, .iload 8, 2), (274, .invokevirtual 261, 3), (277, .iaload, 1), (278, .aload_n 0, 1), (279, .getfield 60, 3), (282, .iload 6, 2), (284, .iaload, 1), (285, .iconst 1, 1), (286, .isub, 1), (287, .if_icmp .eq 9, 3), (290, .iinc 8 1, 3), (293, .goto (-28), 3), (296, .aload_n 0, 1), (297, .iload 6, 2), (299, .iload 8, 2), (301, .invokevirtual 261, 3), (304, .istore 6, 2), (306, .iinc 9 1, 3), (309, .goto (-54), 3), (312, .iload 8, 2), (314, .ireturn, 1)]
theorem ddX9_mend : ∀ q ∈ dlX9_mend, decode cX9_mend q.1 = .ok q.2 := by decide +kernel
theorem sX9_mend_36 {l : Launch} {X : q_CX} (hl : X.2.1 = l) (hQ : q_QM X) (h : q_OK X yX9_mend cX9_mend 10 (some .int) rmX9_mend (Cond.code yX9_mend cX9_mend 10 (some .int) :: q_G)) : q_SK X 10 36 (BX9_mend_36) := by
  refine k_ldc (v := (-1000000002)) h (ddX9_mend (36, .ldc 72, 2) (List.mem_of_getElem? (i := 18) rfl)) (List.mem_cons_of_mem _ gw609) ?_
  exact k_iret h hQ (ddX9_mend (38, .ireturn, 1) (List.mem_of_getElem? (i := 19) rfl))
theorem sX9_mend_108 {l : Launch} {X : q_CX} (hl : X.2.1 = l) (hQ : q_QM X) (h : q_OK X yX9_mend cX9_mend 10 (some .int) rmX9_mend (Cond.code yX9_mend cX9_mend 10 (some .int) :: q_G)) : q_SK X 10 108 (BX9_mend_108) := by
  refine k_iconst (v := 0) h (ddX9_mend (108, .iconst 0, 1) (List.mem_of_getElem? (i := 58) rfl)) (by decide) ?_
  exact k_cut
theorem sX9_mend_76 {l : Launch} {X : q_CX} (hl : X.2.1 = l) (hQ : q_QM X) (h : q_OK X yX9_mend cX9_mend 10 (some .int) rmX9_mend (Cond.code yX9_mend cX9_mend 10 (some .int) :: q_G)) : q_SK X 10 76 (BX9_mend_76) := by
  refine k_iload_n (i := 2) h (ddX9_mend (76, .iload_n 2, 1) (List.mem_of_getElem? (i := 40) rfl)) rfl ?_
  refine k_aload_n (i := 0) h (ddX9_mend (77, .aload_n 0, 1) (List.mem_of_getElem? (i := 41) rfl)) rfl ?_
  refine k_getf (ci := 9) (j := 3) (C := RX9) (T := TX9) (N := 33) h rfl (fun w hw => List.mem_cons_of_mem _ (q_inX9 w hw)) (by decide) (List.mem_cons_of_mem _ gw589) (ddX9_mend (78, .getfield 20, 3) (List.mem_of_getElem? (i := 42) rfl)) ?_
  refine k_iconst (v := 1) h (ddX9_mend (81, .iconst 1, 1) (List.mem_of_getElem? (i := 43) rfl)) (by decide) ?_
  refine k_iald h (ddX9_mend (82, .iaload, 1) (List.mem_of_getElem? (i := 44) rfl)) ?_
  refine k_icge h (ddX9_mend (83, .if_icmp .ge 25, 3) (List.mem_of_getElem? (i := 45) rfl)) (tgt := 108) (by decide) ?_ ?_
  · exact sX9_mend_108 hl hQ h
  · exact k_cut
theorem sX9_mend_68 {l : Launch} {X : q_CX} (hl : X.2.1 = l) (hQ : q_QM X) (h : q_OK X yX9_mend cX9_mend 10 (some .int) rmX9_mend (Cond.code yX9_mend cX9_mend 10 (some .int) :: q_G)) : q_SK X 10 68 (BX9_mend_68) := by
  refine k_aload_n (i := 0) h (ddX9_mend (68, .aload_n 0, 1) (List.mem_of_getElem? (i := 36) rfl)) rfl ?_
  refine k_getf (ci := 9) (j := 7) (C := RX9) (T := TX9) (N := 33) h rfl (fun w hw => List.mem_cons_of_mem _ (q_inX9 w hw)) (by decide) (List.mem_cons_of_mem _ gw669) (ddX9_mend (69, .getfield 150, 3) (List.mem_of_getElem? (i := 37) rfl)) ?_
  refine k_iconst (v := 2) h (ddX9_mend (72, .iconst 2, 1) (List.mem_of_getElem? (i := 38) rfl)) (by decide) ?_
  refine k_iclt h (ddX9_mend (73, .if_icmp .lt 13, 3) (List.mem_of_getElem? (i := 39) rfl)) (tgt := 86) (by decide) ?_ ?_
  · exact k_cut
  · exact sX9_mend_76 hl hQ h
theorem sX9_mend_58 {l : Launch} {X : q_CX} (hl : X.2.1 = l) (hQ : q_QM X) (h : q_OK X yX9_mend cX9_mend 10 (some .int) rmX9_mend (Cond.code yX9_mend cX9_mend 10 (some .int) :: q_G)) : q_SK X 10 58 (BX9_mend_58) := by
  refine k_iload_n (i := 1) h (ddX9_mend (58, .iload_n 1, 1) (List.mem_of_getElem? (i := 30) rfl)) rfl ?_
  refine k_aload_n (i := 0) h (ddX9_mend (59, .aload_n 0, 1) (List.mem_of_getElem? (i := 31) rfl)) rfl ?_
  refine k_getf (ci := 9) (j := 3) (C := RX9) (T := TX9) (N := 33) h rfl (fun w hw => List.mem_cons_of_mem _ (q_inX9 w hw)) (by decide) (List.mem_cons_of_mem _ gw589) (ddX9_mend (60, .getfield 20, 3) (List.mem_of_getElem? (i := 32) rfl)) ?_
  refine k_iconst (v := 0) h (ddX9_mend (63, .iconst 0, 1) (List.mem_of_getElem? (i := 33) rfl)) (by decide) ?_
  refine k_iald h (ddX9_mend (64, .iaload, 1) (List.mem_of_getElem? (i := 34) rfl)) ?_
  refine k_icge h (ddX9_mend (65, .if_icmp .ge 43, 3) (List.mem_of_getElem? (i := 35) rfl)) (tgt := 108) (by decide) ?_ ?_
  · exact sX9_mend_108 hl hQ h
  · exact sX9_mend_68 hl hQ h
theorem sX9_mend_57 {l : Launch} {X : q_CX} (hl : X.2.1 = l) (hQ : q_QM X) (h : q_OK X yX9_mend cX9_mend 10 (some .int) rmX9_mend (Cond.code yX9_mend cX9_mend 10 (some .int) :: q_G)) : q_SK X 10 57 (BX9_mend_57) := by
  exact k_iret h hQ (ddX9_mend (57, .ireturn, 1) (List.mem_of_getElem? (i := 29) rfl))
theorem sX9_mend_56 {l : Launch} {X : q_CX} (hl : X.2.1 = l) (hQ : q_QM X) (h : q_OK X yX9_mend cX9_mend 10 (some .int) rmX9_mend (Cond.code yX9_mend cX9_mend 10 (some .int) :: q_G)) : q_SK X 10 56 (BX9_mend_56) := by
  refine k_iconst (v := (-1)) h (ddX9_mend (56, .iconst (-1), 1) (List.mem_of_getElem? (i := 28) rfl)) (by decide) ?_
  exact sX9_mend_57 hl hQ h
theorem sX9_mend_52 {l : Launch} {X : q_CX} (hl : X.2.1 = l) (hQ : q_QM X) (h : q_OK X yX9_mend cX9_mend 10 (some .int) rmX9_mend (Cond.code yX9_mend cX9_mend 10 (some .int) :: q_G)) : q_SK X 10 52 (BX9_mend_52) := by
  refine k_iconst (v := 0) h (ddX9_mend (52, .iconst 0, 1) (List.mem_of_getElem? (i := 26) rfl)) (by decide) ?_
  refine k_goto h (ddX9_mend (53, .goto 4, 3) (List.mem_of_getElem? (i := 27) rfl)) (tgt := 57) (by decide) ?_
  exact sX9_mend_57 hl hQ h
theorem sX9_mend_46 {l : Launch} {X : q_CX} (hl : X.2.1 = l) (hQ : q_QM X) (h : q_OK X yX9_mend cX9_mend 10 (some .int) rmX9_mend (Cond.code yX9_mend cX9_mend 10 (some .int) :: q_G)) : q_SK X 10 46 (BX9_mend_46) := by
  refine k_iload (i := 4) h (ddX9_mend (46, .iload 4, 2) (List.mem_of_getElem? (i := 23) rfl)) ?_
  refine k_iconst (v := (-1)) h (ddX9_mend (48, .iconst (-1), 1) (List.mem_of_getElem? (i := 24) rfl)) (by decide) ?_
  refine k_icne h (ddX9_mend (49, .if_icmp .ne 7, 3) (List.mem_of_getElem? (i := 25) rfl)) (tgt := 56) (by decide) ?_ ?_
  · exact sX9_mend_56 hl hQ h
  · exact sX9_mend_52 hl hQ h
theorem sX9_mend_39 {l : Launch} {X : q_CX} (hl : X.2.1 = l) (hQ : q_QM X) (h : q_OK X yX9_mend cX9_mend 10 (some .int) rmX9_mend (Cond.code yX9_mend cX9_mend 10 (some .int) :: q_G)) : q_SK X 10 39 (BX9_mend_39) := by
  refine k_aload_n (i := 0) h (ddX9_mend (39, .aload_n 0, 1) (List.mem_of_getElem? (i := 20) rfl)) rfl ?_
  refine k_getf (ci := 9) (j := 7) (C := RX9) (T := TX9) (N := 33) h rfl (fun w hw => List.mem_cons_of_mem _ (q_inX9 w hw)) (by decide) (List.mem_cons_of_mem _ gw669) (ddX9_mend (40, .getfield 150, 3) (List.mem_of_getElem? (i := 21) rfl)) ?_
  refine k_ifne h (ddX9_mend (43, .ifCond .ne 15, 3) (List.mem_of_getElem? (i := 22) rfl)) (tgt := 58) (by decide) ?_ ?_
  · exact sX9_mend_58 hl hQ h
  · exact sX9_mend_46 hl hQ h
theorem sX9_mend_24 {l : Launch} {X : q_CX} (hl : X.2.1 = l) (hQ : q_QM X) (h : q_OK X yX9_mend cX9_mend 10 (some .int) rmX9_mend (Cond.code yX9_mend cX9_mend 10 (some .int) :: q_G)) : q_SK X 10 24 (BX9_mend_24) := by
  refine k_iload_n (i := 3) h (ddX9_mend (24, .iload_n 3, 1) (List.mem_of_getElem? (i := 12) rfl)) rfl ?_
  refine k_i2l h (ddX9_mend (25, .i2l, 1) (List.mem_of_getElem? (i := 13) rfl)) ?_
  refine k_lconst (v := 0) h (ddX9_mend (26, .lconst 0, 1) (List.mem_of_getElem? (i := 14) rfl)) (by decide) ?_
  refine k_ldc2 (v := 11) h (ddX9_mend (27, .ldc2_w 218, 3) (List.mem_of_getElem? (i := 15) rfl)) (List.mem_cons_of_mem _ gw729) ?_
  refine k_callS h hl (aX9_in l) ⟨rfl, rfl⟩ (n := 3) (by decide +kernel) (q_gS gw608 gw607 gw606 gw605) ⟨by decide, by decide⟩ (ddX9_mend (30, .invokestatic 68, 3) (List.mem_of_getElem? (i := 16) rfl)) ?_
  refine k_ifne h (ddX9_mend (33, .ifCond .ne 6, 3) (List.mem_of_getElem? (i := 17) rfl)) (tgt := 39) (by decide) ?_ ?_
  · exact sX9_mend_39 hl hQ h
  · exact sX9_mend_36 hl hQ h
theorem sX9_mend_12 {l : Launch} {X : q_CX} (hl : X.2.1 = l) (hQ : q_QM X) (h : q_OK X yX9_mend cX9_mend 10 (some .int) rmX9_mend (Cond.code yX9_mend cX9_mend 10 (some .int) :: q_G)) : q_SK X 10 12 (BX9_mend_12) := by
  refine k_iload_n (i := 2) h (ddX9_mend (12, .iload_n 2, 1) (List.mem_of_getElem? (i := 6) rfl)) rfl ?_
  refine k_i2l h (ddX9_mend (13, .i2l, 1) (List.mem_of_getElem? (i := 7) rfl)) ?_
  refine k_lconst (v := 0) h (ddX9_mend (14, .lconst 0, 1) (List.mem_of_getElem? (i := 8) rfl)) (by decide) ?_
  refine k_ldc2 (v := 11) h (ddX9_mend (15, .ldc2_w 218, 3) (List.mem_of_getElem? (i := 9) rfl)) (List.mem_cons_of_mem _ gw729) ?_
  refine k_callS h hl (aX9_in l) ⟨rfl, rfl⟩ (n := 3) (by decide +kernel) (q_gS gw608 gw607 gw606 gw605) ⟨by decide, by decide⟩ (ddX9_mend (18, .invokestatic 68, 3) (List.mem_of_getElem? (i := 10) rfl)) ?_
  refine k_ifeq h (ddX9_mend (21, .ifCond .eq 15, 3) (List.mem_of_getElem? (i := 11) rfl)) (tgt := 36) (by decide) ?_ ?_
  · exact sX9_mend_36 hl hQ h
  · exact sX9_mend_24 hl hQ h
theorem sX9_mend_0 {l : Launch} {X : q_CX} (hl : X.2.1 = l) (hQ : q_QM X) (h : q_OK X yX9_mend cX9_mend 10 (some .int) rmX9_mend (Cond.code yX9_mend cX9_mend 10 (some .int) :: q_G)) : q_SK X 10 0 (BX9_mend_0) := by
  refine k_iload_n (i := 1) h (ddX9_mend (0, .iload_n 1, 1) (List.mem_of_getElem? (i := 0) rfl)) rfl ?_
  refine k_i2l h (ddX9_mend (1, .i2l, 1) (List.mem_of_getElem? (i := 1) rfl)) ?_
  refine k_lconst (v := 0) h (ddX9_mend (2, .lconst 0, 1) (List.mem_of_getElem? (i := 2) rfl)) (by decide) ?_
  refine k_ldc2 (v := 11) h (ddX9_mend (3, .ldc2_w 218, 3) (List.mem_of_getElem? (i := 3) rfl)) (List.mem_cons_of_mem _ gw729) ?_
  refine k_callS h hl (aX9_in l) ⟨rfl, rfl⟩ (n := 3) (by decide +kernel) (q_gS gw608 gw607 gw606 gw605) ⟨by decide, by decide⟩ (ddX9_mend (6, .invokestatic 68, 3) (List.mem_of_getElem? (i := 4) rfl)) ?_
  refine k_ifeq h (ddX9_mend (9, .ifCond .eq 27, 3) (List.mem_of_getElem? (i := 5) rfl)) (tgt := 36) (by decide) ?_ ?_
  · exact sX9_mend_36 hl hQ h
  · exact sX9_mend_12 hl hQ h
theorem sX9_mend_104 {l : Launch} {X : q_CX} (hl : X.2.1 = l) (hQ : q_QM X) (h : q_OK X yX9_mend cX9_mend 10 (some .int) rmX9_mend (Cond.code yX9_mend cX9_mend 10 (some .int) :: q_G)) : q_SK X 10 104 (BX9_mend_104) := by
  refine k_iconst (v := 1) h (ddX9_mend (104, .iconst 1, 1) (List.mem_of_getElem? (i := 56) rfl)) (by decide) ?_
  refine k_goto h (ddX9_mend (105, .goto 4, 3) (List.mem_of_getElem? (i := 57) rfl)) (tgt := 109) (by decide) ?_
  exact k_cut
theorem sX9_mend_94 {l : Launch} {X : q_CX} (hl : X.2.1 = l) (hQ : q_QM X) (h : q_OK X yX9_mend cX9_mend 10 (some .int) rmX9_mend (Cond.code yX9_mend cX9_mend 10 (some .int) :: q_G)) : q_SK X 10 94 (BX9_mend_94) := by
  refine k_iload_n (i := 3) h (ddX9_mend (94, .iload_n 3, 1) (List.mem_of_getElem? (i := 50) rfl)) rfl ?_
  refine k_aload_n (i := 0) h (ddX9_mend (95, .aload_n 0, 1) (List.mem_of_getElem? (i := 51) rfl)) rfl ?_
  refine k_getf (ci := 9) (j := 3) (C := RX9) (T := TX9) (N := 33) h rfl (fun w hw => List.mem_cons_of_mem _ (q_inX9 w hw)) (by decide) (List.mem_cons_of_mem _ gw589) (ddX9_mend (96, .getfield 20, 3) (List.mem_of_getElem? (i := 52) rfl)) ?_
  refine k_iconst (v := 2) h (ddX9_mend (99, .iconst 2, 1) (List.mem_of_getElem? (i := 53) rfl)) (by decide) ?_
  refine k_iald h (ddX9_mend (100, .iaload, 1) (List.mem_of_getElem? (i := 54) rfl)) ?_
  refine k_icge h (ddX9_mend (101, .if_icmp .ge 7, 3) (List.mem_of_getElem? (i := 55) rfl)) (tgt := 108) (by decide) ?_ ?_
  · exact sX9_mend_108 hl hQ h
  · exact sX9_mend_104 hl hQ h
theorem sX9_mend_86 {l : Launch} {X : q_CX} (hl : X.2.1 = l) (hQ : q_QM X) (h : q_OK X yX9_mend cX9_mend 10 (some .int) rmX9_mend (Cond.code yX9_mend cX9_mend 10 (some .int) :: q_G)) : q_SK X 10 86 (BX9_mend_86) := by
  refine k_aload_n (i := 0) h (ddX9_mend (86, .aload_n 0, 1) (List.mem_of_getElem? (i := 46) rfl)) rfl ?_
  refine k_getf (ci := 9) (j := 7) (C := RX9) (T := TX9) (N := 33) h rfl (fun w hw => List.mem_cons_of_mem _ (q_inX9 w hw)) (by decide) (List.mem_cons_of_mem _ gw669) (ddX9_mend (87, .getfield 150, 3) (List.mem_of_getElem? (i := 47) rfl)) ?_
  refine k_iconst (v := 3) h (ddX9_mend (90, .iconst 3, 1) (List.mem_of_getElem? (i := 48) rfl)) (by decide) ?_
  refine k_iclt h (ddX9_mend (91, .if_icmp .lt 13, 3) (List.mem_of_getElem? (i := 49) rfl)) (tgt := 104) (by decide) ?_ ?_
  · exact sX9_mend_104 hl hQ h
  · exact sX9_mend_94 hl hQ h
theorem sX9_mend_160 {l : Launch} {X : q_CX} (hl : X.2.1 = l) (hQ : q_QM X) (h : q_OK X yX9_mend cX9_mend 10 (some .int) rmX9_mend (Cond.code yX9_mend cX9_mend 10 (some .int) :: q_G)) : q_SK X 10 160 (BX9_mend_160) := by
  refine k_iconst (v := 0) h (ddX9_mend (160, .iconst 0, 1) (List.mem_of_getElem? (i := 90) rfl)) (by decide) ?_
  exact k_cut
theorem sX9_mend_156 {l : Launch} {X : q_CX} (hl : X.2.1 = l) (hQ : q_QM X) (h : q_OK X yX9_mend cX9_mend 10 (some .int) rmX9_mend (Cond.code yX9_mend cX9_mend 10 (some .int) :: q_G)) : q_SK X 10 156 (BX9_mend_156) := by
  refine k_iload_n (i := 3) h (ddX9_mend (156, .iload_n 3, 1) (List.mem_of_getElem? (i := 88) rfl)) rfl ?_
  refine k_goto h (ddX9_mend (157, .goto 4, 3) (List.mem_of_getElem? (i := 89) rfl)) (tgt := 161) (by decide) ?_
  exact k_cut
theorem sX9_mend_140 {l : Launch} {X : q_CX} (hl : X.2.1 = l) (hQ : q_QM X) (h : q_OK X yX9_mend cX9_mend 10 (some .int) rmX9_mend (Cond.code yX9_mend cX9_mend 10 (some .int) :: q_G)) : q_SK X 10 140 (BX9_mend_140) := by
  refine k_iadd h (ddX9_mend (140, .iadd, 1) (List.mem_of_getElem? (i := 78) rfl)) ?_
  refine k_aload_n (i := 0) h (ddX9_mend (141, .aload_n 0, 1) (List.mem_of_getElem? (i := 79) rfl)) rfl ?_
  refine k_getf (ci := 9) (j := 3) (C := RX9) (T := TX9) (N := 33) h rfl (fun w hw => List.mem_cons_of_mem _ (q_inX9 w hw)) (by decide) (List.mem_cons_of_mem _ gw589) (ddX9_mend (142, .getfield 20, 3) (List.mem_of_getElem? (i := 80) rfl)) ?_
  refine k_iconst (v := 2) h (ddX9_mend (145, .iconst 2, 1) (List.mem_of_getElem? (i := 81) rfl)) (by decide) ?_
  refine k_iald h (ddX9_mend (146, .iaload, 1) (List.mem_of_getElem? (i := 82) rfl)) ?_
  refine k_imul h (ddX9_mend (147, .imul, 1) (List.mem_of_getElem? (i := 83) rfl)) ?_
  refine k_aload_n (i := 0) h (ddX9_mend (148, .aload_n 0, 1) (List.mem_of_getElem? (i := 84) rfl)) rfl ?_
  refine k_getf (ci := 9) (j := 7) (C := RX9) (T := TX9) (N := 33) h rfl (fun w hw => List.mem_cons_of_mem _ (q_inX9 w hw)) (by decide) (List.mem_cons_of_mem _ gw669) (ddX9_mend (149, .getfield 150, 3) (List.mem_of_getElem? (i := 85) rfl)) ?_
  refine k_iconst (v := 2) h (ddX9_mend (152, .iconst 2, 1) (List.mem_of_getElem? (i := 86) rfl)) (by decide) ?_
  refine k_icle h (ddX9_mend (153, .if_icmp .le 7, 3) (List.mem_of_getElem? (i := 87) rfl)) (tgt := 160) (by decide) ?_ ?_
  · exact sX9_mend_160 hl hQ h
  · exact sX9_mend_156 hl hQ h
theorem sX9_mend_139 {l : Launch} {X : q_CX} (hl : X.2.1 = l) (hQ : q_QM X) (h : q_OK X yX9_mend cX9_mend 10 (some .int) rmX9_mend (Cond.code yX9_mend cX9_mend 10 (some .int) :: q_G)) : q_SK X 10 139 (BX9_mend_139) := by
  refine k_iconst (v := 0) h (ddX9_mend (139, .iconst 0, 1) (List.mem_of_getElem? (i := 77) rfl)) (by decide) ?_
  exact sX9_mend_140 hl hQ h
theorem sX9_mend_135 {l : Launch} {X : q_CX} (hl : X.2.1 = l) (hQ : q_QM X) (h : q_OK X yX9_mend cX9_mend 10 (some .int) rmX9_mend (Cond.code yX9_mend cX9_mend 10 (some .int) :: q_G)) : q_SK X 10 135 (BX9_mend_135) := by
  refine k_iload_n (i := 2) h (ddX9_mend (135, .iload_n 2, 1) (List.mem_of_getElem? (i := 75) rfl)) rfl ?_
  refine k_goto h (ddX9_mend (136, .goto 4, 3) (List.mem_of_getElem? (i := 76) rfl)) (tgt := 140) (by decide) ?_
  exact sX9_mend_140 hl hQ h
theorem sX9_mend_118 {l : Launch} {X : q_CX} (hl : X.2.1 = l) (hQ : q_QM X) (h : q_OK X yX9_mend cX9_mend 10 (some .int) rmX9_mend (Cond.code yX9_mend cX9_mend 10 (some .int) :: q_G)) : q_SK X 10 118 (BX9_mend_118) := by
  refine k_aload_n (i := 0) h (ddX9_mend (118, .aload_n 0, 1) (List.mem_of_getElem? (i := 64) rfl)) rfl ?_
  refine k_iload_n (i := 1) h (ddX9_mend (119, .iload_n 1, 1) (List.mem_of_getElem? (i := 65) rfl)) rfl ?_
  refine k_aload_n (i := 0) h (ddX9_mend (120, .aload_n 0, 1) (List.mem_of_getElem? (i := 66) rfl)) rfl ?_
  refine k_getf (ci := 9) (j := 3) (C := RX9) (T := TX9) (N := 33) h rfl (fun w hw => List.mem_cons_of_mem _ (q_inX9 w hw)) (by decide) (List.mem_cons_of_mem _ gw589) (ddX9_mend (121, .getfield 20, 3) (List.mem_of_getElem? (i := 67) rfl)) ?_
  refine k_iconst (v := 1) h (ddX9_mend (124, .iconst 1, 1) (List.mem_of_getElem? (i := 68) rfl)) (by decide) ?_
  refine k_iald h (ddX9_mend (125, .iaload, 1) (List.mem_of_getElem? (i := 69) rfl)) ?_
  refine k_imul h (ddX9_mend (126, .imul, 1) (List.mem_of_getElem? (i := 70) rfl)) ?_
  refine k_aload_n (i := 0) h (ddX9_mend (127, .aload_n 0, 1) (List.mem_of_getElem? (i := 71) rfl)) rfl ?_
  refine k_getf (ci := 9) (j := 7) (C := RX9) (T := TX9) (N := 33) h rfl (fun w hw => List.mem_cons_of_mem _ (q_inX9 w hw)) (by decide) (List.mem_cons_of_mem _ gw669) (ddX9_mend (128, .getfield 150, 3) (List.mem_of_getElem? (i := 72) rfl)) ?_
  refine k_iconst (v := 1) h (ddX9_mend (131, .iconst 1, 1) (List.mem_of_getElem? (i := 73) rfl)) (by decide) ?_
  refine k_icle h (ddX9_mend (132, .if_icmp .le 7, 3) (List.mem_of_getElem? (i := 74) rfl)) (tgt := 139) (by decide) ?_ ?_
  · exact sX9_mend_139 hl hQ h
  · exact sX9_mend_135 hl hQ h
theorem sX9_mend_116 {l : Launch} {X : q_CX} (hl : X.2.1 = l) (hQ : q_QM X) (h : q_OK X yX9_mend cX9_mend 10 (some .int) rmX9_mend (Cond.code yX9_mend cX9_mend 10 (some .int) :: q_G)) : q_SK X 10 116 (BX9_mend_116) := by
  refine k_iconst (v := (-1)) h (ddX9_mend (116, .iconst (-1), 1) (List.mem_of_getElem? (i := 62) rfl)) (by decide) ?_
  exact k_iret h hQ (ddX9_mend (117, .ireturn, 1) (List.mem_of_getElem? (i := 63) rfl))
theorem sX9_mend_109 {l : Launch} {X : q_CX} (hl : X.2.1 = l) (hQ : q_QM X) (h : q_OK X yX9_mend cX9_mend 10 (some .int) rmX9_mend (Cond.code yX9_mend cX9_mend 10 (some .int) :: q_G)) : q_SK X 10 109 (BX9_mend_109) := by
  refine k_istore (i := 5) h (ddX9_mend (109, .istore 5, 2) (List.mem_of_getElem? (i := 59) rfl)) (by decide) ?_
  refine k_iload (i := 5) h (ddX9_mend (111, .iload 5, 2) (List.mem_of_getElem? (i := 60) rfl)) ?_
  refine k_ifne h (ddX9_mend (113, .ifCond .ne 5, 3) (List.mem_of_getElem? (i := 61) rfl)) (tgt := 118) (by decide) ?_ ?_
  · exact sX9_mend_118 hl hQ h
  · exact sX9_mend_116 hl hQ h
theorem sX9_mend_248 {l : Launch} {X : q_CX} (hl : X.2.1 = l) (hQ : q_QM X) (h : q_OK X yX9_mend cX9_mend 10 (some .int) rmX9_mend (Cond.code yX9_mend cX9_mend 10 (some .int) :: q_G)) : q_SK X 10 248 (BX9_mend_248) := by
  exact k_iret h hQ (ddX9_mend (248, .ireturn, 1) (List.mem_of_getElem? (i := 140) rfl))
theorem sX9_mend_247 {l : Launch} {X : q_CX} (hl : X.2.1 = l) (hQ : q_QM X) (h : q_OK X yX9_mend cX9_mend 10 (some .int) rmX9_mend (Cond.code yX9_mend cX9_mend 10 (some .int) :: q_G)) : q_SK X 10 247 (BX9_mend_247) := by
  refine k_iconst (v := (-1)) h (ddX9_mend (247, .iconst (-1), 1) (List.mem_of_getElem? (i := 139) rfl)) (by decide) ?_
  exact sX9_mend_248 hl hQ h
theorem sX9_mend_242 {l : Launch} {X : q_CX} (hl : X.2.1 = l) (hQ : q_QM X) (h : q_OK X yX9_mend cX9_mend 10 (some .int) rmX9_mend (Cond.code yX9_mend cX9_mend 10 (some .int) :: q_G)) : q_SK X 10 242 (BX9_mend_242) := by
  refine k_iload (i := 7) h (ddX9_mend (242, .iload 7, 2) (List.mem_of_getElem? (i := 137) rfl)) ?_
  refine k_goto h (ddX9_mend (244, .goto 4, 3) (List.mem_of_getElem? (i := 138) rfl)) (tgt := 248) (by decide) ?_
  exact sX9_mend_248 hl hQ h
theorem sX9_mend_236 {l : Launch} {X : q_CX} (hl : X.2.1 = l) (hQ : q_QM X) (h : q_OK X yX9_mend cX9_mend 10 (some .int) rmX9_mend (Cond.code yX9_mend cX9_mend 10 (some .int) :: q_G)) : q_SK X 10 236 (BX9_mend_236) := by
  refine k_iload (i := 4) h (ddX9_mend (236, .iload 4, 2) (List.mem_of_getElem? (i := 134) rfl)) ?_
  refine k_iconst (v := (-1)) h (ddX9_mend (238, .iconst (-1), 1) (List.mem_of_getElem? (i := 135) rfl)) (by decide) ?_
  refine k_icne h (ddX9_mend (239, .if_icmp .ne 8, 3) (List.mem_of_getElem? (i := 136) rfl)) (tgt := 247) (by decide) ?_ ?_
  · exact sX9_mend_247 hl hQ h
  · exact sX9_mend_242 hl hQ h
theorem sX9_mend_229 {l : Launch} {X : q_CX} (hl : X.2.1 = l) (hQ : q_QM X) (h : q_OK X yX9_mend cX9_mend 10 (some .int) rmX9_mend (Cond.code yX9_mend cX9_mend 10 (some .int) :: q_G)) : q_SK X 10 229 (BX9_mend_229) := by
  refine k_iload (i := 7) h (ddX9_mend (229, .iload 7, 2) (List.mem_of_getElem? (i := 131) rfl)) ?_
  refine k_ldc (v := 99999999) h (ddX9_mend (231, .ldc 249, 2) (List.mem_of_getElem? (i := 132) rfl)) (List.mem_cons_of_mem _ gw756) ?_
  refine k_icge h (ddX9_mend (233, .if_icmp .ge 14, 3) (List.mem_of_getElem? (i := 133) rfl)) (tgt := 247) (by decide) ?_ ?_
  · exact sX9_mend_247 hl hQ h
  · exact sX9_mend_236 hl hQ h
theorem sX9_mend_249 {l : Launch} {X : q_CX} (hl : X.2.1 = l) (hQ : q_QM X) (h : q_OK X yX9_mend cX9_mend 10 (some .int) rmX9_mend (Cond.code yX9_mend cX9_mend 10 (some .int) :: q_G)) : q_SK X 10 249 (BX9_mend_249) := by
  refine k_iconst (v := 0) h (ddX9_mend (249, .iconst 0, 1) (List.mem_of_getElem? (i := 141) rfl)) (by decide) ?_
  refine k_istore (i := 8) h (ddX9_mend (250, .istore 8, 2) (List.mem_of_getElem? (i := 142) rfl)) (by decide) ?_
  refine k_iconst (v := 0) h (ddX9_mend (252, .iconst 0, 1) (List.mem_of_getElem? (i := 143) rfl)) (by decide) ?_
  refine k_istore (i := 9) h (ddX9_mend (253, .istore 9, 2) (List.mem_of_getElem? (i := 144) rfl)) (by decide) ?_
  exact k_cut
theorem sX9_mend_222 {l : Launch} {X : q_CX} (hl : X.2.1 = l) (hQ : q_QM X) (h : q_OK X yX9_mend cX9_mend 10 (some .int) rmX9_mend (Cond.code yX9_mend cX9_mend 10 (some .int) :: q_G)) : q_SK X 10 222 (BX9_mend_222) := by
  refine k_iload (i := 4) h (ddX9_mend (222, .iload 4, 2) (List.mem_of_getElem? (i := 128) rfl)) ?_
  refine k_iload (i := 7) h (ddX9_mend (224, .iload 7, 2) (List.mem_of_getElem? (i := 129) rfl)) ?_
  refine k_iclt h (ddX9_mend (226, .if_icmp .lt 23, 3) (List.mem_of_getElem? (i := 130) rfl)) (tgt := 249) (by decide) ?_ ?_
  · exact sX9_mend_249 hl hQ h
  · exact sX9_mend_229 hl hQ h
theorem sX9_mend_217 {l : Launch} {X : q_CX} (hl : X.2.1 = l) (hQ : q_QM X) (h : q_OK X yX9_mend cX9_mend 10 (some .int) rmX9_mend (Cond.code yX9_mend cX9_mend 10 (some .int) :: q_G)) : q_SK X 10 217 (BX9_mend_217) := by
  refine k_iload (i := 4) h (ddX9_mend (217, .iload 4, 2) (List.mem_of_getElem? (i := 126) rfl)) ?_
  refine k_iflt h (ddX9_mend (219, .ifCond .lt 10, 3) (List.mem_of_getElem? (i := 127) rfl)) (tgt := 229) (by decide) ?_ ?_
  · exact sX9_mend_229 hl hQ h
  · exact sX9_mend_222 hl hQ h
theorem sX9_mend_161 {l : Launch} {X : q_CX} (hl : X.2.1 = l) (hQ : q_QM X) (h : q_OK X yX9_mend cX9_mend 10 (some .int) rmX9_mend (Cond.code yX9_mend cX9_mend 10 (some .int) :: q_G)) : q_SK X 10 161 (BX9_mend_161) := by
  refine k_iadd h (ddX9_mend (161, .iadd, 1) (List.mem_of_getElem? (i := 91) rfl)) ?_
  refine k_callV h hl (aX9_findFar l) (ci := 9) (C := RX9) (T := TX9) (N := 33) rfl ⟨rfl, rfl⟩ (n := 1) (by decide +kernel) (q_gV gw775 gw776 gw777 gw606 gw774) ⟨by decide, by decide⟩ (ddX9_mend (162, .invokevirtual 264, 3) (List.mem_of_getElem? (i := 92) rfl)) ?_
  refine k_aload_n (i := 0) h (ddX9_mend (165, .aload_n 0, 1) (List.mem_of_getElem? (i := 93) rfl)) rfl ?_
  refine k_getf (ci := 9) (j := 0) (C := RX9) (T := TX9) (N := 33) h rfl (fun w hw => List.mem_cons_of_mem _ (q_inX9 w hw)) (by decide) (List.mem_cons_of_mem _ gw586) (ddX9_mend (166, .getfield 7, 3) (List.mem_of_getElem? (i := 94) rfl)) ?_
  refine k_iconst (v := 0) h (ddX9_mend (169, .iconst 0, 1) (List.mem_of_getElem? (i := 95) rfl)) (by decide) ?_
  refine k_iald h (ddX9_mend (170, .iaload, 1) (List.mem_of_getElem? (i := 96) rfl)) ?_
  refine k_aload_n (i := 0) h (ddX9_mend (171, .aload_n 0, 1) (List.mem_of_getElem? (i := 97) rfl)) rfl ?_
  refine k_getf (ci := 9) (j := 3) (C := RX9) (T := TX9) (N := 33) h rfl (fun w hw => List.mem_cons_of_mem _ (q_inX9 w hw)) (by decide) (List.mem_cons_of_mem _ gw589) (ddX9_mend (172, .getfield 20, 3) (List.mem_of_getElem? (i := 98) rfl)) ?_
  refine k_iconst (v := 1) h (ddX9_mend (175, .iconst 1, 1) (List.mem_of_getElem? (i := 99) rfl)) (by decide) ?_
  refine k_iald h (ddX9_mend (176, .iaload, 1) (List.mem_of_getElem? (i := 100) rfl)) ?_
  refine k_imul h (ddX9_mend (177, .imul, 1) (List.mem_of_getElem? (i := 101) rfl)) ?_
  refine k_aload_n (i := 0) h (ddX9_mend (178, .aload_n 0, 1) (List.mem_of_getElem? (i := 102) rfl)) rfl ?_
  refine k_getf (ci := 9) (j := 0) (C := RX9) (T := TX9) (N := 33) h rfl (fun w hw => List.mem_cons_of_mem _ (q_inX9 w hw)) (by decide) (List.mem_cons_of_mem _ gw586) (ddX9_mend (179, .getfield 7, 3) (List.mem_of_getElem? (i := 103) rfl)) ?_
  refine k_iconst (v := 1) h (ddX9_mend (182, .iconst 1, 1) (List.mem_of_getElem? (i := 104) rfl)) (by decide) ?_
  refine k_iald h (ddX9_mend (183, .iaload, 1) (List.mem_of_getElem? (i := 105) rfl)) ?_
  refine k_iadd h (ddX9_mend (184, .iadd, 1) (List.mem_of_getElem? (i := 106) rfl)) ?_
  refine k_aload_n (i := 0) h (ddX9_mend (185, .aload_n 0, 1) (List.mem_of_getElem? (i := 107) rfl)) rfl ?_
  refine k_getf (ci := 9) (j := 3) (C := RX9) (T := TX9) (N := 33) h rfl (fun w hw => List.mem_cons_of_mem _ (q_inX9 w hw)) (by decide) (List.mem_cons_of_mem _ gw589) (ddX9_mend (186, .getfield 20, 3) (List.mem_of_getElem? (i := 108) rfl)) ?_
  refine k_iconst (v := 2) h (ddX9_mend (189, .iconst 2, 1) (List.mem_of_getElem? (i := 109) rfl)) (by decide) ?_
  refine k_iald h (ddX9_mend (190, .iaload, 1) (List.mem_of_getElem? (i := 110) rfl)) ?_
  refine k_imul h (ddX9_mend (191, .imul, 1) (List.mem_of_getElem? (i := 111) rfl)) ?_
  refine k_aload_n (i := 0) h (ddX9_mend (192, .aload_n 0, 1) (List.mem_of_getElem? (i := 112) rfl)) rfl ?_
  refine k_getf (ci := 9) (j := 0) (C := RX9) (T := TX9) (N := 33) h rfl (fun w hw => List.mem_cons_of_mem _ (q_inX9 w hw)) (by decide) (List.mem_cons_of_mem _ gw586) (ddX9_mend (193, .getfield 7, 3) (List.mem_of_getElem? (i := 113) rfl)) ?_
  refine k_iconst (v := 2) h (ddX9_mend (196, .iconst 2, 1) (List.mem_of_getElem? (i := 114) rfl)) (by decide) ?_
  refine k_iald h (ddX9_mend (197, .iaload, 1) (List.mem_of_getElem? (i := 115) rfl)) ?_
  refine k_iadd h (ddX9_mend (198, .iadd, 1) (List.mem_of_getElem? (i := 116) rfl)) ?_
  refine k_istore (i := 6) h (ddX9_mend (199, .istore 6, 2) (List.mem_of_getElem? (i := 117) rfl)) (by decide) ?_
  refine k_aload_n (i := 0) h (ddX9_mend (201, .aload_n 0, 1) (List.mem_of_getElem? (i := 118) rfl)) rfl ?_
  refine k_getf (ci := 9) (j := 30) (C := RX9) (T := TX9) (N := 33) h rfl (fun w hw => List.mem_cons_of_mem _ (q_inX9 w hw)) (by decide) (List.mem_cons_of_mem _ gw602) (ddX9_mend (202, .getfield 60, 3) (List.mem_of_getElem? (i := 119) rfl)) ?_
  refine k_iload (i := 6) h (ddX9_mend (205, .iload 6, 2) (List.mem_of_getElem? (i := 120) rfl)) ?_
  refine k_iald h (ddX9_mend (207, .iaload, 1) (List.mem_of_getElem? (i := 121) rfl)) ?_
  refine k_istore (i := 7) h (ddX9_mend (208, .istore 7, 2) (List.mem_of_getElem? (i := 122) rfl)) (by decide) ?_
  refine k_iload (i := 7) h (ddX9_mend (210, .iload 7, 2) (List.mem_of_getElem? (i := 123) rfl)) ?_
  refine k_ldc (v := 99999999) h (ddX9_mend (212, .ldc 249, 2) (List.mem_of_getElem? (i := 124) rfl)) (List.mem_cons_of_mem _ gw756) ?_
  refine k_icge h (ddX9_mend (214, .if_icmp .ge 15, 3) (List.mem_of_getElem? (i := 125) rfl)) (tgt := 229) (by decide) ?_ ?_
  · exact sX9_mend_229 hl hQ h
  · exact sX9_mend_217 hl hQ h
theorem sX9_mend_312 {l : Launch} {X : q_CX} (hl : X.2.1 = l) (hQ : q_QM X) (h : q_OK X yX9_mend cX9_mend 10 (some .int) rmX9_mend (Cond.code yX9_mend cX9_mend 10 (some .int) :: q_G)) : q_SK X 10 312 (BX9_mend_312) := by
  refine k_iload (i := 8) h (ddX9_mend (312, .iload 8, 2) (List.mem_of_getElem? (i := 173) rfl)) ?_
  exact k_iret h hQ (ddX9_mend (314, .ireturn, 1) (List.mem_of_getElem? (i := 174) rfl))
theorem sX9_mend_262 {l : Launch} {X : q_CX} (hl : X.2.1 = l) (hQ : q_QM X) (h : q_OK X yX9_mend cX9_mend 10 (some .int) rmX9_mend (Cond.code yX9_mend cX9_mend 10 (some .int) :: q_G)) : q_SK X 10 262 (BX9_mend_262) := by
  refine k_iconst (v := 0) h (ddX9_mend (262, .iconst 0, 1) (List.mem_of_getElem? (i := 148) rfl)) (by decide) ?_
  refine k_istore (i := 8) h (ddX9_mend (263, .istore 8, 2) (List.mem_of_getElem? (i := 149) rfl)) (by decide) ?_
  exact k_cut
theorem sX9_mend_255 {l : Launch} {X : q_CX} (hl : X.2.1 = l) (hQ : q_QM X) (h : q_OK X yX9_mend cX9_mend 10 (some .int) rmX9_mend (Cond.code yX9_mend cX9_mend 10 (some .int) :: q_G)) : q_SK X 10 255 (BX9_mend_255) := by
  refine k_iload (i := 9) h (ddX9_mend (255, .iload 9, 2) (List.mem_of_getElem? (i := 145) rfl)) ?_
  refine k_iload (i := 4) h (ddX9_mend (257, .iload 4, 2) (List.mem_of_getElem? (i := 146) rfl)) ?_
  refine k_icgt h (ddX9_mend (259, .if_icmp .gt 53, 3) (List.mem_of_getElem? (i := 147) rfl)) (tgt := 312) (by decide) ?_ ?_
  · exact sX9_mend_312 hl hQ h
  · exact sX9_mend_262 hl hQ h
theorem sX9_mend_296 {l : Launch} {X : q_CX} (hl : X.2.1 = l) (hQ : q_QM X) (h : q_OK X yX9_mend cX9_mend 10 (some .int) rmX9_mend (Cond.code yX9_mend cX9_mend 10 (some .int) :: q_G)) : q_SK X 10 296 (BX9_mend_296) := by
  refine k_aload_n (i := 0) h (ddX9_mend (296, .aload_n 0, 1) (List.mem_of_getElem? (i := 166) rfl)) rfl ?_
  refine k_iload (i := 6) h (ddX9_mend (297, .iload 6, 2) (List.mem_of_getElem? (i := 167) rfl)) ?_
  refine k_iload (i := 8) h (ddX9_mend (299, .iload 8, 2) (List.mem_of_getElem? (i := 168) rfl)) ?_
  refine k_callV h hl (aX9_codeBy l) (ci := 9) (C := RX9) (T := TX9) (N := 33) rfl ⟨rfl, rfl⟩ (n := 2) (by decide +kernel) (q_gV gw771 gw772 gw773 gw606 gw770) ⟨by decide, by decide⟩ (ddX9_mend (301, .invokevirtual 261, 3) (List.mem_of_getElem? (i := 169) rfl)) ?_
  refine k_istore (i := 6) h (ddX9_mend (304, .istore 6, 2) (List.mem_of_getElem? (i := 170) rfl)) (by decide) ?_
  refine k_iinc (d := 1) h (ddX9_mend (306, .iinc 9 1, 3) (List.mem_of_getElem? (i := 171) rfl)) (by decide) (by decide) ?_
  refine k_goto h (ddX9_mend (309, .goto (-54), 3) (List.mem_of_getElem? (i := 172) rfl)) (tgt := 255) (by decide) ?_
  exact k_cut
theorem sX9_mend_290 {l : Launch} {X : q_CX} (hl : X.2.1 = l) (hQ : q_QM X) (h : q_OK X yX9_mend cX9_mend 10 (some .int) rmX9_mend (Cond.code yX9_mend cX9_mend 10 (some .int) :: q_G)) : q_SK X 10 290 (BX9_mend_290) := by
  refine k_iinc (d := 1) h (ddX9_mend (290, .iinc 8 1, 3) (List.mem_of_getElem? (i := 164) rfl)) (by decide) (by decide) ?_
  refine k_goto h (ddX9_mend (293, .goto (-28), 3) (List.mem_of_getElem? (i := 165) rfl)) (tgt := 265) (by decide) ?_
  exact k_cut
theorem sX9_mend_265 {l : Launch} {X : q_CX} (hl : X.2.1 = l) (hQ : q_QM X) (h : q_OK X yX9_mend cX9_mend 10 (some .int) rmX9_mend (Cond.code yX9_mend cX9_mend 10 (some .int) :: q_G)) : q_SK X 10 265 (BX9_mend_265) := by
  refine k_aload_n (i := 0) h (ddX9_mend (265, .aload_n 0, 1) (List.mem_of_getElem? (i := 150) rfl)) rfl ?_
  refine k_getf (ci := 9) (j := 30) (C := RX9) (T := TX9) (N := 33) h rfl (fun w hw => List.mem_cons_of_mem _ (q_inX9 w hw)) (by decide) (List.mem_cons_of_mem _ gw602) (ddX9_mend (266, .getfield 60, 3) (List.mem_of_getElem? (i := 151) rfl)) ?_
  refine k_aload_n (i := 0) h (ddX9_mend (269, .aload_n 0, 1) (List.mem_of_getElem? (i := 152) rfl)) rfl ?_
  refine k_iload (i := 6) h (ddX9_mend (270, .iload 6, 2) (List.mem_of_getElem? (i := 153) rfl)) ?_
  refine k_iload (i := 8) h (ddX9_mend (272, .iload 8, 2) (List.mem_of_getElem? (i := 154) rfl)) ?_
  refine k_callV h hl (aX9_codeBy l) (ci := 9) (C := RX9) (T := TX9) (N := 33) rfl ⟨rfl, rfl⟩ (n := 2) (by decide +kernel) (q_gV gw771 gw772 gw773 gw606 gw770) ⟨by decide, by decide⟩ (ddX9_mend (274, .invokevirtual 261, 3) (List.mem_of_getElem? (i := 155) rfl)) ?_
  refine k_iald h (ddX9_mend (277, .iaload, 1) (List.mem_of_getElem? (i := 156) rfl)) ?_
  refine k_aload_n (i := 0) h (ddX9_mend (278, .aload_n 0, 1) (List.mem_of_getElem? (i := 157) rfl)) rfl ?_
  refine k_getf (ci := 9) (j := 30) (C := RX9) (T := TX9) (N := 33) h rfl (fun w hw => List.mem_cons_of_mem _ (q_inX9 w hw)) (by decide) (List.mem_cons_of_mem _ gw602) (ddX9_mend (279, .getfield 60, 3) (List.mem_of_getElem? (i := 158) rfl)) ?_
  refine k_iload (i := 6) h (ddX9_mend (282, .iload 6, 2) (List.mem_of_getElem? (i := 159) rfl)) ?_
  refine k_iald h (ddX9_mend (284, .iaload, 1) (List.mem_of_getElem? (i := 160) rfl)) ?_
  refine k_iconst (v := 1) h (ddX9_mend (285, .iconst 1, 1) (List.mem_of_getElem? (i := 161) rfl)) (by decide) ?_
  refine k_isub h (ddX9_mend (286, .isub, 1) (List.mem_of_getElem? (i := 162) rfl)) ?_
  refine k_iceq h (ddX9_mend (287, .if_icmp .eq 9, 3) (List.mem_of_getElem? (i := 163) rfl)) (tgt := 296) (by decide) ?_ ?_
  · exact sX9_mend_296 hl hQ h
  · exact sX9_mend_290 hl hQ h
theorem aX9_mend (l : Launch) (as : List Value) (sh : q_Sh) (m : q_Mm) (R : q_KR) (hw : wX9_mend as sh m R) : q_AM l yX9_mend (Cond.code yX9_mend cX9_mend 10 (some .int) :: q_G) rmX9_mend as sh m R := by
  refine q_met (code := TX9_mend) (by decide) (fun X hl hQ _ h pc => ?_) hw.1 hw.2
  unfold TX9_mend
  exact k_at (sX9_mend_0 hl hQ h) (k_at (sX9_mend_86 hl hQ h) (k_at (sX9_mend_109 hl hQ h) (k_at (sX9_mend_161 hl hQ h) (k_at (sX9_mend_255 hl hQ h) (k_at (sX9_mend_265 hl hQ h) (k_no))))))
/-! TumblingRockModel.write(I)I -/
abbrev dlX9_write : List (Nat × (Instr × Nat)) := [(0, .aload_n 0, 1), (1, .iload_n 1, 1), (2, .invokevirtual 197, 3), (5, .ifCond .ne 6, 3), (8, .ldc 196, 2), (10, .ireturn, 1), (11, .aload_n 0, 1), (12, .getfield 165, 3), (15, .bipush 30, 2), (17, .if_icmp .ne 6, 3), (20, .ldc 76, 2), (22, .ireturn, 1), (23, .aload_n 0, 1), (24, .getfield 63, 3), (27, .aload_n 0, 1), (28, .getfield 165, 3), (31, .iload_n 1, 1), (32, .iastore, 1), (33, .aload_n 0, 1), (34, .dup, 1), (35, .getfield 165, 3), (38, .iconst 1, 1), (39, .iadd, 1), (40, .putfield 165, 3), (43, .aload_n 0, 1), (44, .getfield 165, 3), (47, .ireturn, 1)]
theorem ddX9_write : ∀ q ∈ dlX9_write, decode cX9_write q.1 = .ok q.2 := by decide +kernel
theorem sX9_write_23 {l : Launch} {X : q_CX} (hl : X.2.1 = l) (hQ : q_QM X) (h : q_OK X yX9_write cX9_write 2 (some .int) rmX9_write (Cond.code yX9_write cX9_write 2 (some .int) :: q_G)) : q_SK X 2 23 (BX9_write_23) := by
  refine k_aload_n (i := 0) h (ddX9_write (23, .aload_n 0, 1) (List.mem_of_getElem? (i := 12) rfl)) rfl ?_
  refine k_getf (ci := 9) (j := 31) (C := RX9) (T := TX9) (N := 33) h rfl (fun w hw => List.mem_cons_of_mem _ (q_inX9 w hw)) (by decide) (List.mem_cons_of_mem _ gw603) (ddX9_write (24, .getfield 63, 3) (List.mem_of_getElem? (i := 13) rfl)) ?_
  refine k_aload_n (i := 0) h (ddX9_write (27, .aload_n 0, 1) (List.mem_of_getElem? (i := 14) rfl)) rfl ?_
  refine k_getf (ci := 9) (j := 32) (C := RX9) (T := TX9) (N := 33) h rfl (fun w hw => List.mem_cons_of_mem _ (q_inX9 w hw)) (by decide) (List.mem_cons_of_mem _ gw674) (ddX9_write (28, .getfield 165, 3) (List.mem_of_getElem? (i := 15) rfl)) ?_
  refine k_iload_n (i := 1) h (ddX9_write (31, .iload_n 1, 1) (List.mem_of_getElem? (i := 16) rfl)) rfl ?_
  refine k_iast h (ddX9_write (32, .iastore, 1) (List.mem_of_getElem? (i := 17) rfl)) ?_
  refine k_aload_n (i := 0) h (ddX9_write (33, .aload_n 0, 1) (List.mem_of_getElem? (i := 18) rfl)) rfl ?_
  refine k_dup h (ddX9_write (34, .dup, 1) (List.mem_of_getElem? (i := 19) rfl)) ?_
  refine k_getf (ci := 9) (j := 32) (C := RX9) (T := TX9) (N := 33) h rfl (fun w hw => List.mem_cons_of_mem _ (q_inX9 w hw)) (by decide) (List.mem_cons_of_mem _ gw674) (ddX9_write (35, .getfield 165, 3) (List.mem_of_getElem? (i := 20) rfl)) ?_
  refine k_iconst (v := 1) h (ddX9_write (38, .iconst 1, 1) (List.mem_of_getElem? (i := 21) rfl)) (by decide) ?_
  refine k_iadd h (ddX9_write (39, .iadd, 1) (List.mem_of_getElem? (i := 22) rfl)) ?_
  refine k_putf (ci := 9) (j := 32) (C := RX9) (T := TX9) (N := 33) h rfl (fun w hw => List.mem_cons_of_mem _ (q_inX9 w hw)) (by decide) (List.mem_cons_of_mem _ gw674) tyX9 tyX9_ok nmX9 (by decide +kernel) (by decide +kernel) (ddX9_write (40, .putfield 165, 3) (List.mem_of_getElem? (i := 23) rfl)) ?_
  refine k_aload_n (i := 0) h (ddX9_write (43, .aload_n 0, 1) (List.mem_of_getElem? (i := 24) rfl)) rfl ?_
  refine k_getf (ci := 9) (j := 32) (C := RX9) (T := TX9) (N := 33) h rfl (fun w hw => List.mem_cons_of_mem _ (q_inX9 w hw)) (by decide) (List.mem_cons_of_mem _ gw674) (ddX9_write (44, .getfield 165, 3) (List.mem_of_getElem? (i := 25) rfl)) ?_
  exact k_iret h hQ (ddX9_write (47, .ireturn, 1) (List.mem_of_getElem? (i := 26) rfl))
theorem sX9_write_20 {l : Launch} {X : q_CX} (hl : X.2.1 = l) (hQ : q_QM X) (h : q_OK X yX9_write cX9_write 2 (some .int) rmX9_write (Cond.code yX9_write cX9_write 2 (some .int) :: q_G)) : q_SK X 2 20 (BX9_write_20) := by
  refine k_ldc (v := (-1000000004)) h (ddX9_write (20, .ldc 76, 2) (List.mem_of_getElem? (i := 10) rfl)) (List.mem_cons_of_mem _ gw611) ?_
  exact k_iret h hQ (ddX9_write (22, .ireturn, 1) (List.mem_of_getElem? (i := 11) rfl))
theorem sX9_write_11 {l : Launch} {X : q_CX} (hl : X.2.1 = l) (hQ : q_QM X) (h : q_OK X yX9_write cX9_write 2 (some .int) rmX9_write (Cond.code yX9_write cX9_write 2 (some .int) :: q_G)) : q_SK X 2 11 (BX9_write_11) := by
  refine k_aload_n (i := 0) h (ddX9_write (11, .aload_n 0, 1) (List.mem_of_getElem? (i := 6) rfl)) rfl ?_
  refine k_getf (ci := 9) (j := 32) (C := RX9) (T := TX9) (N := 33) h rfl (fun w hw => List.mem_cons_of_mem _ (q_inX9 w hw)) (by decide) (List.mem_cons_of_mem _ gw674) (ddX9_write (12, .getfield 165, 3) (List.mem_of_getElem? (i := 7) rfl)) ?_
  refine k_bipush (v := 30) h (ddX9_write (15, .bipush 30, 2) (List.mem_of_getElem? (i := 8) rfl)) (by decide) ?_
  refine k_icne h (ddX9_write (17, .if_icmp .ne 6, 3) (List.mem_of_getElem? (i := 9) rfl)) (tgt := 23) (by decide) ?_ ?_
  · exact sX9_write_23 hl hQ h
  · exact sX9_write_20 hl hQ h
theorem sX9_write_8 {l : Launch} {X : q_CX} (hl : X.2.1 = l) (hQ : q_QM X) (h : q_OK X yX9_write cX9_write 2 (some .int) rmX9_write (Cond.code yX9_write cX9_write 2 (some .int) :: q_G)) : q_SK X 2 8 (BX9_write_8) := by
  refine k_ldc (v := (-1000000001)) h (ddX9_write (8, .ldc 196, 2) (List.mem_of_getElem? (i := 4) rfl)) (List.mem_cons_of_mem _ gw706) ?_
  exact k_iret h hQ (ddX9_write (10, .ireturn, 1) (List.mem_of_getElem? (i := 5) rfl))
theorem sX9_write_0 {l : Launch} {X : q_CX} (hl : X.2.1 = l) (hQ : q_QM X) (h : q_OK X yX9_write cX9_write 2 (some .int) rmX9_write (Cond.code yX9_write cX9_write 2 (some .int) :: q_G)) : q_SK X 2 0 (BX9_write_0) := by
  refine k_aload_n (i := 0) h (ddX9_write (0, .aload_n 0, 1) (List.mem_of_getElem? (i := 0) rfl)) rfl ?_
  refine k_iload_n (i := 1) h (ddX9_write (1, .iload_n 1, 1) (List.mem_of_getElem? (i := 1) rfl)) rfl ?_
  refine k_callV h hl (aX9_isPlace l) (ci := 9) (C := RX9) (T := TX9) (N := 33) rfl ⟨rfl, rfl⟩ (n := 1) (by decide +kernel) (q_gV gw708 gw709 gw710 gw606 gw707) ⟨by decide, by decide⟩ (ddX9_write (2, .invokevirtual 197, 3) (List.mem_of_getElem? (i := 2) rfl)) ?_
  refine k_ifne h (ddX9_write (5, .ifCond .ne 6, 3) (List.mem_of_getElem? (i := 3) rfl)) (tgt := 11) (by decide) ?_ ?_
  · exact sX9_write_11 hl hQ h
  · exact sX9_write_8 hl hQ h
theorem aX9_write (l : Launch) (as : List Value) (sh : q_Sh) (m : q_Mm) (R : q_KR) (hw : wX9_write as sh m R) : q_AM l yX9_write (Cond.code yX9_write cX9_write 2 (some .int) :: q_G) rmX9_write as sh m R := by
  refine q_met (code := TX9_write) (by decide) (fun X hl hQ _ h pc => ?_) hw.1 hw.2
  unfold TX9_write
  exact k_at (sX9_write_0 hl hQ h) (k_no)
/-! TumblingRockModel.tear()I -/
abbrev dlX9_tear : List (Nat × (Instr × Nat)) := [(0, .aload_n 0, 1), (1, .getfield 165, 3), (4, .aload_n 0, 1), (5, .getfield 162, 3), (8, .iadd, 1), (9, .istore_n 1, 1), (10, .aload_n 0, 1), (11, .iconst 0, 1), (12, .putfield 165, 3), (15, .aload_n 0, 1), (16, .iconst 0, 1), (17, .putfield 162, 3), (20, .iload_n 1, 1), (21, .ireturn, 1)]
theorem ddX9_tear : ∀ q ∈ dlX9_tear, decode cX9_tear q.1 = .ok q.2 := by decide +kernel
theorem sX9_tear_0 {l : Launch} {X : q_CX} (hl : X.2.1 = l) (hQ : q_QM X) (h : q_OK X yX9_tear cX9_tear 2 (some .int) rmX9_tear (Cond.code yX9_tear cX9_tear 2 (some .int) :: q_G)) : q_SK X 2 0 (BX9_tear_0) := by
  refine k_aload_n (i := 0) h (ddX9_tear (0, .aload_n 0, 1) (List.mem_of_getElem? (i := 0) rfl)) rfl ?_
  refine k_getf (ci := 9) (j := 32) (C := RX9) (T := TX9) (N := 33) h rfl (fun w hw => List.mem_cons_of_mem _ (q_inX9 w hw)) (by decide) (List.mem_cons_of_mem _ gw674) (ddX9_tear (1, .getfield 165, 3) (List.mem_of_getElem? (i := 1) rfl)) ?_
  refine k_aload_n (i := 0) h (ddX9_tear (4, .aload_n 0, 1) (List.mem_of_getElem? (i := 2) rfl)) rfl ?_
  refine k_getf (ci := 9) (j := 28) (C := RX9) (T := TX9) (N := 33) h rfl (fun w hw => List.mem_cons_of_mem _ (q_inX9 w hw)) (by decide) (List.mem_cons_of_mem _ gw673) (ddX9_tear (5, .getfield 162, 3) (List.mem_of_getElem? (i := 3) rfl)) ?_
  refine k_iadd h (ddX9_tear (8, .iadd, 1) (List.mem_of_getElem? (i := 4) rfl)) ?_
  refine k_istore_n (i := 1) h (ddX9_tear (9, .istore_n 1, 1) (List.mem_of_getElem? (i := 5) rfl)) rfl (by decide) ?_
  refine k_aload_n (i := 0) h (ddX9_tear (10, .aload_n 0, 1) (List.mem_of_getElem? (i := 6) rfl)) rfl ?_
  refine k_iconst (v := 0) h (ddX9_tear (11, .iconst 0, 1) (List.mem_of_getElem? (i := 7) rfl)) (by decide) ?_
  refine k_putf (ci := 9) (j := 32) (C := RX9) (T := TX9) (N := 33) h rfl (fun w hw => List.mem_cons_of_mem _ (q_inX9 w hw)) (by decide) (List.mem_cons_of_mem _ gw674) tyX9 tyX9_ok nmX9 (by decide +kernel) (by decide +kernel) (ddX9_tear (12, .putfield 165, 3) (List.mem_of_getElem? (i := 8) rfl)) ?_
  refine k_aload_n (i := 0) h (ddX9_tear (15, .aload_n 0, 1) (List.mem_of_getElem? (i := 9) rfl)) rfl ?_
  refine k_iconst (v := 0) h (ddX9_tear (16, .iconst 0, 1) (List.mem_of_getElem? (i := 10) rfl)) (by decide) ?_
  refine k_putf (ci := 9) (j := 28) (C := RX9) (T := TX9) (N := 33) h rfl (fun w hw => List.mem_cons_of_mem _ (q_inX9 w hw)) (by decide) (List.mem_cons_of_mem _ gw673) tyX9 tyX9_ok nmX9 (by decide +kernel) (by decide +kernel) (ddX9_tear (17, .putfield 162, 3) (List.mem_of_getElem? (i := 11) rfl)) ?_
  refine k_iload_n (i := 1) h (ddX9_tear (20, .iload_n 1, 1) (List.mem_of_getElem? (i := 12) rfl)) rfl ?_
  exact k_iret h hQ (ddX9_tear (21, .ireturn, 1) (List.mem_of_getElem? (i := 13) rfl))
theorem aX9_tear (l : Launch) (as : List Value) (sh : q_Sh) (m : q_Mm) (R : q_KR) (hw : wX9_tear as sh m R) : q_AM l yX9_tear (Cond.code yX9_tear cX9_tear 2 (some .int) :: q_G) rmX9_tear as sh m R := by
  refine q_met (code := TX9_tear) (by decide) (fun X hl hQ _ h pc => ?_) hw.1 hw.2
  unfold TX9_tear
  exact k_at (sX9_tear_0 hl hQ h) (k_no)
/-! TumblingRockModel.judge(I)I -/
abbrev dlX9_judge : List (Nat × (Instr × Nat)) := [(0, .iload_n 1, 1), (1, .i2l, 1), (2, .lconst 0, 1), (3, .lconst 1, 1), (4, .invokestatic 68, 3), (7, .ifCond .ne 6, 3), (10, .ldc 72, 2), (12, .ireturn, 1), (13, .iconst (-1), 1), (14, .istore_n 2, 1), (15, .iconst 0, 1), (16, .istore_n 3, 1), (17, .iconst 0, 1), (18, .istore 4, 2), (20, .iload 4, 2), (22, .aload_n 0, 1), (23, .getfield 165, 3), (26, .if_icmp .ge 67, 3), (29, .iload_n 2, 1), (30, .ifCond .ge 36, 3), (33, .iload 4, 2), (35, .ifCond .le 31, 3), (38, .aload_n 0, 1), (39, .aload_n 0, 1), (40, .getfield 63, 3), (43, .iload 4, 2), (45, .iconst 1, 1), (46, .isub, 1), (47, .iaload, 1), (48, .aload_n 0, 1), (49, .getfield 63, 3), (52, .iload 4, 2), (54, .iaload, 1), (55, .invokevirtual 238, 3), (58, .ifCond .ne 8, 3), (61, .iload 4, 2), (63, .goto 4, 3), (66, .iload_n 2, 1), (67, .istore_n 2, 1), (68, .iload_n 3, 1), (69, .aload_n 0, 1), (70, .aload_n 0, 1), (71, .getfield 63, 3), (74, .iload 4, 2), (76, .iaload, 1), (77, .iload 4, 2), (79, .invokevirtual 182, 3), (82, .invokestatic 185, 3), (85, .iadd, 1), (86, .istore_n 3, 1), (87, .iinc 4 1, 3), (90, .goto (-70), 3), (93, .iload_n 1, 1), (94, .ifCond .ne 7, 3), (97, .iload_n 2, 1), (98, .goto 4, 3), (101, .iload_n 3, 1), (102, .ireturn, 1)]
theorem ddX9_judge : ∀ q ∈ dlX9_judge, decode cX9_judge q.1 = .ok q.2 := by decide +kernel
theorem sX9_judge_13 {l : Launch} {X : q_CX} (hl : X.2.1 = l) (hQ : q_QM X) (h : q_OK X yX9_judge cX9_judge 5 (some .int) rmX9_judge (Cond.code yX9_judge cX9_judge 5 (some .int) :: q_G)) : q_SK X 5 13 (BX9_judge_13) := by
  refine k_iconst (v := (-1)) h (ddX9_judge (13, .iconst (-1), 1) (List.mem_of_getElem? (i := 8) rfl)) (by decide) ?_
  refine k_istore_n (i := 2) h (ddX9_judge (14, .istore_n 2, 1) (List.mem_of_getElem? (i := 9) rfl)) rfl (by decide) ?_
  refine k_iconst (v := 0) h (ddX9_judge (15, .iconst 0, 1) (List.mem_of_getElem? (i := 10) rfl)) (by decide) ?_
  refine k_istore_n (i := 3) h (ddX9_judge (16, .istore_n 3, 1) (List.mem_of_getElem? (i := 11) rfl)) rfl (by decide) ?_
  refine k_iconst (v := 0) h (ddX9_judge (17, .iconst 0, 1) (List.mem_of_getElem? (i := 12) rfl)) (by decide) ?_
  refine k_istore (i := 4) h (ddX9_judge (18, .istore 4, 2) (List.mem_of_getElem? (i := 13) rfl)) (by decide) ?_
  exact k_cut
theorem sX9_judge_10 {l : Launch} {X : q_CX} (hl : X.2.1 = l) (hQ : q_QM X) (h : q_OK X yX9_judge cX9_judge 5 (some .int) rmX9_judge (Cond.code yX9_judge cX9_judge 5 (some .int) :: q_G)) : q_SK X 5 10 (BX9_judge_10) := by
  refine k_ldc (v := (-1000000002)) h (ddX9_judge (10, .ldc 72, 2) (List.mem_of_getElem? (i := 6) rfl)) (List.mem_cons_of_mem _ gw609) ?_
  exact k_iret h hQ (ddX9_judge (12, .ireturn, 1) (List.mem_of_getElem? (i := 7) rfl))
theorem sX9_judge_0 {l : Launch} {X : q_CX} (hl : X.2.1 = l) (hQ : q_QM X) (h : q_OK X yX9_judge cX9_judge 5 (some .int) rmX9_judge (Cond.code yX9_judge cX9_judge 5 (some .int) :: q_G)) : q_SK X 5 0 (BX9_judge_0) := by
  refine k_iload_n (i := 1) h (ddX9_judge (0, .iload_n 1, 1) (List.mem_of_getElem? (i := 0) rfl)) rfl ?_
  refine k_i2l h (ddX9_judge (1, .i2l, 1) (List.mem_of_getElem? (i := 1) rfl)) ?_
  refine k_lconst (v := 0) h (ddX9_judge (2, .lconst 0, 1) (List.mem_of_getElem? (i := 2) rfl)) (by decide) ?_
  refine k_lconst (v := 1) h (ddX9_judge (3, .lconst 1, 1) (List.mem_of_getElem? (i := 3) rfl)) (by decide) ?_
  refine k_callS h hl (aX9_in l) ⟨rfl, rfl⟩ (n := 3) (by decide +kernel) (q_gS gw608 gw607 gw606 gw605) ⟨by decide, by decide⟩ (ddX9_judge (4, .invokestatic 68, 3) (List.mem_of_getElem? (i := 4) rfl)) ?_
  refine k_ifne h (ddX9_judge (7, .ifCond .ne 6, 3) (List.mem_of_getElem? (i := 5) rfl)) (tgt := 13) (by decide) ?_ ?_
  · exact sX9_judge_13 hl hQ h
  · exact sX9_judge_10 hl hQ h
theorem sX9_judge_102 {l : Launch} {X : q_CX} (hl : X.2.1 = l) (hQ : q_QM X) (h : q_OK X yX9_judge cX9_judge 5 (some .int) rmX9_judge (Cond.code yX9_judge cX9_judge 5 (some .int) :: q_G)) : q_SK X 5 102 (BX9_judge_102) := by
  exact k_iret h hQ (ddX9_judge (102, .ireturn, 1) (List.mem_of_getElem? (i := 57) rfl))
theorem sX9_judge_101 {l : Launch} {X : q_CX} (hl : X.2.1 = l) (hQ : q_QM X) (h : q_OK X yX9_judge cX9_judge 5 (some .int) rmX9_judge (Cond.code yX9_judge cX9_judge 5 (some .int) :: q_G)) : q_SK X 5 101 (BX9_judge_101) := by
  refine k_iload_n (i := 3) h (ddX9_judge (101, .iload_n 3, 1) (List.mem_of_getElem? (i := 56) rfl)) rfl ?_
  exact sX9_judge_102 hl hQ h
theorem sX9_judge_97 {l : Launch} {X : q_CX} (hl : X.2.1 = l) (hQ : q_QM X) (h : q_OK X yX9_judge cX9_judge 5 (some .int) rmX9_judge (Cond.code yX9_judge cX9_judge 5 (some .int) :: q_G)) : q_SK X 5 97 (BX9_judge_97) := by
  refine k_iload_n (i := 2) h (ddX9_judge (97, .iload_n 2, 1) (List.mem_of_getElem? (i := 54) rfl)) rfl ?_
  refine k_goto h (ddX9_judge (98, .goto 4, 3) (List.mem_of_getElem? (i := 55) rfl)) (tgt := 102) (by decide) ?_
  exact sX9_judge_102 hl hQ h
theorem sX9_judge_93 {l : Launch} {X : q_CX} (hl : X.2.1 = l) (hQ : q_QM X) (h : q_OK X yX9_judge cX9_judge 5 (some .int) rmX9_judge (Cond.code yX9_judge cX9_judge 5 (some .int) :: q_G)) : q_SK X 5 93 (BX9_judge_93) := by
  refine k_iload_n (i := 1) h (ddX9_judge (93, .iload_n 1, 1) (List.mem_of_getElem? (i := 52) rfl)) rfl ?_
  refine k_ifne h (ddX9_judge (94, .ifCond .ne 7, 3) (List.mem_of_getElem? (i := 53) rfl)) (tgt := 101) (by decide) ?_ ?_
  · exact sX9_judge_101 hl hQ h
  · exact sX9_judge_97 hl hQ h
theorem sX9_judge_67 {l : Launch} {X : q_CX} (hl : X.2.1 = l) (hQ : q_QM X) (h : q_OK X yX9_judge cX9_judge 5 (some .int) rmX9_judge (Cond.code yX9_judge cX9_judge 5 (some .int) :: q_G)) : q_SK X 5 67 (BX9_judge_67) := by
  refine k_istore_n (i := 2) h (ddX9_judge (67, .istore_n 2, 1) (List.mem_of_getElem? (i := 38) rfl)) rfl (by decide) ?_
  refine k_iload_n (i := 3) h (ddX9_judge (68, .iload_n 3, 1) (List.mem_of_getElem? (i := 39) rfl)) rfl ?_
  refine k_aload_n (i := 0) h (ddX9_judge (69, .aload_n 0, 1) (List.mem_of_getElem? (i := 40) rfl)) rfl ?_
  refine k_aload_n (i := 0) h (ddX9_judge (70, .aload_n 0, 1) (List.mem_of_getElem? (i := 41) rfl)) rfl ?_
  refine k_getf (ci := 9) (j := 31) (C := RX9) (T := TX9) (N := 33) h rfl (fun w hw => List.mem_cons_of_mem _ (q_inX9 w hw)) (by decide) (List.mem_cons_of_mem _ gw603) (ddX9_judge (71, .getfield 63, 3) (List.mem_of_getElem? (i := 42) rfl)) ?_
  refine k_iload (i := 4) h (ddX9_judge (74, .iload 4, 2) (List.mem_of_getElem? (i := 43) rfl)) ?_
  refine k_iald h (ddX9_judge (76, .iaload, 1) (List.mem_of_getElem? (i := 44) rfl)) ?_
  refine k_iload (i := 4) h (ddX9_judge (77, .iload 4, 2) (List.mem_of_getElem? (i := 45) rfl)) ?_
  refine k_callV h hl (aX9_isLit l) (ci := 9) (C := RX9) (T := TX9) (N := 33) rfl ⟨rfl, rfl⟩ (n := 2) (by decide +kernel) (q_gV gw692 gw693 gw694 gw606 gw691) ⟨by decide, by decide⟩ (ddX9_judge (79, .invokevirtual 182, 3) (List.mem_of_getElem? (i := 46) rfl)) ?_
  refine k_callS h hl (aX9_one l) ⟨rfl, rfl⟩ (n := 1) (by decide +kernel) (q_gS gw697 gw696 gw606 gw695) ⟨by decide, by decide⟩ (ddX9_judge (82, .invokestatic 185, 3) (List.mem_of_getElem? (i := 47) rfl)) ?_
  refine k_iadd h (ddX9_judge (85, .iadd, 1) (List.mem_of_getElem? (i := 48) rfl)) ?_
  refine k_istore_n (i := 3) h (ddX9_judge (86, .istore_n 3, 1) (List.mem_of_getElem? (i := 49) rfl)) rfl (by decide) ?_
  refine k_iinc (d := 1) h (ddX9_judge (87, .iinc 4 1, 3) (List.mem_of_getElem? (i := 50) rfl)) (by decide) (by decide) ?_
  refine k_goto h (ddX9_judge (90, .goto (-70), 3) (List.mem_of_getElem? (i := 51) rfl)) (tgt := 20) (by decide) ?_
  exact k_cut
theorem sX9_judge_61 {l : Launch} {X : q_CX} (hl : X.2.1 = l) (hQ : q_QM X) (h : q_OK X yX9_judge cX9_judge 5 (some .int) rmX9_judge (Cond.code yX9_judge cX9_judge 5 (some .int) :: q_G)) : q_SK X 5 61 (BX9_judge_61) := by
  refine k_iload (i := 4) h (ddX9_judge (61, .iload 4, 2) (List.mem_of_getElem? (i := 35) rfl)) ?_
  refine k_goto h (ddX9_judge (63, .goto 4, 3) (List.mem_of_getElem? (i := 36) rfl)) (tgt := 67) (by decide) ?_
  exact sX9_judge_67 hl hQ h
theorem sX9_judge_38 {l : Launch} {X : q_CX} (hl : X.2.1 = l) (hQ : q_QM X) (h : q_OK X yX9_judge cX9_judge 5 (some .int) rmX9_judge (Cond.code yX9_judge cX9_judge 5 (some .int) :: q_G)) : q_SK X 5 38 (BX9_judge_38) := by
  refine k_aload_n (i := 0) h (ddX9_judge (38, .aload_n 0, 1) (List.mem_of_getElem? (i := 22) rfl)) rfl ?_
  refine k_aload_n (i := 0) h (ddX9_judge (39, .aload_n 0, 1) (List.mem_of_getElem? (i := 23) rfl)) rfl ?_
  refine k_getf (ci := 9) (j := 31) (C := RX9) (T := TX9) (N := 33) h rfl (fun w hw => List.mem_cons_of_mem _ (q_inX9 w hw)) (by decide) (List.mem_cons_of_mem _ gw603) (ddX9_judge (40, .getfield 63, 3) (List.mem_of_getElem? (i := 24) rfl)) ?_
  refine k_iload (i := 4) h (ddX9_judge (43, .iload 4, 2) (List.mem_of_getElem? (i := 25) rfl)) ?_
  refine k_iconst (v := 1) h (ddX9_judge (45, .iconst 1, 1) (List.mem_of_getElem? (i := 26) rfl)) (by decide) ?_
  refine k_isub h (ddX9_judge (46, .isub, 1) (List.mem_of_getElem? (i := 27) rfl)) ?_
  refine k_iald h (ddX9_judge (47, .iaload, 1) (List.mem_of_getElem? (i := 28) rfl)) ?_
  refine k_aload_n (i := 0) h (ddX9_judge (48, .aload_n 0, 1) (List.mem_of_getElem? (i := 29) rfl)) rfl ?_
  refine k_getf (ci := 9) (j := 31) (C := RX9) (T := TX9) (N := 33) h rfl (fun w hw => List.mem_cons_of_mem _ (q_inX9 w hw)) (by decide) (List.mem_cons_of_mem _ gw603) (ddX9_judge (49, .getfield 63, 3) (List.mem_of_getElem? (i := 30) rfl)) ?_
  refine k_iload (i := 4) h (ddX9_judge (52, .iload 4, 2) (List.mem_of_getElem? (i := 31) rfl)) ?_
  refine k_iald h (ddX9_judge (54, .iaload, 1) (List.mem_of_getElem? (i := 32) rfl)) ?_
  refine k_callV h hl (aX9_mayGo l) (ci := 9) (C := RX9) (T := TX9) (N := 33) rfl ⟨rfl, rfl⟩ (n := 2) (by decide +kernel) (q_gV gw747 gw748 gw749 gw606 gw746) ⟨by decide, by decide⟩ (ddX9_judge (55, .invokevirtual 238, 3) (List.mem_of_getElem? (i := 33) rfl)) ?_
  refine k_ifne h (ddX9_judge (58, .ifCond .ne 8, 3) (List.mem_of_getElem? (i := 34) rfl)) (tgt := 66) (by decide) ?_ ?_
  · exact k_cut
  · exact sX9_judge_61 hl hQ h
theorem sX9_judge_33 {l : Launch} {X : q_CX} (hl : X.2.1 = l) (hQ : q_QM X) (h : q_OK X yX9_judge cX9_judge 5 (some .int) rmX9_judge (Cond.code yX9_judge cX9_judge 5 (some .int) :: q_G)) : q_SK X 5 33 (BX9_judge_33) := by
  refine k_iload (i := 4) h (ddX9_judge (33, .iload 4, 2) (List.mem_of_getElem? (i := 20) rfl)) ?_
  refine k_ifle h (ddX9_judge (35, .ifCond .le 31, 3) (List.mem_of_getElem? (i := 21) rfl)) (tgt := 66) (by decide) ?_ ?_
  · exact k_cut
  · exact sX9_judge_38 hl hQ h
theorem sX9_judge_29 {l : Launch} {X : q_CX} (hl : X.2.1 = l) (hQ : q_QM X) (h : q_OK X yX9_judge cX9_judge 5 (some .int) rmX9_judge (Cond.code yX9_judge cX9_judge 5 (some .int) :: q_G)) : q_SK X 5 29 (BX9_judge_29) := by
  refine k_iload_n (i := 2) h (ddX9_judge (29, .iload_n 2, 1) (List.mem_of_getElem? (i := 18) rfl)) rfl ?_
  refine k_ifge h (ddX9_judge (30, .ifCond .ge 36, 3) (List.mem_of_getElem? (i := 19) rfl)) (tgt := 66) (by decide) ?_ ?_
  · exact k_cut
  · exact sX9_judge_33 hl hQ h
theorem sX9_judge_20 {l : Launch} {X : q_CX} (hl : X.2.1 = l) (hQ : q_QM X) (h : q_OK X yX9_judge cX9_judge 5 (some .int) rmX9_judge (Cond.code yX9_judge cX9_judge 5 (some .int) :: q_G)) : q_SK X 5 20 (BX9_judge_20) := by
  refine k_iload (i := 4) h (ddX9_judge (20, .iload 4, 2) (List.mem_of_getElem? (i := 14) rfl)) ?_
  refine k_aload_n (i := 0) h (ddX9_judge (22, .aload_n 0, 1) (List.mem_of_getElem? (i := 15) rfl)) rfl ?_
  refine k_getf (ci := 9) (j := 32) (C := RX9) (T := TX9) (N := 33) h rfl (fun w hw => List.mem_cons_of_mem _ (q_inX9 w hw)) (by decide) (List.mem_cons_of_mem _ gw674) (ddX9_judge (23, .getfield 165, 3) (List.mem_of_getElem? (i := 16) rfl)) ?_
  refine k_icge h (ddX9_judge (26, .if_icmp .ge 67, 3) (List.mem_of_getElem? (i := 17) rfl)) (tgt := 93) (by decide) ?_ ?_
  · exact sX9_judge_93 hl hQ h
  · exact sX9_judge_29 hl hQ h
theorem sX9_judge_66 {l : Launch} {X : q_CX} (hl : X.2.1 = l) (hQ : q_QM X) (h : q_OK X yX9_judge cX9_judge 5 (some .int) rmX9_judge (Cond.code yX9_judge cX9_judge 5 (some .int) :: q_G)) : q_SK X 5 66 (BX9_judge_66) := by
  refine k_iload_n (i := 2) h (ddX9_judge (66, .iload_n 2, 1) (List.mem_of_getElem? (i := 37) rfl)) rfl ?_
  exact sX9_judge_67 hl hQ h
theorem aX9_judge (l : Launch) (as : List Value) (sh : q_Sh) (m : q_Mm) (R : q_KR) (hw : wX9_judge as sh m R) : q_AM l yX9_judge (Cond.code yX9_judge cX9_judge 5 (some .int) :: q_G) rmX9_judge as sh m R := by
  refine q_met (code := TX9_judge) (by decide) (fun X hl hQ _ h pc => ?_) hw.1 hw.2
  unfold TX9_judge
  exact k_at (sX9_judge_0 hl hQ h) (k_at (sX9_judge_20 hl hQ h) (k_at (sX9_judge_66 hl hQ h) (k_no)))
/-! TumblingRockModel.seed(I)I -/
abbrev dlX9_seed : List (Nat × (Instr × Nat)) := [(0, .iload_n 1, 1), (1, .ifCond .ge 6, 3), (4, .ldc 72, 2), (6, .ireturn, 1), (7, .aload_n 0, 1), (8, .getfield 7, 3), (11, .bipush 6, 2), (13, .iaload, 1), (14, .istore_n 2, 1), (15, .aload_n 0, 1), (16, .getfield 7, 3), (19, .bipush 6, 2), (21, .iload_n 1, 1), (22, .iastore, 1), (23, .iload_n 2, 1), (24, .ireturn, 1)]
theorem ddX9_seed : ∀ q ∈ dlX9_seed, decode cX9_seed q.1 = .ok q.2 := by decide +kernel
theorem sX9_seed_7 {l : Launch} {X : q_CX} (hl : X.2.1 = l) (hQ : q_QM X) (h : q_OK X yX9_seed cX9_seed 3 (some .int) rmX9_seed (Cond.code yX9_seed cX9_seed 3 (some .int) :: q_G)) : q_SK X 3 7 (BX9_seed_7) := by
  refine k_aload_n (i := 0) h (ddX9_seed (7, .aload_n 0, 1) (List.mem_of_getElem? (i := 4) rfl)) rfl ?_
  refine k_getf (ci := 9) (j := 0) (C := RX9) (T := TX9) (N := 33) h rfl (fun w hw => List.mem_cons_of_mem _ (q_inX9 w hw)) (by decide) (List.mem_cons_of_mem _ gw586) (ddX9_seed (8, .getfield 7, 3) (List.mem_of_getElem? (i := 5) rfl)) ?_
  refine k_bipush (v := 6) h (ddX9_seed (11, .bipush 6, 2) (List.mem_of_getElem? (i := 6) rfl)) (by decide) ?_
  refine k_iald h (ddX9_seed (13, .iaload, 1) (List.mem_of_getElem? (i := 7) rfl)) ?_
  refine k_istore_n (i := 2) h (ddX9_seed (14, .istore_n 2, 1) (List.mem_of_getElem? (i := 8) rfl)) rfl (by decide) ?_
  refine k_aload_n (i := 0) h (ddX9_seed (15, .aload_n 0, 1) (List.mem_of_getElem? (i := 9) rfl)) rfl ?_
  refine k_getf (ci := 9) (j := 0) (C := RX9) (T := TX9) (N := 33) h rfl (fun w hw => List.mem_cons_of_mem _ (q_inX9 w hw)) (by decide) (List.mem_cons_of_mem _ gw586) (ddX9_seed (16, .getfield 7, 3) (List.mem_of_getElem? (i := 10) rfl)) ?_
  refine k_bipush (v := 6) h (ddX9_seed (19, .bipush 6, 2) (List.mem_of_getElem? (i := 11) rfl)) (by decide) ?_
  refine k_iload_n (i := 1) h (ddX9_seed (21, .iload_n 1, 1) (List.mem_of_getElem? (i := 12) rfl)) rfl ?_
  refine k_iast h (ddX9_seed (22, .iastore, 1) (List.mem_of_getElem? (i := 13) rfl)) ?_
  refine k_iload_n (i := 2) h (ddX9_seed (23, .iload_n 2, 1) (List.mem_of_getElem? (i := 14) rfl)) rfl ?_
  exact k_iret h hQ (ddX9_seed (24, .ireturn, 1) (List.mem_of_getElem? (i := 15) rfl))
theorem sX9_seed_4 {l : Launch} {X : q_CX} (hl : X.2.1 = l) (hQ : q_QM X) (h : q_OK X yX9_seed cX9_seed 3 (some .int) rmX9_seed (Cond.code yX9_seed cX9_seed 3 (some .int) :: q_G)) : q_SK X 3 4 (BX9_seed_4) := by
  refine k_ldc (v := (-1000000002)) h (ddX9_seed (4, .ldc 72, 2) (List.mem_of_getElem? (i := 2) rfl)) (List.mem_cons_of_mem _ gw609) ?_
  exact k_iret h hQ (ddX9_seed (6, .ireturn, 1) (List.mem_of_getElem? (i := 3) rfl))
theorem sX9_seed_0 {l : Launch} {X : q_CX} (hl : X.2.1 = l) (hQ : q_QM X) (h : q_OK X yX9_seed cX9_seed 3 (some .int) rmX9_seed (Cond.code yX9_seed cX9_seed 3 (some .int) :: q_G)) : q_SK X 3 0 (BX9_seed_0) := by
  refine k_iload_n (i := 1) h (ddX9_seed (0, .iload_n 1, 1) (List.mem_of_getElem? (i := 0) rfl)) rfl ?_
  refine k_ifge h (ddX9_seed (1, .ifCond .ge 6, 3) (List.mem_of_getElem? (i := 1) rfl)) (tgt := 7) (by decide) ?_ ?_
  · exact sX9_seed_7 hl hQ h
  · exact sX9_seed_4 hl hQ h
theorem aX9_seed (l : Launch) (as : List Value) (sh : q_Sh) (m : q_Mm) (R : q_KR) (hw : wX9_seed as sh m R) : q_AM l yX9_seed (Cond.code yX9_seed cX9_seed 3 (some .int) :: q_G) rmX9_seed as sh m R := by
  refine q_met (code := TX9_seed) (by decide) (fun X hl hQ _ h pc => ?_) hw.1 hw.2
  unfold TX9_seed
  exact k_at (sX9_seed_0 hl hQ h) (k_no)
/-! TumblingRockModel.copy(II)V -/
abbrev dlX9_copy : List (Nat × (Instr × Nat)) := [(0, .iconst 0, 1), (1, .istore_n 3, 1), (2, .iload_n 3, 1), (3, .bipush 8, 2), (5, .if_icmp .ge 25, 3), (8, .aload_n 0, 1), (9, .getfield 7, 3), (12, .iload_n 2, 1), (13, .iload_n 3, 1), (14, .iadd, 1), (15, .aload_n 0, 1), (16, .getfield 7, 3), (19, .iload_n 1, 1), (20, .iload_n 3, 1), (21, .iadd, 1), (22, .iaload, 1), (23, .iastore, 1), (24, .iinc 3 1, 3), (27, .goto (-25), 3), (30, .return_, 1)]
theorem ddX9_copy : ∀ q ∈ dlX9_copy, decode cX9_copy q.1 = .ok q.2 := by decide +kernel
theorem sX9_copy_0 {l : Launch} {X : q_CX} (hl : X.2.1 = l) (hQ : q_QM X) (h : q_OK X yX9_copy cX9_copy 4 none rmX9_copy (Cond.code yX9_copy cX9_copy 4 none :: q_G)) : q_SK X 4 0 (BX9_copy_0) := by
  refine k_iconst (v := 0) h (ddX9_copy (0, .iconst 0, 1) (List.mem_of_getElem? (i := 0) rfl)) (by decide) ?_
  refine k_istore_n (i := 3) h (ddX9_copy (1, .istore_n 3, 1) (List.mem_of_getElem? (i := 1) rfl)) rfl (by decide) ?_
  exact k_cut
theorem sX9_copy_30 {l : Launch} {X : q_CX} (hl : X.2.1 = l) (hQ : q_QM X) (h : q_OK X yX9_copy cX9_copy 4 none rmX9_copy (Cond.code yX9_copy cX9_copy 4 none :: q_G)) : q_SK X 4 30 (BX9_copy_30) := by
  exact k_vret h hQ (ddX9_copy (30, .return_, 1) (List.mem_of_getElem? (i := 19) rfl))
theorem sX9_copy_8 {l : Launch} {X : q_CX} (hl : X.2.1 = l) (hQ : q_QM X) (h : q_OK X yX9_copy cX9_copy 4 none rmX9_copy (Cond.code yX9_copy cX9_copy 4 none :: q_G)) : q_SK X 4 8 (BX9_copy_8) := by
  refine k_aload_n (i := 0) h (ddX9_copy (8, .aload_n 0, 1) (List.mem_of_getElem? (i := 5) rfl)) rfl ?_
  refine k_getf (ci := 9) (j := 0) (C := RX9) (T := TX9) (N := 33) h rfl (fun w hw => List.mem_cons_of_mem _ (q_inX9 w hw)) (by decide) (List.mem_cons_of_mem _ gw586) (ddX9_copy (9, .getfield 7, 3) (List.mem_of_getElem? (i := 6) rfl)) ?_
  refine k_iload_n (i := 2) h (ddX9_copy (12, .iload_n 2, 1) (List.mem_of_getElem? (i := 7) rfl)) rfl ?_
  refine k_iload_n (i := 3) h (ddX9_copy (13, .iload_n 3, 1) (List.mem_of_getElem? (i := 8) rfl)) rfl ?_
  refine k_iadd h (ddX9_copy (14, .iadd, 1) (List.mem_of_getElem? (i := 9) rfl)) ?_
  refine k_aload_n (i := 0) h (ddX9_copy (15, .aload_n 0, 1) (List.mem_of_getElem? (i := 10) rfl)) rfl ?_
  refine k_getf (ci := 9) (j := 0) (C := RX9) (T := TX9) (N := 33) h rfl (fun w hw => List.mem_cons_of_mem _ (q_inX9 w hw)) (by decide) (List.mem_cons_of_mem _ gw586) (ddX9_copy (16, .getfield 7, 3) (List.mem_of_getElem? (i := 11) rfl)) ?_
  refine k_iload_n (i := 1) h (ddX9_copy (19, .iload_n 1, 1) (List.mem_of_getElem? (i := 12) rfl)) rfl ?_
  refine k_iload_n (i := 3) h (ddX9_copy (20, .iload_n 3, 1) (List.mem_of_getElem? (i := 13) rfl)) rfl ?_
  refine k_iadd h (ddX9_copy (21, .iadd, 1) (List.mem_of_getElem? (i := 14) rfl)) ?_
  refine k_iald h (ddX9_copy (22, .iaload, 1) (List.mem_of_getElem? (i := 15) rfl)) ?_
  refine k_iast h (ddX9_copy (23, .iastore, 1) (List.mem_of_getElem? (i := 16) rfl)) ?_
  refine k_iinc (d := 1) h (ddX9_copy (24, .iinc 3 1, 3) (List.mem_of_getElem? (i := 17) rfl)) (by decide) (by decide) ?_
  refine k_goto h (ddX9_copy (27, .goto (-25), 3) (List.mem_of_getElem? (i := 18) rfl)) (tgt := 2) (by decide) ?_
  exact k_cut
theorem sX9_copy_2 {l : Launch} {X : q_CX} (hl : X.2.1 = l) (hQ : q_QM X) (h : q_OK X yX9_copy cX9_copy 4 none rmX9_copy (Cond.code yX9_copy cX9_copy 4 none :: q_G)) : q_SK X 4 2 (BX9_copy_2) := by
  refine k_iload_n (i := 3) h (ddX9_copy (2, .iload_n 3, 1) (List.mem_of_getElem? (i := 2) rfl)) rfl ?_
  refine k_bipush (v := 8) h (ddX9_copy (3, .bipush 8, 2) (List.mem_of_getElem? (i := 3) rfl)) (by decide) ?_
  refine k_icge h (ddX9_copy (5, .if_icmp .ge 25, 3) (List.mem_of_getElem? (i := 4) rfl)) (tgt := 30) (by decide) ?_ ?_
  · exact sX9_copy_30 hl hQ h
  · exact sX9_copy_8 hl hQ h
theorem aX9_copy (l : Launch) (as : List Value) (sh : q_Sh) (m : q_Mm) (R : q_KR) (hw : wX9_copy as sh m R) : q_AM l yX9_copy (Cond.code yX9_copy cX9_copy 4 none :: q_G) rmX9_copy as sh m R := by
  refine q_met (code := TX9_copy) (by decide) (fun X hl hQ _ h pc => ?_) hw.1 hw.2
  unfold TX9_copy
  exact k_at (sX9_copy_0 hl hQ h) (k_at (sX9_copy_2 hl hQ h) (k_no))
/-! TumblingRockModel.keep(I)I -/
abbrev dlX9_keep : List (Nat × (Instr × Nat)) := [(0, .iload_n 1, 1), (1, .i2l, 1), (2, .lconst 0, 1), (3, .lconst 1, 1), (4, .invokestatic 68, 3), (7, .ifCond .ne 6, 3), (10, .ldc 196, 2), (12, .ireturn, 1), (13, .aload_n 0, 1), (14, .iconst 0, 1), (15, .bipush 8, 2), (17, .iconst 1, 1), (18, .iload_n 1, 1), (19, .iadd, 1), (20, .imul, 1), (21, .invokevirtual 268, 3), (24, .aload_n 0, 1), (25, .getfield 13, 3), (28, .iload_n 1, 1), (29, .iconst 1, 1), (30, .bastore, 1), (31, .iconst 1, 1), (32, .ireturn, 1)]
theorem ddX9_keep : ∀ q ∈ dlX9_keep, decode cX9_keep q.1 = .ok q.2 := by decide +kernel
theorem sX9_keep_13 {l : Launch} {X : q_CX} (hl : X.2.1 = l) (hQ : q_QM X) (h : q_OK X yX9_keep cX9_keep 2 (some .int) rmX9_keep (Cond.code yX9_keep cX9_keep 2 (some .int) :: q_G)) : q_SK X 2 13 (BX9_keep_13) := by
  refine k_aload_n (i := 0) h (ddX9_keep (13, .aload_n 0, 1) (List.mem_of_getElem? (i := 8) rfl)) rfl ?_
  refine k_iconst (v := 0) h (ddX9_keep (14, .iconst 0, 1) (List.mem_of_getElem? (i := 9) rfl)) (by decide) ?_
  refine k_bipush (v := 8) h (ddX9_keep (15, .bipush 8, 2) (List.mem_of_getElem? (i := 10) rfl)) (by decide) ?_
  refine k_iconst (v := 1) h (ddX9_keep (17, .iconst 1, 1) (List.mem_of_getElem? (i := 11) rfl)) (by decide) ?_
  refine k_iload_n (i := 1) h (ddX9_keep (18, .iload_n 1, 1) (List.mem_of_getElem? (i := 12) rfl)) rfl ?_
  refine k_iadd h (ddX9_keep (19, .iadd, 1) (List.mem_of_getElem? (i := 13) rfl)) ?_
  refine k_imul h (ddX9_keep (20, .imul, 1) (List.mem_of_getElem? (i := 14) rfl)) ?_
  refine k_callV h hl (aX9_copy l) (ci := 9) (C := RX9) (T := TX9) (N := 33) rfl ⟨rfl, rfl⟩ (n := 2) (by decide +kernel) (q_gV gw779 gw780 gw781 gw606 gw778) ⟨by decide, by decide⟩ (ddX9_keep (21, .invokevirtual 268, 3) (List.mem_of_getElem? (i := 15) rfl)) ?_
  refine k_aload_n (i := 0) h (ddX9_keep (24, .aload_n 0, 1) (List.mem_of_getElem? (i := 16) rfl)) rfl ?_
  refine k_getf (ci := 9) (j := 1) (C := RX9) (T := TX9) (N := 33) h rfl (fun w hw => List.mem_cons_of_mem _ (q_inX9 w hw)) (by decide) (List.mem_cons_of_mem _ gw587) (ddX9_keep (25, .getfield 13, 3) (List.mem_of_getElem? (i := 17) rfl)) ?_
  refine k_iload_n (i := 1) h (ddX9_keep (28, .iload_n 1, 1) (List.mem_of_getElem? (i := 18) rfl)) rfl ?_
  refine k_iconst (v := 1) h (ddX9_keep (29, .iconst 1, 1) (List.mem_of_getElem? (i := 19) rfl)) (by decide) ?_
  refine k_zast h (ddX9_keep (30, .bastore, 1) (List.mem_of_getElem? (i := 20) rfl)) ?_
  refine k_iconst (v := 1) h (ddX9_keep (31, .iconst 1, 1) (List.mem_of_getElem? (i := 21) rfl)) (by decide) ?_
  exact k_iret h hQ (ddX9_keep (32, .ireturn, 1) (List.mem_of_getElem? (i := 22) rfl))
theorem sX9_keep_10 {l : Launch} {X : q_CX} (hl : X.2.1 = l) (hQ : q_QM X) (h : q_OK X yX9_keep cX9_keep 2 (some .int) rmX9_keep (Cond.code yX9_keep cX9_keep 2 (some .int) :: q_G)) : q_SK X 2 10 (BX9_keep_10) := by
  refine k_ldc (v := (-1000000001)) h (ddX9_keep (10, .ldc 196, 2) (List.mem_of_getElem? (i := 6) rfl)) (List.mem_cons_of_mem _ gw706) ?_
  exact k_iret h hQ (ddX9_keep (12, .ireturn, 1) (List.mem_of_getElem? (i := 7) rfl))
theorem sX9_keep_0 {l : Launch} {X : q_CX} (hl : X.2.1 = l) (hQ : q_QM X) (h : q_OK X yX9_keep cX9_keep 2 (some .int) rmX9_keep (Cond.code yX9_keep cX9_keep 2 (some .int) :: q_G)) : q_SK X 2 0 (BX9_keep_0) := by
  refine k_iload_n (i := 1) h (ddX9_keep (0, .iload_n 1, 1) (List.mem_of_getElem? (i := 0) rfl)) rfl ?_
  refine k_i2l h (ddX9_keep (1, .i2l, 1) (List.mem_of_getElem? (i := 1) rfl)) ?_
  refine k_lconst (v := 0) h (ddX9_keep (2, .lconst 0, 1) (List.mem_of_getElem? (i := 2) rfl)) (by decide) ?_
  refine k_lconst (v := 1) h (ddX9_keep (3, .lconst 1, 1) (List.mem_of_getElem? (i := 3) rfl)) (by decide) ?_
  refine k_callS h hl (aX9_in l) ⟨rfl, rfl⟩ (n := 3) (by decide +kernel) (q_gS gw608 gw607 gw606 gw605) ⟨by decide, by decide⟩ (ddX9_keep (4, .invokestatic 68, 3) (List.mem_of_getElem? (i := 4) rfl)) ?_
  refine k_ifne h (ddX9_keep (7, .ifCond .ne 6, 3) (List.mem_of_getElem? (i := 5) rfl)) (tgt := 13) (by decide) ?_ ?_
  · exact sX9_keep_13 hl hQ h
  · exact sX9_keep_10 hl hQ h
theorem aX9_keep (l : Launch) (as : List Value) (sh : q_Sh) (m : q_Mm) (R : q_KR) (hw : wX9_keep as sh m R) : q_AM l yX9_keep (Cond.code yX9_keep cX9_keep 2 (some .int) :: q_G) rmX9_keep as sh m R := by
  refine q_met (code := TX9_keep) (by decide) (fun X hl hQ _ h pc => ?_) hw.1 hw.2
  unfold TX9_keep
  exact k_at (sX9_keep_0 hl hQ h) (k_no)
/-! TumblingRockModel.goBack(I)I -/
abbrev dlX9_goBack : List (Nat × (Instr × Nat)) := [(0, .iload_n 1, 1), (1, .i2l, 1), (2, .lconst 0, 1), (3, .lconst 1, 1), (4, .invokestatic 68, 3), (7, .ifCond .ne 6, 3), (10, .ldc 196, 2), (12, .ireturn, 1), (13, .aload_n 0, 1), (14, .getfield 13, 3), (17, .iload_n 1, 1), (18, .baload, 1), (19, .ifCond .ne 6, 3), (22, .ldc 214, 2), (24, .ireturn, 1), (25, .aload_n 0, 1), (26, .bipush 8, 2), (28, .iconst 1, 1), (29, .iload_n 1, 1), (30, .iadd, 1), (31, .imul, 1), (32, .iconst 0, 1), (33, .invokevirtual 268, 3), (36, .iconst 1, 1), (37, .ireturn, 1)]
theorem ddX9_goBack : ∀ q ∈ dlX9_goBack, decode cX9_goBack q.1 = .ok q.2 := by decide +kernel
theorem sX9_goBack_25 {l : Launch} {X : q_CX} (hl : X.2.1 = l) (hQ : q_QM X) (h : q_OK X yX9_goBack cX9_goBack 2 (some .int) rmX9_goBack (Cond.code yX9_goBack cX9_goBack 2 (some .int) :: q_G)) : q_SK X 2 25 (BX9_goBack_25) := by
  refine k_aload_n (i := 0) h (ddX9_goBack (25, .aload_n 0, 1) (List.mem_of_getElem? (i := 15) rfl)) rfl ?_
  refine k_bipush (v := 8) h (ddX9_goBack (26, .bipush 8, 2) (List.mem_of_getElem? (i := 16) rfl)) (by decide) ?_
  refine k_iconst (v := 1) h (ddX9_goBack (28, .iconst 1, 1) (List.mem_of_getElem? (i := 17) rfl)) (by decide) ?_
  refine k_iload_n (i := 1) h (ddX9_goBack (29, .iload_n 1, 1) (List.mem_of_getElem? (i := 18) rfl)) rfl ?_
  refine k_iadd h (ddX9_goBack (30, .iadd, 1) (List.mem_of_getElem? (i := 19) rfl)) ?_
  refine k_imul h (ddX9_goBack (31, .imul, 1) (List.mem_of_getElem? (i := 20) rfl)) ?_
  refine k_iconst (v := 0) h (ddX9_goBack (32, .iconst 0, 1) (List.mem_of_getElem? (i := 21) rfl)) (by decide) ?_
  refine k_callV h hl (aX9_copy l) (ci := 9) (C := RX9) (T := TX9) (N := 33) rfl ⟨rfl, rfl⟩ (n := 2) (by decide +kernel) (q_gV gw779 gw780 gw781 gw606 gw778) ⟨by decide, by decide⟩ (ddX9_goBack (33, .invokevirtual 268, 3) (List.mem_of_getElem? (i := 22) rfl)) ?_
  refine k_iconst (v := 1) h (ddX9_goBack (36, .iconst 1, 1) (List.mem_of_getElem? (i := 23) rfl)) (by decide) ?_
  exact k_iret h hQ (ddX9_goBack (37, .ireturn, 1) (List.mem_of_getElem? (i := 24) rfl))
theorem sX9_goBack_22 {l : Launch} {X : q_CX} (hl : X.2.1 = l) (hQ : q_QM X) (h : q_OK X yX9_goBack cX9_goBack 2 (some .int) rmX9_goBack (Cond.code yX9_goBack cX9_goBack 2 (some .int) :: q_G)) : q_SK X 2 22 (BX9_goBack_22) := by
  refine k_ldc (v := (-1000000003)) h (ddX9_goBack (22, .ldc 214, 2) (List.mem_of_getElem? (i := 13) rfl)) (List.mem_cons_of_mem _ gw724) ?_
  exact k_iret h hQ (ddX9_goBack (24, .ireturn, 1) (List.mem_of_getElem? (i := 14) rfl))
theorem sX9_goBack_13 {l : Launch} {X : q_CX} (hl : X.2.1 = l) (hQ : q_QM X) (h : q_OK X yX9_goBack cX9_goBack 2 (some .int) rmX9_goBack (Cond.code yX9_goBack cX9_goBack 2 (some .int) :: q_G)) : q_SK X 2 13 (BX9_goBack_13) := by
  refine k_aload_n (i := 0) h (ddX9_goBack (13, .aload_n 0, 1) (List.mem_of_getElem? (i := 8) rfl)) rfl ?_
  refine k_getf (ci := 9) (j := 1) (C := RX9) (T := TX9) (N := 33) h rfl (fun w hw => List.mem_cons_of_mem _ (q_inX9 w hw)) (by decide) (List.mem_cons_of_mem _ gw587) (ddX9_goBack (14, .getfield 13, 3) (List.mem_of_getElem? (i := 9) rfl)) ?_
  refine k_iload_n (i := 1) h (ddX9_goBack (17, .iload_n 1, 1) (List.mem_of_getElem? (i := 10) rfl)) rfl ?_
  refine k_zald h (ddX9_goBack (18, .baload, 1) (List.mem_of_getElem? (i := 11) rfl)) ?_
  refine k_ifne h (ddX9_goBack (19, .ifCond .ne 6, 3) (List.mem_of_getElem? (i := 12) rfl)) (tgt := 25) (by decide) ?_ ?_
  · exact sX9_goBack_25 hl hQ h
  · exact sX9_goBack_22 hl hQ h
theorem sX9_goBack_10 {l : Launch} {X : q_CX} (hl : X.2.1 = l) (hQ : q_QM X) (h : q_OK X yX9_goBack cX9_goBack 2 (some .int) rmX9_goBack (Cond.code yX9_goBack cX9_goBack 2 (some .int) :: q_G)) : q_SK X 2 10 (BX9_goBack_10) := by
  refine k_ldc (v := (-1000000001)) h (ddX9_goBack (10, .ldc 196, 2) (List.mem_of_getElem? (i := 6) rfl)) (List.mem_cons_of_mem _ gw706) ?_
  exact k_iret h hQ (ddX9_goBack (12, .ireturn, 1) (List.mem_of_getElem? (i := 7) rfl))
theorem sX9_goBack_0 {l : Launch} {X : q_CX} (hl : X.2.1 = l) (hQ : q_QM X) (h : q_OK X yX9_goBack cX9_goBack 2 (some .int) rmX9_goBack (Cond.code yX9_goBack cX9_goBack 2 (some .int) :: q_G)) : q_SK X 2 0 (BX9_goBack_0) := by
  refine k_iload_n (i := 1) h (ddX9_goBack (0, .iload_n 1, 1) (List.mem_of_getElem? (i := 0) rfl)) rfl ?_
  refine k_i2l h (ddX9_goBack (1, .i2l, 1) (List.mem_of_getElem? (i := 1) rfl)) ?_
  refine k_lconst (v := 0) h (ddX9_goBack (2, .lconst 0, 1) (List.mem_of_getElem? (i := 2) rfl)) (by decide) ?_
  refine k_lconst (v := 1) h (ddX9_goBack (3, .lconst 1, 1) (List.mem_of_getElem? (i := 3) rfl)) (by decide) ?_
  refine k_callS h hl (aX9_in l) ⟨rfl, rfl⟩ (n := 3) (by decide +kernel) (q_gS gw608 gw607 gw606 gw605) ⟨by decide, by decide⟩ (ddX9_goBack (4, .invokestatic 68, 3) (List.mem_of_getElem? (i := 4) rfl)) ?_
  refine k_ifne h (ddX9_goBack (7, .ifCond .ne 6, 3) (List.mem_of_getElem? (i := 5) rfl)) (tgt := 13) (by decide) ?_ ?_
  · exact sX9_goBack_13 hl hQ h
  · exact sX9_goBack_10 hl hQ h
theorem aX9_goBack (l : Launch) (as : List Value) (sh : q_Sh) (m : q_Mm) (R : q_KR) (hw : wX9_goBack as sh m R) : q_AM l yX9_goBack (Cond.code yX9_goBack cX9_goBack 2 (some .int) :: q_G) rmX9_goBack as sh m R := by
  refine q_met (code := TX9_goBack) (by decide) (fun X hl hQ _ h pc => ?_) hw.1 hw.2
  unfold TX9_goBack
  exact k_at (sX9_goBack_0 hl hQ h) (k_no)
