/-! Contracts, leaves first; written by wip/whole/gen.py. -/
/-! TumblingRockModel.cross(III)I -/
abbrev dlX9_cross : List (Nat × (Instr × Nat)) := [(0, .aload_n 0, 1), (1, .iload_n 1, 1), (2, .invokevirtual 197, 3), (5, .ifCond .eq 16, 3), (8, .aload_n 0, 1), (9, .iload_n 2, 1), (10, .invokevirtual 197, 3), (13, .ifCond .eq 8, 3), (16, .iload_n 1, 1), (17, .iload_n 2, 1), (18, .if_icmp .ne 6, 3), (21, .ldc 196, 2), (23, .ireturn, 1), (24, .iload_n 3, 1), (25, .invokestatic 209, 3), (28, .ifCond .ne 6, 3), (31, .ldc 72, 2), (33, .ireturn, 1), (34, .iconst 0, 1), (35, .istore 4, 2), (37, .iload 4, 2), (39, .aload_n 0, 1), (40, .getfield 39, 3), (43, .if_icmp .ge 44, 3), (46, .aload_n 0, 1), (47, .iload_n 1, 1), (48, .iload_n 3, 1), (49, .iload 4, 2), (51, .iadd, 1), (52, .invokevirtual 179, 3), (55, .istore 5, 2), (57, .iload 5, 2), (59, .ifCond .le 22, 3), (62, .iload 5, 2), (64, .aload_n 0, 1), (65, .iload_n 2, 1), (66, .iload_n 3, 1), (67, .iload 4, 2), (69, .iadd, 1), (70, .invokevirtual 179, 3), (73, .if_icmp .ne 8, 3), (76, .iload_n 3, 1), (77, .iload 4, 2), (79, .iadd, 1), (80, .ireturn, 1), (81, .iinc 4 1, 3), (84, .goto (-47), 3), (87, .iconst (-1), 1), (88, .ireturn, 1)]
theorem ddX9_cross : ∀ q ∈ dlX9_cross, decode cX9_cross q.1 = .ok q.2 := by decide +kernel
theorem sX9_cross_21 {l : Launch} {X : q_CX} (hl : X.2.1 = l) (hQ : q_QM X) (h : q_OK X yX9_cross cX9_cross 6 (some .int) rmX9_cross (Cond.code yX9_cross cX9_cross 6 (some .int) :: q_G)) : q_SK X 6 21 (BX9_cross_21) := by
  refine k_ldc (v := (-1000000001)) h (ddX9_cross (21, .ldc 196, 2) (List.mem_of_getElem? (i := 11) rfl)) (List.mem_cons_of_mem _ gw706) ?_
  exact k_iret h hQ (ddX9_cross (23, .ireturn, 1) (List.mem_of_getElem? (i := 12) rfl))
theorem sX9_cross_34 {l : Launch} {X : q_CX} (hl : X.2.1 = l) (hQ : q_QM X) (h : q_OK X yX9_cross cX9_cross 6 (some .int) rmX9_cross (Cond.code yX9_cross cX9_cross 6 (some .int) :: q_G)) : q_SK X 6 34 (BX9_cross_34) := by
  refine k_iconst (v := 0) h (ddX9_cross (34, .iconst 0, 1) (List.mem_of_getElem? (i := 18) rfl)) (by decide) ?_
  refine k_istore (i := 4) h (ddX9_cross (35, .istore 4, 2) (List.mem_of_getElem? (i := 19) rfl)) (by decide) ?_
  exact k_cut
theorem sX9_cross_31 {l : Launch} {X : q_CX} (hl : X.2.1 = l) (hQ : q_QM X) (h : q_OK X yX9_cross cX9_cross 6 (some .int) rmX9_cross (Cond.code yX9_cross cX9_cross 6 (some .int) :: q_G)) : q_SK X 6 31 (BX9_cross_31) := by
  refine k_ldc (v := (-1000000002)) h (ddX9_cross (31, .ldc 72, 2) (List.mem_of_getElem? (i := 16) rfl)) (List.mem_cons_of_mem _ gw609) ?_
  exact k_iret h hQ (ddX9_cross (33, .ireturn, 1) (List.mem_of_getElem? (i := 17) rfl))
theorem sX9_cross_24 {l : Launch} {X : q_CX} (hl : X.2.1 = l) (hQ : q_QM X) (h : q_OK X yX9_cross cX9_cross 6 (some .int) rmX9_cross (Cond.code yX9_cross cX9_cross 6 (some .int) :: q_G)) : q_SK X 6 24 (BX9_cross_24) := by
  refine k_iload_n (i := 3) h (ddX9_cross (24, .iload_n 3, 1) (List.mem_of_getElem? (i := 13) rfl)) rfl ?_
  refine k_callS h hl (aX9_isStep l) ⟨rfl, rfl⟩ (n := 1) (by decide +kernel) (q_gS gw722 gw721 gw606 gw720) ⟨by decide, by decide⟩ (ddX9_cross (25, .invokestatic 209, 3) (List.mem_of_getElem? (i := 14) rfl)) ?_
  refine k_ifne h (ddX9_cross (28, .ifCond .ne 6, 3) (List.mem_of_getElem? (i := 15) rfl)) (tgt := 34) (by decide) ?_ ?_
  · exact sX9_cross_34 hl hQ h
  · exact sX9_cross_31 hl hQ h
theorem sX9_cross_16 {l : Launch} {X : q_CX} (hl : X.2.1 = l) (hQ : q_QM X) (h : q_OK X yX9_cross cX9_cross 6 (some .int) rmX9_cross (Cond.code yX9_cross cX9_cross 6 (some .int) :: q_G)) : q_SK X 6 16 (BX9_cross_16) := by
  refine k_iload_n (i := 1) h (ddX9_cross (16, .iload_n 1, 1) (List.mem_of_getElem? (i := 8) rfl)) rfl ?_
  refine k_iload_n (i := 2) h (ddX9_cross (17, .iload_n 2, 1) (List.mem_of_getElem? (i := 9) rfl)) rfl ?_
  refine k_icne h (ddX9_cross (18, .if_icmp .ne 6, 3) (List.mem_of_getElem? (i := 10) rfl)) (tgt := 24) (by decide) ?_ ?_
  · exact sX9_cross_24 hl hQ h
  · exact sX9_cross_21 hl hQ h
theorem sX9_cross_8 {l : Launch} {X : q_CX} (hl : X.2.1 = l) (hQ : q_QM X) (h : q_OK X yX9_cross cX9_cross 6 (some .int) rmX9_cross (Cond.code yX9_cross cX9_cross 6 (some .int) :: q_G)) : q_SK X 6 8 (BX9_cross_8) := by
  refine k_aload_n (i := 0) h (ddX9_cross (8, .aload_n 0, 1) (List.mem_of_getElem? (i := 4) rfl)) rfl ?_
  refine k_iload_n (i := 2) h (ddX9_cross (9, .iload_n 2, 1) (List.mem_of_getElem? (i := 5) rfl)) rfl ?_
  refine k_callV h hl (aX9_isPlace l) (ci := 9) (C := RX9) (T := TX9) (N := 33) rfl ⟨rfl, rfl⟩ (n := 1) (by decide +kernel) (q_gV gw708 gw709 gw710 gw606 gw707) ⟨by decide, by decide⟩ (ddX9_cross (10, .invokevirtual 197, 3) (List.mem_of_getElem? (i := 6) rfl)) ?_
  refine k_ifeq h (ddX9_cross (13, .ifCond .eq 8, 3) (List.mem_of_getElem? (i := 7) rfl)) (tgt := 21) (by decide) ?_ ?_
  · exact sX9_cross_21 hl hQ h
  · exact sX9_cross_16 hl hQ h
theorem sX9_cross_0 {l : Launch} {X : q_CX} (hl : X.2.1 = l) (hQ : q_QM X) (h : q_OK X yX9_cross cX9_cross 6 (some .int) rmX9_cross (Cond.code yX9_cross cX9_cross 6 (some .int) :: q_G)) : q_SK X 6 0 (BX9_cross_0) := by
  refine k_aload_n (i := 0) h (ddX9_cross (0, .aload_n 0, 1) (List.mem_of_getElem? (i := 0) rfl)) rfl ?_
  refine k_iload_n (i := 1) h (ddX9_cross (1, .iload_n 1, 1) (List.mem_of_getElem? (i := 1) rfl)) rfl ?_
  refine k_callV h hl (aX9_isPlace l) (ci := 9) (C := RX9) (T := TX9) (N := 33) rfl ⟨rfl, rfl⟩ (n := 1) (by decide +kernel) (q_gV gw708 gw709 gw710 gw606 gw707) ⟨by decide, by decide⟩ (ddX9_cross (2, .invokevirtual 197, 3) (List.mem_of_getElem? (i := 2) rfl)) ?_
  refine k_ifeq h (ddX9_cross (5, .ifCond .eq 16, 3) (List.mem_of_getElem? (i := 3) rfl)) (tgt := 21) (by decide) ?_ ?_
  · exact sX9_cross_21 hl hQ h
  · exact sX9_cross_8 hl hQ h
theorem sX9_cross_87 {l : Launch} {X : q_CX} (hl : X.2.1 = l) (hQ : q_QM X) (h : q_OK X yX9_cross cX9_cross 6 (some .int) rmX9_cross (Cond.code yX9_cross cX9_cross 6 (some .int) :: q_G)) : q_SK X 6 87 (BX9_cross_87) := by
  refine k_iconst (v := (-1)) h (ddX9_cross (87, .iconst (-1), 1) (List.mem_of_getElem? (i := 47) rfl)) (by decide) ?_
  exact k_iret h hQ (ddX9_cross (88, .ireturn, 1) (List.mem_of_getElem? (i := 48) rfl))
theorem sX9_cross_81 {l : Launch} {X : q_CX} (hl : X.2.1 = l) (hQ : q_QM X) (h : q_OK X yX9_cross cX9_cross 6 (some .int) rmX9_cross (Cond.code yX9_cross cX9_cross 6 (some .int) :: q_G)) : q_SK X 6 81 (BX9_cross_81) := by
  refine k_iinc (d := 1) h (ddX9_cross (81, .iinc 4 1, 3) (List.mem_of_getElem? (i := 45) rfl)) (by decide) (by decide) ?_
  refine k_goto h (ddX9_cross (84, .goto (-47), 3) (List.mem_of_getElem? (i := 46) rfl)) (tgt := 37) (by decide) ?_
  exact k_cut
theorem sX9_cross_76 {l : Launch} {X : q_CX} (hl : X.2.1 = l) (hQ : q_QM X) (h : q_OK X yX9_cross cX9_cross 6 (some .int) rmX9_cross (Cond.code yX9_cross cX9_cross 6 (some .int) :: q_G)) : q_SK X 6 76 (BX9_cross_76) := by
  refine k_iload_n (i := 3) h (ddX9_cross (76, .iload_n 3, 1) (List.mem_of_getElem? (i := 41) rfl)) rfl ?_
  refine k_iload (i := 4) h (ddX9_cross (77, .iload 4, 2) (List.mem_of_getElem? (i := 42) rfl)) ?_
  refine k_iadd h (ddX9_cross (79, .iadd, 1) (List.mem_of_getElem? (i := 43) rfl)) ?_
  exact k_iret h hQ (ddX9_cross (80, .ireturn, 1) (List.mem_of_getElem? (i := 44) rfl))
theorem sX9_cross_62 {l : Launch} {X : q_CX} (hl : X.2.1 = l) (hQ : q_QM X) (h : q_OK X yX9_cross cX9_cross 6 (some .int) rmX9_cross (Cond.code yX9_cross cX9_cross 6 (some .int) :: q_G)) : q_SK X 6 62 (BX9_cross_62) := by
  refine k_iload (i := 5) h (ddX9_cross (62, .iload 5, 2) (List.mem_of_getElem? (i := 33) rfl)) ?_
  refine k_aload_n (i := 0) h (ddX9_cross (64, .aload_n 0, 1) (List.mem_of_getElem? (i := 34) rfl)) rfl ?_
  refine k_iload_n (i := 2) h (ddX9_cross (65, .iload_n 2, 1) (List.mem_of_getElem? (i := 35) rfl)) rfl ?_
  refine k_iload_n (i := 3) h (ddX9_cross (66, .iload_n 3, 1) (List.mem_of_getElem? (i := 36) rfl)) rfl ?_
  refine k_iload (i := 4) h (ddX9_cross (67, .iload 4, 2) (List.mem_of_getElem? (i := 37) rfl)) ?_
  refine k_iadd h (ddX9_cross (69, .iadd, 1) (List.mem_of_getElem? (i := 38) rfl)) ?_
  refine k_callV h hl (aX9_heightNow l) (ci := 9) (C := RX9) (T := TX9) (N := 33) rfl ⟨rfl, rfl⟩ (n := 2) (by decide +kernel) (q_gV gw688 gw689 gw690 gw606 gw687) ⟨by decide, by decide⟩ (ddX9_cross (70, .invokevirtual 179, 3) (List.mem_of_getElem? (i := 39) rfl)) ?_
  refine k_icne h (ddX9_cross (73, .if_icmp .ne 8, 3) (List.mem_of_getElem? (i := 40) rfl)) (tgt := 81) (by decide) ?_ ?_
  · exact sX9_cross_81 hl hQ h
  · exact sX9_cross_76 hl hQ h
theorem sX9_cross_46 {l : Launch} {X : q_CX} (hl : X.2.1 = l) (hQ : q_QM X) (h : q_OK X yX9_cross cX9_cross 6 (some .int) rmX9_cross (Cond.code yX9_cross cX9_cross 6 (some .int) :: q_G)) : q_SK X 6 46 (BX9_cross_46) := by
  refine k_aload_n (i := 0) h (ddX9_cross (46, .aload_n 0, 1) (List.mem_of_getElem? (i := 24) rfl)) rfl ?_
  refine k_iload_n (i := 1) h (ddX9_cross (47, .iload_n 1, 1) (List.mem_of_getElem? (i := 25) rfl)) rfl ?_
  refine k_iload_n (i := 3) h (ddX9_cross (48, .iload_n 3, 1) (List.mem_of_getElem? (i := 26) rfl)) rfl ?_
  refine k_iload (i := 4) h (ddX9_cross (49, .iload 4, 2) (List.mem_of_getElem? (i := 27) rfl)) ?_
  refine k_iadd h (ddX9_cross (51, .iadd, 1) (List.mem_of_getElem? (i := 28) rfl)) ?_
  refine k_callV h hl (aX9_heightNow l) (ci := 9) (C := RX9) (T := TX9) (N := 33) rfl ⟨rfl, rfl⟩ (n := 2) (by decide +kernel) (q_gV gw688 gw689 gw690 gw606 gw687) ⟨by decide, by decide⟩ (ddX9_cross (52, .invokevirtual 179, 3) (List.mem_of_getElem? (i := 29) rfl)) ?_
  refine k_istore (i := 5) h (ddX9_cross (55, .istore 5, 2) (List.mem_of_getElem? (i := 30) rfl)) (by decide) ?_
  refine k_iload (i := 5) h (ddX9_cross (57, .iload 5, 2) (List.mem_of_getElem? (i := 31) rfl)) ?_
  refine k_ifle h (ddX9_cross (59, .ifCond .le 22, 3) (List.mem_of_getElem? (i := 32) rfl)) (tgt := 81) (by decide) ?_ ?_
  · exact sX9_cross_81 hl hQ h
  · exact sX9_cross_62 hl hQ h
theorem sX9_cross_37 {l : Launch} {X : q_CX} (hl : X.2.1 = l) (hQ : q_QM X) (h : q_OK X yX9_cross cX9_cross 6 (some .int) rmX9_cross (Cond.code yX9_cross cX9_cross 6 (some .int) :: q_G)) : q_SK X 6 37 (BX9_cross_37) := by
  refine k_iload (i := 4) h (ddX9_cross (37, .iload 4, 2) (List.mem_of_getElem? (i := 20) rfl)) ?_
  refine k_aload_n (i := 0) h (ddX9_cross (39, .aload_n 0, 1) (List.mem_of_getElem? (i := 21) rfl)) rfl ?_
  refine k_getf (ci := 9) (j := 22) (C := RX9) (T := TX9) (N := 33) h rfl (fun w hw => List.mem_cons_of_mem _ (q_inX9 w hw)) (by decide) (List.mem_cons_of_mem _ gw595) (ddX9_cross (40, .getfield 39, 3) (List.mem_of_getElem? (i := 22) rfl)) ?_
  refine k_icge h (ddX9_cross (43, .if_icmp .ge 44, 3) (List.mem_of_getElem? (i := 23) rfl)) (tgt := 87) (by decide) ?_ ?_
  · exact sX9_cross_87 hl hQ h
  · exact sX9_cross_46 hl hQ h
theorem aX9_cross (l : Launch) (as : List Value) (sh : q_Sh) (m : q_Mm) (R : q_KR) (hw : wX9_cross as sh m R) : q_AM l yX9_cross (Cond.code yX9_cross cX9_cross 6 (some .int) :: q_G) rmX9_cross as sh m R := by
  refine q_met (code := TX9_cross) (by decide) (fun X hl hQ _ h pc => ?_) hw.1 hw.2
  unfold TX9_cross
  exact k_at (sX9_cross_0 hl hQ h) (k_at (sX9_cross_37 hl hQ h) (k_no))
/-! TumblingRockModel.store()I -/
abbrev dlX9_store : List (Nat × (Instr × Nat)) := [(0, .iconst (-1), 1), (1, .istore_n 1, 1), (2, .ldc 249, 2), (4, .istore_n 2, 1), (5, .iconst 0, 1), (6, .istore_n 3, 1), (7, .iload_n 3, 1), (8, .aload_n 0, 1), (9, .getfield 153, 3), (12, .if_icmp .ge 27, 3), (15, .aload_n 0, 1), (16, .iload_n 3, 1), (17, .invokevirtual 202, 3), (20, .istore 4, 2), (22, .iload 4, 2), (24, .iload_n 2, 1), (25, .if_icmp .ge 8, 3), (28, .iload_n 3, 1), (29, .istore_n 1, 1), (30, .iload 4, 2), (32, .istore_n 2, 1), (33, .iinc 3 1, 3), (36, .goto (-29), 3), (39, .iload_n 1, 1), (40, .ireturn, 1)]
theorem ddX9_store : ∀ q ∈ dlX9_store, decode cX9_store q.1 = .ok q.2 := by decide +kernel
theorem sX9_store_0 {l : Launch} {X : q_CX} (hl : X.2.1 = l) (hQ : q_QM X) (h : q_OK X yX9_store cX9_store 5 (some .int) rmX9_store (Cond.code yX9_store cX9_store 5 (some .int) :: q_G)) : q_SK X 5 0 (BX9_store_0) := by
  refine k_iconst (v := (-1)) h (ddX9_store (0, .iconst (-1), 1) (List.mem_of_getElem? (i := 0) rfl)) (by decide) ?_
  refine k_istore_n (i := 1) h (ddX9_store (1, .istore_n 1, 1) (List.mem_of_getElem? (i := 1) rfl)) rfl (by decide) ?_
  refine k_ldc (v := 99999999) h (ddX9_store (2, .ldc 249, 2) (List.mem_of_getElem? (i := 2) rfl)) (List.mem_cons_of_mem _ gw756) ?_
  refine k_istore_n (i := 2) h (ddX9_store (4, .istore_n 2, 1) (List.mem_of_getElem? (i := 3) rfl)) rfl (by decide) ?_
  refine k_iconst (v := 0) h (ddX9_store (5, .iconst 0, 1) (List.mem_of_getElem? (i := 4) rfl)) (by decide) ?_
  refine k_istore_n (i := 3) h (ddX9_store (6, .istore_n 3, 1) (List.mem_of_getElem? (i := 5) rfl)) rfl (by decide) ?_
  exact k_cut
theorem sX9_store_39 {l : Launch} {X : q_CX} (hl : X.2.1 = l) (hQ : q_QM X) (h : q_OK X yX9_store cX9_store 5 (some .int) rmX9_store (Cond.code yX9_store cX9_store 5 (some .int) :: q_G)) : q_SK X 5 39 (BX9_store_39) := by
  refine k_iload_n (i := 1) h (ddX9_store (39, .iload_n 1, 1) (List.mem_of_getElem? (i := 23) rfl)) rfl ?_
  exact k_iret h hQ (ddX9_store (40, .ireturn, 1) (List.mem_of_getElem? (i := 24) rfl))
theorem sX9_store_33 {l : Launch} {X : q_CX} (hl : X.2.1 = l) (hQ : q_QM X) (h : q_OK X yX9_store cX9_store 5 (some .int) rmX9_store (Cond.code yX9_store cX9_store 5 (some .int) :: q_G)) : q_SK X 5 33 (BX9_store_33) := by
  refine k_iinc (d := 1) h (ddX9_store (33, .iinc 3 1, 3) (List.mem_of_getElem? (i := 21) rfl)) (by decide) (by decide) ?_
  refine k_goto h (ddX9_store (36, .goto (-29), 3) (List.mem_of_getElem? (i := 22) rfl)) (tgt := 7) (by decide) ?_
  exact k_cut
theorem sX9_store_28 {l : Launch} {X : q_CX} (hl : X.2.1 = l) (hQ : q_QM X) (h : q_OK X yX9_store cX9_store 5 (some .int) rmX9_store (Cond.code yX9_store cX9_store 5 (some .int) :: q_G)) : q_SK X 5 28 (BX9_store_28) := by
  refine k_iload_n (i := 3) h (ddX9_store (28, .iload_n 3, 1) (List.mem_of_getElem? (i := 17) rfl)) rfl ?_
  refine k_istore_n (i := 1) h (ddX9_store (29, .istore_n 1, 1) (List.mem_of_getElem? (i := 18) rfl)) rfl (by decide) ?_
  refine k_iload (i := 4) h (ddX9_store (30, .iload 4, 2) (List.mem_of_getElem? (i := 19) rfl)) ?_
  refine k_istore_n (i := 2) h (ddX9_store (32, .istore_n 2, 1) (List.mem_of_getElem? (i := 20) rfl)) rfl (by decide) ?_
  exact sX9_store_33 hl hQ h
theorem sX9_store_15 {l : Launch} {X : q_CX} (hl : X.2.1 = l) (hQ : q_QM X) (h : q_OK X yX9_store cX9_store 5 (some .int) rmX9_store (Cond.code yX9_store cX9_store 5 (some .int) :: q_G)) : q_SK X 5 15 (BX9_store_15) := by
  refine k_aload_n (i := 0) h (ddX9_store (15, .aload_n 0, 1) (List.mem_of_getElem? (i := 10) rfl)) rfl ?_
  refine k_iload_n (i := 3) h (ddX9_store (16, .iload_n 3, 1) (List.mem_of_getElem? (i := 11) rfl)) rfl ?_
  refine k_callV h hl (aX9_dark l) (ci := 9) (C := RX9) (T := TX9) (N := 33) rfl ⟨rfl, rfl⟩ (n := 1) (by decide +kernel) (q_gV gw713 gw714 gw715 gw606 gw712) ⟨by decide, by decide⟩ (ddX9_store (17, .invokevirtual 202, 3) (List.mem_of_getElem? (i := 12) rfl)) ?_
  refine k_istore (i := 4) h (ddX9_store (20, .istore 4, 2) (List.mem_of_getElem? (i := 13) rfl)) (by decide) ?_
  refine k_iload (i := 4) h (ddX9_store (22, .iload 4, 2) (List.mem_of_getElem? (i := 14) rfl)) ?_
  refine k_iload_n (i := 2) h (ddX9_store (24, .iload_n 2, 1) (List.mem_of_getElem? (i := 15) rfl)) rfl ?_
  refine k_icge h (ddX9_store (25, .if_icmp .ge 8, 3) (List.mem_of_getElem? (i := 16) rfl)) (tgt := 33) (by decide) ?_ ?_
  · exact sX9_store_33 hl hQ h
  · exact sX9_store_28 hl hQ h
theorem sX9_store_7 {l : Launch} {X : q_CX} (hl : X.2.1 = l) (hQ : q_QM X) (h : q_OK X yX9_store cX9_store 5 (some .int) rmX9_store (Cond.code yX9_store cX9_store 5 (some .int) :: q_G)) : q_SK X 5 7 (BX9_store_7) := by
  refine k_iload_n (i := 3) h (ddX9_store (7, .iload_n 3, 1) (List.mem_of_getElem? (i := 6) rfl)) rfl ?_
  refine k_aload_n (i := 0) h (ddX9_store (8, .aload_n 0, 1) (List.mem_of_getElem? (i := 7) rfl)) rfl ?_
  refine k_getf (ci := 9) (j := 8) (C := RX9) (T := TX9) (N := 33) h rfl (fun w hw => List.mem_cons_of_mem _ (q_inX9 w hw)) (by decide) (List.mem_cons_of_mem _ gw670) (ddX9_store (9, .getfield 153, 3) (List.mem_of_getElem? (i := 8) rfl)) ?_
  refine k_icge h (ddX9_store (12, .if_icmp .ge 27, 3) (List.mem_of_getElem? (i := 9) rfl)) (tgt := 39) (by decide) ?_ ?_
  · exact sX9_store_39 hl hQ h
  · exact sX9_store_15 hl hQ h
theorem aX9_store (l : Launch) (as : List Value) (sh : q_Sh) (m : q_Mm) (R : q_KR) (hw : wX9_store as sh m R) : q_AM l yX9_store (Cond.code yX9_store cX9_store 5 (some .int) :: q_G) rmX9_store as sh m R := by
  refine q_met (code := TX9_store) (by decide) (fun X hl hQ _ h pc => ?_) hw.1 hw.2
  unfold TX9_store
  exact k_at (sX9_store_0 hl hQ h) (k_at (sX9_store_7 hl hQ h) (k_no))
/-! TumblingRockModel.see(IIZ)I -/
abbrev dlX9_see : List (Nat × (Instr × Nat)) := [(0, .aload_n 0, 1), (1, .iload_n 1, 1), (2, .invokevirtual 197, 3), (5, .ifCond .ne 6, 3), (8, .ldc 196, 2), (10, .ireturn, 1), (11, .iload_n 2, 1), (12, .i2l, 1), (13, .lconst 0, 1), (14, .ldc2_w 250, 3), (17, .invokestatic 68, 3), (20, .ifCond .ne 6, 3), (23, .ldc 72, 2), (25, .ireturn, 1), (26, .aload_n 0, 1), (27, .getfield 162, 3), (30, .bipush 20, 2), (32, .if_icmp .ne 6, 3), (35, .ldc 76, 2), (37, .ireturn, 1), (38, .aload_n 0, 1), (39, .getfield 48, 3), (42, .aload_n 0, 1), (43, .getfield 162, 3), (46, .iload_n 1, 1), (47, .iastore, 1), (48, .aload_n 0, 1), (49, .getfield 51, 3), (52, .aload_n 0, 1), (53, .getfield 162, 3), (56, .iload_n 2, 1), (57, .iastore, 1), (58, .aload_n 0, 1), (59, .getfield 54, 3), (62, .aload_n 0, 1), (63, .getfield 162, 3), (66, .iload_n 3, 1), (67, .bastore, 1), (68, .aload_n 0, 1), (69, .dup, 1), (70, .getfield 162, 3), (73, .iconst 1, 1), (74, .iadd, 1), (75, .putfield 162, 3), (78, .aload_n 0, 1), (79, .getfield 162, 3), (82, .ireturn, 1)]
theorem ddX9_see : ∀ q ∈ dlX9_see, decode cX9_see q.1 = .ok q.2 := by decide +kernel
theorem sX9_see_38 {l : Launch} {X : q_CX} (hl : X.2.1 = l) (hQ : q_QM X) (h : q_OK X yX9_see cX9_see 4 (some .int) rmX9_see (Cond.code yX9_see cX9_see 4 (some .int) :: q_G)) : q_SK X 4 38 (BX9_see_38) := by
  refine k_aload_n (i := 0) h (ddX9_see (38, .aload_n 0, 1) (List.mem_of_getElem? (i := 20) rfl)) rfl ?_
  refine k_getf (ci := 9) (j := 25) (C := RX9) (T := TX9) (N := 33) h rfl (fun w hw => List.mem_cons_of_mem _ (q_inX9 w hw)) (by decide) (List.mem_cons_of_mem _ gw598) (ddX9_see (39, .getfield 48, 3) (List.mem_of_getElem? (i := 21) rfl)) ?_
  refine k_aload_n (i := 0) h (ddX9_see (42, .aload_n 0, 1) (List.mem_of_getElem? (i := 22) rfl)) rfl ?_
  refine k_getf (ci := 9) (j := 28) (C := RX9) (T := TX9) (N := 33) h rfl (fun w hw => List.mem_cons_of_mem _ (q_inX9 w hw)) (by decide) (List.mem_cons_of_mem _ gw673) (ddX9_see (43, .getfield 162, 3) (List.mem_of_getElem? (i := 23) rfl)) ?_
  refine k_iload_n (i := 1) h (ddX9_see (46, .iload_n 1, 1) (List.mem_of_getElem? (i := 24) rfl)) rfl ?_
  refine k_iast h (ddX9_see (47, .iastore, 1) (List.mem_of_getElem? (i := 25) rfl)) ?_
  refine k_aload_n (i := 0) h (ddX9_see (48, .aload_n 0, 1) (List.mem_of_getElem? (i := 26) rfl)) rfl ?_
  refine k_getf (ci := 9) (j := 26) (C := RX9) (T := TX9) (N := 33) h rfl (fun w hw => List.mem_cons_of_mem _ (q_inX9 w hw)) (by decide) (List.mem_cons_of_mem _ gw599) (ddX9_see (49, .getfield 51, 3) (List.mem_of_getElem? (i := 27) rfl)) ?_
  refine k_aload_n (i := 0) h (ddX9_see (52, .aload_n 0, 1) (List.mem_of_getElem? (i := 28) rfl)) rfl ?_
  refine k_getf (ci := 9) (j := 28) (C := RX9) (T := TX9) (N := 33) h rfl (fun w hw => List.mem_cons_of_mem _ (q_inX9 w hw)) (by decide) (List.mem_cons_of_mem _ gw673) (ddX9_see (53, .getfield 162, 3) (List.mem_of_getElem? (i := 29) rfl)) ?_
  refine k_iload_n (i := 2) h (ddX9_see (56, .iload_n 2, 1) (List.mem_of_getElem? (i := 30) rfl)) rfl ?_
  refine k_iast h (ddX9_see (57, .iastore, 1) (List.mem_of_getElem? (i := 31) rfl)) ?_
  refine k_aload_n (i := 0) h (ddX9_see (58, .aload_n 0, 1) (List.mem_of_getElem? (i := 32) rfl)) rfl ?_
  refine k_getf (ci := 9) (j := 27) (C := RX9) (T := TX9) (N := 33) h rfl (fun w hw => List.mem_cons_of_mem _ (q_inX9 w hw)) (by decide) (List.mem_cons_of_mem _ gw600) (ddX9_see (59, .getfield 54, 3) (List.mem_of_getElem? (i := 33) rfl)) ?_
  refine k_aload_n (i := 0) h (ddX9_see (62, .aload_n 0, 1) (List.mem_of_getElem? (i := 34) rfl)) rfl ?_
  refine k_getf (ci := 9) (j := 28) (C := RX9) (T := TX9) (N := 33) h rfl (fun w hw => List.mem_cons_of_mem _ (q_inX9 w hw)) (by decide) (List.mem_cons_of_mem _ gw673) (ddX9_see (63, .getfield 162, 3) (List.mem_of_getElem? (i := 35) rfl)) ?_
  refine k_iload_n (i := 3) h (ddX9_see (66, .iload_n 3, 1) (List.mem_of_getElem? (i := 36) rfl)) rfl ?_
  refine k_zast h (ddX9_see (67, .bastore, 1) (List.mem_of_getElem? (i := 37) rfl)) ?_
  refine k_aload_n (i := 0) h (ddX9_see (68, .aload_n 0, 1) (List.mem_of_getElem? (i := 38) rfl)) rfl ?_
  refine k_dup h (ddX9_see (69, .dup, 1) (List.mem_of_getElem? (i := 39) rfl)) ?_
  refine k_getf (ci := 9) (j := 28) (C := RX9) (T := TX9) (N := 33) h rfl (fun w hw => List.mem_cons_of_mem _ (q_inX9 w hw)) (by decide) (List.mem_cons_of_mem _ gw673) (ddX9_see (70, .getfield 162, 3) (List.mem_of_getElem? (i := 40) rfl)) ?_
  refine k_iconst (v := 1) h (ddX9_see (73, .iconst 1, 1) (List.mem_of_getElem? (i := 41) rfl)) (by decide) ?_
  refine k_iadd h (ddX9_see (74, .iadd, 1) (List.mem_of_getElem? (i := 42) rfl)) ?_
  refine k_putf (ci := 9) (j := 28) (C := RX9) (T := TX9) (N := 33) h rfl (fun w hw => List.mem_cons_of_mem _ (q_inX9 w hw)) (by decide) (List.mem_cons_of_mem _ gw673) tyX9 tyX9_ok nmX9 (by decide +kernel) (by decide +kernel) (ddX9_see (75, .putfield 162, 3) (List.mem_of_getElem? (i := 43) rfl)) ?_
  refine k_aload_n (i := 0) h (ddX9_see (78, .aload_n 0, 1) (List.mem_of_getElem? (i := 44) rfl)) rfl ?_
  refine k_getf (ci := 9) (j := 28) (C := RX9) (T := TX9) (N := 33) h rfl (fun w hw => List.mem_cons_of_mem _ (q_inX9 w hw)) (by decide) (List.mem_cons_of_mem _ gw673) (ddX9_see (79, .getfield 162, 3) (List.mem_of_getElem? (i := 45) rfl)) ?_
  exact k_iret h hQ (ddX9_see (82, .ireturn, 1) (List.mem_of_getElem? (i := 46) rfl))
theorem sX9_see_35 {l : Launch} {X : q_CX} (hl : X.2.1 = l) (hQ : q_QM X) (h : q_OK X yX9_see cX9_see 4 (some .int) rmX9_see (Cond.code yX9_see cX9_see 4 (some .int) :: q_G)) : q_SK X 4 35 (BX9_see_35) := by
  refine k_ldc (v := (-1000000004)) h (ddX9_see (35, .ldc 76, 2) (List.mem_of_getElem? (i := 18) rfl)) (List.mem_cons_of_mem _ gw611) ?_
  exact k_iret h hQ (ddX9_see (37, .ireturn, 1) (List.mem_of_getElem? (i := 19) rfl))
theorem sX9_see_26 {l : Launch} {X : q_CX} (hl : X.2.1 = l) (hQ : q_QM X) (h : q_OK X yX9_see cX9_see 4 (some .int) rmX9_see (Cond.code yX9_see cX9_see 4 (some .int) :: q_G)) : q_SK X 4 26 (BX9_see_26) := by
  refine k_aload_n (i := 0) h (ddX9_see (26, .aload_n 0, 1) (List.mem_of_getElem? (i := 14) rfl)) rfl ?_
  refine k_getf (ci := 9) (j := 28) (C := RX9) (T := TX9) (N := 33) h rfl (fun w hw => List.mem_cons_of_mem _ (q_inX9 w hw)) (by decide) (List.mem_cons_of_mem _ gw673) (ddX9_see (27, .getfield 162, 3) (List.mem_of_getElem? (i := 15) rfl)) ?_
  refine k_bipush (v := 20) h (ddX9_see (30, .bipush 20, 2) (List.mem_of_getElem? (i := 16) rfl)) (by decide) ?_
  refine k_icne h (ddX9_see (32, .if_icmp .ne 6, 3) (List.mem_of_getElem? (i := 17) rfl)) (tgt := 38) (by decide) ?_ ?_
  · exact sX9_see_38 hl hQ h
  · exact sX9_see_35 hl hQ h
theorem sX9_see_23 {l : Launch} {X : q_CX} (hl : X.2.1 = l) (hQ : q_QM X) (h : q_OK X yX9_see cX9_see 4 (some .int) rmX9_see (Cond.code yX9_see cX9_see 4 (some .int) :: q_G)) : q_SK X 4 23 (BX9_see_23) := by
  refine k_ldc (v := (-1000000002)) h (ddX9_see (23, .ldc 72, 2) (List.mem_of_getElem? (i := 12) rfl)) (List.mem_cons_of_mem _ gw609) ?_
  exact k_iret h hQ (ddX9_see (25, .ireturn, 1) (List.mem_of_getElem? (i := 13) rfl))
theorem sX9_see_11 {l : Launch} {X : q_CX} (hl : X.2.1 = l) (hQ : q_QM X) (h : q_OK X yX9_see cX9_see 4 (some .int) rmX9_see (Cond.code yX9_see cX9_see 4 (some .int) :: q_G)) : q_SK X 4 11 (BX9_see_11) := by
  refine k_iload_n (i := 2) h (ddX9_see (11, .iload_n 2, 1) (List.mem_of_getElem? (i := 6) rfl)) rfl ?_
  refine k_i2l h (ddX9_see (12, .i2l, 1) (List.mem_of_getElem? (i := 7) rfl)) ?_
  refine k_lconst (v := 0) h (ddX9_see (13, .lconst 0, 1) (List.mem_of_getElem? (i := 8) rfl)) (by decide) ?_
  refine k_ldc2 (v := 9999) h (ddX9_see (14, .ldc2_w 250, 3) (List.mem_of_getElem? (i := 9) rfl)) (List.mem_cons_of_mem _ gw757) ?_
  refine k_callS h hl (aX9_in l) ⟨rfl, rfl⟩ (n := 3) (by decide +kernel) (q_gS gw608 gw607 gw606 gw605) ⟨by decide, by decide⟩ (ddX9_see (17, .invokestatic 68, 3) (List.mem_of_getElem? (i := 10) rfl)) ?_
  refine k_ifne h (ddX9_see (20, .ifCond .ne 6, 3) (List.mem_of_getElem? (i := 11) rfl)) (tgt := 26) (by decide) ?_ ?_
  · exact sX9_see_26 hl hQ h
  · exact sX9_see_23 hl hQ h
theorem sX9_see_8 {l : Launch} {X : q_CX} (hl : X.2.1 = l) (hQ : q_QM X) (h : q_OK X yX9_see cX9_see 4 (some .int) rmX9_see (Cond.code yX9_see cX9_see 4 (some .int) :: q_G)) : q_SK X 4 8 (BX9_see_8) := by
  refine k_ldc (v := (-1000000001)) h (ddX9_see (8, .ldc 196, 2) (List.mem_of_getElem? (i := 4) rfl)) (List.mem_cons_of_mem _ gw706) ?_
  exact k_iret h hQ (ddX9_see (10, .ireturn, 1) (List.mem_of_getElem? (i := 5) rfl))
theorem sX9_see_0 {l : Launch} {X : q_CX} (hl : X.2.1 = l) (hQ : q_QM X) (h : q_OK X yX9_see cX9_see 4 (some .int) rmX9_see (Cond.code yX9_see cX9_see 4 (some .int) :: q_G)) : q_SK X 4 0 (BX9_see_0) := by
  refine k_aload_n (i := 0) h (ddX9_see (0, .aload_n 0, 1) (List.mem_of_getElem? (i := 0) rfl)) rfl ?_
  refine k_iload_n (i := 1) h (ddX9_see (1, .iload_n 1, 1) (List.mem_of_getElem? (i := 1) rfl)) rfl ?_
  refine k_callV h hl (aX9_isPlace l) (ci := 9) (C := RX9) (T := TX9) (N := 33) rfl ⟨rfl, rfl⟩ (n := 1) (by decide +kernel) (q_gV gw708 gw709 gw710 gw606 gw707) ⟨by decide, by decide⟩ (ddX9_see (2, .invokevirtual 197, 3) (List.mem_of_getElem? (i := 2) rfl)) ?_
  refine k_ifne h (ddX9_see (5, .ifCond .ne 6, 3) (List.mem_of_getElem? (i := 3) rfl)) (tgt := 11) (by decide) ?_ ?_
  · exact sX9_see_11 hl hQ h
  · exact sX9_see_8 hl hQ h
theorem aX9_see (l : Launch) (as : List Value) (sh : q_Sh) (m : q_Mm) (R : q_KR) (hw : wX9_see as sh m R) : q_AM l yX9_see (Cond.code yX9_see cX9_see 4 (some .int) :: q_G) rmX9_see as sh m R := by
  refine q_met (code := TX9_see) (by decide) (fun X hl hQ _ h pc => ?_) hw.1 hw.2
  unfold TX9_see
  exact k_at (sX9_see_0 hl hQ h) (k_no)
/-! TumblingRockModel.codes()I -/
abbrev dlX9_codes : List (Nat × (Instr × Nat)) := [(0, .aload_n 0, 1), (1, .getfield 20, 3), (4, .iconst 0, 1), (5, .iaload, 1), (6, .aload_n 0, 1), (7, .getfield 20, 3), (10, .iconst 1, 1), (11, .iaload, 1), (12, .imul, 1), (13, .aload_n 0, 1), (14, .getfield 20, 3), (17, .iconst 2, 1), (18, .iaload, 1), (19, .imul, 1), (20, .ireturn, 1)]
theorem ddX9_codes : ∀ q ∈ dlX9_codes, decode cX9_codes q.1 = .ok q.2 := by decide +kernel
theorem sX9_codes_0 {l : Launch} {X : q_CX} (hl : X.2.1 = l) (hQ : q_QM X) (h : q_OK X yX9_codes cX9_codes 1 (some .int) rmX9_codes (Cond.code yX9_codes cX9_codes 1 (some .int) :: q_G)) : q_SK X 1 0 (BX9_codes_0) := by
  refine k_aload_n (i := 0) h (ddX9_codes (0, .aload_n 0, 1) (List.mem_of_getElem? (i := 0) rfl)) rfl ?_
  refine k_getf (ci := 9) (j := 3) (C := RX9) (T := TX9) (N := 33) h rfl (fun w hw => List.mem_cons_of_mem _ (q_inX9 w hw)) (by decide) (List.mem_cons_of_mem _ gw589) (ddX9_codes (1, .getfield 20, 3) (List.mem_of_getElem? (i := 1) rfl)) ?_
  refine k_iconst (v := 0) h (ddX9_codes (4, .iconst 0, 1) (List.mem_of_getElem? (i := 2) rfl)) (by decide) ?_
  refine k_iald h (ddX9_codes (5, .iaload, 1) (List.mem_of_getElem? (i := 3) rfl)) ?_
  refine k_aload_n (i := 0) h (ddX9_codes (6, .aload_n 0, 1) (List.mem_of_getElem? (i := 4) rfl)) rfl ?_
  refine k_getf (ci := 9) (j := 3) (C := RX9) (T := TX9) (N := 33) h rfl (fun w hw => List.mem_cons_of_mem _ (q_inX9 w hw)) (by decide) (List.mem_cons_of_mem _ gw589) (ddX9_codes (7, .getfield 20, 3) (List.mem_of_getElem? (i := 5) rfl)) ?_
  refine k_iconst (v := 1) h (ddX9_codes (10, .iconst 1, 1) (List.mem_of_getElem? (i := 6) rfl)) (by decide) ?_
  refine k_iald h (ddX9_codes (11, .iaload, 1) (List.mem_of_getElem? (i := 7) rfl)) ?_
  refine k_imul h (ddX9_codes (12, .imul, 1) (List.mem_of_getElem? (i := 8) rfl)) ?_
  refine k_aload_n (i := 0) h (ddX9_codes (13, .aload_n 0, 1) (List.mem_of_getElem? (i := 9) rfl)) rfl ?_
  refine k_getf (ci := 9) (j := 3) (C := RX9) (T := TX9) (N := 33) h rfl (fun w hw => List.mem_cons_of_mem _ (q_inX9 w hw)) (by decide) (List.mem_cons_of_mem _ gw589) (ddX9_codes (14, .getfield 20, 3) (List.mem_of_getElem? (i := 10) rfl)) ?_
  refine k_iconst (v := 2) h (ddX9_codes (17, .iconst 2, 1) (List.mem_of_getElem? (i := 11) rfl)) (by decide) ?_
  refine k_iald h (ddX9_codes (18, .iaload, 1) (List.mem_of_getElem? (i := 12) rfl)) ?_
  refine k_imul h (ddX9_codes (19, .imul, 1) (List.mem_of_getElem? (i := 13) rfl)) ?_
  exact k_iret h hQ (ddX9_codes (20, .ireturn, 1) (List.mem_of_getElem? (i := 14) rfl))
theorem aX9_codes (l : Launch) (as : List Value) (sh : q_Sh) (m : q_Mm) (R : q_KR) (hw : wX9_codes as sh m R) : q_AM l yX9_codes (Cond.code yX9_codes cX9_codes 1 (some .int) :: q_G) rmX9_codes as sh m R := by
  refine q_met (code := TX9_codes) (by decide) (fun X hl hQ _ h pc => ?_) hw.1 hw.2
  unfold TX9_codes
  exact k_at (sX9_codes_0 hl hQ h) (k_no)
/-! TumblingRockModel.fitsAll(I)Z -/
abbrev dlX9_fitsAll : List (Nat × (Instr × Nat)) := [(0, .aload_n 0, 1), (1, .getfield 42, 3), (4, .iconst 0, 1), (5, .iload_n 1, 1), (6, .aload_n 0, 1), (7, .getfield 20, 3), (10, .iconst 1, 1), (11, .iaload, 1), (12, .aload_n 0, 1), (13, .getfield 20, 3), (16, .iconst 2, 1), (17, .iaload, 1), (18, .imul, 1), (19, .idiv, 1), (20, .iastore, 1), (21, .aload_n 0, 1), (22, .getfield 42, 3), (25, .iconst 1, 1), (26, .iload_n 1, 1), (27, .aload_n 0, 1), (28, .getfield 20, 3), (31, .iconst 2, 1), (32, .iaload, 1), (33, .idiv, 1), (34, .aload_n 0, 1), (35, .getfield 20, 3), (38, .iconst 1, 1), (39, .iaload, 1), (40, .irem, 1), (41, .iastore, 1), (42, .aload_n 0, 1), (43, .getfield 42, 3), (46, .iconst 2, 1), (47, .iload_n 1, 1), (48, .aload_n 0, 1), (49, .getfield 20, 3), (52, .iconst 2, 1), (53, .iaload, 1), (54, .irem, 1), (55, .iastore, 1), (56, .iconst 1, 1), (57, .istore_n 2, 1), (58, .iconst 0, 1), (59, .istore_n 3, 1), (60, .iload_n 3, 1), (61, .aload_n 0, 1), (62, .getfield 162, 3), (65, .if_icmp .ge 52, 3), (68, .iload_n 2, 1), (69, .ifCond .eq 48, 3), (72, .aload_n 0, 1), (73, .aload_n 0, 1), (74, .getfield 48, 3), (77, .iload_n 3, 1), (78, .iaload, 1), (79, .aload_n 0, 1), (80, .getfield 51, 3), (83, .iload_n 3, 1), (84, .iaload, 1), (85, .invokevirtual 176, 3), (88, .ifCond .le 7, 3), (91, .iconst 1, 1), (92, .goto 4, 3), (95, .iconst 0, 1), (96, .aload_n 0, 1), (97, .getfield 54, 3), (100, .iload_n 3, 1), (101, .baload, 1), (102, .if_icmp .ne 7, 3), (105, .iconst 1, 1), (106, .goto 4, 3), (109, .iconst 0, 1), (110, .istore_n 2, 1), (111, .iinc 3 1, 3), (114, .goto (-54), 3), (117, .iload_n 2, 1), (118, .ireturn, 1)]
theorem ddX9_fitsAll : ∀ q ∈ dlX9_fitsAll, decode cX9_fitsAll q.1 = .ok q.2 := by decide +kernel
theorem sX9_fitsAll_0 {l : Launch} {X : q_CX} (hl : X.2.1 = l) (hQ : q_QM X) (h : q_OK X yX9_fitsAll cX9_fitsAll 4 (some .boolean) rmX9_fitsAll (Cond.code yX9_fitsAll cX9_fitsAll 4 (some .boolean) :: q_G)) : q_SK X 4 0 (BX9_fitsAll_0) := by
  refine k_aload_n (i := 0) h (ddX9_fitsAll (0, .aload_n 0, 1) (List.mem_of_getElem? (i := 0) rfl)) rfl ?_
  refine k_getf (ci := 9) (j := 23) (C := RX9) (T := TX9) (N := 33) h rfl (fun w hw => List.mem_cons_of_mem _ (q_inX9 w hw)) (by decide) (List.mem_cons_of_mem _ gw596) (ddX9_fitsAll (1, .getfield 42, 3) (List.mem_of_getElem? (i := 1) rfl)) ?_
  refine k_iconst (v := 0) h (ddX9_fitsAll (4, .iconst 0, 1) (List.mem_of_getElem? (i := 2) rfl)) (by decide) ?_
  refine k_iload_n (i := 1) h (ddX9_fitsAll (5, .iload_n 1, 1) (List.mem_of_getElem? (i := 3) rfl)) rfl ?_
  refine k_aload_n (i := 0) h (ddX9_fitsAll (6, .aload_n 0, 1) (List.mem_of_getElem? (i := 4) rfl)) rfl ?_
  refine k_getf (ci := 9) (j := 3) (C := RX9) (T := TX9) (N := 33) h rfl (fun w hw => List.mem_cons_of_mem _ (q_inX9 w hw)) (by decide) (List.mem_cons_of_mem _ gw589) (ddX9_fitsAll (7, .getfield 20, 3) (List.mem_of_getElem? (i := 5) rfl)) ?_
  refine k_iconst (v := 1) h (ddX9_fitsAll (10, .iconst 1, 1) (List.mem_of_getElem? (i := 6) rfl)) (by decide) ?_
  refine k_iald h (ddX9_fitsAll (11, .iaload, 1) (List.mem_of_getElem? (i := 7) rfl)) ?_
  refine k_aload_n (i := 0) h (ddX9_fitsAll (12, .aload_n 0, 1) (List.mem_of_getElem? (i := 8) rfl)) rfl ?_
  refine k_getf (ci := 9) (j := 3) (C := RX9) (T := TX9) (N := 33) h rfl (fun w hw => List.mem_cons_of_mem _ (q_inX9 w hw)) (by decide) (List.mem_cons_of_mem _ gw589) (ddX9_fitsAll (13, .getfield 20, 3) (List.mem_of_getElem? (i := 9) rfl)) ?_
  refine k_iconst (v := 2) h (ddX9_fitsAll (16, .iconst 2, 1) (List.mem_of_getElem? (i := 10) rfl)) (by decide) ?_
  refine k_iald h (ddX9_fitsAll (17, .iaload, 1) (List.mem_of_getElem? (i := 11) rfl)) ?_
  refine k_imul h (ddX9_fitsAll (18, .imul, 1) (List.mem_of_getElem? (i := 12) rfl)) ?_
  refine k_idiv h (ddX9_fitsAll (19, .idiv, 1) (List.mem_of_getElem? (i := 13) rfl)) ?_
  refine k_iast h (ddX9_fitsAll (20, .iastore, 1) (List.mem_of_getElem? (i := 14) rfl)) ?_
  refine k_aload_n (i := 0) h (ddX9_fitsAll (21, .aload_n 0, 1) (List.mem_of_getElem? (i := 15) rfl)) rfl ?_
  refine k_getf (ci := 9) (j := 23) (C := RX9) (T := TX9) (N := 33) h rfl (fun w hw => List.mem_cons_of_mem _ (q_inX9 w hw)) (by decide) (List.mem_cons_of_mem _ gw596) (ddX9_fitsAll (22, .getfield 42, 3) (List.mem_of_getElem? (i := 16) rfl)) ?_
  refine k_iconst (v := 1) h (ddX9_fitsAll (25, .iconst 1, 1) (List.mem_of_getElem? (i := 17) rfl)) (by decide) ?_
  refine k_iload_n (i := 1) h (ddX9_fitsAll (26, .iload_n 1, 1) (List.mem_of_getElem? (i := 18) rfl)) rfl ?_
  refine k_aload_n (i := 0) h (ddX9_fitsAll (27, .aload_n 0, 1) (List.mem_of_getElem? (i := 19) rfl)) rfl ?_
  refine k_getf (ci := 9) (j := 3) (C := RX9) (T := TX9) (N := 33) h rfl (fun w hw => List.mem_cons_of_mem _ (q_inX9 w hw)) (by decide) (List.mem_cons_of_mem _ gw589) (ddX9_fitsAll (28, .getfield 20, 3) (List.mem_of_getElem? (i := 20) rfl)) ?_
  refine k_iconst (v := 2) h (ddX9_fitsAll (31, .iconst 2, 1) (List.mem_of_getElem? (i := 21) rfl)) (by decide) ?_
  refine k_iald h (ddX9_fitsAll (32, .iaload, 1) (List.mem_of_getElem? (i := 22) rfl)) ?_
  refine k_idiv h (ddX9_fitsAll (33, .idiv, 1) (List.mem_of_getElem? (i := 23) rfl)) ?_
  refine k_aload_n (i := 0) h (ddX9_fitsAll (34, .aload_n 0, 1) (List.mem_of_getElem? (i := 24) rfl)) rfl ?_
  refine k_getf (ci := 9) (j := 3) (C := RX9) (T := TX9) (N := 33) h rfl (fun w hw => List.mem_cons_of_mem _ (q_inX9 w hw)) (by decide) (List.mem_cons_of_mem _ gw589) (ddX9_fitsAll (35, .getfield 20, 3) (List.mem_of_getElem? (i := 25) rfl)) ?_
  refine k_iconst (v := 1) h (ddX9_fitsAll (38, .iconst 1, 1) (List.mem_of_getElem? (i := 26) rfl)) (by decide) ?_
  refine k_iald h (ddX9_fitsAll (39, .iaload, 1) (List.mem_of_getElem? (i := 27) rfl)) ?_
  refine k_irem h (ddX9_fitsAll (40, .irem, 1) (List.mem_of_getElem? (i := 28) rfl)) ?_
  refine k_iast h (ddX9_fitsAll (41, .iastore, 1) (List.mem_of_getElem? (i := 29) rfl)) ?_
  refine k_aload_n (i := 0) h (ddX9_fitsAll (42, .aload_n 0, 1) (List.mem_of_getElem? (i := 30) rfl)) rfl ?_
  refine k_getf (ci := 9) (j := 23) (C := RX9) (T := TX9) (N := 33) h rfl (fun w hw => List.mem_cons_of_mem _ (q_inX9 w hw)) (by decide) (List.mem_cons_of_mem _ gw596) (ddX9_fitsAll (43, .getfield 42, 3) (List.mem_of_getElem? (i := 31) rfl)) ?_
  refine k_iconst (v := 2) h (ddX9_fitsAll (46, .iconst 2, 1) (List.mem_of_getElem? (i := 32) rfl)) (by decide) ?_
  refine k_iload_n (i := 1) h (ddX9_fitsAll (47, .iload_n 1, 1) (List.mem_of_getElem? (i := 33) rfl)) rfl ?_
  refine k_aload_n (i := 0) h (ddX9_fitsAll (48, .aload_n 0, 1) (List.mem_of_getElem? (i := 34) rfl)) rfl ?_
  refine k_getf (ci := 9) (j := 3) (C := RX9) (T := TX9) (N := 33) h rfl (fun w hw => List.mem_cons_of_mem _ (q_inX9 w hw)) (by decide) (List.mem_cons_of_mem _ gw589) (ddX9_fitsAll (49, .getfield 20, 3) (List.mem_of_getElem? (i := 35) rfl)) ?_
  refine k_iconst (v := 2) h (ddX9_fitsAll (52, .iconst 2, 1) (List.mem_of_getElem? (i := 36) rfl)) (by decide) ?_
  refine k_iald h (ddX9_fitsAll (53, .iaload, 1) (List.mem_of_getElem? (i := 37) rfl)) ?_
  refine k_irem h (ddX9_fitsAll (54, .irem, 1) (List.mem_of_getElem? (i := 38) rfl)) ?_
  refine k_iast h (ddX9_fitsAll (55, .iastore, 1) (List.mem_of_getElem? (i := 39) rfl)) ?_
  refine k_iconst (v := 1) h (ddX9_fitsAll (56, .iconst 1, 1) (List.mem_of_getElem? (i := 40) rfl)) (by decide) ?_
  refine k_istore_n (i := 2) h (ddX9_fitsAll (57, .istore_n 2, 1) (List.mem_of_getElem? (i := 41) rfl)) rfl (by decide) ?_
  refine k_iconst (v := 0) h (ddX9_fitsAll (58, .iconst 0, 1) (List.mem_of_getElem? (i := 42) rfl)) (by decide) ?_
  refine k_istore_n (i := 3) h (ddX9_fitsAll (59, .istore_n 3, 1) (List.mem_of_getElem? (i := 43) rfl)) rfl (by decide) ?_
  exact k_cut
theorem sX9_fitsAll_117 {l : Launch} {X : q_CX} (hl : X.2.1 = l) (hQ : q_QM X) (h : q_OK X yX9_fitsAll cX9_fitsAll 4 (some .boolean) rmX9_fitsAll (Cond.code yX9_fitsAll cX9_fitsAll 4 (some .boolean) :: q_G)) : q_SK X 4 117 (BX9_fitsAll_117) := by
  refine k_iload_n (i := 2) h (ddX9_fitsAll (117, .iload_n 2, 1) (List.mem_of_getElem? (i := 75) rfl)) rfl ?_
  exact k_zret h hQ (ddX9_fitsAll (118, .ireturn, 1) (List.mem_of_getElem? (i := 76) rfl))
theorem sX9_fitsAll_110 {l : Launch} {X : q_CX} (hl : X.2.1 = l) (hQ : q_QM X) (h : q_OK X yX9_fitsAll cX9_fitsAll 4 (some .boolean) rmX9_fitsAll (Cond.code yX9_fitsAll cX9_fitsAll 4 (some .boolean) :: q_G)) : q_SK X 4 110 (BX9_fitsAll_110) := by
  refine k_istore_n (i := 2) h (ddX9_fitsAll (110, .istore_n 2, 1) (List.mem_of_getElem? (i := 72) rfl)) rfl (by decide) ?_
  refine k_iinc (d := 1) h (ddX9_fitsAll (111, .iinc 3 1, 3) (List.mem_of_getElem? (i := 73) rfl)) (by decide) (by decide) ?_
  refine k_goto h (ddX9_fitsAll (114, .goto (-54), 3) (List.mem_of_getElem? (i := 74) rfl)) (tgt := 60) (by decide) ?_
  exact k_cut
theorem sX9_fitsAll_109 {l : Launch} {X : q_CX} (hl : X.2.1 = l) (hQ : q_QM X) (h : q_OK X yX9_fitsAll cX9_fitsAll 4 (some .boolean) rmX9_fitsAll (Cond.code yX9_fitsAll cX9_fitsAll 4 (some .boolean) :: q_G)) : q_SK X 4 109 (BX9_fitsAll_109) := by
  refine k_iconst (v := 0) h (ddX9_fitsAll (109, .iconst 0, 1) (List.mem_of_getElem? (i := 71) rfl)) (by decide) ?_
  exact sX9_fitsAll_110 hl hQ h
theorem sX9_fitsAll_105 {l : Launch} {X : q_CX} (hl : X.2.1 = l) (hQ : q_QM X) (h : q_OK X yX9_fitsAll cX9_fitsAll 4 (some .boolean) rmX9_fitsAll (Cond.code yX9_fitsAll cX9_fitsAll 4 (some .boolean) :: q_G)) : q_SK X 4 105 (BX9_fitsAll_105) := by
  refine k_iconst (v := 1) h (ddX9_fitsAll (105, .iconst 1, 1) (List.mem_of_getElem? (i := 69) rfl)) (by decide) ?_
  refine k_goto h (ddX9_fitsAll (106, .goto 4, 3) (List.mem_of_getElem? (i := 70) rfl)) (tgt := 110) (by decide) ?_
  exact sX9_fitsAll_110 hl hQ h
theorem sX9_fitsAll_96 {l : Launch} {X : q_CX} (hl : X.2.1 = l) (hQ : q_QM X) (h : q_OK X yX9_fitsAll cX9_fitsAll 4 (some .boolean) rmX9_fitsAll (Cond.code yX9_fitsAll cX9_fitsAll 4 (some .boolean) :: q_G)) : q_SK X 4 96 (BX9_fitsAll_96) := by
  refine k_aload_n (i := 0) h (ddX9_fitsAll (96, .aload_n 0, 1) (List.mem_of_getElem? (i := 64) rfl)) rfl ?_
  refine k_getf (ci := 9) (j := 27) (C := RX9) (T := TX9) (N := 33) h rfl (fun w hw => List.mem_cons_of_mem _ (q_inX9 w hw)) (by decide) (List.mem_cons_of_mem _ gw600) (ddX9_fitsAll (97, .getfield 54, 3) (List.mem_of_getElem? (i := 65) rfl)) ?_
  refine k_iload_n (i := 3) h (ddX9_fitsAll (100, .iload_n 3, 1) (List.mem_of_getElem? (i := 66) rfl)) rfl ?_
  refine k_zald h (ddX9_fitsAll (101, .baload, 1) (List.mem_of_getElem? (i := 67) rfl)) ?_
  refine k_icne h (ddX9_fitsAll (102, .if_icmp .ne 7, 3) (List.mem_of_getElem? (i := 68) rfl)) (tgt := 109) (by decide) ?_ ?_
  · exact sX9_fitsAll_109 hl hQ h
  · exact sX9_fitsAll_105 hl hQ h
theorem sX9_fitsAll_95 {l : Launch} {X : q_CX} (hl : X.2.1 = l) (hQ : q_QM X) (h : q_OK X yX9_fitsAll cX9_fitsAll 4 (some .boolean) rmX9_fitsAll (Cond.code yX9_fitsAll cX9_fitsAll 4 (some .boolean) :: q_G)) : q_SK X 4 95 (BX9_fitsAll_95) := by
  refine k_iconst (v := 0) h (ddX9_fitsAll (95, .iconst 0, 1) (List.mem_of_getElem? (i := 63) rfl)) (by decide) ?_
  exact sX9_fitsAll_96 hl hQ h
theorem sX9_fitsAll_91 {l : Launch} {X : q_CX} (hl : X.2.1 = l) (hQ : q_QM X) (h : q_OK X yX9_fitsAll cX9_fitsAll 4 (some .boolean) rmX9_fitsAll (Cond.code yX9_fitsAll cX9_fitsAll 4 (some .boolean) :: q_G)) : q_SK X 4 91 (BX9_fitsAll_91) := by
  refine k_iconst (v := 1) h (ddX9_fitsAll (91, .iconst 1, 1) (List.mem_of_getElem? (i := 61) rfl)) (by decide) ?_
  refine k_goto h (ddX9_fitsAll (92, .goto 4, 3) (List.mem_of_getElem? (i := 62) rfl)) (tgt := 96) (by decide) ?_
  exact sX9_fitsAll_96 hl hQ h
theorem sX9_fitsAll_72 {l : Launch} {X : q_CX} (hl : X.2.1 = l) (hQ : q_QM X) (h : q_OK X yX9_fitsAll cX9_fitsAll 4 (some .boolean) rmX9_fitsAll (Cond.code yX9_fitsAll cX9_fitsAll 4 (some .boolean) :: q_G)) : q_SK X 4 72 (BX9_fitsAll_72) := by
  refine k_aload_n (i := 0) h (ddX9_fitsAll (72, .aload_n 0, 1) (List.mem_of_getElem? (i := 50) rfl)) rfl ?_
  refine k_aload_n (i := 0) h (ddX9_fitsAll (73, .aload_n 0, 1) (List.mem_of_getElem? (i := 51) rfl)) rfl ?_
  refine k_getf (ci := 9) (j := 25) (C := RX9) (T := TX9) (N := 33) h rfl (fun w hw => List.mem_cons_of_mem _ (q_inX9 w hw)) (by decide) (List.mem_cons_of_mem _ gw598) (ddX9_fitsAll (74, .getfield 48, 3) (List.mem_of_getElem? (i := 52) rfl)) ?_
  refine k_iload_n (i := 3) h (ddX9_fitsAll (77, .iload_n 3, 1) (List.mem_of_getElem? (i := 53) rfl)) rfl ?_
  refine k_iald h (ddX9_fitsAll (78, .iaload, 1) (List.mem_of_getElem? (i := 54) rfl)) ?_
  refine k_aload_n (i := 0) h (ddX9_fitsAll (79, .aload_n 0, 1) (List.mem_of_getElem? (i := 55) rfl)) rfl ?_
  refine k_getf (ci := 9) (j := 26) (C := RX9) (T := TX9) (N := 33) h rfl (fun w hw => List.mem_cons_of_mem _ (q_inX9 w hw)) (by decide) (List.mem_cons_of_mem _ gw599) (ddX9_fitsAll (80, .getfield 51, 3) (List.mem_of_getElem? (i := 56) rfl)) ?_
  refine k_iload_n (i := 3) h (ddX9_fitsAll (83, .iload_n 3, 1) (List.mem_of_getElem? (i := 57) rfl)) rfl ?_
  refine k_iald h (ddX9_fitsAll (84, .iaload, 1) (List.mem_of_getElem? (i := 58) rfl)) ?_
  refine k_callV h hl (aX9_heightBy l) (ci := 9) (C := RX9) (T := TX9) (N := 33) rfl ⟨rfl, rfl⟩ (n := 2) (by decide +kernel) (q_gV gw684 gw685 gw686 gw606 gw683) ⟨by decide, by decide⟩ (ddX9_fitsAll (85, .invokevirtual 176, 3) (List.mem_of_getElem? (i := 59) rfl)) ?_
  refine k_ifle h (ddX9_fitsAll (88, .ifCond .le 7, 3) (List.mem_of_getElem? (i := 60) rfl)) (tgt := 95) (by decide) ?_ ?_
  · exact sX9_fitsAll_95 hl hQ h
  · exact sX9_fitsAll_91 hl hQ h
theorem sX9_fitsAll_68 {l : Launch} {X : q_CX} (hl : X.2.1 = l) (hQ : q_QM X) (h : q_OK X yX9_fitsAll cX9_fitsAll 4 (some .boolean) rmX9_fitsAll (Cond.code yX9_fitsAll cX9_fitsAll 4 (some .boolean) :: q_G)) : q_SK X 4 68 (BX9_fitsAll_68) := by
  refine k_iload_n (i := 2) h (ddX9_fitsAll (68, .iload_n 2, 1) (List.mem_of_getElem? (i := 48) rfl)) rfl ?_
  refine k_ifeq h (ddX9_fitsAll (69, .ifCond .eq 48, 3) (List.mem_of_getElem? (i := 49) rfl)) (tgt := 117) (by decide) ?_ ?_
  · exact sX9_fitsAll_117 hl hQ h
  · exact sX9_fitsAll_72 hl hQ h
theorem sX9_fitsAll_60 {l : Launch} {X : q_CX} (hl : X.2.1 = l) (hQ : q_QM X) (h : q_OK X yX9_fitsAll cX9_fitsAll 4 (some .boolean) rmX9_fitsAll (Cond.code yX9_fitsAll cX9_fitsAll 4 (some .boolean) :: q_G)) : q_SK X 4 60 (BX9_fitsAll_60) := by
  refine k_iload_n (i := 3) h (ddX9_fitsAll (60, .iload_n 3, 1) (List.mem_of_getElem? (i := 44) rfl)) rfl ?_
  refine k_aload_n (i := 0) h (ddX9_fitsAll (61, .aload_n 0, 1) (List.mem_of_getElem? (i := 45) rfl)) rfl ?_
  refine k_getf (ci := 9) (j := 28) (C := RX9) (T := TX9) (N := 33) h rfl (fun w hw => List.mem_cons_of_mem _ (q_inX9 w hw)) (by decide) (List.mem_cons_of_mem _ gw673) (ddX9_fitsAll (62, .getfield 162, 3) (List.mem_of_getElem? (i := 46) rfl)) ?_
  refine k_icge h (ddX9_fitsAll (65, .if_icmp .ge 52, 3) (List.mem_of_getElem? (i := 47) rfl)) (tgt := 117) (by decide) ?_ ?_
  · exact sX9_fitsAll_117 hl hQ h
  · exact sX9_fitsAll_68 hl hQ h
theorem aX9_fitsAll (l : Launch) (as : List Value) (sh : q_Sh) (m : q_Mm) (R : q_KR) (hw : wX9_fitsAll as sh m R) : q_AM l yX9_fitsAll (Cond.code yX9_fitsAll cX9_fitsAll 4 (some .boolean) :: q_G) rmX9_fitsAll as sh m R := by
  refine q_met (code := TX9_fitsAll) (by decide) (fun X hl hQ _ h pc => ?_) hw.1 hw.2
  unfold TX9_fitsAll
  exact k_at (sX9_fitsAll_0 hl hQ h) (k_at (sX9_fitsAll_60 hl hQ h) (k_no))
/-! TumblingRockModel.fits(II)I -/
abbrev dlX9_fits : List (Nat × (Instr × Nat)) := [(0, .iload_n 1, 1), (1, .iconst (-1), 1), (2, .if_icmp .eq 14, 3), (5, .aload_n 0, 1), (6, .iload_n 2, 1), (7, .invokevirtual 192, 3), (10, .ifCond .ne 6, 3), (13, .ldc 196, 2), (15, .ireturn, 1), (16, .aload_n 0, 1), (17, .getfield 150, 3), (20, .ifCond .ne 24, 3), (23, .aload_n 0, 1), (24, .getfield 20, 3), (27, .iconst 0, 1), (28, .iconst 1, 1), (29, .iastore, 1), (30, .aload_n 0, 1), (31, .getfield 20, 3), (34, .iconst 1, 1), (35, .iconst 1, 1), (36, .iastore, 1), (37, .aload_n 0, 1), (38, .getfield 20, 3), (41, .iconst 2, 1), (42, .iconst 1, 1), (43, .iastore, 1), (44, .iconst 0, 1), (45, .istore_n 3, 1), (46, .iconst 0, 1), (47, .istore 4, 2), (49, .iload 4, 2), (51, .aload_n 0, 1), (52, .invokevirtual 252, 3), (55, .if_icmp .ge 33, 3), (58, .aload_n 0, 1), (59, .iload 4, 2), (61, .invokevirtual 255, 3), (64, .ifCond .eq 18, 3), (67, .iload_n 3, 1), (68, .iload_n 1, 1), (69, .if_icmp .ne 10, 3), (72, .aload_n 0, 1), (73, .getfield 42, 3), (76, .iload_n 2, 1), (77, .iaload, 1), (78, .ireturn, 1), (79, .iinc 3 1, 3), (82, .iinc 4 1, 3), (85, .goto (-36), 3), (88, .iload_n 1, 1), (89, .iconst (-1), 1), (90, .if_icmp .ne 7, 3), (93, .iload_n 3, 1), (94, .goto 4, 3), (97, .iconst (-1), 1), (98, .ireturn, 1)]
theorem ddX9_fits : ∀ q ∈ dlX9_fits, decode cX9_fits q.1 = .ok q.2 := by decide +kernel
theorem sX9_fits_13 {l : Launch} {X : q_CX} (hl : X.2.1 = l) (hQ : q_QM X) (h : q_OK X yX9_fits cX9_fits 5 (some .int) rmX9_fits (Cond.code yX9_fits cX9_fits 5 (some .int) :: q_G)) : q_SK X 5 13 (BX9_fits_13) := by
  refine k_ldc (v := (-1000000001)) h (ddX9_fits (13, .ldc 196, 2) (List.mem_of_getElem? (i := 7) rfl)) (List.mem_cons_of_mem _ gw706) ?_
  exact k_iret h hQ (ddX9_fits (15, .ireturn, 1) (List.mem_of_getElem? (i := 8) rfl))
theorem sX9_fits_5 {l : Launch} {X : q_CX} (hl : X.2.1 = l) (hQ : q_QM X) (h : q_OK X yX9_fits cX9_fits 5 (some .int) rmX9_fits (Cond.code yX9_fits cX9_fits 5 (some .int) :: q_G)) : q_SK X 5 5 (BX9_fits_5) := by
  refine k_aload_n (i := 0) h (ddX9_fits (5, .aload_n 0, 1) (List.mem_of_getElem? (i := 3) rfl)) rfl ?_
  refine k_iload_n (i := 2) h (ddX9_fits (6, .iload_n 2, 1) (List.mem_of_getElem? (i := 4) rfl)) rfl ?_
  refine k_callV h hl (aX9_isTurning l) (ci := 9) (C := RX9) (T := TX9) (N := 33) rfl ⟨rfl, rfl⟩ (n := 1) (by decide +kernel) (q_gV gw703 gw704 gw705 gw606 gw702) ⟨by decide, by decide⟩ (ddX9_fits (7, .invokevirtual 192, 3) (List.mem_of_getElem? (i := 5) rfl)) ?_
  refine k_ifne h (ddX9_fits (10, .ifCond .ne 6, 3) (List.mem_of_getElem? (i := 6) rfl)) (tgt := 16) (by decide) ?_ ?_
  · exact k_cut
  · exact sX9_fits_13 hl hQ h
theorem sX9_fits_0 {l : Launch} {X : q_CX} (hl : X.2.1 = l) (hQ : q_QM X) (h : q_OK X yX9_fits cX9_fits 5 (some .int) rmX9_fits (Cond.code yX9_fits cX9_fits 5 (some .int) :: q_G)) : q_SK X 5 0 (BX9_fits_0) := by
  refine k_iload_n (i := 1) h (ddX9_fits (0, .iload_n 1, 1) (List.mem_of_getElem? (i := 0) rfl)) rfl ?_
  refine k_iconst (v := (-1)) h (ddX9_fits (1, .iconst (-1), 1) (List.mem_of_getElem? (i := 1) rfl)) (by decide) ?_
  refine k_iceq h (ddX9_fits (2, .if_icmp .eq 14, 3) (List.mem_of_getElem? (i := 2) rfl)) (tgt := 16) (by decide) ?_ ?_
  · exact k_cut
  · exact sX9_fits_5 hl hQ h
theorem sX9_fits_44 {l : Launch} {X : q_CX} (hl : X.2.1 = l) (hQ : q_QM X) (h : q_OK X yX9_fits cX9_fits 5 (some .int) rmX9_fits (Cond.code yX9_fits cX9_fits 5 (some .int) :: q_G)) : q_SK X 5 44 (BX9_fits_44) := by
  refine k_iconst (v := 0) h (ddX9_fits (44, .iconst 0, 1) (List.mem_of_getElem? (i := 27) rfl)) (by decide) ?_
  refine k_istore_n (i := 3) h (ddX9_fits (45, .istore_n 3, 1) (List.mem_of_getElem? (i := 28) rfl)) rfl (by decide) ?_
  refine k_iconst (v := 0) h (ddX9_fits (46, .iconst 0, 1) (List.mem_of_getElem? (i := 29) rfl)) (by decide) ?_
  refine k_istore (i := 4) h (ddX9_fits (47, .istore 4, 2) (List.mem_of_getElem? (i := 30) rfl)) (by decide) ?_
  exact k_cut
theorem sX9_fits_23 {l : Launch} {X : q_CX} (hl : X.2.1 = l) (hQ : q_QM X) (h : q_OK X yX9_fits cX9_fits 5 (some .int) rmX9_fits (Cond.code yX9_fits cX9_fits 5 (some .int) :: q_G)) : q_SK X 5 23 (BX9_fits_23) := by
  refine k_aload_n (i := 0) h (ddX9_fits (23, .aload_n 0, 1) (List.mem_of_getElem? (i := 12) rfl)) rfl ?_
  refine k_getf (ci := 9) (j := 3) (C := RX9) (T := TX9) (N := 33) h rfl (fun w hw => List.mem_cons_of_mem _ (q_inX9 w hw)) (by decide) (List.mem_cons_of_mem _ gw589) (ddX9_fits (24, .getfield 20, 3) (List.mem_of_getElem? (i := 13) rfl)) ?_
  refine k_iconst (v := 0) h (ddX9_fits (27, .iconst 0, 1) (List.mem_of_getElem? (i := 14) rfl)) (by decide) ?_
  refine k_iconst (v := 1) h (ddX9_fits (28, .iconst 1, 1) (List.mem_of_getElem? (i := 15) rfl)) (by decide) ?_
  refine k_iast h (ddX9_fits (29, .iastore, 1) (List.mem_of_getElem? (i := 16) rfl)) ?_
  refine k_aload_n (i := 0) h (ddX9_fits (30, .aload_n 0, 1) (List.mem_of_getElem? (i := 17) rfl)) rfl ?_
  refine k_getf (ci := 9) (j := 3) (C := RX9) (T := TX9) (N := 33) h rfl (fun w hw => List.mem_cons_of_mem _ (q_inX9 w hw)) (by decide) (List.mem_cons_of_mem _ gw589) (ddX9_fits (31, .getfield 20, 3) (List.mem_of_getElem? (i := 18) rfl)) ?_
  refine k_iconst (v := 1) h (ddX9_fits (34, .iconst 1, 1) (List.mem_of_getElem? (i := 19) rfl)) (by decide) ?_
  refine k_iconst (v := 1) h (ddX9_fits (35, .iconst 1, 1) (List.mem_of_getElem? (i := 20) rfl)) (by decide) ?_
  refine k_iast h (ddX9_fits (36, .iastore, 1) (List.mem_of_getElem? (i := 21) rfl)) ?_
  refine k_aload_n (i := 0) h (ddX9_fits (37, .aload_n 0, 1) (List.mem_of_getElem? (i := 22) rfl)) rfl ?_
  refine k_getf (ci := 9) (j := 3) (C := RX9) (T := TX9) (N := 33) h rfl (fun w hw => List.mem_cons_of_mem _ (q_inX9 w hw)) (by decide) (List.mem_cons_of_mem _ gw589) (ddX9_fits (38, .getfield 20, 3) (List.mem_of_getElem? (i := 23) rfl)) ?_
  refine k_iconst (v := 2) h (ddX9_fits (41, .iconst 2, 1) (List.mem_of_getElem? (i := 24) rfl)) (by decide) ?_
  refine k_iconst (v := 1) h (ddX9_fits (42, .iconst 1, 1) (List.mem_of_getElem? (i := 25) rfl)) (by decide) ?_
  refine k_iast h (ddX9_fits (43, .iastore, 1) (List.mem_of_getElem? (i := 26) rfl)) ?_
  exact sX9_fits_44 hl hQ h
theorem sX9_fits_16 {l : Launch} {X : q_CX} (hl : X.2.1 = l) (hQ : q_QM X) (h : q_OK X yX9_fits cX9_fits 5 (some .int) rmX9_fits (Cond.code yX9_fits cX9_fits 5 (some .int) :: q_G)) : q_SK X 5 16 (BX9_fits_16) := by
  refine k_aload_n (i := 0) h (ddX9_fits (16, .aload_n 0, 1) (List.mem_of_getElem? (i := 9) rfl)) rfl ?_
  refine k_getf (ci := 9) (j := 7) (C := RX9) (T := TX9) (N := 33) h rfl (fun w hw => List.mem_cons_of_mem _ (q_inX9 w hw)) (by decide) (List.mem_cons_of_mem _ gw669) (ddX9_fits (17, .getfield 150, 3) (List.mem_of_getElem? (i := 10) rfl)) ?_
  refine k_ifne h (ddX9_fits (20, .ifCond .ne 24, 3) (List.mem_of_getElem? (i := 11) rfl)) (tgt := 44) (by decide) ?_ ?_
  · exact sX9_fits_44 hl hQ h
  · exact sX9_fits_23 hl hQ h
theorem sX9_fits_98 {l : Launch} {X : q_CX} (hl : X.2.1 = l) (hQ : q_QM X) (h : q_OK X yX9_fits cX9_fits 5 (some .int) rmX9_fits (Cond.code yX9_fits cX9_fits 5 (some .int) :: q_G)) : q_SK X 5 98 (BX9_fits_98) := by
  exact k_iret h hQ (ddX9_fits (98, .ireturn, 1) (List.mem_of_getElem? (i := 56) rfl))
theorem sX9_fits_97 {l : Launch} {X : q_CX} (hl : X.2.1 = l) (hQ : q_QM X) (h : q_OK X yX9_fits cX9_fits 5 (some .int) rmX9_fits (Cond.code yX9_fits cX9_fits 5 (some .int) :: q_G)) : q_SK X 5 97 (BX9_fits_97) := by
  refine k_iconst (v := (-1)) h (ddX9_fits (97, .iconst (-1), 1) (List.mem_of_getElem? (i := 55) rfl)) (by decide) ?_
  exact sX9_fits_98 hl hQ h
theorem sX9_fits_93 {l : Launch} {X : q_CX} (hl : X.2.1 = l) (hQ : q_QM X) (h : q_OK X yX9_fits cX9_fits 5 (some .int) rmX9_fits (Cond.code yX9_fits cX9_fits 5 (some .int) :: q_G)) : q_SK X 5 93 (BX9_fits_93) := by
  refine k_iload_n (i := 3) h (ddX9_fits (93, .iload_n 3, 1) (List.mem_of_getElem? (i := 53) rfl)) rfl ?_
  refine k_goto h (ddX9_fits (94, .goto 4, 3) (List.mem_of_getElem? (i := 54) rfl)) (tgt := 98) (by decide) ?_
  exact sX9_fits_98 hl hQ h
theorem sX9_fits_88 {l : Launch} {X : q_CX} (hl : X.2.1 = l) (hQ : q_QM X) (h : q_OK X yX9_fits cX9_fits 5 (some .int) rmX9_fits (Cond.code yX9_fits cX9_fits 5 (some .int) :: q_G)) : q_SK X 5 88 (BX9_fits_88) := by
  refine k_iload_n (i := 1) h (ddX9_fits (88, .iload_n 1, 1) (List.mem_of_getElem? (i := 50) rfl)) rfl ?_
  refine k_iconst (v := (-1)) h (ddX9_fits (89, .iconst (-1), 1) (List.mem_of_getElem? (i := 51) rfl)) (by decide) ?_
  refine k_icne h (ddX9_fits (90, .if_icmp .ne 7, 3) (List.mem_of_getElem? (i := 52) rfl)) (tgt := 97) (by decide) ?_ ?_
  · exact sX9_fits_97 hl hQ h
  · exact sX9_fits_93 hl hQ h
theorem sX9_fits_82 {l : Launch} {X : q_CX} (hl : X.2.1 = l) (hQ : q_QM X) (h : q_OK X yX9_fits cX9_fits 5 (some .int) rmX9_fits (Cond.code yX9_fits cX9_fits 5 (some .int) :: q_G)) : q_SK X 5 82 (BX9_fits_82) := by
  refine k_iinc (d := 1) h (ddX9_fits (82, .iinc 4 1, 3) (List.mem_of_getElem? (i := 48) rfl)) (by decide) (by decide) ?_
  refine k_goto h (ddX9_fits (85, .goto (-36), 3) (List.mem_of_getElem? (i := 49) rfl)) (tgt := 49) (by decide) ?_
  exact k_cut
theorem sX9_fits_79 {l : Launch} {X : q_CX} (hl : X.2.1 = l) (hQ : q_QM X) (h : q_OK X yX9_fits cX9_fits 5 (some .int) rmX9_fits (Cond.code yX9_fits cX9_fits 5 (some .int) :: q_G)) : q_SK X 5 79 (BX9_fits_79) := by
  refine k_iinc (d := 1) h (ddX9_fits (79, .iinc 3 1, 3) (List.mem_of_getElem? (i := 47) rfl)) (by decide) (by decide) ?_
  exact sX9_fits_82 hl hQ h
theorem sX9_fits_72 {l : Launch} {X : q_CX} (hl : X.2.1 = l) (hQ : q_QM X) (h : q_OK X yX9_fits cX9_fits 5 (some .int) rmX9_fits (Cond.code yX9_fits cX9_fits 5 (some .int) :: q_G)) : q_SK X 5 72 (BX9_fits_72) := by
  refine k_aload_n (i := 0) h (ddX9_fits (72, .aload_n 0, 1) (List.mem_of_getElem? (i := 42) rfl)) rfl ?_
  refine k_getf (ci := 9) (j := 23) (C := RX9) (T := TX9) (N := 33) h rfl (fun w hw => List.mem_cons_of_mem _ (q_inX9 w hw)) (by decide) (List.mem_cons_of_mem _ gw596) (ddX9_fits (73, .getfield 42, 3) (List.mem_of_getElem? (i := 43) rfl)) ?_
  refine k_iload_n (i := 2) h (ddX9_fits (76, .iload_n 2, 1) (List.mem_of_getElem? (i := 44) rfl)) rfl ?_
  refine k_iald h (ddX9_fits (77, .iaload, 1) (List.mem_of_getElem? (i := 45) rfl)) ?_
  exact k_iret h hQ (ddX9_fits (78, .ireturn, 1) (List.mem_of_getElem? (i := 46) rfl))
theorem sX9_fits_67 {l : Launch} {X : q_CX} (hl : X.2.1 = l) (hQ : q_QM X) (h : q_OK X yX9_fits cX9_fits 5 (some .int) rmX9_fits (Cond.code yX9_fits cX9_fits 5 (some .int) :: q_G)) : q_SK X 5 67 (BX9_fits_67) := by
  refine k_iload_n (i := 3) h (ddX9_fits (67, .iload_n 3, 1) (List.mem_of_getElem? (i := 39) rfl)) rfl ?_
  refine k_iload_n (i := 1) h (ddX9_fits (68, .iload_n 1, 1) (List.mem_of_getElem? (i := 40) rfl)) rfl ?_
  refine k_icne h (ddX9_fits (69, .if_icmp .ne 10, 3) (List.mem_of_getElem? (i := 41) rfl)) (tgt := 79) (by decide) ?_ ?_
  · exact sX9_fits_79 hl hQ h
  · exact sX9_fits_72 hl hQ h
theorem sX9_fits_58 {l : Launch} {X : q_CX} (hl : X.2.1 = l) (hQ : q_QM X) (h : q_OK X yX9_fits cX9_fits 5 (some .int) rmX9_fits (Cond.code yX9_fits cX9_fits 5 (some .int) :: q_G)) : q_SK X 5 58 (BX9_fits_58) := by
  refine k_aload_n (i := 0) h (ddX9_fits (58, .aload_n 0, 1) (List.mem_of_getElem? (i := 35) rfl)) rfl ?_
  refine k_iload (i := 4) h (ddX9_fits (59, .iload 4, 2) (List.mem_of_getElem? (i := 36) rfl)) ?_
  refine k_callV h hl (aX9_fitsAll l) (ci := 9) (C := RX9) (T := TX9) (N := 33) rfl ⟨rfl, rfl⟩ (n := 1) (by decide +kernel) (q_gV gw763 gw764 gw765 gw606 gw762) ⟨by decide, by decide⟩ (ddX9_fits (61, .invokevirtual 255, 3) (List.mem_of_getElem? (i := 37) rfl)) ?_
  refine k_ifeq h (ddX9_fits (64, .ifCond .eq 18, 3) (List.mem_of_getElem? (i := 38) rfl)) (tgt := 82) (by decide) ?_ ?_
  · exact sX9_fits_82 hl hQ h
  · exact sX9_fits_67 hl hQ h
theorem sX9_fits_49 {l : Launch} {X : q_CX} (hl : X.2.1 = l) (hQ : q_QM X) (h : q_OK X yX9_fits cX9_fits 5 (some .int) rmX9_fits (Cond.code yX9_fits cX9_fits 5 (some .int) :: q_G)) : q_SK X 5 49 (BX9_fits_49) := by
  refine k_iload (i := 4) h (ddX9_fits (49, .iload 4, 2) (List.mem_of_getElem? (i := 31) rfl)) ?_
  refine k_aload_n (i := 0) h (ddX9_fits (51, .aload_n 0, 1) (List.mem_of_getElem? (i := 32) rfl)) rfl ?_
  refine k_callV h hl (aX9_codes l) (ci := 9) (C := RX9) (T := TX9) (N := 33) rfl ⟨rfl, rfl⟩ (n := 0) (by decide +kernel) (q_gV gw759 gw760 gw761 gw606 gw758) ⟨by decide, by decide⟩ (ddX9_fits (52, .invokevirtual 252, 3) (List.mem_of_getElem? (i := 33) rfl)) ?_
  refine k_icge h (ddX9_fits (55, .if_icmp .ge 33, 3) (List.mem_of_getElem? (i := 34) rfl)) (tgt := 88) (by decide) ?_ ?_
  · exact sX9_fits_88 hl hQ h
  · exact sX9_fits_58 hl hQ h
theorem aX9_fits (l : Launch) (as : List Value) (sh : q_Sh) (m : q_Mm) (R : q_KR) (hw : wX9_fits as sh m R) : q_AM l yX9_fits (Cond.code yX9_fits cX9_fits 5 (some .int) :: q_G) rmX9_fits as sh m R := by
  refine q_met (code := TX9_fits) (by decide) (fun X hl hQ _ h pc => ?_) hw.1 hw.2
  unfold TX9_fits
  exact k_at (sX9_fits_0 hl hQ h) (k_at (sX9_fits_16 hl hQ h) (k_at (sX9_fits_49 hl hQ h) (k_no)))
/-! TumblingRockModel.countFits()I -/
abbrev dlX9_countFits : List (Nat × (Instr × Nat)) := [(0, .iconst 0, 1), (1, .istore_n 1, 1), (2, .iconst 0, 1), (3, .istore_n 2, 1), (4, .iload_n 2, 1), (5, .sipush 192, 3), (8, .if_icmp .ge 16, 3), (11, .aload_n 0, 1), (12, .getfield 57, 3), (15, .iload_n 2, 1), (16, .iconst 0, 1), (17, .iastore, 1), (18, .iinc 2 1, 3), (21, .goto (-17), 3), (24, .iconst 0, 1), (25, .istore_n 2, 1), (26, .iload_n 2, 1), (27, .aload_n 0, 1), (28, .invokevirtual 252, 3), (31, .if_icmp .ge 85, 3), (34, .aload_n 0, 1), (35, .iload_n 2, 1), (36, .invokevirtual 255, 3), (39, .ifCond .eq 71, 3), (42, .iinc 1 1, 3), (45, .iconst 0, 1), (46, .istore_n 3, 1), (47, .iload_n 3, 1), (48, .bipush 24, 2), (50, .if_icmp .ge 60, 3), (53, .iconst 0, 1), (54, .istore 4, 2), (56, .iload 4, 2), (58, .aload_n 0, 1), (59, .getfield 153, 3), (62, .if_icmp .ge 42, 3), (65, .aload_n 0, 1), (66, .getfield 57, 3), (69, .bipush 8, 2), (71, .iload_n 3, 1), (72, .imul, 1), (73, .iload 4, 2), (75, .iadd, 1), (76, .dup2, 1), (77, .iaload, 1), (78, .aload_n 0, 1), (79, .iload 4, 2), (81, .iload_n 3, 1), (82, .invokevirtual 176, 3), (85, .ifCond .le 7, 3), (88, .iconst 1, 1), (89, .goto 4, 3), (92, .iconst 0, 1), (93, .invokestatic 185, 3), (96, .iadd, 1), (97, .iastore, 1), (98, .iinc 4 1, 3), (101, .goto (-45), 3), (104, .iinc 3 1, 3), (107, .goto (-60), 3), (110, .iinc 2 1, 3), (113, .goto (-87), 3), (116, .iload_n 1, 1), (117, .ireturn, 1)]
theorem ddX9_countFits : ∀ q ∈ dlX9_countFits, decode cX9_countFits q.1 = .ok q.2 := by decide +kernel
theorem sX9_countFits_0 {l : Launch} {X : q_CX} (hl : X.2.1 = l) (hQ : q_QM X) (h : q_OK X yX9_countFits cX9_countFits 5 (some .int) rmX9_countFits (Cond.code yX9_countFits cX9_countFits 5 (some .int) :: q_G)) : q_SK X 5 0 (BX9_countFits_0) := by
  refine k_iconst (v := 0) h (ddX9_countFits (0, .iconst 0, 1) (List.mem_of_getElem? (i := 0) rfl)) (by decide) ?_
  refine k_istore_n (i := 1) h (ddX9_countFits (1, .istore_n 1, 1) (List.mem_of_getElem? (i := 1) rfl)) rfl (by decide) ?_
  refine k_iconst (v := 0) h (ddX9_countFits (2, .iconst 0, 1) (List.mem_of_getElem? (i := 2) rfl)) (by decide) ?_
  refine k_istore_n (i := 2) h (ddX9_countFits (3, .istore_n 2, 1) (List.mem_of_getElem? (i := 3) rfl)) rfl (by decide) ?_
  exact k_cut
theorem sX9_countFits_24 {l : Launch} {X : q_CX} (hl : X.2.1 = l) (hQ : q_QM X) (h : q_OK X yX9_countFits cX9_countFits 5 (some .int) rmX9_countFits (Cond.code yX9_countFits cX9_countFits 5 (some .int) :: q_G)) : q_SK X 5 24 (BX9_countFits_24) := by
  refine k_iconst (v := 0) h (ddX9_countFits (24, .iconst 0, 1) (List.mem_of_getElem? (i := 14) rfl)) (by decide) ?_
  refine k_istore_n (i := 2) h (ddX9_countFits (25, .istore_n 2, 1) (List.mem_of_getElem? (i := 15) rfl)) rfl (by decide) ?_
  exact k_cut
theorem sX9_countFits_11 {l : Launch} {X : q_CX} (hl : X.2.1 = l) (hQ : q_QM X) (h : q_OK X yX9_countFits cX9_countFits 5 (some .int) rmX9_countFits (Cond.code yX9_countFits cX9_countFits 5 (some .int) :: q_G)) : q_SK X 5 11 (BX9_countFits_11) := by
  refine k_aload_n (i := 0) h (ddX9_countFits (11, .aload_n 0, 1) (List.mem_of_getElem? (i := 7) rfl)) rfl ?_
  refine k_getf (ci := 9) (j := 29) (C := RX9) (T := TX9) (N := 33) h rfl (fun w hw => List.mem_cons_of_mem _ (q_inX9 w hw)) (by decide) (List.mem_cons_of_mem _ gw601) (ddX9_countFits (12, .getfield 57, 3) (List.mem_of_getElem? (i := 8) rfl)) ?_
  refine k_iload_n (i := 2) h (ddX9_countFits (15, .iload_n 2, 1) (List.mem_of_getElem? (i := 9) rfl)) rfl ?_
  refine k_iconst (v := 0) h (ddX9_countFits (16, .iconst 0, 1) (List.mem_of_getElem? (i := 10) rfl)) (by decide) ?_
  refine k_iast h (ddX9_countFits (17, .iastore, 1) (List.mem_of_getElem? (i := 11) rfl)) ?_
  refine k_iinc (d := 1) h (ddX9_countFits (18, .iinc 2 1, 3) (List.mem_of_getElem? (i := 12) rfl)) (by decide) (by decide) ?_
  refine k_goto h (ddX9_countFits (21, .goto (-17), 3) (List.mem_of_getElem? (i := 13) rfl)) (tgt := 4) (by decide) ?_
  exact k_cut
theorem sX9_countFits_4 {l : Launch} {X : q_CX} (hl : X.2.1 = l) (hQ : q_QM X) (h : q_OK X yX9_countFits cX9_countFits 5 (some .int) rmX9_countFits (Cond.code yX9_countFits cX9_countFits 5 (some .int) :: q_G)) : q_SK X 5 4 (BX9_countFits_4) := by
  refine k_iload_n (i := 2) h (ddX9_countFits (4, .iload_n 2, 1) (List.mem_of_getElem? (i := 4) rfl)) rfl ?_
  refine k_sipush (v := 192) h (ddX9_countFits (5, .sipush 192, 3) (List.mem_of_getElem? (i := 5) rfl)) (by decide) ?_
  refine k_icge h (ddX9_countFits (8, .if_icmp .ge 16, 3) (List.mem_of_getElem? (i := 6) rfl)) (tgt := 24) (by decide) ?_ ?_
  · exact sX9_countFits_24 hl hQ h
  · exact sX9_countFits_11 hl hQ h
theorem sX9_countFits_116 {l : Launch} {X : q_CX} (hl : X.2.1 = l) (hQ : q_QM X) (h : q_OK X yX9_countFits cX9_countFits 5 (some .int) rmX9_countFits (Cond.code yX9_countFits cX9_countFits 5 (some .int) :: q_G)) : q_SK X 5 116 (BX9_countFits_116) := by
  refine k_iload_n (i := 1) h (ddX9_countFits (116, .iload_n 1, 1) (List.mem_of_getElem? (i := 62) rfl)) rfl ?_
  exact k_iret h hQ (ddX9_countFits (117, .ireturn, 1) (List.mem_of_getElem? (i := 63) rfl))
theorem sX9_countFits_110 {l : Launch} {X : q_CX} (hl : X.2.1 = l) (hQ : q_QM X) (h : q_OK X yX9_countFits cX9_countFits 5 (some .int) rmX9_countFits (Cond.code yX9_countFits cX9_countFits 5 (some .int) :: q_G)) : q_SK X 5 110 (BX9_countFits_110) := by
  refine k_iinc (d := 1) h (ddX9_countFits (110, .iinc 2 1, 3) (List.mem_of_getElem? (i := 60) rfl)) (by decide) (by decide) ?_
  refine k_goto h (ddX9_countFits (113, .goto (-87), 3) (List.mem_of_getElem? (i := 61) rfl)) (tgt := 26) (by decide) ?_
  exact k_cut
theorem sX9_countFits_42 {l : Launch} {X : q_CX} (hl : X.2.1 = l) (hQ : q_QM X) (h : q_OK X yX9_countFits cX9_countFits 5 (some .int) rmX9_countFits (Cond.code yX9_countFits cX9_countFits 5 (some .int) :: q_G)) : q_SK X 5 42 (BX9_countFits_42) := by
  refine k_iinc (d := 1) h (ddX9_countFits (42, .iinc 1 1, 3) (List.mem_of_getElem? (i := 24) rfl)) (by decide) (by decide) ?_
  refine k_iconst (v := 0) h (ddX9_countFits (45, .iconst 0, 1) (List.mem_of_getElem? (i := 25) rfl)) (by decide) ?_
  refine k_istore_n (i := 3) h (ddX9_countFits (46, .istore_n 3, 1) (List.mem_of_getElem? (i := 26) rfl)) rfl (by decide) ?_
  exact k_cut
theorem sX9_countFits_34 {l : Launch} {X : q_CX} (hl : X.2.1 = l) (hQ : q_QM X) (h : q_OK X yX9_countFits cX9_countFits 5 (some .int) rmX9_countFits (Cond.code yX9_countFits cX9_countFits 5 (some .int) :: q_G)) : q_SK X 5 34 (BX9_countFits_34) := by
  refine k_aload_n (i := 0) h (ddX9_countFits (34, .aload_n 0, 1) (List.mem_of_getElem? (i := 20) rfl)) rfl ?_
  refine k_iload_n (i := 2) h (ddX9_countFits (35, .iload_n 2, 1) (List.mem_of_getElem? (i := 21) rfl)) rfl ?_
  refine k_callV h hl (aX9_fitsAll l) (ci := 9) (C := RX9) (T := TX9) (N := 33) rfl ⟨rfl, rfl⟩ (n := 1) (by decide +kernel) (q_gV gw763 gw764 gw765 gw606 gw762) ⟨by decide, by decide⟩ (ddX9_countFits (36, .invokevirtual 255, 3) (List.mem_of_getElem? (i := 22) rfl)) ?_
  refine k_ifeq h (ddX9_countFits (39, .ifCond .eq 71, 3) (List.mem_of_getElem? (i := 23) rfl)) (tgt := 110) (by decide) ?_ ?_
  · exact sX9_countFits_110 hl hQ h
  · exact sX9_countFits_42 hl hQ h
theorem sX9_countFits_26 {l : Launch} {X : q_CX} (hl : X.2.1 = l) (hQ : q_QM X) (h : q_OK X yX9_countFits cX9_countFits 5 (some .int) rmX9_countFits (Cond.code yX9_countFits cX9_countFits 5 (some .int) :: q_G)) : q_SK X 5 26 (BX9_countFits_26) := by
  refine k_iload_n (i := 2) h (ddX9_countFits (26, .iload_n 2, 1) (List.mem_of_getElem? (i := 16) rfl)) rfl ?_
  refine k_aload_n (i := 0) h (ddX9_countFits (27, .aload_n 0, 1) (List.mem_of_getElem? (i := 17) rfl)) rfl ?_
  refine k_callV h hl (aX9_codes l) (ci := 9) (C := RX9) (T := TX9) (N := 33) rfl ⟨rfl, rfl⟩ (n := 0) (by decide +kernel) (q_gV gw759 gw760 gw761 gw606 gw758) ⟨by decide, by decide⟩ (ddX9_countFits (28, .invokevirtual 252, 3) (List.mem_of_getElem? (i := 18) rfl)) ?_
  refine k_icge h (ddX9_countFits (31, .if_icmp .ge 85, 3) (List.mem_of_getElem? (i := 19) rfl)) (tgt := 116) (by decide) ?_ ?_
  · exact sX9_countFits_116 hl hQ h
  · exact sX9_countFits_34 hl hQ h
theorem sX9_countFits_53 {l : Launch} {X : q_CX} (hl : X.2.1 = l) (hQ : q_QM X) (h : q_OK X yX9_countFits cX9_countFits 5 (some .int) rmX9_countFits (Cond.code yX9_countFits cX9_countFits 5 (some .int) :: q_G)) : q_SK X 5 53 (BX9_countFits_53) := by
  refine k_iconst (v := 0) h (ddX9_countFits (53, .iconst 0, 1) (List.mem_of_getElem? (i := 30) rfl)) (by decide) ?_
  refine k_istore (i := 4) h (ddX9_countFits (54, .istore 4, 2) (List.mem_of_getElem? (i := 31) rfl)) (by decide) ?_
  exact k_cut
theorem sX9_countFits_47 {l : Launch} {X : q_CX} (hl : X.2.1 = l) (hQ : q_QM X) (h : q_OK X yX9_countFits cX9_countFits 5 (some .int) rmX9_countFits (Cond.code yX9_countFits cX9_countFits 5 (some .int) :: q_G)) : q_SK X 5 47 (BX9_countFits_47) := by
  refine k_iload_n (i := 3) h (ddX9_countFits (47, .iload_n 3, 1) (List.mem_of_getElem? (i := 27) rfl)) rfl ?_
  refine k_bipush (v := 24) h (ddX9_countFits (48, .bipush 24, 2) (List.mem_of_getElem? (i := 28) rfl)) (by decide) ?_
  refine k_icge h (ddX9_countFits (50, .if_icmp .ge 60, 3) (List.mem_of_getElem? (i := 29) rfl)) (tgt := 110) (by decide) ?_ ?_
  · exact sX9_countFits_110 hl hQ h
  · exact sX9_countFits_53 hl hQ h
theorem sX9_countFits_104 {l : Launch} {X : q_CX} (hl : X.2.1 = l) (hQ : q_QM X) (h : q_OK X yX9_countFits cX9_countFits 5 (some .int) rmX9_countFits (Cond.code yX9_countFits cX9_countFits 5 (some .int) :: q_G)) : q_SK X 5 104 (BX9_countFits_104) := by
  refine k_iinc (d := 1) h (ddX9_countFits (104, .iinc 3 1, 3) (List.mem_of_getElem? (i := 58) rfl)) (by decide) (by decide) ?_
  refine k_goto h (ddX9_countFits (107, .goto (-60), 3) (List.mem_of_getElem? (i := 59) rfl)) (tgt := 47) (by decide) ?_
  exact k_cut
theorem sX9_countFits_93 {l : Launch} {X : q_CX} (hl : X.2.1 = l) (hQ : q_QM X) (h : q_OK X yX9_countFits cX9_countFits 5 (some .int) rmX9_countFits (Cond.code yX9_countFits cX9_countFits 5 (some .int) :: q_G)) : q_SK X 5 93 (BX9_countFits_93) := by
  refine k_callS h hl (aX9_one l) ⟨rfl, rfl⟩ (n := 1) (by decide +kernel) (q_gS gw697 gw696 gw606 gw695) ⟨by decide, by decide⟩ (ddX9_countFits (93, .invokestatic 185, 3) (List.mem_of_getElem? (i := 53) rfl)) ?_
  refine k_iadd h (ddX9_countFits (96, .iadd, 1) (List.mem_of_getElem? (i := 54) rfl)) ?_
  refine k_iast h (ddX9_countFits (97, .iastore, 1) (List.mem_of_getElem? (i := 55) rfl)) ?_
  refine k_iinc (d := 1) h (ddX9_countFits (98, .iinc 4 1, 3) (List.mem_of_getElem? (i := 56) rfl)) (by decide) (by decide) ?_
  refine k_goto h (ddX9_countFits (101, .goto (-45), 3) (List.mem_of_getElem? (i := 57) rfl)) (tgt := 56) (by decide) ?_
  exact k_cut
theorem sX9_countFits_92 {l : Launch} {X : q_CX} (hl : X.2.1 = l) (hQ : q_QM X) (h : q_OK X yX9_countFits cX9_countFits 5 (some .int) rmX9_countFits (Cond.code yX9_countFits cX9_countFits 5 (some .int) :: q_G)) : q_SK X 5 92 (BX9_countFits_92) := by
  refine k_iconst (v := 0) h (ddX9_countFits (92, .iconst 0, 1) (List.mem_of_getElem? (i := 52) rfl)) (by decide) ?_
  exact sX9_countFits_93 hl hQ h
theorem sX9_countFits_88 {l : Launch} {X : q_CX} (hl : X.2.1 = l) (hQ : q_QM X) (h : q_OK X yX9_countFits cX9_countFits 5 (some .int) rmX9_countFits (Cond.code yX9_countFits cX9_countFits 5 (some .int) :: q_G)) : q_SK X 5 88 (BX9_countFits_88) := by
  refine k_iconst (v := 1) h (ddX9_countFits (88, .iconst 1, 1) (List.mem_of_getElem? (i := 50) rfl)) (by decide) ?_
  refine k_goto h (ddX9_countFits (89, .goto 4, 3) (List.mem_of_getElem? (i := 51) rfl)) (tgt := 93) (by decide) ?_
  exact sX9_countFits_93 hl hQ h
theorem sX9_countFits_65 {l : Launch} {X : q_CX} (hl : X.2.1 = l) (hQ : q_QM X) (h : q_OK X yX9_countFits cX9_countFits 5 (some .int) rmX9_countFits (Cond.code yX9_countFits cX9_countFits 5 (some .int) :: q_G)) : q_SK X 5 65 (BX9_countFits_65) := by
  refine k_aload_n (i := 0) h (ddX9_countFits (65, .aload_n 0, 1) (List.mem_of_getElem? (i := 36) rfl)) rfl ?_
  refine k_getf (ci := 9) (j := 29) (C := RX9) (T := TX9) (N := 33) h rfl (fun w hw => List.mem_cons_of_mem _ (q_inX9 w hw)) (by decide) (List.mem_cons_of_mem _ gw601) (ddX9_countFits (66, .getfield 57, 3) (List.mem_of_getElem? (i := 37) rfl)) ?_
  refine k_bipush (v := 8) h (ddX9_countFits (69, .bipush 8, 2) (List.mem_of_getElem? (i := 38) rfl)) (by decide) ?_
  refine k_iload_n (i := 3) h (ddX9_countFits (71, .iload_n 3, 1) (List.mem_of_getElem? (i := 39) rfl)) rfl ?_
  refine k_imul h (ddX9_countFits (72, .imul, 1) (List.mem_of_getElem? (i := 40) rfl)) ?_
  refine k_iload (i := 4) h (ddX9_countFits (73, .iload 4, 2) (List.mem_of_getElem? (i := 41) rfl)) ?_
  refine k_iadd h (ddX9_countFits (75, .iadd, 1) (List.mem_of_getElem? (i := 42) rfl)) ?_
  refine k_dup2 h (ddX9_countFits (76, .dup2, 1) (List.mem_of_getElem? (i := 43) rfl)) ?_
  refine k_iald h (ddX9_countFits (77, .iaload, 1) (List.mem_of_getElem? (i := 44) rfl)) ?_
  refine k_aload_n (i := 0) h (ddX9_countFits (78, .aload_n 0, 1) (List.mem_of_getElem? (i := 45) rfl)) rfl ?_
  refine k_iload (i := 4) h (ddX9_countFits (79, .iload 4, 2) (List.mem_of_getElem? (i := 46) rfl)) ?_
  refine k_iload_n (i := 3) h (ddX9_countFits (81, .iload_n 3, 1) (List.mem_of_getElem? (i := 47) rfl)) rfl ?_
  refine k_callV h hl (aX9_heightBy l) (ci := 9) (C := RX9) (T := TX9) (N := 33) rfl ⟨rfl, rfl⟩ (n := 2) (by decide +kernel) (q_gV gw684 gw685 gw686 gw606 gw683) ⟨by decide, by decide⟩ (ddX9_countFits (82, .invokevirtual 176, 3) (List.mem_of_getElem? (i := 48) rfl)) ?_
  refine k_ifle h (ddX9_countFits (85, .ifCond .le 7, 3) (List.mem_of_getElem? (i := 49) rfl)) (tgt := 92) (by decide) ?_ ?_
  · exact sX9_countFits_92 hl hQ h
  · exact sX9_countFits_88 hl hQ h
theorem sX9_countFits_56 {l : Launch} {X : q_CX} (hl : X.2.1 = l) (hQ : q_QM X) (h : q_OK X yX9_countFits cX9_countFits 5 (some .int) rmX9_countFits (Cond.code yX9_countFits cX9_countFits 5 (some .int) :: q_G)) : q_SK X 5 56 (BX9_countFits_56) := by
  refine k_iload (i := 4) h (ddX9_countFits (56, .iload 4, 2) (List.mem_of_getElem? (i := 32) rfl)) ?_
  refine k_aload_n (i := 0) h (ddX9_countFits (58, .aload_n 0, 1) (List.mem_of_getElem? (i := 33) rfl)) rfl ?_
  refine k_getf (ci := 9) (j := 8) (C := RX9) (T := TX9) (N := 33) h rfl (fun w hw => List.mem_cons_of_mem _ (q_inX9 w hw)) (by decide) (List.mem_cons_of_mem _ gw670) (ddX9_countFits (59, .getfield 153, 3) (List.mem_of_getElem? (i := 34) rfl)) ?_
  refine k_icge h (ddX9_countFits (62, .if_icmp .ge 42, 3) (List.mem_of_getElem? (i := 35) rfl)) (tgt := 104) (by decide) ?_ ?_
  · exact sX9_countFits_104 hl hQ h
  · exact sX9_countFits_65 hl hQ h
theorem aX9_countFits (l : Launch) (as : List Value) (sh : q_Sh) (m : q_Mm) (R : q_KR) (hw : wX9_countFits as sh m R) : q_AM l yX9_countFits (Cond.code yX9_countFits cX9_countFits 5 (some .int) :: q_G) rmX9_countFits as sh m R := by
  refine q_met (code := TX9_countFits) (by decide) (fun X hl hQ _ h pc => ?_) hw.1 hw.2
  unfold TX9_countFits
  exact k_at (sX9_countFits_0 hl hQ h) (k_at (sX9_countFits_4 hl hQ h) (k_at (sX9_countFits_26 hl hQ h) (k_at (sX9_countFits_47 hl hQ h) (k_at (sX9_countFits_56 hl hQ h) (k_no)))))
/-! TumblingRockModel.look(I)I -/
abbrev dlX9_look : List (Nat × (Instr × Nat)) := [(0, .iload_n 1, 1), (1, .i2l, 1), (2, .lconst 0, 1), (3, .ldc2_w 200, 3), (6, .invokestatic 68, 3), (9, .ifCond .ne 6, 3), (12, .ldc 72, 2), (14, .ireturn, 1), (15, .aload_n 0, 1), (16, .getfield 150, 3), (19, .ifCond .ne 7, 3), (22, .iconst 0, 1), (23, .goto 7, 3), (26, .aload_n 0, 1), (27, .invokevirtual 258, 3), (30, .istore_n 2, 1), (31, .iconst (-1), 1), (32, .istore_n 3, 1), (33, .ldc 249, 2), (35, .istore 4, 2), (37, .iconst 0, 1), (38, .istore 5, 2), (40, .iload 5, 2), (42, .sipush 192, 3), (45, .if_icmp .ge 98, 3), (48, .aload_n 0, 1), (49, .getfield 57, 3), (52, .iload 5, 2), (54, .iaload, 1), (55, .iload_n 2, 1), (56, .aload_n 0, 1), (57, .getfield 57, 3), (60, .iload 5, 2), (62, .iaload, 1), (63, .isub, 1), (64, .if_icmp .le 13, 3), (67, .aload_n 0, 1), (68, .getfield 57, 3), (71, .iload 5, 2), (73, .iaload, 1), (74, .goto 12, 3), (77, .iload_n 2, 1), (78, .aload_n 0, 1), (79, .getfield 57, 3), (82, .iload 5, 2), (84, .iaload, 1), (85, .isub, 1), (86, .istore 6, 2), (88, .iload_n 2, 1), (89, .iconst 1, 1), (90, .if_icmp .le 25, 3), (93, .iload 5, 2), (95, .bipush 8, 2), (97, .irem, 1), (98, .aload_n 0, 1), (99, .getfield 153, 3), (102, .if_icmp .ge 13, 3), (105, .iload 6, 2), (107, .iload_n 2, 1), (108, .if_icmp .ge 7, 3), (111, .iconst 1, 1), (112, .goto 4, 3), (115, .iconst 0, 1), (116, .istore 7, 2), (118, .iload 7, 2), (120, .ifCond .eq 17, 3), (123, .iload 6, 2), (125, .iload 4, 2), (127, .if_icmp .ge 10, 3), (130, .iload 5, 2), (132, .istore_n 3, 1), (133, .iload 6, 2), (135, .istore 4, 2), (137, .iinc 5 1, 3), (140, .goto (-100), 3), (143, .iload_n 3, 1), (144, .ifCond .ge 7, 3), (147, .iconst (-1), 1), (148, .goto 28, 3), (151, .iload_n 1, 1), (152, .ifCond .ne 10, 3), (155, .iload_n 3, 1), (156, .bipush 8, 2), (158, .irem, 1), (159, .goto 17, 3), (162, .iload_n 1, 1), (163, .iconst 1, 1), (164, .if_icmp .ne 10, 3), (167, .iload_n 3, 1), (168, .bipush 8, 2), (170, .idiv, 1), (171, .goto 5, 3), (174, .iload 4, 2), (176, .ireturn, 1)]
theorem ddX9_look : ∀ q ∈ dlX9_look, decode cX9_look q.1 = .ok q.2 := by decide +kernel
theorem sX9_look_30 {l : Launch} {X : q_CX} (hl : X.2.1 = l) (hQ : q_QM X) (h : q_OK X yX9_look cX9_look 8 (some .int) rmX9_look (Cond.code yX9_look cX9_look 8 (some .int) :: q_G)) : q_SK X 8 30 (BX9_look_30) := by
  refine k_istore_n (i := 2) h (ddX9_look (30, .istore_n 2, 1) (List.mem_of_getElem? (i := 15) rfl)) rfl (by decide) ?_
  refine k_iconst (v := (-1)) h (ddX9_look (31, .iconst (-1), 1) (List.mem_of_getElem? (i := 16) rfl)) (by decide) ?_
  refine k_istore_n (i := 3) h (ddX9_look (32, .istore_n 3, 1) (List.mem_of_getElem? (i := 17) rfl)) rfl (by decide) ?_
  refine k_ldc (v := 99999999) h (ddX9_look (33, .ldc 249, 2) (List.mem_of_getElem? (i := 18) rfl)) (List.mem_cons_of_mem _ gw756) ?_
  refine k_istore (i := 4) h (ddX9_look (35, .istore 4, 2) (List.mem_of_getElem? (i := 19) rfl)) (by decide) ?_
  refine k_iconst (v := 0) h (ddX9_look (37, .iconst 0, 1) (List.mem_of_getElem? (i := 20) rfl)) (by decide) ?_
  refine k_istore (i := 5) h (ddX9_look (38, .istore 5, 2) (List.mem_of_getElem? (i := 21) rfl)) (by decide) ?_
  exact k_cut
theorem sX9_look_26 {l : Launch} {X : q_CX} (hl : X.2.1 = l) (hQ : q_QM X) (h : q_OK X yX9_look cX9_look 8 (some .int) rmX9_look (Cond.code yX9_look cX9_look 8 (some .int) :: q_G)) : q_SK X 8 26 (BX9_look_26) := by
  refine k_aload_n (i := 0) h (ddX9_look (26, .aload_n 0, 1) (List.mem_of_getElem? (i := 13) rfl)) rfl ?_
  refine k_callV h hl (aX9_countFits l) (ci := 9) (C := RX9) (T := TX9) (N := 33) rfl ⟨rfl, rfl⟩ (n := 0) (by decide +kernel) (q_gV gw767 gw768 gw769 gw606 gw766) ⟨by decide, by decide⟩ (ddX9_look (27, .invokevirtual 258, 3) (List.mem_of_getElem? (i := 14) rfl)) ?_
  exact sX9_look_30 hl hQ h
theorem sX9_look_22 {l : Launch} {X : q_CX} (hl : X.2.1 = l) (hQ : q_QM X) (h : q_OK X yX9_look cX9_look 8 (some .int) rmX9_look (Cond.code yX9_look cX9_look 8 (some .int) :: q_G)) : q_SK X 8 22 (BX9_look_22) := by
  refine k_iconst (v := 0) h (ddX9_look (22, .iconst 0, 1) (List.mem_of_getElem? (i := 11) rfl)) (by decide) ?_
  refine k_goto h (ddX9_look (23, .goto 7, 3) (List.mem_of_getElem? (i := 12) rfl)) (tgt := 30) (by decide) ?_
  exact sX9_look_30 hl hQ h
theorem sX9_look_15 {l : Launch} {X : q_CX} (hl : X.2.1 = l) (hQ : q_QM X) (h : q_OK X yX9_look cX9_look 8 (some .int) rmX9_look (Cond.code yX9_look cX9_look 8 (some .int) :: q_G)) : q_SK X 8 15 (BX9_look_15) := by
  refine k_aload_n (i := 0) h (ddX9_look (15, .aload_n 0, 1) (List.mem_of_getElem? (i := 8) rfl)) rfl ?_
  refine k_getf (ci := 9) (j := 7) (C := RX9) (T := TX9) (N := 33) h rfl (fun w hw => List.mem_cons_of_mem _ (q_inX9 w hw)) (by decide) (List.mem_cons_of_mem _ gw669) (ddX9_look (16, .getfield 150, 3) (List.mem_of_getElem? (i := 9) rfl)) ?_
  refine k_ifne h (ddX9_look (19, .ifCond .ne 7, 3) (List.mem_of_getElem? (i := 10) rfl)) (tgt := 26) (by decide) ?_ ?_
  · exact sX9_look_26 hl hQ h
  · exact sX9_look_22 hl hQ h
theorem sX9_look_12 {l : Launch} {X : q_CX} (hl : X.2.1 = l) (hQ : q_QM X) (h : q_OK X yX9_look cX9_look 8 (some .int) rmX9_look (Cond.code yX9_look cX9_look 8 (some .int) :: q_G)) : q_SK X 8 12 (BX9_look_12) := by
  refine k_ldc (v := (-1000000002)) h (ddX9_look (12, .ldc 72, 2) (List.mem_of_getElem? (i := 6) rfl)) (List.mem_cons_of_mem _ gw609) ?_
  exact k_iret h hQ (ddX9_look (14, .ireturn, 1) (List.mem_of_getElem? (i := 7) rfl))
theorem sX9_look_0 {l : Launch} {X : q_CX} (hl : X.2.1 = l) (hQ : q_QM X) (h : q_OK X yX9_look cX9_look 8 (some .int) rmX9_look (Cond.code yX9_look cX9_look 8 (some .int) :: q_G)) : q_SK X 8 0 (BX9_look_0) := by
  refine k_iload_n (i := 1) h (ddX9_look (0, .iload_n 1, 1) (List.mem_of_getElem? (i := 0) rfl)) rfl ?_
  refine k_i2l h (ddX9_look (1, .i2l, 1) (List.mem_of_getElem? (i := 1) rfl)) ?_
  refine k_lconst (v := 0) h (ddX9_look (2, .lconst 0, 1) (List.mem_of_getElem? (i := 2) rfl)) (by decide) ?_
  refine k_ldc2 (v := 2) h (ddX9_look (3, .ldc2_w 200, 3) (List.mem_of_getElem? (i := 3) rfl)) (List.mem_cons_of_mem _ gw711) ?_
  refine k_callS h hl (aX9_in l) ⟨rfl, rfl⟩ (n := 3) (by decide +kernel) (q_gS gw608 gw607 gw606 gw605) ⟨by decide, by decide⟩ (ddX9_look (6, .invokestatic 68, 3) (List.mem_of_getElem? (i := 4) rfl)) ?_
  refine k_ifne h (ddX9_look (9, .ifCond .ne 6, 3) (List.mem_of_getElem? (i := 5) rfl)) (tgt := 15) (by decide) ?_ ?_
  · exact sX9_look_15 hl hQ h
  · exact sX9_look_12 hl hQ h
theorem sX9_look_176 {l : Launch} {X : q_CX} (hl : X.2.1 = l) (hQ : q_QM X) (h : q_OK X yX9_look cX9_look 8 (some .int) rmX9_look (Cond.code yX9_look cX9_look 8 (some .int) :: q_G)) : q_SK X 8 176 (BX9_look_176) := by
  exact k_iret h hQ (ddX9_look (176, .ireturn, 1) (List.mem_of_getElem? (i := 93) rfl))
theorem sX9_look_174 {l : Launch} {X : q_CX} (hl : X.2.1 = l) (hQ : q_QM X) (h : q_OK X yX9_look cX9_look 8 (some .int) rmX9_look (Cond.code yX9_look cX9_look 8 (some .int) :: q_G)) : q_SK X 8 174 (BX9_look_174) := by
  refine k_iload (i := 4) h (ddX9_look (174, .iload 4, 2) (List.mem_of_getElem? (i := 92) rfl)) ?_
  exact sX9_look_176 hl hQ h
theorem sX9_look_167 {l : Launch} {X : q_CX} (hl : X.2.1 = l) (hQ : q_QM X) (h : q_OK X yX9_look cX9_look 8 (some .int) rmX9_look (Cond.code yX9_look cX9_look 8 (some .int) :: q_G)) : q_SK X 8 167 (BX9_look_167) := by
  refine k_iload_n (i := 3) h (ddX9_look (167, .iload_n 3, 1) (List.mem_of_getElem? (i := 88) rfl)) rfl ?_
  refine k_bipush (v := 8) h (ddX9_look (168, .bipush 8, 2) (List.mem_of_getElem? (i := 89) rfl)) (by decide) ?_
  refine k_idiv h (ddX9_look (170, .idiv, 1) (List.mem_of_getElem? (i := 90) rfl)) ?_
  refine k_goto h (ddX9_look (171, .goto 5, 3) (List.mem_of_getElem? (i := 91) rfl)) (tgt := 176) (by decide) ?_
  exact sX9_look_176 hl hQ h
theorem sX9_look_162 {l : Launch} {X : q_CX} (hl : X.2.1 = l) (hQ : q_QM X) (h : q_OK X yX9_look cX9_look 8 (some .int) rmX9_look (Cond.code yX9_look cX9_look 8 (some .int) :: q_G)) : q_SK X 8 162 (BX9_look_162) := by
  refine k_iload_n (i := 1) h (ddX9_look (162, .iload_n 1, 1) (List.mem_of_getElem? (i := 85) rfl)) rfl ?_
  refine k_iconst (v := 1) h (ddX9_look (163, .iconst 1, 1) (List.mem_of_getElem? (i := 86) rfl)) (by decide) ?_
  refine k_icne h (ddX9_look (164, .if_icmp .ne 10, 3) (List.mem_of_getElem? (i := 87) rfl)) (tgt := 174) (by decide) ?_ ?_
  · exact sX9_look_174 hl hQ h
  · exact sX9_look_167 hl hQ h
theorem sX9_look_155 {l : Launch} {X : q_CX} (hl : X.2.1 = l) (hQ : q_QM X) (h : q_OK X yX9_look cX9_look 8 (some .int) rmX9_look (Cond.code yX9_look cX9_look 8 (some .int) :: q_G)) : q_SK X 8 155 (BX9_look_155) := by
  refine k_iload_n (i := 3) h (ddX9_look (155, .iload_n 3, 1) (List.mem_of_getElem? (i := 81) rfl)) rfl ?_
  refine k_bipush (v := 8) h (ddX9_look (156, .bipush 8, 2) (List.mem_of_getElem? (i := 82) rfl)) (by decide) ?_
  refine k_irem h (ddX9_look (158, .irem, 1) (List.mem_of_getElem? (i := 83) rfl)) ?_
  refine k_goto h (ddX9_look (159, .goto 17, 3) (List.mem_of_getElem? (i := 84) rfl)) (tgt := 176) (by decide) ?_
  exact sX9_look_176 hl hQ h
theorem sX9_look_151 {l : Launch} {X : q_CX} (hl : X.2.1 = l) (hQ : q_QM X) (h : q_OK X yX9_look cX9_look 8 (some .int) rmX9_look (Cond.code yX9_look cX9_look 8 (some .int) :: q_G)) : q_SK X 8 151 (BX9_look_151) := by
  refine k_iload_n (i := 1) h (ddX9_look (151, .iload_n 1, 1) (List.mem_of_getElem? (i := 79) rfl)) rfl ?_
  refine k_ifne h (ddX9_look (152, .ifCond .ne 10, 3) (List.mem_of_getElem? (i := 80) rfl)) (tgt := 162) (by decide) ?_ ?_
  · exact sX9_look_162 hl hQ h
  · exact sX9_look_155 hl hQ h
theorem sX9_look_147 {l : Launch} {X : q_CX} (hl : X.2.1 = l) (hQ : q_QM X) (h : q_OK X yX9_look cX9_look 8 (some .int) rmX9_look (Cond.code yX9_look cX9_look 8 (some .int) :: q_G)) : q_SK X 8 147 (BX9_look_147) := by
  refine k_iconst (v := (-1)) h (ddX9_look (147, .iconst (-1), 1) (List.mem_of_getElem? (i := 77) rfl)) (by decide) ?_
  refine k_goto h (ddX9_look (148, .goto 28, 3) (List.mem_of_getElem? (i := 78) rfl)) (tgt := 176) (by decide) ?_
  exact sX9_look_176 hl hQ h
theorem sX9_look_143 {l : Launch} {X : q_CX} (hl : X.2.1 = l) (hQ : q_QM X) (h : q_OK X yX9_look cX9_look 8 (some .int) rmX9_look (Cond.code yX9_look cX9_look 8 (some .int) :: q_G)) : q_SK X 8 143 (BX9_look_143) := by
  refine k_iload_n (i := 3) h (ddX9_look (143, .iload_n 3, 1) (List.mem_of_getElem? (i := 75) rfl)) rfl ?_
  refine k_ifge h (ddX9_look (144, .ifCond .ge 7, 3) (List.mem_of_getElem? (i := 76) rfl)) (tgt := 151) (by decide) ?_ ?_
  · exact sX9_look_151 hl hQ h
  · exact sX9_look_147 hl hQ h
theorem sX9_look_77 {l : Launch} {X : q_CX} (hl : X.2.1 = l) (hQ : q_QM X) (h : q_OK X yX9_look cX9_look 8 (some .int) rmX9_look (Cond.code yX9_look cX9_look 8 (some .int) :: q_G)) : q_SK X 8 77 (BX9_look_77) := by
  refine k_iload_n (i := 2) h (ddX9_look (77, .iload_n 2, 1) (List.mem_of_getElem? (i := 41) rfl)) rfl ?_
  refine k_aload_n (i := 0) h (ddX9_look (78, .aload_n 0, 1) (List.mem_of_getElem? (i := 42) rfl)) rfl ?_
  refine k_getf (ci := 9) (j := 29) (C := RX9) (T := TX9) (N := 33) h rfl (fun w hw => List.mem_cons_of_mem _ (q_inX9 w hw)) (by decide) (List.mem_cons_of_mem _ gw601) (ddX9_look (79, .getfield 57, 3) (List.mem_of_getElem? (i := 43) rfl)) ?_
  refine k_iload (i := 5) h (ddX9_look (82, .iload 5, 2) (List.mem_of_getElem? (i := 44) rfl)) ?_
  refine k_iald h (ddX9_look (84, .iaload, 1) (List.mem_of_getElem? (i := 45) rfl)) ?_
  refine k_isub h (ddX9_look (85, .isub, 1) (List.mem_of_getElem? (i := 46) rfl)) ?_
  exact k_cut
theorem sX9_look_67 {l : Launch} {X : q_CX} (hl : X.2.1 = l) (hQ : q_QM X) (h : q_OK X yX9_look cX9_look 8 (some .int) rmX9_look (Cond.code yX9_look cX9_look 8 (some .int) :: q_G)) : q_SK X 8 67 (BX9_look_67) := by
  refine k_aload_n (i := 0) h (ddX9_look (67, .aload_n 0, 1) (List.mem_of_getElem? (i := 36) rfl)) rfl ?_
  refine k_getf (ci := 9) (j := 29) (C := RX9) (T := TX9) (N := 33) h rfl (fun w hw => List.mem_cons_of_mem _ (q_inX9 w hw)) (by decide) (List.mem_cons_of_mem _ gw601) (ddX9_look (68, .getfield 57, 3) (List.mem_of_getElem? (i := 37) rfl)) ?_
  refine k_iload (i := 5) h (ddX9_look (71, .iload 5, 2) (List.mem_of_getElem? (i := 38) rfl)) ?_
  refine k_iald h (ddX9_look (73, .iaload, 1) (List.mem_of_getElem? (i := 39) rfl)) ?_
  refine k_goto h (ddX9_look (74, .goto 12, 3) (List.mem_of_getElem? (i := 40) rfl)) (tgt := 86) (by decide) ?_
  exact k_cut
theorem sX9_look_48 {l : Launch} {X : q_CX} (hl : X.2.1 = l) (hQ : q_QM X) (h : q_OK X yX9_look cX9_look 8 (some .int) rmX9_look (Cond.code yX9_look cX9_look 8 (some .int) :: q_G)) : q_SK X 8 48 (BX9_look_48) := by
  refine k_aload_n (i := 0) h (ddX9_look (48, .aload_n 0, 1) (List.mem_of_getElem? (i := 25) rfl)) rfl ?_
  refine k_getf (ci := 9) (j := 29) (C := RX9) (T := TX9) (N := 33) h rfl (fun w hw => List.mem_cons_of_mem _ (q_inX9 w hw)) (by decide) (List.mem_cons_of_mem _ gw601) (ddX9_look (49, .getfield 57, 3) (List.mem_of_getElem? (i := 26) rfl)) ?_
  refine k_iload (i := 5) h (ddX9_look (52, .iload 5, 2) (List.mem_of_getElem? (i := 27) rfl)) ?_
  refine k_iald h (ddX9_look (54, .iaload, 1) (List.mem_of_getElem? (i := 28) rfl)) ?_
  refine k_iload_n (i := 2) h (ddX9_look (55, .iload_n 2, 1) (List.mem_of_getElem? (i := 29) rfl)) rfl ?_
  refine k_aload_n (i := 0) h (ddX9_look (56, .aload_n 0, 1) (List.mem_of_getElem? (i := 30) rfl)) rfl ?_
  refine k_getf (ci := 9) (j := 29) (C := RX9) (T := TX9) (N := 33) h rfl (fun w hw => List.mem_cons_of_mem _ (q_inX9 w hw)) (by decide) (List.mem_cons_of_mem _ gw601) (ddX9_look (57, .getfield 57, 3) (List.mem_of_getElem? (i := 31) rfl)) ?_
  refine k_iload (i := 5) h (ddX9_look (60, .iload 5, 2) (List.mem_of_getElem? (i := 32) rfl)) ?_
  refine k_iald h (ddX9_look (62, .iaload, 1) (List.mem_of_getElem? (i := 33) rfl)) ?_
  refine k_isub h (ddX9_look (63, .isub, 1) (List.mem_of_getElem? (i := 34) rfl)) ?_
  refine k_icle h (ddX9_look (64, .if_icmp .le 13, 3) (List.mem_of_getElem? (i := 35) rfl)) (tgt := 77) (by decide) ?_ ?_
  · exact sX9_look_77 hl hQ h
  · exact sX9_look_67 hl hQ h
theorem sX9_look_40 {l : Launch} {X : q_CX} (hl : X.2.1 = l) (hQ : q_QM X) (h : q_OK X yX9_look cX9_look 8 (some .int) rmX9_look (Cond.code yX9_look cX9_look 8 (some .int) :: q_G)) : q_SK X 8 40 (BX9_look_40) := by
  refine k_iload (i := 5) h (ddX9_look (40, .iload 5, 2) (List.mem_of_getElem? (i := 22) rfl)) ?_
  refine k_sipush (v := 192) h (ddX9_look (42, .sipush 192, 3) (List.mem_of_getElem? (i := 23) rfl)) (by decide) ?_
  refine k_icge h (ddX9_look (45, .if_icmp .ge 98, 3) (List.mem_of_getElem? (i := 24) rfl)) (tgt := 143) (by decide) ?_ ?_
  · exact sX9_look_143 hl hQ h
  · exact sX9_look_48 hl hQ h
theorem sX9_look_115 {l : Launch} {X : q_CX} (hl : X.2.1 = l) (hQ : q_QM X) (h : q_OK X yX9_look cX9_look 8 (some .int) rmX9_look (Cond.code yX9_look cX9_look 8 (some .int) :: q_G)) : q_SK X 8 115 (BX9_look_115) := by
  refine k_iconst (v := 0) h (ddX9_look (115, .iconst 0, 1) (List.mem_of_getElem? (i := 62) rfl)) (by decide) ?_
  exact k_cut
theorem sX9_look_111 {l : Launch} {X : q_CX} (hl : X.2.1 = l) (hQ : q_QM X) (h : q_OK X yX9_look cX9_look 8 (some .int) rmX9_look (Cond.code yX9_look cX9_look 8 (some .int) :: q_G)) : q_SK X 8 111 (BX9_look_111) := by
  refine k_iconst (v := 1) h (ddX9_look (111, .iconst 1, 1) (List.mem_of_getElem? (i := 60) rfl)) (by decide) ?_
  refine k_goto h (ddX9_look (112, .goto 4, 3) (List.mem_of_getElem? (i := 61) rfl)) (tgt := 116) (by decide) ?_
  exact k_cut
theorem sX9_look_105 {l : Launch} {X : q_CX} (hl : X.2.1 = l) (hQ : q_QM X) (h : q_OK X yX9_look cX9_look 8 (some .int) rmX9_look (Cond.code yX9_look cX9_look 8 (some .int) :: q_G)) : q_SK X 8 105 (BX9_look_105) := by
  refine k_iload (i := 6) h (ddX9_look (105, .iload 6, 2) (List.mem_of_getElem? (i := 57) rfl)) ?_
  refine k_iload_n (i := 2) h (ddX9_look (107, .iload_n 2, 1) (List.mem_of_getElem? (i := 58) rfl)) rfl ?_
  refine k_icge h (ddX9_look (108, .if_icmp .ge 7, 3) (List.mem_of_getElem? (i := 59) rfl)) (tgt := 115) (by decide) ?_ ?_
  · exact sX9_look_115 hl hQ h
  · exact sX9_look_111 hl hQ h
theorem sX9_look_93 {l : Launch} {X : q_CX} (hl : X.2.1 = l) (hQ : q_QM X) (h : q_OK X yX9_look cX9_look 8 (some .int) rmX9_look (Cond.code yX9_look cX9_look 8 (some .int) :: q_G)) : q_SK X 8 93 (BX9_look_93) := by
  refine k_iload (i := 5) h (ddX9_look (93, .iload 5, 2) (List.mem_of_getElem? (i := 51) rfl)) ?_
  refine k_bipush (v := 8) h (ddX9_look (95, .bipush 8, 2) (List.mem_of_getElem? (i := 52) rfl)) (by decide) ?_
  refine k_irem h (ddX9_look (97, .irem, 1) (List.mem_of_getElem? (i := 53) rfl)) ?_
  refine k_aload_n (i := 0) h (ddX9_look (98, .aload_n 0, 1) (List.mem_of_getElem? (i := 54) rfl)) rfl ?_
  refine k_getf (ci := 9) (j := 8) (C := RX9) (T := TX9) (N := 33) h rfl (fun w hw => List.mem_cons_of_mem _ (q_inX9 w hw)) (by decide) (List.mem_cons_of_mem _ gw670) (ddX9_look (99, .getfield 153, 3) (List.mem_of_getElem? (i := 55) rfl)) ?_
  refine k_icge h (ddX9_look (102, .if_icmp .ge 13, 3) (List.mem_of_getElem? (i := 56) rfl)) (tgt := 115) (by decide) ?_ ?_
  · exact sX9_look_115 hl hQ h
  · exact sX9_look_105 hl hQ h
theorem sX9_look_86 {l : Launch} {X : q_CX} (hl : X.2.1 = l) (hQ : q_QM X) (h : q_OK X yX9_look cX9_look 8 (some .int) rmX9_look (Cond.code yX9_look cX9_look 8 (some .int) :: q_G)) : q_SK X 8 86 (BX9_look_86) := by
  refine k_istore (i := 6) h (ddX9_look (86, .istore 6, 2) (List.mem_of_getElem? (i := 47) rfl)) (by decide) ?_
  refine k_iload_n (i := 2) h (ddX9_look (88, .iload_n 2, 1) (List.mem_of_getElem? (i := 48) rfl)) rfl ?_
  refine k_iconst (v := 1) h (ddX9_look (89, .iconst 1, 1) (List.mem_of_getElem? (i := 49) rfl)) (by decide) ?_
  refine k_icle h (ddX9_look (90, .if_icmp .le 25, 3) (List.mem_of_getElem? (i := 50) rfl)) (tgt := 115) (by decide) ?_ ?_
  · exact sX9_look_115 hl hQ h
  · exact sX9_look_93 hl hQ h
theorem sX9_look_137 {l : Launch} {X : q_CX} (hl : X.2.1 = l) (hQ : q_QM X) (h : q_OK X yX9_look cX9_look 8 (some .int) rmX9_look (Cond.code yX9_look cX9_look 8 (some .int) :: q_G)) : q_SK X 8 137 (BX9_look_137) := by
  refine k_iinc (d := 1) h (ddX9_look (137, .iinc 5 1, 3) (List.mem_of_getElem? (i := 73) rfl)) (by decide) (by decide) ?_
  refine k_goto h (ddX9_look (140, .goto (-100), 3) (List.mem_of_getElem? (i := 74) rfl)) (tgt := 40) (by decide) ?_
  exact k_cut
theorem sX9_look_130 {l : Launch} {X : q_CX} (hl : X.2.1 = l) (hQ : q_QM X) (h : q_OK X yX9_look cX9_look 8 (some .int) rmX9_look (Cond.code yX9_look cX9_look 8 (some .int) :: q_G)) : q_SK X 8 130 (BX9_look_130) := by
  refine k_iload (i := 5) h (ddX9_look (130, .iload 5, 2) (List.mem_of_getElem? (i := 69) rfl)) ?_
  refine k_istore_n (i := 3) h (ddX9_look (132, .istore_n 3, 1) (List.mem_of_getElem? (i := 70) rfl)) rfl (by decide) ?_
  refine k_iload (i := 6) h (ddX9_look (133, .iload 6, 2) (List.mem_of_getElem? (i := 71) rfl)) ?_
  refine k_istore (i := 4) h (ddX9_look (135, .istore 4, 2) (List.mem_of_getElem? (i := 72) rfl)) (by decide) ?_
  exact sX9_look_137 hl hQ h
theorem sX9_look_123 {l : Launch} {X : q_CX} (hl : X.2.1 = l) (hQ : q_QM X) (h : q_OK X yX9_look cX9_look 8 (some .int) rmX9_look (Cond.code yX9_look cX9_look 8 (some .int) :: q_G)) : q_SK X 8 123 (BX9_look_123) := by
  refine k_iload (i := 6) h (ddX9_look (123, .iload 6, 2) (List.mem_of_getElem? (i := 66) rfl)) ?_
  refine k_iload (i := 4) h (ddX9_look (125, .iload 4, 2) (List.mem_of_getElem? (i := 67) rfl)) ?_
  refine k_icge h (ddX9_look (127, .if_icmp .ge 10, 3) (List.mem_of_getElem? (i := 68) rfl)) (tgt := 137) (by decide) ?_ ?_
  · exact sX9_look_137 hl hQ h
  · exact sX9_look_130 hl hQ h
theorem sX9_look_116 {l : Launch} {X : q_CX} (hl : X.2.1 = l) (hQ : q_QM X) (h : q_OK X yX9_look cX9_look 8 (some .int) rmX9_look (Cond.code yX9_look cX9_look 8 (some .int) :: q_G)) : q_SK X 8 116 (BX9_look_116) := by
  refine k_istore (i := 7) h (ddX9_look (116, .istore 7, 2) (List.mem_of_getElem? (i := 63) rfl)) (by decide) ?_
  refine k_iload (i := 7) h (ddX9_look (118, .iload 7, 2) (List.mem_of_getElem? (i := 64) rfl)) ?_
  refine k_ifeq h (ddX9_look (120, .ifCond .eq 17, 3) (List.mem_of_getElem? (i := 65) rfl)) (tgt := 137) (by decide) ?_ ?_
  · exact sX9_look_137 hl hQ h
  · exact sX9_look_123 hl hQ h
theorem aX9_look (l : Launch) (as : List Value) (sh : q_Sh) (m : q_Mm) (R : q_KR) (hw : wX9_look as sh m R) : q_AM l yX9_look (Cond.code yX9_look cX9_look 8 (some .int) :: q_G) rmX9_look as sh m R := by
  refine q_met (code := TX9_look) (by decide) (fun X hl hQ _ h pc => ?_) hw.1 hw.2
  unfold TX9_look
  exact k_at (sX9_look_0 hl hQ h) (k_at (sX9_look_40 hl hQ h) (k_at (sX9_look_86 hl hQ h) (k_at (sX9_look_116 hl hQ h) (k_no))))
/-! TumblingRockModel.codeBy(II)I -/
abbrev dlX9_codeBy : List (Nat × (Instr × Nat)) := [(0, .iload_n 1, 1), (1, .aload_n 0, 1), (2, .getfield 20, 3), (5, .iconst 1, 1), (6, .iaload, 1), (7, .aload_n 0, 1), (8, .getfield 20, 3), (11, .iconst 2, 1), (12, .iaload, 1), (13, .imul, 1), (14, .idiv, 1), (15, .istore_n 3, 1), (16, .iload_n 1, 1), (17, .aload_n 0, 1), (18, .getfield 20, 3), (21, .iconst 2, 1), (22, .iaload, 1), (23, .idiv, 1), (24, .aload_n 0, 1), (25, .getfield 20, 3), (28, .iconst 1, 1), (29, .iaload, 1), (30, .irem, 1), (31, .istore 4, 2), (33, .iload_n 1, 1), (34, .aload_n 0, 1), (35, .getfield 20, 3), (38, .iconst 2, 1), (39, .iaload, 1), (40, .irem, 1), (41, .istore 5, 2), (43, .iload_n 3, 1), (44, .aload_n 0, 1), (45, .getfield 150, 3), (48, .ifCond .le 14, 3), (51, .aload_n 0, 1), (52, .getfield 29, 3), (55, .iconst 3, 1), (56, .iload_n 2, 1), (57, .imul, 1), (58, .iaload, 1), (59, .goto 4, 3), (62, .iconst 0, 1), (63, .iadd, 1), (64, .aload_n 0, 1), (65, .getfield 20, 3), (68, .iconst 0, 1), (69, .iaload, 1), (70, .irem, 1), (71, .istore_n 3, 1), (72, .iload 4, 2), (74, .aload_n 0, 1), (75, .getfield 150, 3), (78, .iconst 1, 1), (79, .if_icmp .le 16, 3), (82, .aload_n 0, 1), (83, .getfield 29, 3), (86, .iconst 3, 1), (87, .iload_n 2, 1), (88, .imul, 1), (89, .iconst 1, 1), (90, .iadd, 1), (91, .iaload, 1), (92, .goto 4, 3), (95, .iconst 0, 1), (96, .iadd, 1), (97, .aload_n 0, 1), (98, .getfield 20, 3), (101, .iconst 1, 1), (102, .iaload, 1), (103, .irem, 1), (104, .istore 4, 2), (106, .iload 5, 2), (108, .aload_n 0, 1), (109, .getfield 150, 3), (112, .iconst 2, 1), (113, .if_icmp .le 16, 3), (116, .aload_n 0, 1), (117, .getfield 29, 3), (120, .iconst 3, 1), (121, .iload_n 2, 1), (122, .imul, 1), (123, .iconst 2, 1), (124, .iadd, 1), (125, .iaload, 1), (126, .goto 4, 3), (129, .iconst 0, 1), (130, .iadd, 1), (131, .aload_n 0, 1), (132, .getfield 20, 3), (135, .iconst 2, 1), (136, .iaload, 1), (137, .irem, 1), (138, .istore 5, 2), (140, .iload_n 3, 1), (141, .aload_n 0, 1), (142, .getfield 20, 3), (145, .iconst 1, 1), (146, .iaload, 1), (147, .imul, 1), (148, .iload 4, 2), (150, .iadd, 1), (151, .aload_n 0, 1), (152, .getfield 20, 3), (155, .iconst 2, 1), (156, .iaload, 1), (157, .imul, 1), (158, .iload 5, 2), (160, .iadd, 1), (161, .ireturn, 1)]
theorem ddX9_codeBy : ∀ q ∈ dlX9_codeBy, decode cX9_codeBy q.1 = .ok q.2 := by decide +kernel
theorem sX9_codeBy_62 {l : Launch} {X : q_CX} (hl : X.2.1 = l) (hQ : q_QM X) (h : q_OK X yX9_codeBy cX9_codeBy 6 (some .int) rmX9_codeBy (Cond.code yX9_codeBy cX9_codeBy 6 (some .int) :: q_G)) : q_SK X 6 62 (BX9_codeBy_62) := by
  refine k_iconst (v := 0) h (ddX9_codeBy (62, .iconst 0, 1) (List.mem_of_getElem? (i := 42) rfl)) (by decide) ?_
  exact k_cut
theorem sX9_codeBy_51 {l : Launch} {X : q_CX} (hl : X.2.1 = l) (hQ : q_QM X) (h : q_OK X yX9_codeBy cX9_codeBy 6 (some .int) rmX9_codeBy (Cond.code yX9_codeBy cX9_codeBy 6 (some .int) :: q_G)) : q_SK X 6 51 (BX9_codeBy_51) := by
  refine k_aload_n (i := 0) h (ddX9_codeBy (51, .aload_n 0, 1) (List.mem_of_getElem? (i := 35) rfl)) rfl ?_
  refine k_getf (ci := 9) (j := 6) (C := RX9) (T := TX9) (N := 33) h rfl (fun w hw => List.mem_cons_of_mem _ (q_inX9 w hw)) (by decide) (List.mem_cons_of_mem _ gw592) (ddX9_codeBy (52, .getfield 29, 3) (List.mem_of_getElem? (i := 36) rfl)) ?_
  refine k_iconst (v := 3) h (ddX9_codeBy (55, .iconst 3, 1) (List.mem_of_getElem? (i := 37) rfl)) (by decide) ?_
  refine k_iload_n (i := 2) h (ddX9_codeBy (56, .iload_n 2, 1) (List.mem_of_getElem? (i := 38) rfl)) rfl ?_
  refine k_imul h (ddX9_codeBy (57, .imul, 1) (List.mem_of_getElem? (i := 39) rfl)) ?_
  refine k_iald h (ddX9_codeBy (58, .iaload, 1) (List.mem_of_getElem? (i := 40) rfl)) ?_
  refine k_goto h (ddX9_codeBy (59, .goto 4, 3) (List.mem_of_getElem? (i := 41) rfl)) (tgt := 63) (by decide) ?_
  exact k_cut
theorem sX9_codeBy_0 {l : Launch} {X : q_CX} (hl : X.2.1 = l) (hQ : q_QM X) (h : q_OK X yX9_codeBy cX9_codeBy 6 (some .int) rmX9_codeBy (Cond.code yX9_codeBy cX9_codeBy 6 (some .int) :: q_G)) : q_SK X 6 0 (BX9_codeBy_0) := by
  refine k_iload_n (i := 1) h (ddX9_codeBy (0, .iload_n 1, 1) (List.mem_of_getElem? (i := 0) rfl)) rfl ?_
  refine k_aload_n (i := 0) h (ddX9_codeBy (1, .aload_n 0, 1) (List.mem_of_getElem? (i := 1) rfl)) rfl ?_
  refine k_getf (ci := 9) (j := 3) (C := RX9) (T := TX9) (N := 33) h rfl (fun w hw => List.mem_cons_of_mem _ (q_inX9 w hw)) (by decide) (List.mem_cons_of_mem _ gw589) (ddX9_codeBy (2, .getfield 20, 3) (List.mem_of_getElem? (i := 2) rfl)) ?_
  refine k_iconst (v := 1) h (ddX9_codeBy (5, .iconst 1, 1) (List.mem_of_getElem? (i := 3) rfl)) (by decide) ?_
  refine k_iald h (ddX9_codeBy (6, .iaload, 1) (List.mem_of_getElem? (i := 4) rfl)) ?_
  refine k_aload_n (i := 0) h (ddX9_codeBy (7, .aload_n 0, 1) (List.mem_of_getElem? (i := 5) rfl)) rfl ?_
  refine k_getf (ci := 9) (j := 3) (C := RX9) (T := TX9) (N := 33) h rfl (fun w hw => List.mem_cons_of_mem _ (q_inX9 w hw)) (by decide) (List.mem_cons_of_mem _ gw589) (ddX9_codeBy (8, .getfield 20, 3) (List.mem_of_getElem? (i := 6) rfl)) ?_
  refine k_iconst (v := 2) h (ddX9_codeBy (11, .iconst 2, 1) (List.mem_of_getElem? (i := 7) rfl)) (by decide) ?_
  refine k_iald h (ddX9_codeBy (12, .iaload, 1) (List.mem_of_getElem? (i := 8) rfl)) ?_
  refine k_imul h (ddX9_codeBy (13, .imul, 1) (List.mem_of_getElem? (i := 9) rfl)) ?_
  refine k_idiv h (ddX9_codeBy (14, .idiv, 1) (List.mem_of_getElem? (i := 10) rfl)) ?_
  refine k_istore_n (i := 3) h (ddX9_codeBy (15, .istore_n 3, 1) (List.mem_of_getElem? (i := 11) rfl)) rfl (by decide) ?_
  refine k_iload_n (i := 1) h (ddX9_codeBy (16, .iload_n 1, 1) (List.mem_of_getElem? (i := 12) rfl)) rfl ?_
  refine k_aload_n (i := 0) h (ddX9_codeBy (17, .aload_n 0, 1) (List.mem_of_getElem? (i := 13) rfl)) rfl ?_
  refine k_getf (ci := 9) (j := 3) (C := RX9) (T := TX9) (N := 33) h rfl (fun w hw => List.mem_cons_of_mem _ (q_inX9 w hw)) (by decide) (List.mem_cons_of_mem _ gw589) (ddX9_codeBy (18, .getfield 20, 3) (List.mem_of_getElem? (i := 14) rfl)) ?_
  refine k_iconst (v := 2) h (ddX9_codeBy (21, .iconst 2, 1) (List.mem_of_getElem? (i := 15) rfl)) (by decide) ?_
  refine k_iald h (ddX9_codeBy (22, .iaload, 1) (List.mem_of_getElem? (i := 16) rfl)) ?_
  refine k_idiv h (ddX9_codeBy (23, .idiv, 1) (List.mem_of_getElem? (i := 17) rfl)) ?_
  refine k_aload_n (i := 0) h (ddX9_codeBy (24, .aload_n 0, 1) (List.mem_of_getElem? (i := 18) rfl)) rfl ?_
  refine k_getf (ci := 9) (j := 3) (C := RX9) (T := TX9) (N := 33) h rfl (fun w hw => List.mem_cons_of_mem _ (q_inX9 w hw)) (by decide) (List.mem_cons_of_mem _ gw589) (ddX9_codeBy (25, .getfield 20, 3) (List.mem_of_getElem? (i := 19) rfl)) ?_
  refine k_iconst (v := 1) h (ddX9_codeBy (28, .iconst 1, 1) (List.mem_of_getElem? (i := 20) rfl)) (by decide) ?_
  refine k_iald h (ddX9_codeBy (29, .iaload, 1) (List.mem_of_getElem? (i := 21) rfl)) ?_
  refine k_irem h (ddX9_codeBy (30, .irem, 1) (List.mem_of_getElem? (i := 22) rfl)) ?_
  refine k_istore (i := 4) h (ddX9_codeBy (31, .istore 4, 2) (List.mem_of_getElem? (i := 23) rfl)) (by decide) ?_
  refine k_iload_n (i := 1) h (ddX9_codeBy (33, .iload_n 1, 1) (List.mem_of_getElem? (i := 24) rfl)) rfl ?_
  refine k_aload_n (i := 0) h (ddX9_codeBy (34, .aload_n 0, 1) (List.mem_of_getElem? (i := 25) rfl)) rfl ?_
  refine k_getf (ci := 9) (j := 3) (C := RX9) (T := TX9) (N := 33) h rfl (fun w hw => List.mem_cons_of_mem _ (q_inX9 w hw)) (by decide) (List.mem_cons_of_mem _ gw589) (ddX9_codeBy (35, .getfield 20, 3) (List.mem_of_getElem? (i := 26) rfl)) ?_
  refine k_iconst (v := 2) h (ddX9_codeBy (38, .iconst 2, 1) (List.mem_of_getElem? (i := 27) rfl)) (by decide) ?_
  refine k_iald h (ddX9_codeBy (39, .iaload, 1) (List.mem_of_getElem? (i := 28) rfl)) ?_
  refine k_irem h (ddX9_codeBy (40, .irem, 1) (List.mem_of_getElem? (i := 29) rfl)) ?_
  refine k_istore (i := 5) h (ddX9_codeBy (41, .istore 5, 2) (List.mem_of_getElem? (i := 30) rfl)) (by decide) ?_
  refine k_iload_n (i := 3) h (ddX9_codeBy (43, .iload_n 3, 1) (List.mem_of_getElem? (i := 31) rfl)) rfl ?_
  refine k_aload_n (i := 0) h (ddX9_codeBy (44, .aload_n 0, 1) (List.mem_of_getElem? (i := 32) rfl)) rfl ?_
  refine k_getf (ci := 9) (j := 7) (C := RX9) (T := TX9) (N := 33) h rfl (fun w hw => List.mem_cons_of_mem _ (q_inX9 w hw)) (by decide) (List.mem_cons_of_mem _ gw669) (ddX9_codeBy (45, .getfield 150, 3) (List.mem_of_getElem? (i := 33) rfl)) ?_
  refine k_ifle h (ddX9_codeBy (48, .ifCond .le 14, 3) (List.mem_of_getElem? (i := 34) rfl)) (tgt := 62) (by decide) ?_ ?_
  · exact sX9_codeBy_62 hl hQ h
  · exact sX9_codeBy_51 hl hQ h
theorem sX9_codeBy_95 {l : Launch} {X : q_CX} (hl : X.2.1 = l) (hQ : q_QM X) (h : q_OK X yX9_codeBy cX9_codeBy 6 (some .int) rmX9_codeBy (Cond.code yX9_codeBy cX9_codeBy 6 (some .int) :: q_G)) : q_SK X 6 95 (BX9_codeBy_95) := by
  refine k_iconst (v := 0) h (ddX9_codeBy (95, .iconst 0, 1) (List.mem_of_getElem? (i := 64) rfl)) (by decide) ?_
  exact k_cut
theorem sX9_codeBy_82 {l : Launch} {X : q_CX} (hl : X.2.1 = l) (hQ : q_QM X) (h : q_OK X yX9_codeBy cX9_codeBy 6 (some .int) rmX9_codeBy (Cond.code yX9_codeBy cX9_codeBy 6 (some .int) :: q_G)) : q_SK X 6 82 (BX9_codeBy_82) := by
  refine k_aload_n (i := 0) h (ddX9_codeBy (82, .aload_n 0, 1) (List.mem_of_getElem? (i := 55) rfl)) rfl ?_
  refine k_getf (ci := 9) (j := 6) (C := RX9) (T := TX9) (N := 33) h rfl (fun w hw => List.mem_cons_of_mem _ (q_inX9 w hw)) (by decide) (List.mem_cons_of_mem _ gw592) (ddX9_codeBy (83, .getfield 29, 3) (List.mem_of_getElem? (i := 56) rfl)) ?_
  refine k_iconst (v := 3) h (ddX9_codeBy (86, .iconst 3, 1) (List.mem_of_getElem? (i := 57) rfl)) (by decide) ?_
  refine k_iload_n (i := 2) h (ddX9_codeBy (87, .iload_n 2, 1) (List.mem_of_getElem? (i := 58) rfl)) rfl ?_
  refine k_imul h (ddX9_codeBy (88, .imul, 1) (List.mem_of_getElem? (i := 59) rfl)) ?_
  refine k_iconst (v := 1) h (ddX9_codeBy (89, .iconst 1, 1) (List.mem_of_getElem? (i := 60) rfl)) (by decide) ?_
  refine k_iadd h (ddX9_codeBy (90, .iadd, 1) (List.mem_of_getElem? (i := 61) rfl)) ?_
  refine k_iald h (ddX9_codeBy (91, .iaload, 1) (List.mem_of_getElem? (i := 62) rfl)) ?_
  refine k_goto h (ddX9_codeBy (92, .goto 4, 3) (List.mem_of_getElem? (i := 63) rfl)) (tgt := 96) (by decide) ?_
  exact k_cut
theorem sX9_codeBy_63 {l : Launch} {X : q_CX} (hl : X.2.1 = l) (hQ : q_QM X) (h : q_OK X yX9_codeBy cX9_codeBy 6 (some .int) rmX9_codeBy (Cond.code yX9_codeBy cX9_codeBy 6 (some .int) :: q_G)) : q_SK X 6 63 (BX9_codeBy_63) := by
  refine k_iadd h (ddX9_codeBy (63, .iadd, 1) (List.mem_of_getElem? (i := 43) rfl)) ?_
  refine k_aload_n (i := 0) h (ddX9_codeBy (64, .aload_n 0, 1) (List.mem_of_getElem? (i := 44) rfl)) rfl ?_
  refine k_getf (ci := 9) (j := 3) (C := RX9) (T := TX9) (N := 33) h rfl (fun w hw => List.mem_cons_of_mem _ (q_inX9 w hw)) (by decide) (List.mem_cons_of_mem _ gw589) (ddX9_codeBy (65, .getfield 20, 3) (List.mem_of_getElem? (i := 45) rfl)) ?_
  refine k_iconst (v := 0) h (ddX9_codeBy (68, .iconst 0, 1) (List.mem_of_getElem? (i := 46) rfl)) (by decide) ?_
  refine k_iald h (ddX9_codeBy (69, .iaload, 1) (List.mem_of_getElem? (i := 47) rfl)) ?_
  refine k_irem h (ddX9_codeBy (70, .irem, 1) (List.mem_of_getElem? (i := 48) rfl)) ?_
  refine k_istore_n (i := 3) h (ddX9_codeBy (71, .istore_n 3, 1) (List.mem_of_getElem? (i := 49) rfl)) rfl (by decide) ?_
  refine k_iload (i := 4) h (ddX9_codeBy (72, .iload 4, 2) (List.mem_of_getElem? (i := 50) rfl)) ?_
  refine k_aload_n (i := 0) h (ddX9_codeBy (74, .aload_n 0, 1) (List.mem_of_getElem? (i := 51) rfl)) rfl ?_
  refine k_getf (ci := 9) (j := 7) (C := RX9) (T := TX9) (N := 33) h rfl (fun w hw => List.mem_cons_of_mem _ (q_inX9 w hw)) (by decide) (List.mem_cons_of_mem _ gw669) (ddX9_codeBy (75, .getfield 150, 3) (List.mem_of_getElem? (i := 52) rfl)) ?_
  refine k_iconst (v := 1) h (ddX9_codeBy (78, .iconst 1, 1) (List.mem_of_getElem? (i := 53) rfl)) (by decide) ?_
  refine k_icle h (ddX9_codeBy (79, .if_icmp .le 16, 3) (List.mem_of_getElem? (i := 54) rfl)) (tgt := 95) (by decide) ?_ ?_
  · exact sX9_codeBy_95 hl hQ h
  · exact sX9_codeBy_82 hl hQ h
theorem sX9_codeBy_129 {l : Launch} {X : q_CX} (hl : X.2.1 = l) (hQ : q_QM X) (h : q_OK X yX9_codeBy cX9_codeBy 6 (some .int) rmX9_codeBy (Cond.code yX9_codeBy cX9_codeBy 6 (some .int) :: q_G)) : q_SK X 6 129 (BX9_codeBy_129) := by
  refine k_iconst (v := 0) h (ddX9_codeBy (129, .iconst 0, 1) (List.mem_of_getElem? (i := 86) rfl)) (by decide) ?_
  exact k_cut
theorem sX9_codeBy_116 {l : Launch} {X : q_CX} (hl : X.2.1 = l) (hQ : q_QM X) (h : q_OK X yX9_codeBy cX9_codeBy 6 (some .int) rmX9_codeBy (Cond.code yX9_codeBy cX9_codeBy 6 (some .int) :: q_G)) : q_SK X 6 116 (BX9_codeBy_116) := by
  refine k_aload_n (i := 0) h (ddX9_codeBy (116, .aload_n 0, 1) (List.mem_of_getElem? (i := 77) rfl)) rfl ?_
  refine k_getf (ci := 9) (j := 6) (C := RX9) (T := TX9) (N := 33) h rfl (fun w hw => List.mem_cons_of_mem _ (q_inX9 w hw)) (by decide) (List.mem_cons_of_mem _ gw592) (ddX9_codeBy (117, .getfield 29, 3) (List.mem_of_getElem? (i := 78) rfl)) ?_
  refine k_iconst (v := 3) h (ddX9_codeBy (120, .iconst 3, 1) (List.mem_of_getElem? (i := 79) rfl)) (by decide) ?_
  refine k_iload_n (i := 2) h (ddX9_codeBy (121, .iload_n 2, 1) (List.mem_of_getElem? (i := 80) rfl)) rfl ?_
  refine k_imul h (ddX9_codeBy (122, .imul, 1) (List.mem_of_getElem? (i := 81) rfl)) ?_
  refine k_iconst (v := 2) h (ddX9_codeBy (123, .iconst 2, 1) (List.mem_of_getElem? (i := 82) rfl)) (by decide) ?_
  refine k_iadd h (ddX9_codeBy (124, .iadd, 1) (List.mem_of_getElem? (i := 83) rfl)) ?_
  refine k_iald h (ddX9_codeBy (125, .iaload, 1) (List.mem_of_getElem? (i := 84) rfl)) ?_
  refine k_goto h (ddX9_codeBy (126, .goto 4, 3) (List.mem_of_getElem? (i := 85) rfl)) (tgt := 130) (by decide) ?_
  exact k_cut
theorem sX9_codeBy_96 {l : Launch} {X : q_CX} (hl : X.2.1 = l) (hQ : q_QM X) (h : q_OK X yX9_codeBy cX9_codeBy 6 (some .int) rmX9_codeBy (Cond.code yX9_codeBy cX9_codeBy 6 (some .int) :: q_G)) : q_SK X 6 96 (BX9_codeBy_96) := by
  refine k_iadd h (ddX9_codeBy (96, .iadd, 1) (List.mem_of_getElem? (i := 65) rfl)) ?_
  refine k_aload_n (i := 0) h (ddX9_codeBy (97, .aload_n 0, 1) (List.mem_of_getElem? (i := 66) rfl)) rfl ?_
  refine k_getf (ci := 9) (j := 3) (C := RX9) (T := TX9) (N := 33) h rfl (fun w hw => List.mem_cons_of_mem _ (q_inX9 w hw)) (by decide) (List.mem_cons_of_mem _ gw589) (ddX9_codeBy (98, .getfield 20, 3) (List.mem_of_getElem? (i := 67) rfl)) ?_
  refine k_iconst (v := 1) h (ddX9_codeBy (101, .iconst 1, 1) (List.mem_of_getElem? (i := 68) rfl)) (by decide) ?_
  refine k_iald h (ddX9_codeBy (102, .iaload, 1) (List.mem_of_getElem? (i := 69) rfl)) ?_
  refine k_irem h (ddX9_codeBy (103, .irem, 1) (List.mem_of_getElem? (i := 70) rfl)) ?_
  refine k_istore (i := 4) h (ddX9_codeBy (104, .istore 4, 2) (List.mem_of_getElem? (i := 71) rfl)) (by decide) ?_
  refine k_iload (i := 5) h (ddX9_codeBy (106, .iload 5, 2) (List.mem_of_getElem? (i := 72) rfl)) ?_
  refine k_aload_n (i := 0) h (ddX9_codeBy (108, .aload_n 0, 1) (List.mem_of_getElem? (i := 73) rfl)) rfl ?_
  refine k_getf (ci := 9) (j := 7) (C := RX9) (T := TX9) (N := 33) h rfl (fun w hw => List.mem_cons_of_mem _ (q_inX9 w hw)) (by decide) (List.mem_cons_of_mem _ gw669) (ddX9_codeBy (109, .getfield 150, 3) (List.mem_of_getElem? (i := 74) rfl)) ?_
  refine k_iconst (v := 2) h (ddX9_codeBy (112, .iconst 2, 1) (List.mem_of_getElem? (i := 75) rfl)) (by decide) ?_
  refine k_icle h (ddX9_codeBy (113, .if_icmp .le 16, 3) (List.mem_of_getElem? (i := 76) rfl)) (tgt := 129) (by decide) ?_ ?_
  · exact sX9_codeBy_129 hl hQ h
  · exact sX9_codeBy_116 hl hQ h
theorem sX9_codeBy_130 {l : Launch} {X : q_CX} (hl : X.2.1 = l) (hQ : q_QM X) (h : q_OK X yX9_codeBy cX9_codeBy 6 (some .int) rmX9_codeBy (Cond.code yX9_codeBy cX9_codeBy 6 (some .int) :: q_G)) : q_SK X 6 130 (BX9_codeBy_130) := by
  refine k_iadd h (ddX9_codeBy (130, .iadd, 1) (List.mem_of_getElem? (i := 87) rfl)) ?_
  refine k_aload_n (i := 0) h (ddX9_codeBy (131, .aload_n 0, 1) (List.mem_of_getElem? (i := 88) rfl)) rfl ?_
  refine k_getf (ci := 9) (j := 3) (C := RX9) (T := TX9) (N := 33) h rfl (fun w hw => List.mem_cons_of_mem _ (q_inX9 w hw)) (by decide) (List.mem_cons_of_mem _ gw589) (ddX9_codeBy (132, .getfield 20, 3) (List.mem_of_getElem? (i := 89) rfl)) ?_
  refine k_iconst (v := 2) h (ddX9_codeBy (135, .iconst 2, 1) (List.mem_of_getElem? (i := 90) rfl)) (by decide) ?_
  refine k_iald h (ddX9_codeBy (136, .iaload, 1) (List.mem_of_getElem? (i := 91) rfl)) ?_
  refine k_irem h (ddX9_codeBy (137, .irem, 1) (List.mem_of_getElem? (i := 92) rfl)) ?_
  refine k_istore (i := 5) h (ddX9_codeBy (138, .istore 5, 2) (List.mem_of_getElem? (i := 93) rfl)) (by decide) ?_
  refine k_iload_n (i := 3) h (ddX9_codeBy (140, .iload_n 3, 1) (List.mem_of_getElem? (i := 94) rfl)) rfl ?_
  refine k_aload_n (i := 0) h (ddX9_codeBy (141, .aload_n 0, 1) (List.mem_of_getElem? (i := 95) rfl)) rfl ?_
  refine k_getf (ci := 9) (j := 3) (C := RX9) (T := TX9) (N := 33) h rfl (fun w hw => List.mem_cons_of_mem _ (q_inX9 w hw)) (by decide) (List.mem_cons_of_mem _ gw589) (ddX9_codeBy (142, .getfield 20, 3) (List.mem_of_getElem? (i := 96) rfl)) ?_
  refine k_iconst (v := 1) h (ddX9_codeBy (145, .iconst 1, 1) (List.mem_of_getElem? (i := 97) rfl)) (by decide) ?_
  refine k_iald h (ddX9_codeBy (146, .iaload, 1) (List.mem_of_getElem? (i := 98) rfl)) ?_
  refine k_imul h (ddX9_codeBy (147, .imul, 1) (List.mem_of_getElem? (i := 99) rfl)) ?_
  refine k_iload (i := 4) h (ddX9_codeBy (148, .iload 4, 2) (List.mem_of_getElem? (i := 100) rfl)) ?_
  refine k_iadd h (ddX9_codeBy (150, .iadd, 1) (List.mem_of_getElem? (i := 101) rfl)) ?_
  refine k_aload_n (i := 0) h (ddX9_codeBy (151, .aload_n 0, 1) (List.mem_of_getElem? (i := 102) rfl)) rfl ?_
  refine k_getf (ci := 9) (j := 3) (C := RX9) (T := TX9) (N := 33) h rfl (fun w hw => List.mem_cons_of_mem _ (q_inX9 w hw)) (by decide) (List.mem_cons_of_mem _ gw589) (ddX9_codeBy (152, .getfield 20, 3) (List.mem_of_getElem? (i := 103) rfl)) ?_
  refine k_iconst (v := 2) h (ddX9_codeBy (155, .iconst 2, 1) (List.mem_of_getElem? (i := 104) rfl)) (by decide) ?_
  refine k_iald h (ddX9_codeBy (156, .iaload, 1) (List.mem_of_getElem? (i := 105) rfl)) ?_
  refine k_imul h (ddX9_codeBy (157, .imul, 1) (List.mem_of_getElem? (i := 106) rfl)) ?_
  refine k_iload (i := 5) h (ddX9_codeBy (158, .iload 5, 2) (List.mem_of_getElem? (i := 107) rfl)) ?_
  refine k_iadd h (ddX9_codeBy (160, .iadd, 1) (List.mem_of_getElem? (i := 108) rfl)) ?_
  exact k_iret h hQ (ddX9_codeBy (161, .ireturn, 1) (List.mem_of_getElem? (i := 109) rfl))
theorem aX9_codeBy (l : Launch) (as : List Value) (sh : q_Sh) (m : q_Mm) (R : q_KR) (hw : wX9_codeBy as sh m R) : q_AM l yX9_codeBy (Cond.code yX9_codeBy cX9_codeBy 6 (some .int) :: q_G) rmX9_codeBy as sh m R := by
  refine q_met (code := TX9_codeBy) (by decide) (fun X hl hQ _ h pc => ?_) hw.1 hw.2
  unfold TX9_codeBy
  exact k_at (sX9_codeBy_0 hl hQ h) (k_at (sX9_codeBy_63 hl hQ h) (k_at (sX9_codeBy_96 hl hQ h) (k_at (sX9_codeBy_130 hl hQ h) (k_no))))
/-! TumblingRockModel.findFar(I)V -/
abbrev dlX9_findFar : List (Nat × (Instr × Nat)) := [(0, .iconst 0, 1), (1, .istore_n 2, 1), (2, .iload_n 2, 1), (3, .aload_n 0, 1), (4, .invokevirtual 252, 3), (7, .if_icmp .ge 26, 3), (10, .aload_n 0, 1), (11, .getfield 60, 3), (14, .iload_n 2, 1), (15, .iload_n 2, 1), (16, .iload_n 1, 1), (17, .if_icmp .ne 7, 3), (20, .iconst 0, 1), (21, .goto 5, 3), (24, .ldc 249, 2), (26, .iastore, 1), (27, .iinc 2 1, 3), (30, .goto (-28), 3), (33, .iconst 1, 1), (34, .istore_n 2, 1), (35, .iload_n 2, 1), (36, .ifCond .eq 107, 3), (39, .iconst 0, 1), (40, .istore_n 2, 1), (41, .iconst 0, 1), (42, .istore_n 3, 1), (43, .iload_n 3, 1), (44, .aload_n 0, 1), (45, .invokevirtual 252, 3), (48, .if_icmp .ge 92, 3), (51, .iconst 0, 1), (52, .istore 4, 2), (54, .iload 4, 2), (56, .aload_n 0, 1), (57, .getfield 159, 3), (60, .if_icmp .ge 74, 3), (63, .aload_n 0, 1), (64, .getfield 60, 3), (67, .aload_n 0, 1), (68, .iload_n 3, 1), (69, .iload 4, 2), (71, .invokevirtual 261, 3), (74, .iaload, 1), (75, .iconst 1, 1), (76, .iadd, 1), (77, .istore 5, 2), (79, .iload_n 2, 1), (80, .ifCond .ne 14, 3), (83, .iload 5, 2), (85, .aload_n 0, 1), (86, .getfield 60, 3), (89, .iload_n 3, 1), (90, .iaload, 1), (91, .if_icmp .ge 7, 3), (94, .iconst 1, 1), (95, .goto 4, 3), (98, .iconst 0, 1), (99, .istore_n 2, 1), (100, .aload_n 0, 1), (101, .getfield 60, 3), (104, .iload_n 3, 1), (105, .iload 5, 2), (107, .aload_n 0, 1), (108, .getfield 60, 3), (111, .iload_n 3, 1), (112, .iaload, 1), (113, .if_icmp .ge 8, 3), (116, .iload 5, 2), (118, .goto 9, 3), (121, .aload_n 0, 1), (122, .getfield 60, 3), (125, .iload_n 3, 1), (126, .iaload, 1), (127, .iastore, 1), (128, .iinc 4 1, 3), (131, .goto (-77), 3), (134, .iinc 3 1, 3), (137, .goto (-94), 3), (140, .goto (-105), 3), (143, .return_, 1)]
theorem ddX9_findFar : ∀ q ∈ dlX9_findFar, decode cX9_findFar q.1 = .ok q.2 := by decide +kernel
theorem sX9_findFar_0 {l : Launch} {X : q_CX} (hl : X.2.1 = l) (hQ : q_QM X) (h : q_OK X yX9_findFar cX9_findFar 6 none rmX9_findFar (Cond.code yX9_findFar cX9_findFar 6 none :: q_G)) : q_SK X 6 0 (BX9_findFar_0) := by
  refine k_iconst (v := 0) h (ddX9_findFar (0, .iconst 0, 1) (List.mem_of_getElem? (i := 0) rfl)) (by decide) ?_
  refine k_istore_n (i := 2) h (ddX9_findFar (1, .istore_n 2, 1) (List.mem_of_getElem? (i := 1) rfl)) rfl (by decide) ?_
  exact k_cut
theorem sX9_findFar_33 {l : Launch} {X : q_CX} (hl : X.2.1 = l) (hQ : q_QM X) (h : q_OK X yX9_findFar cX9_findFar 6 none rmX9_findFar (Cond.code yX9_findFar cX9_findFar 6 none :: q_G)) : q_SK X 6 33 (BX9_findFar_33) := by
  refine k_iconst (v := 1) h (ddX9_findFar (33, .iconst 1, 1) (List.mem_of_getElem? (i := 18) rfl)) (by decide) ?_
  refine k_istore_n (i := 2) h (ddX9_findFar (34, .istore_n 2, 1) (List.mem_of_getElem? (i := 19) rfl)) rfl (by decide) ?_
  exact k_cut
theorem sX9_findFar_26 {l : Launch} {X : q_CX} (hl : X.2.1 = l) (hQ : q_QM X) (h : q_OK X yX9_findFar cX9_findFar 6 none rmX9_findFar (Cond.code yX9_findFar cX9_findFar 6 none :: q_G)) : q_SK X 6 26 (BX9_findFar_26) := by
  refine k_iast h (ddX9_findFar (26, .iastore, 1) (List.mem_of_getElem? (i := 15) rfl)) ?_
  refine k_iinc (d := 1) h (ddX9_findFar (27, .iinc 2 1, 3) (List.mem_of_getElem? (i := 16) rfl)) (by decide) (by decide) ?_
  refine k_goto h (ddX9_findFar (30, .goto (-28), 3) (List.mem_of_getElem? (i := 17) rfl)) (tgt := 2) (by decide) ?_
  exact k_cut
theorem sX9_findFar_24 {l : Launch} {X : q_CX} (hl : X.2.1 = l) (hQ : q_QM X) (h : q_OK X yX9_findFar cX9_findFar 6 none rmX9_findFar (Cond.code yX9_findFar cX9_findFar 6 none :: q_G)) : q_SK X 6 24 (BX9_findFar_24) := by
  refine k_ldc (v := 99999999) h (ddX9_findFar (24, .ldc 249, 2) (List.mem_of_getElem? (i := 14) rfl)) (List.mem_cons_of_mem _ gw756) ?_
  exact sX9_findFar_26 hl hQ h
theorem sX9_findFar_20 {l : Launch} {X : q_CX} (hl : X.2.1 = l) (hQ : q_QM X) (h : q_OK X yX9_findFar cX9_findFar 6 none rmX9_findFar (Cond.code yX9_findFar cX9_findFar 6 none :: q_G)) : q_SK X 6 20 (BX9_findFar_20) := by
  refine k_iconst (v := 0) h (ddX9_findFar (20, .iconst 0, 1) (List.mem_of_getElem? (i := 12) rfl)) (by decide) ?_
  refine k_goto h (ddX9_findFar (21, .goto 5, 3) (List.mem_of_getElem? (i := 13) rfl)) (tgt := 26) (by decide) ?_
  exact sX9_findFar_26 hl hQ h
theorem sX9_findFar_10 {l : Launch} {X : q_CX} (hl : X.2.1 = l) (hQ : q_QM X) (h : q_OK X yX9_findFar cX9_findFar 6 none rmX9_findFar (Cond.code yX9_findFar cX9_findFar 6 none :: q_G)) : q_SK X 6 10 (BX9_findFar_10) := by
  refine k_aload_n (i := 0) h (ddX9_findFar (10, .aload_n 0, 1) (List.mem_of_getElem? (i := 6) rfl)) rfl ?_
  refine k_getf (ci := 9) (j := 30) (C := RX9) (T := TX9) (N := 33) h rfl (fun w hw => List.mem_cons_of_mem _ (q_inX9 w hw)) (by decide) (List.mem_cons_of_mem _ gw602) (ddX9_findFar (11, .getfield 60, 3) (List.mem_of_getElem? (i := 7) rfl)) ?_
  refine k_iload_n (i := 2) h (ddX9_findFar (14, .iload_n 2, 1) (List.mem_of_getElem? (i := 8) rfl)) rfl ?_
  refine k_iload_n (i := 2) h (ddX9_findFar (15, .iload_n 2, 1) (List.mem_of_getElem? (i := 9) rfl)) rfl ?_
  refine k_iload_n (i := 1) h (ddX9_findFar (16, .iload_n 1, 1) (List.mem_of_getElem? (i := 10) rfl)) rfl ?_
  refine k_icne h (ddX9_findFar (17, .if_icmp .ne 7, 3) (List.mem_of_getElem? (i := 11) rfl)) (tgt := 24) (by decide) ?_ ?_
  · exact sX9_findFar_24 hl hQ h
  · exact sX9_findFar_20 hl hQ h
theorem sX9_findFar_2 {l : Launch} {X : q_CX} (hl : X.2.1 = l) (hQ : q_QM X) (h : q_OK X yX9_findFar cX9_findFar 6 none rmX9_findFar (Cond.code yX9_findFar cX9_findFar 6 none :: q_G)) : q_SK X 6 2 (BX9_findFar_2) := by
  refine k_iload_n (i := 2) h (ddX9_findFar (2, .iload_n 2, 1) (List.mem_of_getElem? (i := 2) rfl)) rfl ?_
  refine k_aload_n (i := 0) h (ddX9_findFar (3, .aload_n 0, 1) (List.mem_of_getElem? (i := 3) rfl)) rfl ?_
  refine k_callV h hl (aX9_codes l) (ci := 9) (C := RX9) (T := TX9) (N := 33) rfl ⟨rfl, rfl⟩ (n := 0) (by decide +kernel) (q_gV gw759 gw760 gw761 gw606 gw758) ⟨by decide, by decide⟩ (ddX9_findFar (4, .invokevirtual 252, 3) (List.mem_of_getElem? (i := 4) rfl)) ?_
  refine k_icge h (ddX9_findFar (7, .if_icmp .ge 26, 3) (List.mem_of_getElem? (i := 5) rfl)) (tgt := 33) (by decide) ?_ ?_
  · exact sX9_findFar_33 hl hQ h
  · exact sX9_findFar_10 hl hQ h
theorem sX9_findFar_143 {l : Launch} {X : q_CX} (hl : X.2.1 = l) (hQ : q_QM X) (h : q_OK X yX9_findFar cX9_findFar 6 none rmX9_findFar (Cond.code yX9_findFar cX9_findFar 6 none :: q_G)) : q_SK X 6 143 (BX9_findFar_143) := by
  exact k_vret h hQ (ddX9_findFar (143, .return_, 1) (List.mem_of_getElem? (i := 79) rfl))
theorem sX9_findFar_39 {l : Launch} {X : q_CX} (hl : X.2.1 = l) (hQ : q_QM X) (h : q_OK X yX9_findFar cX9_findFar 6 none rmX9_findFar (Cond.code yX9_findFar cX9_findFar 6 none :: q_G)) : q_SK X 6 39 (BX9_findFar_39) := by
  refine k_iconst (v := 0) h (ddX9_findFar (39, .iconst 0, 1) (List.mem_of_getElem? (i := 22) rfl)) (by decide) ?_
  refine k_istore_n (i := 2) h (ddX9_findFar (40, .istore_n 2, 1) (List.mem_of_getElem? (i := 23) rfl)) rfl (by decide) ?_
  refine k_iconst (v := 0) h (ddX9_findFar (41, .iconst 0, 1) (List.mem_of_getElem? (i := 24) rfl)) (by decide) ?_
  refine k_istore_n (i := 3) h (ddX9_findFar (42, .istore_n 3, 1) (List.mem_of_getElem? (i := 25) rfl)) rfl (by decide) ?_
  exact k_cut
theorem sX9_findFar_35 {l : Launch} {X : q_CX} (hl : X.2.1 = l) (hQ : q_QM X) (h : q_OK X yX9_findFar cX9_findFar 6 none rmX9_findFar (Cond.code yX9_findFar cX9_findFar 6 none :: q_G)) : q_SK X 6 35 (BX9_findFar_35) := by
  refine k_iload_n (i := 2) h (ddX9_findFar (35, .iload_n 2, 1) (List.mem_of_getElem? (i := 20) rfl)) rfl ?_
  refine k_ifeq h (ddX9_findFar (36, .ifCond .eq 107, 3) (List.mem_of_getElem? (i := 21) rfl)) (tgt := 143) (by decide) ?_ ?_
  · exact sX9_findFar_143 hl hQ h
  · exact sX9_findFar_39 hl hQ h
theorem sX9_findFar_140 {l : Launch} {X : q_CX} (hl : X.2.1 = l) (hQ : q_QM X) (h : q_OK X yX9_findFar cX9_findFar 6 none rmX9_findFar (Cond.code yX9_findFar cX9_findFar 6 none :: q_G)) : q_SK X 6 140 (BX9_findFar_140) := by
  refine k_goto h (ddX9_findFar (140, .goto (-105), 3) (List.mem_of_getElem? (i := 78) rfl)) (tgt := 35) (by decide) ?_
  exact k_cut
theorem sX9_findFar_51 {l : Launch} {X : q_CX} (hl : X.2.1 = l) (hQ : q_QM X) (h : q_OK X yX9_findFar cX9_findFar 6 none rmX9_findFar (Cond.code yX9_findFar cX9_findFar 6 none :: q_G)) : q_SK X 6 51 (BX9_findFar_51) := by
  refine k_iconst (v := 0) h (ddX9_findFar (51, .iconst 0, 1) (List.mem_of_getElem? (i := 30) rfl)) (by decide) ?_
  refine k_istore (i := 4) h (ddX9_findFar (52, .istore 4, 2) (List.mem_of_getElem? (i := 31) rfl)) (by decide) ?_
  exact k_cut
theorem sX9_findFar_43 {l : Launch} {X : q_CX} (hl : X.2.1 = l) (hQ : q_QM X) (h : q_OK X yX9_findFar cX9_findFar 6 none rmX9_findFar (Cond.code yX9_findFar cX9_findFar 6 none :: q_G)) : q_SK X 6 43 (BX9_findFar_43) := by
  refine k_iload_n (i := 3) h (ddX9_findFar (43, .iload_n 3, 1) (List.mem_of_getElem? (i := 26) rfl)) rfl ?_
  refine k_aload_n (i := 0) h (ddX9_findFar (44, .aload_n 0, 1) (List.mem_of_getElem? (i := 27) rfl)) rfl ?_
  refine k_callV h hl (aX9_codes l) (ci := 9) (C := RX9) (T := TX9) (N := 33) rfl ⟨rfl, rfl⟩ (n := 0) (by decide +kernel) (q_gV gw759 gw760 gw761 gw606 gw758) ⟨by decide, by decide⟩ (ddX9_findFar (45, .invokevirtual 252, 3) (List.mem_of_getElem? (i := 28) rfl)) ?_
  refine k_icge h (ddX9_findFar (48, .if_icmp .ge 92, 3) (List.mem_of_getElem? (i := 29) rfl)) (tgt := 140) (by decide) ?_ ?_
  · exact sX9_findFar_140 hl hQ h
  · exact sX9_findFar_51 hl hQ h
theorem sX9_findFar_134 {l : Launch} {X : q_CX} (hl : X.2.1 = l) (hQ : q_QM X) (h : q_OK X yX9_findFar cX9_findFar 6 none rmX9_findFar (Cond.code yX9_findFar cX9_findFar 6 none :: q_G)) : q_SK X 6 134 (BX9_findFar_134) := by
  refine k_iinc (d := 1) h (ddX9_findFar (134, .iinc 3 1, 3) (List.mem_of_getElem? (i := 76) rfl)) (by decide) (by decide) ?_
  refine k_goto h (ddX9_findFar (137, .goto (-94), 3) (List.mem_of_getElem? (i := 77) rfl)) (tgt := 43) (by decide) ?_
  exact k_cut
theorem sX9_findFar_94 {l : Launch} {X : q_CX} (hl : X.2.1 = l) (hQ : q_QM X) (h : q_OK X yX9_findFar cX9_findFar 6 none rmX9_findFar (Cond.code yX9_findFar cX9_findFar 6 none :: q_G)) : q_SK X 6 94 (BX9_findFar_94) := by
  refine k_iconst (v := 1) h (ddX9_findFar (94, .iconst 1, 1) (List.mem_of_getElem? (i := 54) rfl)) (by decide) ?_
  refine k_goto h (ddX9_findFar (95, .goto 4, 3) (List.mem_of_getElem? (i := 55) rfl)) (tgt := 99) (by decide) ?_
  exact k_cut
theorem sX9_findFar_98 {l : Launch} {X : q_CX} (hl : X.2.1 = l) (hQ : q_QM X) (h : q_OK X yX9_findFar cX9_findFar 6 none rmX9_findFar (Cond.code yX9_findFar cX9_findFar 6 none :: q_G)) : q_SK X 6 98 (BX9_findFar_98) := by
  refine k_iconst (v := 0) h (ddX9_findFar (98, .iconst 0, 1) (List.mem_of_getElem? (i := 56) rfl)) (by decide) ?_
  exact k_cut
theorem sX9_findFar_83 {l : Launch} {X : q_CX} (hl : X.2.1 = l) (hQ : q_QM X) (h : q_OK X yX9_findFar cX9_findFar 6 none rmX9_findFar (Cond.code yX9_findFar cX9_findFar 6 none :: q_G)) : q_SK X 6 83 (BX9_findFar_83) := by
  refine k_iload (i := 5) h (ddX9_findFar (83, .iload 5, 2) (List.mem_of_getElem? (i := 48) rfl)) ?_
  refine k_aload_n (i := 0) h (ddX9_findFar (85, .aload_n 0, 1) (List.mem_of_getElem? (i := 49) rfl)) rfl ?_
  refine k_getf (ci := 9) (j := 30) (C := RX9) (T := TX9) (N := 33) h rfl (fun w hw => List.mem_cons_of_mem _ (q_inX9 w hw)) (by decide) (List.mem_cons_of_mem _ gw602) (ddX9_findFar (86, .getfield 60, 3) (List.mem_of_getElem? (i := 50) rfl)) ?_
  refine k_iload_n (i := 3) h (ddX9_findFar (89, .iload_n 3, 1) (List.mem_of_getElem? (i := 51) rfl)) rfl ?_
  refine k_iald h (ddX9_findFar (90, .iaload, 1) (List.mem_of_getElem? (i := 52) rfl)) ?_
  refine k_icge h (ddX9_findFar (91, .if_icmp .ge 7, 3) (List.mem_of_getElem? (i := 53) rfl)) (tgt := 98) (by decide) ?_ ?_
  · exact sX9_findFar_98 hl hQ h
  · exact sX9_findFar_94 hl hQ h
theorem sX9_findFar_63 {l : Launch} {X : q_CX} (hl : X.2.1 = l) (hQ : q_QM X) (h : q_OK X yX9_findFar cX9_findFar 6 none rmX9_findFar (Cond.code yX9_findFar cX9_findFar 6 none :: q_G)) : q_SK X 6 63 (BX9_findFar_63) := by
  refine k_aload_n (i := 0) h (ddX9_findFar (63, .aload_n 0, 1) (List.mem_of_getElem? (i := 36) rfl)) rfl ?_
  refine k_getf (ci := 9) (j := 30) (C := RX9) (T := TX9) (N := 33) h rfl (fun w hw => List.mem_cons_of_mem _ (q_inX9 w hw)) (by decide) (List.mem_cons_of_mem _ gw602) (ddX9_findFar (64, .getfield 60, 3) (List.mem_of_getElem? (i := 37) rfl)) ?_
  refine k_aload_n (i := 0) h (ddX9_findFar (67, .aload_n 0, 1) (List.mem_of_getElem? (i := 38) rfl)) rfl ?_
  refine k_iload_n (i := 3) h (ddX9_findFar (68, .iload_n 3, 1) (List.mem_of_getElem? (i := 39) rfl)) rfl ?_
  refine k_iload (i := 4) h (ddX9_findFar (69, .iload 4, 2) (List.mem_of_getElem? (i := 40) rfl)) ?_
  refine k_callV h hl (aX9_codeBy l) (ci := 9) (C := RX9) (T := TX9) (N := 33) rfl ⟨rfl, rfl⟩ (n := 2) (by decide +kernel) (q_gV gw771 gw772 gw773 gw606 gw770) ⟨by decide, by decide⟩ (ddX9_findFar (71, .invokevirtual 261, 3) (List.mem_of_getElem? (i := 41) rfl)) ?_
  refine k_iald h (ddX9_findFar (74, .iaload, 1) (List.mem_of_getElem? (i := 42) rfl)) ?_
  refine k_iconst (v := 1) h (ddX9_findFar (75, .iconst 1, 1) (List.mem_of_getElem? (i := 43) rfl)) (by decide) ?_
  refine k_iadd h (ddX9_findFar (76, .iadd, 1) (List.mem_of_getElem? (i := 44) rfl)) ?_
  refine k_istore (i := 5) h (ddX9_findFar (77, .istore 5, 2) (List.mem_of_getElem? (i := 45) rfl)) (by decide) ?_
  refine k_iload_n (i := 2) h (ddX9_findFar (79, .iload_n 2, 1) (List.mem_of_getElem? (i := 46) rfl)) rfl ?_
  refine k_ifne h (ddX9_findFar (80, .ifCond .ne 14, 3) (List.mem_of_getElem? (i := 47) rfl)) (tgt := 94) (by decide) ?_ ?_
  · exact sX9_findFar_94 hl hQ h
  · exact sX9_findFar_83 hl hQ h
theorem sX9_findFar_54 {l : Launch} {X : q_CX} (hl : X.2.1 = l) (hQ : q_QM X) (h : q_OK X yX9_findFar cX9_findFar 6 none rmX9_findFar (Cond.code yX9_findFar cX9_findFar 6 none :: q_G)) : q_SK X 6 54 (BX9_findFar_54) := by
  refine k_iload (i := 4) h (ddX9_findFar (54, .iload 4, 2) (List.mem_of_getElem? (i := 32) rfl)) ?_
  refine k_aload_n (i := 0) h (ddX9_findFar (56, .aload_n 0, 1) (List.mem_of_getElem? (i := 33) rfl)) rfl ?_
  refine k_getf (ci := 9) (j := 10) (C := RX9) (T := TX9) (N := 33) h rfl (fun w hw => List.mem_cons_of_mem _ (q_inX9 w hw)) (by decide) (List.mem_cons_of_mem _ gw672) (ddX9_findFar (57, .getfield 159, 3) (List.mem_of_getElem? (i := 34) rfl)) ?_
  refine k_icge h (ddX9_findFar (60, .if_icmp .ge 74, 3) (List.mem_of_getElem? (i := 35) rfl)) (tgt := 134) (by decide) ?_ ?_
  · exact sX9_findFar_134 hl hQ h
  · exact sX9_findFar_63 hl hQ h
theorem sX9_findFar_127 {l : Launch} {X : q_CX} (hl : X.2.1 = l) (hQ : q_QM X) (h : q_OK X yX9_findFar cX9_findFar 6 none rmX9_findFar (Cond.code yX9_findFar cX9_findFar 6 none :: q_G)) : q_SK X 6 127 (BX9_findFar_127) := by
  refine k_iast h (ddX9_findFar (127, .iastore, 1) (List.mem_of_getElem? (i := 73) rfl)) ?_
  refine k_iinc (d := 1) h (ddX9_findFar (128, .iinc 4 1, 3) (List.mem_of_getElem? (i := 74) rfl)) (by decide) (by decide) ?_
  refine k_goto h (ddX9_findFar (131, .goto (-77), 3) (List.mem_of_getElem? (i := 75) rfl)) (tgt := 54) (by decide) ?_
  exact k_cut
theorem sX9_findFar_121 {l : Launch} {X : q_CX} (hl : X.2.1 = l) (hQ : q_QM X) (h : q_OK X yX9_findFar cX9_findFar 6 none rmX9_findFar (Cond.code yX9_findFar cX9_findFar 6 none :: q_G)) : q_SK X 6 121 (BX9_findFar_121) := by
  refine k_aload_n (i := 0) h (ddX9_findFar (121, .aload_n 0, 1) (List.mem_of_getElem? (i := 69) rfl)) rfl ?_
  refine k_getf (ci := 9) (j := 30) (C := RX9) (T := TX9) (N := 33) h rfl (fun w hw => List.mem_cons_of_mem _ (q_inX9 w hw)) (by decide) (List.mem_cons_of_mem _ gw602) (ddX9_findFar (122, .getfield 60, 3) (List.mem_of_getElem? (i := 70) rfl)) ?_
  refine k_iload_n (i := 3) h (ddX9_findFar (125, .iload_n 3, 1) (List.mem_of_getElem? (i := 71) rfl)) rfl ?_
  refine k_iald h (ddX9_findFar (126, .iaload, 1) (List.mem_of_getElem? (i := 72) rfl)) ?_
  exact sX9_findFar_127 hl hQ h
theorem sX9_findFar_116 {l : Launch} {X : q_CX} (hl : X.2.1 = l) (hQ : q_QM X) (h : q_OK X yX9_findFar cX9_findFar 6 none rmX9_findFar (Cond.code yX9_findFar cX9_findFar 6 none :: q_G)) : q_SK X 6 116 (BX9_findFar_116) := by
  refine k_iload (i := 5) h (ddX9_findFar (116, .iload 5, 2) (List.mem_of_getElem? (i := 67) rfl)) ?_
  refine k_goto h (ddX9_findFar (118, .goto 9, 3) (List.mem_of_getElem? (i := 68) rfl)) (tgt := 127) (by decide) ?_
  exact sX9_findFar_127 hl hQ h
theorem sX9_findFar_99 {l : Launch} {X : q_CX} (hl : X.2.1 = l) (hQ : q_QM X) (h : q_OK X yX9_findFar cX9_findFar 6 none rmX9_findFar (Cond.code yX9_findFar cX9_findFar 6 none :: q_G)) : q_SK X 6 99 (BX9_findFar_99) := by
  refine k_istore_n (i := 2) h (ddX9_findFar (99, .istore_n 2, 1) (List.mem_of_getElem? (i := 57) rfl)) rfl (by decide) ?_
  refine k_aload_n (i := 0) h (ddX9_findFar (100, .aload_n 0, 1) (List.mem_of_getElem? (i := 58) rfl)) rfl ?_
  refine k_getf (ci := 9) (j := 30) (C := RX9) (T := TX9) (N := 33) h rfl (fun w hw => List.mem_cons_of_mem _ (q_inX9 w hw)) (by decide) (List.mem_cons_of_mem _ gw602) (ddX9_findFar (101, .getfield 60, 3) (List.mem_of_getElem? (i := 59) rfl)) ?_
  refine k_iload_n (i := 3) h (ddX9_findFar (104, .iload_n 3, 1) (List.mem_of_getElem? (i := 60) rfl)) rfl ?_
  refine k_iload (i := 5) h (ddX9_findFar (105, .iload 5, 2) (List.mem_of_getElem? (i := 61) rfl)) ?_
  refine k_aload_n (i := 0) h (ddX9_findFar (107, .aload_n 0, 1) (List.mem_of_getElem? (i := 62) rfl)) rfl ?_
  refine k_getf (ci := 9) (j := 30) (C := RX9) (T := TX9) (N := 33) h rfl (fun w hw => List.mem_cons_of_mem _ (q_inX9 w hw)) (by decide) (List.mem_cons_of_mem _ gw602) (ddX9_findFar (108, .getfield 60, 3) (List.mem_of_getElem? (i := 63) rfl)) ?_
  refine k_iload_n (i := 3) h (ddX9_findFar (111, .iload_n 3, 1) (List.mem_of_getElem? (i := 64) rfl)) rfl ?_
  refine k_iald h (ddX9_findFar (112, .iaload, 1) (List.mem_of_getElem? (i := 65) rfl)) ?_
  refine k_icge h (ddX9_findFar (113, .if_icmp .ge 8, 3) (List.mem_of_getElem? (i := 66) rfl)) (tgt := 121) (by decide) ?_ ?_
  · exact sX9_findFar_121 hl hQ h
  · exact sX9_findFar_116 hl hQ h
theorem aX9_findFar (l : Launch) (as : List Value) (sh : q_Sh) (m : q_Mm) (R : q_KR) (hw : wX9_findFar as sh m R) : q_AM l yX9_findFar (Cond.code yX9_findFar cX9_findFar 6 none :: q_G) rmX9_findFar as sh m R := by
  refine q_met (code := TX9_findFar) (by decide) (fun X hl hQ _ h pc => ?_) hw.1 hw.2
  unfold TX9_findFar
  exact k_at (sX9_findFar_0 hl hQ h) (k_at (sX9_findFar_2 hl hQ h) (k_at (sX9_findFar_35 hl hQ h) (k_at (sX9_findFar_43 hl hQ h) (k_at (sX9_findFar_54 hl hQ h) (k_at (sX9_findFar_99 hl hQ h) (k_no))))))
