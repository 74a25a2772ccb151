/-! Contracts, leaves first; written by wip/whole/gen.py. -/
/-! TumblingRockModel.draw(I)I -/
abbrev dlX9_draw : List (Nat × (Instr × Nat)) := [(0, .aload_n 0, 1), (1, .getfield 7, 3), (4, .bipush 6, 2), (6, .aload_n 0, 1), (7, .getfield 7, 3), (10, .bipush 6, 2), (12, .iaload, 1), (13, .i2l, 1), (14, .ldc2_w 220, 3), (17, .lmul, 1), (18, .ldc2_w 222, 3), (21, .ladd, 1), (22, .ldc2_w 224, 3), (25, .lrem, 1), (26, .l2i, 1), (27, .iastore, 1), (28, .aload_n 0, 1), (29, .getfield 7, 3), (32, .bipush 6, 2), (34, .iaload, 1), (35, .ldc 226, 2), (37, .idiv, 1), (38, .iload_n 1, 1), (39, .irem, 1), (40, .ireturn, 1)]
theorem ddX9_draw : ∀ q ∈ dlX9_draw, decode cX9_draw q.1 = .ok q.2 := by decide +kernel
theorem sX9_draw_0 {l : Launch} {X : q_CX} (hl : X.2.1 = l) (hQ : q_QM X) (h : q_OK X yX9_draw cX9_draw 2 (some .int) rmX9_draw (Cond.code yX9_draw cX9_draw 2 (some .int) :: q_G)) : q_SK X 2 0 (BX9_draw_0) := by
  refine k_aload_n (i := 0) h (ddX9_draw (0, .aload_n 0, 1) (List.mem_of_getElem? (i := 0) rfl)) rfl ?_
  refine k_getf (ci := 9) (j := 0) (C := RX9) (T := TX9) (N := 33) h rfl (fun w hw => List.mem_cons_of_mem _ (q_inX9 w hw)) (by decide) (List.mem_cons_of_mem _ gw586) (ddX9_draw (1, .getfield 7, 3) (List.mem_of_getElem? (i := 1) rfl)) ?_
  refine k_bipush (v := 6) h (ddX9_draw (4, .bipush 6, 2) (List.mem_of_getElem? (i := 2) rfl)) (by decide) ?_
  refine k_aload_n (i := 0) h (ddX9_draw (6, .aload_n 0, 1) (List.mem_of_getElem? (i := 3) rfl)) rfl ?_
  refine k_getf (ci := 9) (j := 0) (C := RX9) (T := TX9) (N := 33) h rfl (fun w hw => List.mem_cons_of_mem _ (q_inX9 w hw)) (by decide) (List.mem_cons_of_mem _ gw586) (ddX9_draw (7, .getfield 7, 3) (List.mem_of_getElem? (i := 4) rfl)) ?_
  refine k_bipush (v := 6) h (ddX9_draw (10, .bipush 6, 2) (List.mem_of_getElem? (i := 5) rfl)) (by decide) ?_
  refine k_iald h (ddX9_draw (12, .iaload, 1) (List.mem_of_getElem? (i := 6) rfl)) ?_
  refine k_i2l h (ddX9_draw (13, .i2l, 1) (List.mem_of_getElem? (i := 7) rfl)) ?_
  refine k_ldc2 (v := 1103515245) h (ddX9_draw (14, .ldc2_w 220, 3) (List.mem_of_getElem? (i := 8) rfl)) (List.mem_cons_of_mem _ gw730) ?_
  refine k_lmul h (ddX9_draw (17, .lmul, 1) (List.mem_of_getElem? (i := 9) rfl)) ?_
  refine k_ldc2 (v := 12345) h (ddX9_draw (18, .ldc2_w 222, 3) (List.mem_of_getElem? (i := 10) rfl)) (List.mem_cons_of_mem _ gw731) ?_
  refine k_ladd h (ddX9_draw (21, .ladd, 1) (List.mem_of_getElem? (i := 11) rfl)) ?_
  refine k_ldc2 (v := 2147483648) h (ddX9_draw (22, .ldc2_w 224, 3) (List.mem_of_getElem? (i := 12) rfl)) (List.mem_cons_of_mem _ gw732) ?_
  refine k_lrem h (ddX9_draw (25, .lrem, 1) (List.mem_of_getElem? (i := 13) rfl)) ?_
  refine k_l2i h (ddX9_draw (26, .l2i, 1) (List.mem_of_getElem? (i := 14) rfl)) ?_
  refine k_iast h (ddX9_draw (27, .iastore, 1) (List.mem_of_getElem? (i := 15) rfl)) ?_
  refine k_aload_n (i := 0) h (ddX9_draw (28, .aload_n 0, 1) (List.mem_of_getElem? (i := 16) rfl)) rfl ?_
  refine k_getf (ci := 9) (j := 0) (C := RX9) (T := TX9) (N := 33) h rfl (fun w hw => List.mem_cons_of_mem _ (q_inX9 w hw)) (by decide) (List.mem_cons_of_mem _ gw586) (ddX9_draw (29, .getfield 7, 3) (List.mem_of_getElem? (i := 17) rfl)) ?_
  refine k_bipush (v := 6) h (ddX9_draw (32, .bipush 6, 2) (List.mem_of_getElem? (i := 18) rfl)) (by decide) ?_
  refine k_iald h (ddX9_draw (34, .iaload, 1) (List.mem_of_getElem? (i := 19) rfl)) ?_
  refine k_ldc (v := 65536) h (ddX9_draw (35, .ldc 226, 2) (List.mem_of_getElem? (i := 20) rfl)) (List.mem_cons_of_mem _ gw733) ?_
  refine k_idiv h (ddX9_draw (37, .idiv, 1) (List.mem_of_getElem? (i := 21) rfl)) ?_
  refine k_iload_n (i := 1) h (ddX9_draw (38, .iload_n 1, 1) (List.mem_of_getElem? (i := 22) rfl)) rfl ?_
  refine k_irem h (ddX9_draw (39, .irem, 1) (List.mem_of_getElem? (i := 23) rfl)) ?_
  exact k_iret h hQ (ddX9_draw (40, .ireturn, 1) (List.mem_of_getElem? (i := 24) rfl))
theorem aX9_draw (l : Launch) (as : List Value) (sh : q_Sh) (m : q_Mm) (R : q_KR) (hw : wX9_draw as sh m R) : q_AM l yX9_draw (Cond.code yX9_draw cX9_draw 2 (some .int) :: q_G) rmX9_draw as sh m R := by
  refine q_met (code := TX9_draw) (by decide) (fun X hl hQ _ h pc => ?_) hw.1 hw.2
  unfold TX9_draw
  exact k_at (sX9_draw_0 hl hQ h) (k_no)
/-! TumblingRockModel.ones(I)I -/
abbrev dlX9_ones : List (Nat × (Instr × Nat)) := [(0, .iconst 0, 1), (1, .istore_n 1, 1), (2, .iconst 0, 1), (3, .istore_n 2, 1), (4, .iload_n 2, 1), (5, .bipush 8, 2), (7, .if_icmp .ge 17, 3), (10, .iload_n 1, 1), (11, .iload_n 0, 1), (12, .iload_n 2, 1), (13, .ishr, 1), (14, .iconst 1, 1), (15, .iand, 1), (16, .iadd, 1), (17, .istore_n 1, 1), (18, .iinc 2 1, 3), (21, .goto (-17), 3), (24, .iload_n 1, 1), (25, .ireturn, 1)]
theorem ddX9_ones : ∀ q ∈ dlX9_ones, decode cX9_ones q.1 = .ok q.2 := by decide +kernel
theorem sX9_ones_0 {l : Launch} {X : q_CX} (hl : X.2.1 = l) (hQ : q_QM X) (h : q_OK X yX9_ones cX9_ones 3 (some .int) rmX9_ones (Cond.code yX9_ones cX9_ones 3 (some .int) :: q_G)) : q_SK X 3 0 (BX9_ones_0) := by
  refine k_iconst (v := 0) h (ddX9_ones (0, .iconst 0, 1) (List.mem_of_getElem? (i := 0) rfl)) (by decide) ?_
  refine k_istore_n (i := 1) h (ddX9_ones (1, .istore_n 1, 1) (List.mem_of_getElem? (i := 1) rfl)) rfl (by decide) ?_
  refine k_iconst (v := 0) h (ddX9_ones (2, .iconst 0, 1) (List.mem_of_getElem? (i := 2) rfl)) (by decide) ?_
  refine k_istore_n (i := 2) h (ddX9_ones (3, .istore_n 2, 1) (List.mem_of_getElem? (i := 3) rfl)) rfl (by decide) ?_
  exact k_cut
theorem sX9_ones_24 {l : Launch} {X : q_CX} (hl : X.2.1 = l) (hQ : q_QM X) (h : q_OK X yX9_ones cX9_ones 3 (some .int) rmX9_ones (Cond.code yX9_ones cX9_ones 3 (some .int) :: q_G)) : q_SK X 3 24 (BX9_ones_24) := by
  refine k_iload_n (i := 1) h (ddX9_ones (24, .iload_n 1, 1) (List.mem_of_getElem? (i := 17) rfl)) rfl ?_
  exact k_iret h hQ (ddX9_ones (25, .ireturn, 1) (List.mem_of_getElem? (i := 18) rfl))
theorem sX9_ones_10 {l : Launch} {X : q_CX} (hl : X.2.1 = l) (hQ : q_QM X) (h : q_OK X yX9_ones cX9_ones 3 (some .int) rmX9_ones (Cond.code yX9_ones cX9_ones 3 (some .int) :: q_G)) : q_SK X 3 10 (BX9_ones_10) := by
  refine k_iload_n (i := 1) h (ddX9_ones (10, .iload_n 1, 1) (List.mem_of_getElem? (i := 7) rfl)) rfl ?_
  refine k_iload_n (i := 0) h (ddX9_ones (11, .iload_n 0, 1) (List.mem_of_getElem? (i := 8) rfl)) rfl ?_
  refine k_iload_n (i := 2) h (ddX9_ones (12, .iload_n 2, 1) (List.mem_of_getElem? (i := 9) rfl)) rfl ?_
  refine k_ishr h (ddX9_ones (13, .ishr, 1) (List.mem_of_getElem? (i := 10) rfl)) ?_
  refine k_iconst (v := 1) h (ddX9_ones (14, .iconst 1, 1) (List.mem_of_getElem? (i := 11) rfl)) (by decide) ?_
  refine k_iand h (ddX9_ones (15, .iand, 1) (List.mem_of_getElem? (i := 12) rfl)) ?_
  refine k_iadd h (ddX9_ones (16, .iadd, 1) (List.mem_of_getElem? (i := 13) rfl)) ?_
  refine k_istore_n (i := 1) h (ddX9_ones (17, .istore_n 1, 1) (List.mem_of_getElem? (i := 14) rfl)) rfl (by decide) ?_
  refine k_iinc (d := 1) h (ddX9_ones (18, .iinc 2 1, 3) (List.mem_of_getElem? (i := 15) rfl)) (by decide) (by decide) ?_
  refine k_goto h (ddX9_ones (21, .goto (-17), 3) (List.mem_of_getElem? (i := 16) rfl)) (tgt := 4) (by decide) ?_
  exact k_cut
theorem sX9_ones_4 {l : Launch} {X : q_CX} (hl : X.2.1 = l) (hQ : q_QM X) (h : q_OK X yX9_ones cX9_ones 3 (some .int) rmX9_ones (Cond.code yX9_ones cX9_ones 3 (some .int) :: q_G)) : q_SK X 3 4 (BX9_ones_4) := by
  refine k_iload_n (i := 2) h (ddX9_ones (4, .iload_n 2, 1) (List.mem_of_getElem? (i := 4) rfl)) rfl ?_
  refine k_bipush (v := 8) h (ddX9_ones (5, .bipush 8, 2) (List.mem_of_getElem? (i := 5) rfl)) (by decide) ?_
  refine k_icge h (ddX9_ones (7, .if_icmp .ge 17, 3) (List.mem_of_getElem? (i := 6) rfl)) (tgt := 24) (by decide) ?_ ?_
  · exact sX9_ones_24 hl hQ h
  · exact sX9_ones_10 hl hQ h
theorem aX9_ones (l : Launch) (as : List Value) (sh : q_Sh) (m : q_Mm) (R : q_KR) (hw : wX9_ones as sh m R) : q_AM l yX9_ones (Cond.code yX9_ones cX9_ones 3 (some .int) :: q_G) rmX9_ones as sh m R := by
  refine q_met (code := TX9_ones) (by decide) (fun X hl hQ _ h pc => ?_) hw.1 hw.2
  unfold TX9_ones
  exact k_at (sX9_ones_0 hl hQ h) (k_at (sX9_ones_4 hl hQ h) (k_no))
/-! TumblingRockModel.wayByDraw()I -/
abbrev dlX9_wayByDraw : List (Nat × (Instr × Nat)) := [(0, .aload_n 0, 1), (1, .getfield 26, 3), (4, .aload_n 0, 1), (5, .getfield 7, 3), (8, .iconst 3, 1), (9, .iaload, 1), (10, .iaload, 1), (11, .istore_n 1, 1), (12, .iload_n 1, 1), (13, .ifCond .ne 10, 3), (16, .aload_n 0, 1), (17, .getfield 7, 3), (20, .iconst 3, 1), (21, .iaload, 1), (22, .ireturn, 1), (23, .aload_n 0, 1), (24, .iload_n 1, 1), (25, .invokestatic 227, 3), (28, .invokevirtual 230, 3), (31, .istore_n 2, 1), (32, .iconst 0, 1), (33, .istore_n 3, 1), (34, .iload_n 1, 1), (35, .iload_n 3, 1), (36, .invokestatic 118, 3), (39, .ifCond .eq 7, 3), (42, .iload_n 2, 1), (43, .ifCond .le 20, 3), (46, .iload_n 2, 1), (47, .iload_n 1, 1), (48, .iload_n 3, 1), (49, .invokestatic 118, 3), (52, .invokestatic 185, 3), (55, .isub, 1), (56, .istore_n 2, 1), (57, .iinc 3 1, 3), (60, .goto (-26), 3), (63, .iload_n 3, 1), (64, .ireturn, 1)]
theorem ddX9_wayByDraw : ∀ q ∈ dlX9_wayByDraw, decode cX9_wayByDraw q.1 = .ok q.2 := by decide +kernel
theorem sX9_wayByDraw_23 {l : Launch} {X : q_CX} (hl : X.2.1 = l) (hQ : q_QM X) (h : q_OK X yX9_wayByDraw cX9_wayByDraw 4 (some .int) rmX9_wayByDraw (Cond.code yX9_wayByDraw cX9_wayByDraw 4 (some .int) :: q_G)) : q_SK X 4 23 (BX9_wayByDraw_23) := by
  refine k_aload_n (i := 0) h (ddX9_wayByDraw (23, .aload_n 0, 1) (List.mem_of_getElem? (i := 15) rfl)) rfl ?_
  refine k_iload_n (i := 1) h (ddX9_wayByDraw (24, .iload_n 1, 1) (List.mem_of_getElem? (i := 16) rfl)) rfl ?_
  refine k_callS h hl (aX9_ones l) ⟨rfl, rfl⟩ (n := 1) (by decide +kernel) (q_gS gw736 gw735 gw606 gw734) ⟨by decide, by decide⟩ (ddX9_wayByDraw (25, .invokestatic 227, 3) (List.mem_of_getElem? (i := 17) rfl)) ?_
  refine k_callV h hl (aX9_draw l) (ci := 9) (C := RX9) (T := TX9) (N := 33) rfl ⟨rfl, rfl⟩ (n := 1) (by decide +kernel) (q_gV gw738 gw739 gw740 gw606 gw737) ⟨by decide, by decide⟩ (ddX9_wayByDraw (28, .invokevirtual 230, 3) (List.mem_of_getElem? (i := 18) rfl)) ?_
  refine k_istore_n (i := 2) h (ddX9_wayByDraw (31, .istore_n 2, 1) (List.mem_of_getElem? (i := 19) rfl)) rfl (by decide) ?_
  refine k_iconst (v := 0) h (ddX9_wayByDraw (32, .iconst 0, 1) (List.mem_of_getElem? (i := 20) rfl)) (by decide) ?_
  refine k_istore_n (i := 3) h (ddX9_wayByDraw (33, .istore_n 3, 1) (List.mem_of_getElem? (i := 21) rfl)) rfl (by decide) ?_
  exact k_cut
theorem sX9_wayByDraw_16 {l : Launch} {X : q_CX} (hl : X.2.1 = l) (hQ : q_QM X) (h : q_OK X yX9_wayByDraw cX9_wayByDraw 4 (some .int) rmX9_wayByDraw (Cond.code yX9_wayByDraw cX9_wayByDraw 4 (some .int) :: q_G)) : q_SK X 4 16 (BX9_wayByDraw_16) := by
  refine k_aload_n (i := 0) h (ddX9_wayByDraw (16, .aload_n 0, 1) (List.mem_of_getElem? (i := 10) rfl)) rfl ?_
  refine k_getf (ci := 9) (j := 0) (C := RX9) (T := TX9) (N := 33) h rfl (fun w hw => List.mem_cons_of_mem _ (q_inX9 w hw)) (by decide) (List.mem_cons_of_mem _ gw586) (ddX9_wayByDraw (17, .getfield 7, 3) (List.mem_of_getElem? (i := 11) rfl)) ?_
  refine k_iconst (v := 3) h (ddX9_wayByDraw (20, .iconst 3, 1) (List.mem_of_getElem? (i := 12) rfl)) (by decide) ?_
  refine k_iald h (ddX9_wayByDraw (21, .iaload, 1) (List.mem_of_getElem? (i := 13) rfl)) ?_
  exact k_iret h hQ (ddX9_wayByDraw (22, .ireturn, 1) (List.mem_of_getElem? (i := 14) rfl))
theorem sX9_wayByDraw_0 {l : Launch} {X : q_CX} (hl : X.2.1 = l) (hQ : q_QM X) (h : q_OK X yX9_wayByDraw cX9_wayByDraw 4 (some .int) rmX9_wayByDraw (Cond.code yX9_wayByDraw cX9_wayByDraw 4 (some .int) :: q_G)) : q_SK X 4 0 (BX9_wayByDraw_0) := by
  refine k_aload_n (i := 0) h (ddX9_wayByDraw (0, .aload_n 0, 1) (List.mem_of_getElem? (i := 0) rfl)) rfl ?_
  refine k_getf (ci := 9) (j := 5) (C := RX9) (T := TX9) (N := 33) h rfl (fun w hw => List.mem_cons_of_mem _ (q_inX9 w hw)) (by decide) (List.mem_cons_of_mem _ gw591) (ddX9_wayByDraw (1, .getfield 26, 3) (List.mem_of_getElem? (i := 1) rfl)) ?_
  refine k_aload_n (i := 0) h (ddX9_wayByDraw (4, .aload_n 0, 1) (List.mem_of_getElem? (i := 2) rfl)) rfl ?_
  refine k_getf (ci := 9) (j := 0) (C := RX9) (T := TX9) (N := 33) h rfl (fun w hw => List.mem_cons_of_mem _ (q_inX9 w hw)) (by decide) (List.mem_cons_of_mem _ gw586) (ddX9_wayByDraw (5, .getfield 7, 3) (List.mem_of_getElem? (i := 3) rfl)) ?_
  refine k_iconst (v := 3) h (ddX9_wayByDraw (8, .iconst 3, 1) (List.mem_of_getElem? (i := 4) rfl)) (by decide) ?_
  refine k_iald h (ddX9_wayByDraw (9, .iaload, 1) (List.mem_of_getElem? (i := 5) rfl)) ?_
  refine k_iald h (ddX9_wayByDraw (10, .iaload, 1) (List.mem_of_getElem? (i := 6) rfl)) ?_
  refine k_istore_n (i := 1) h (ddX9_wayByDraw (11, .istore_n 1, 1) (List.mem_of_getElem? (i := 7) rfl)) rfl (by decide) ?_
  refine k_iload_n (i := 1) h (ddX9_wayByDraw (12, .iload_n 1, 1) (List.mem_of_getElem? (i := 8) rfl)) rfl ?_
  refine k_ifne h (ddX9_wayByDraw (13, .ifCond .ne 10, 3) (List.mem_of_getElem? (i := 9) rfl)) (tgt := 23) (by decide) ?_ ?_
  · exact sX9_wayByDraw_23 hl hQ h
  · exact sX9_wayByDraw_16 hl hQ h
theorem sX9_wayByDraw_46 {l : Launch} {X : q_CX} (hl : X.2.1 = l) (hQ : q_QM X) (h : q_OK X yX9_wayByDraw cX9_wayByDraw 4 (some .int) rmX9_wayByDraw (Cond.code yX9_wayByDraw cX9_wayByDraw 4 (some .int) :: q_G)) : q_SK X 4 46 (BX9_wayByDraw_46) := by
  refine k_iload_n (i := 2) h (ddX9_wayByDraw (46, .iload_n 2, 1) (List.mem_of_getElem? (i := 28) rfl)) rfl ?_
  refine k_iload_n (i := 1) h (ddX9_wayByDraw (47, .iload_n 1, 1) (List.mem_of_getElem? (i := 29) rfl)) rfl ?_
  refine k_iload_n (i := 3) h (ddX9_wayByDraw (48, .iload_n 3, 1) (List.mem_of_getElem? (i := 30) rfl)) rfl ?_
  refine k_callS h hl (aX9_has l) ⟨rfl, rfl⟩ (n := 2) (by decide +kernel) (q_gS gw638 gw637 gw606 gw636) ⟨by decide, by decide⟩ (ddX9_wayByDraw (49, .invokestatic 118, 3) (List.mem_of_getElem? (i := 31) rfl)) ?_
  refine k_callS h hl (aX9_one l) ⟨rfl, rfl⟩ (n := 1) (by decide +kernel) (q_gS gw697 gw696 gw606 gw695) ⟨by decide, by decide⟩ (ddX9_wayByDraw (52, .invokestatic 185, 3) (List.mem_of_getElem? (i := 32) rfl)) ?_
  refine k_isub h (ddX9_wayByDraw (55, .isub, 1) (List.mem_of_getElem? (i := 33) rfl)) ?_
  refine k_istore_n (i := 2) h (ddX9_wayByDraw (56, .istore_n 2, 1) (List.mem_of_getElem? (i := 34) rfl)) rfl (by decide) ?_
  refine k_iinc (d := 1) h (ddX9_wayByDraw (57, .iinc 3 1, 3) (List.mem_of_getElem? (i := 35) rfl)) (by decide) (by decide) ?_
  refine k_goto h (ddX9_wayByDraw (60, .goto (-26), 3) (List.mem_of_getElem? (i := 36) rfl)) (tgt := 34) (by decide) ?_
  exact k_cut
theorem sX9_wayByDraw_63 {l : Launch} {X : q_CX} (hl : X.2.1 = l) (hQ : q_QM X) (h : q_OK X yX9_wayByDraw cX9_wayByDraw 4 (some .int) rmX9_wayByDraw (Cond.code yX9_wayByDraw cX9_wayByDraw 4 (some .int) :: q_G)) : q_SK X 4 63 (BX9_wayByDraw_63) := by
  refine k_iload_n (i := 3) h (ddX9_wayByDraw (63, .iload_n 3, 1) (List.mem_of_getElem? (i := 37) rfl)) rfl ?_
  exact k_iret h hQ (ddX9_wayByDraw (64, .ireturn, 1) (List.mem_of_getElem? (i := 38) rfl))
theorem sX9_wayByDraw_42 {l : Launch} {X : q_CX} (hl : X.2.1 = l) (hQ : q_QM X) (h : q_OK X yX9_wayByDraw cX9_wayByDraw 4 (some .int) rmX9_wayByDraw (Cond.code yX9_wayByDraw cX9_wayByDraw 4 (some .int) :: q_G)) : q_SK X 4 42 (BX9_wayByDraw_42) := by
  refine k_iload_n (i := 2) h (ddX9_wayByDraw (42, .iload_n 2, 1) (List.mem_of_getElem? (i := 26) rfl)) rfl ?_
  refine k_ifle h (ddX9_wayByDraw (43, .ifCond .le 20, 3) (List.mem_of_getElem? (i := 27) rfl)) (tgt := 63) (by decide) ?_ ?_
  · exact sX9_wayByDraw_63 hl hQ h
  · exact sX9_wayByDraw_46 hl hQ h
theorem sX9_wayByDraw_34 {l : Launch} {X : q_CX} (hl : X.2.1 = l) (hQ : q_QM X) (h : q_OK X yX9_wayByDraw cX9_wayByDraw 4 (some .int) rmX9_wayByDraw (Cond.code yX9_wayByDraw cX9_wayByDraw 4 (some .int) :: q_G)) : q_SK X 4 34 (BX9_wayByDraw_34) := by
  refine k_iload_n (i := 1) h (ddX9_wayByDraw (34, .iload_n 1, 1) (List.mem_of_getElem? (i := 22) rfl)) rfl ?_
  refine k_iload_n (i := 3) h (ddX9_wayByDraw (35, .iload_n 3, 1) (List.mem_of_getElem? (i := 23) rfl)) rfl ?_
  refine k_callS h hl (aX9_has l) ⟨rfl, rfl⟩ (n := 2) (by decide +kernel) (q_gS gw638 gw637 gw606 gw636) ⟨by decide, by decide⟩ (ddX9_wayByDraw (36, .invokestatic 118, 3) (List.mem_of_getElem? (i := 24) rfl)) ?_
  refine k_ifeq h (ddX9_wayByDraw (39, .ifCond .eq 7, 3) (List.mem_of_getElem? (i := 25) rfl)) (tgt := 46) (by decide) ?_ ?_
  · exact sX9_wayByDraw_46 hl hQ h
  · exact sX9_wayByDraw_42 hl hQ h
theorem aX9_wayByDraw (l : Launch) (as : List Value) (sh : q_Sh) (m : q_Mm) (R : q_KR) (hw : wX9_wayByDraw as sh m R) : q_AM l yX9_wayByDraw (Cond.code yX9_wayByDraw cX9_wayByDraw 4 (some .int) :: q_G) rmX9_wayByDraw as sh m R := by
  refine q_met (code := TX9_wayByDraw) (by decide) (fun X hl hQ _ h pc => ?_) hw.1 hw.2
  unfold TX9_wayByDraw
  exact k_at (sX9_wayByDraw_0 hl hQ h) (k_at (sX9_wayByDraw_34 hl hQ h) (k_no))
/-! TumblingRockModel.drift(I)I -/
abbrev dlX9_drift : List (Nat × (Instr × Nat)) := [(0, .iload_n 1, 1), (1, .i2l, 1), (2, .lconst 1, 1), (3, .ldc2_w 233, 3), (6, .invokestatic 68, 3), (9, .ifCond .ne 6, 3), (12, .ldc 72, 2), (14, .ireturn, 1), (15, .aload_n 0, 1), (16, .getfield 150, 3), (19, .ifCond .eq 10, 3), (22, .aload_n 0, 1), (23, .getfield 153, 3), (26, .ifCond .ne 6, 3), (29, .ldc 214, 2), (31, .ireturn, 1), (32, .iconst 0, 1), (33, .istore_n 2, 1), (34, .iconst 0, 1), (35, .istore_n 3, 1), (36, .iload_n 3, 1), (37, .iload_n 1, 1), (38, .if_icmp .ge 88, 3), (41, .aload_n 0, 1), (42, .getfield 7, 3), (45, .iconst 3, 1), (46, .iaload, 1), (47, .istore 4, 2), (49, .aload_n 0, 1), (50, .bipush 8, 2), (52, .invokevirtual 230, 3), (55, .ifCond .ne 50, 3), (58, .aload_n 0, 1), (59, .aload_n 0, 1), (60, .getfield 150, 3), (63, .invokevirtual 230, 3), (66, .istore 5, 2), (68, .aload_n 0, 1), (69, .getfield 7, 3), (72, .iload 5, 2), (74, .aload_n 0, 1), (75, .getfield 7, 3), (78, .iload 5, 2), (80, .iaload, 1), (81, .aload_n 0, 1), (82, .aload_n 0, 1), (83, .getfield 20, 3), (86, .iload 5, 2), (88, .iaload, 1), (89, .invokevirtual 230, 3), (92, .iadd, 1), (93, .aload_n 0, 1), (94, .getfield 20, 3), (97, .iload 5, 2), (99, .iaload, 1), (100, .irem, 1), (101, .iastore, 1), (102, .goto 9, 3), (105, .aload_n 0, 1), (106, .invokevirtual 235, 3), (109, .istore 4, 2), (111, .iload_n 2, 1), (112, .aload_n 0, 1), (113, .iload 4, 2), (115, .invokevirtual 215, 3), (118, .iadd, 1), (119, .istore_n 2, 1), (120, .iinc 3 1, 3), (123, .goto (-87), 3), (126, .iload_n 2, 1), (127, .ireturn, 1)]
theorem ddX9_drift : ∀ q ∈ dlX9_drift, decode cX9_drift q.1 = .ok q.2 := by decide +kernel
theorem sX9_drift_29 {l : Launch} {X : q_CX} (hl : X.2.1 = l) (hQ : q_QM X) (h : q_OK X yX9_drift cX9_drift 6 (some .int) rmX9_drift (Cond.code yX9_drift cX9_drift 6 (some .int) :: q_G)) : q_SK X 6 29 (BX9_drift_29) := by
  refine k_ldc (v := (-1000000003)) h (ddX9_drift (29, .ldc 214, 2) (List.mem_of_getElem? (i := 14) rfl)) (List.mem_cons_of_mem _ gw724) ?_
  exact k_iret h hQ (ddX9_drift (31, .ireturn, 1) (List.mem_of_getElem? (i := 15) rfl))
theorem sX9_drift_32 {l : Launch} {X : q_CX} (hl : X.2.1 = l) (hQ : q_QM X) (h : q_OK X yX9_drift cX9_drift 6 (some .int) rmX9_drift (Cond.code yX9_drift cX9_drift 6 (some .int) :: q_G)) : q_SK X 6 32 (BX9_drift_32) := by
  refine k_iconst (v := 0) h (ddX9_drift (32, .iconst 0, 1) (List.mem_of_getElem? (i := 16) rfl)) (by decide) ?_
  refine k_istore_n (i := 2) h (ddX9_drift (33, .istore_n 2, 1) (List.mem_of_getElem? (i := 17) rfl)) rfl (by decide) ?_
  refine k_iconst (v := 0) h (ddX9_drift (34, .iconst 0, 1) (List.mem_of_getElem? (i := 18) rfl)) (by decide) ?_
  refine k_istore_n (i := 3) h (ddX9_drift (35, .istore_n 3, 1) (List.mem_of_getElem? (i := 19) rfl)) rfl (by decide) ?_
  exact k_cut
theorem sX9_drift_22 {l : Launch} {X : q_CX} (hl : X.2.1 = l) (hQ : q_QM X) (h : q_OK X yX9_drift cX9_drift 6 (some .int) rmX9_drift (Cond.code yX9_drift cX9_drift 6 (some .int) :: q_G)) : q_SK X 6 22 (BX9_drift_22) := by
  refine k_aload_n (i := 0) h (ddX9_drift (22, .aload_n 0, 1) (List.mem_of_getElem? (i := 11) rfl)) rfl ?_
  refine k_getf (ci := 9) (j := 8) (C := RX9) (T := TX9) (N := 33) h rfl (fun w hw => List.mem_cons_of_mem _ (q_inX9 w hw)) (by decide) (List.mem_cons_of_mem _ gw670) (ddX9_drift (23, .getfield 153, 3) (List.mem_of_getElem? (i := 12) rfl)) ?_
  refine k_ifne h (ddX9_drift (26, .ifCond .ne 6, 3) (List.mem_of_getElem? (i := 13) rfl)) (tgt := 32) (by decide) ?_ ?_
  · exact sX9_drift_32 hl hQ h
  · exact sX9_drift_29 hl hQ h
theorem sX9_drift_15 {l : Launch} {X : q_CX} (hl : X.2.1 = l) (hQ : q_QM X) (h : q_OK X yX9_drift cX9_drift 6 (some .int) rmX9_drift (Cond.code yX9_drift cX9_drift 6 (some .int) :: q_G)) : q_SK X 6 15 (BX9_drift_15) := by
  refine k_aload_n (i := 0) h (ddX9_drift (15, .aload_n 0, 1) (List.mem_of_getElem? (i := 8) rfl)) rfl ?_
  refine k_getf (ci := 9) (j := 7) (C := RX9) (T := TX9) (N := 33) h rfl (fun w hw => List.mem_cons_of_mem _ (q_inX9 w hw)) (by decide) (List.mem_cons_of_mem _ gw669) (ddX9_drift (16, .getfield 150, 3) (List.mem_of_getElem? (i := 9) rfl)) ?_
  refine k_ifeq h (ddX9_drift (19, .ifCond .eq 10, 3) (List.mem_of_getElem? (i := 10) rfl)) (tgt := 29) (by decide) ?_ ?_
  · exact sX9_drift_29 hl hQ h
  · exact sX9_drift_22 hl hQ h
theorem sX9_drift_12 {l : Launch} {X : q_CX} (hl : X.2.1 = l) (hQ : q_QM X) (h : q_OK X yX9_drift cX9_drift 6 (some .int) rmX9_drift (Cond.code yX9_drift cX9_drift 6 (some .int) :: q_G)) : q_SK X 6 12 (BX9_drift_12) := by
  refine k_ldc (v := (-1000000002)) h (ddX9_drift (12, .ldc 72, 2) (List.mem_of_getElem? (i := 6) rfl)) (List.mem_cons_of_mem _ gw609) ?_
  exact k_iret h hQ (ddX9_drift (14, .ireturn, 1) (List.mem_of_getElem? (i := 7) rfl))
theorem sX9_drift_0 {l : Launch} {X : q_CX} (hl : X.2.1 = l) (hQ : q_QM X) (h : q_OK X yX9_drift cX9_drift 6 (some .int) rmX9_drift (Cond.code yX9_drift cX9_drift 6 (some .int) :: q_G)) : q_SK X 6 0 (BX9_drift_0) := by
  refine k_iload_n (i := 1) h (ddX9_drift (0, .iload_n 1, 1) (List.mem_of_getElem? (i := 0) rfl)) rfl ?_
  refine k_i2l h (ddX9_drift (1, .i2l, 1) (List.mem_of_getElem? (i := 1) rfl)) ?_
  refine k_lconst (v := 1) h (ddX9_drift (2, .lconst 1, 1) (List.mem_of_getElem? (i := 2) rfl)) (by decide) ?_
  refine k_ldc2 (v := 99) h (ddX9_drift (3, .ldc2_w 233, 3) (List.mem_of_getElem? (i := 3) rfl)) (List.mem_cons_of_mem _ gw741) ?_
  refine k_callS h hl (aX9_in l) ⟨rfl, rfl⟩ (n := 3) (by decide +kernel) (q_gS gw608 gw607 gw606 gw605) ⟨by decide, by decide⟩ (ddX9_drift (6, .invokestatic 68, 3) (List.mem_of_getElem? (i := 4) rfl)) ?_
  refine k_ifne h (ddX9_drift (9, .ifCond .ne 6, 3) (List.mem_of_getElem? (i := 5) rfl)) (tgt := 15) (by decide) ?_ ?_
  · exact sX9_drift_15 hl hQ h
  · exact sX9_drift_12 hl hQ h
theorem sX9_drift_126 {l : Launch} {X : q_CX} (hl : X.2.1 = l) (hQ : q_QM X) (h : q_OK X yX9_drift cX9_drift 6 (some .int) rmX9_drift (Cond.code yX9_drift cX9_drift 6 (some .int) :: q_G)) : q_SK X 6 126 (BX9_drift_126) := by
  refine k_iload_n (i := 2) h (ddX9_drift (126, .iload_n 2, 1) (List.mem_of_getElem? (i := 69) rfl)) rfl ?_
  exact k_iret h hQ (ddX9_drift (127, .ireturn, 1) (List.mem_of_getElem? (i := 70) rfl))
theorem sX9_drift_111 {l : Launch} {X : q_CX} (hl : X.2.1 = l) (hQ : q_QM X) (h : q_OK X yX9_drift cX9_drift 6 (some .int) rmX9_drift (Cond.code yX9_drift cX9_drift 6 (some .int) :: q_G)) : q_SK X 6 111 (BX9_drift_111) := by
  refine k_iload_n (i := 2) h (ddX9_drift (111, .iload_n 2, 1) (List.mem_of_getElem? (i := 61) rfl)) rfl ?_
  refine k_aload_n (i := 0) h (ddX9_drift (112, .aload_n 0, 1) (List.mem_of_getElem? (i := 62) rfl)) rfl ?_
  refine k_iload (i := 4) h (ddX9_drift (113, .iload 4, 2) (List.mem_of_getElem? (i := 63) rfl)) ?_
  refine k_callV h hl (aX9_pass l) (ci := 9) (C := RX9) (T := TX9) (N := 33) rfl ⟨rfl, rfl⟩ (n := 1) (by decide +kernel) (q_gV gw726 gw727 gw728 gw606 gw725) ⟨by decide, by decide⟩ (ddX9_drift (115, .invokevirtual 215, 3) (List.mem_of_getElem? (i := 64) rfl)) ?_
  refine k_iadd h (ddX9_drift (118, .iadd, 1) (List.mem_of_getElem? (i := 65) rfl)) ?_
  refine k_istore_n (i := 2) h (ddX9_drift (119, .istore_n 2, 1) (List.mem_of_getElem? (i := 66) rfl)) rfl (by decide) ?_
  refine k_iinc (d := 1) h (ddX9_drift (120, .iinc 3 1, 3) (List.mem_of_getElem? (i := 67) rfl)) (by decide) (by decide) ?_
  refine k_goto h (ddX9_drift (123, .goto (-87), 3) (List.mem_of_getElem? (i := 68) rfl)) (tgt := 36) (by decide) ?_
  exact k_cut
theorem sX9_drift_105 {l : Launch} {X : q_CX} (hl : X.2.1 = l) (hQ : q_QM X) (h : q_OK X yX9_drift cX9_drift 6 (some .int) rmX9_drift (Cond.code yX9_drift cX9_drift 6 (some .int) :: q_G)) : q_SK X 6 105 (BX9_drift_105) := by
  refine k_aload_n (i := 0) h (ddX9_drift (105, .aload_n 0, 1) (List.mem_of_getElem? (i := 58) rfl)) rfl ?_
  refine k_callV h hl (aX9_wayByDraw l) (ci := 9) (C := RX9) (T := TX9) (N := 33) rfl ⟨rfl, rfl⟩ (n := 0) (by decide +kernel) (q_gV gw743 gw744 gw745 gw606 gw742) ⟨by decide, by decide⟩ (ddX9_drift (106, .invokevirtual 235, 3) (List.mem_of_getElem? (i := 59) rfl)) ?_
  refine k_istore (i := 4) h (ddX9_drift (109, .istore 4, 2) (List.mem_of_getElem? (i := 60) rfl)) (by decide) ?_
  exact sX9_drift_111 hl hQ h
theorem sX9_drift_58 {l : Launch} {X : q_CX} (hl : X.2.1 = l) (hQ : q_QM X) (h : q_OK X yX9_drift cX9_drift 6 (some .int) rmX9_drift (Cond.code yX9_drift cX9_drift 6 (some .int) :: q_G)) : q_SK X 6 58 (BX9_drift_58) := by
  refine k_aload_n (i := 0) h (ddX9_drift (58, .aload_n 0, 1) (List.mem_of_getElem? (i := 32) rfl)) rfl ?_
  refine k_aload_n (i := 0) h (ddX9_drift (59, .aload_n 0, 1) (List.mem_of_getElem? (i := 33) rfl)) rfl ?_
  refine k_getf (ci := 9) (j := 7) (C := RX9) (T := TX9) (N := 33) h rfl (fun w hw => List.mem_cons_of_mem _ (q_inX9 w hw)) (by decide) (List.mem_cons_of_mem _ gw669) (ddX9_drift (60, .getfield 150, 3) (List.mem_of_getElem? (i := 34) rfl)) ?_
  refine k_callV h hl (aX9_draw l) (ci := 9) (C := RX9) (T := TX9) (N := 33) rfl ⟨rfl, rfl⟩ (n := 1) (by decide +kernel) (q_gV gw738 gw739 gw740 gw606 gw737) ⟨by decide, by decide⟩ (ddX9_drift (63, .invokevirtual 230, 3) (List.mem_of_getElem? (i := 35) rfl)) ?_
  refine k_istore (i := 5) h (ddX9_drift (66, .istore 5, 2) (List.mem_of_getElem? (i := 36) rfl)) (by decide) ?_
  refine k_aload_n (i := 0) h (ddX9_drift (68, .aload_n 0, 1) (List.mem_of_getElem? (i := 37) rfl)) rfl ?_
  refine k_getf (ci := 9) (j := 0) (C := RX9) (T := TX9) (N := 33) h rfl (fun w hw => List.mem_cons_of_mem _ (q_inX9 w hw)) (by decide) (List.mem_cons_of_mem _ gw586) (ddX9_drift (69, .getfield 7, 3) (List.mem_of_getElem? (i := 38) rfl)) ?_
  refine k_iload (i := 5) h (ddX9_drift (72, .iload 5, 2) (List.mem_of_getElem? (i := 39) rfl)) ?_
  refine k_aload_n (i := 0) h (ddX9_drift (74, .aload_n 0, 1) (List.mem_of_getElem? (i := 40) rfl)) rfl ?_
  refine k_getf (ci := 9) (j := 0) (C := RX9) (T := TX9) (N := 33) h rfl (fun w hw => List.mem_cons_of_mem _ (q_inX9 w hw)) (by decide) (List.mem_cons_of_mem _ gw586) (ddX9_drift (75, .getfield 7, 3) (List.mem_of_getElem? (i := 41) rfl)) ?_
  refine k_iload (i := 5) h (ddX9_drift (78, .iload 5, 2) (List.mem_of_getElem? (i := 42) rfl)) ?_
  refine k_iald h (ddX9_drift (80, .iaload, 1) (List.mem_of_getElem? (i := 43) rfl)) ?_
  refine k_aload_n (i := 0) h (ddX9_drift (81, .aload_n 0, 1) (List.mem_of_getElem? (i := 44) rfl)) rfl ?_
  refine k_aload_n (i := 0) h (ddX9_drift (82, .aload_n 0, 1) (List.mem_of_getElem? (i := 45) rfl)) rfl ?_
  refine k_getf (ci := 9) (j := 3) (C := RX9) (T := TX9) (N := 33) h rfl (fun w hw => List.mem_cons_of_mem _ (q_inX9 w hw)) (by decide) (List.mem_cons_of_mem _ gw589) (ddX9_drift (83, .getfield 20, 3) (List.mem_of_getElem? (i := 46) rfl)) ?_
  refine k_iload (i := 5) h (ddX9_drift (86, .iload 5, 2) (List.mem_of_getElem? (i := 47) rfl)) ?_
  refine k_iald h (ddX9_drift (88, .iaload, 1) (List.mem_of_getElem? (i := 48) rfl)) ?_
  refine k_callV h hl (aX9_draw l) (ci := 9) (C := RX9) (T := TX9) (N := 33) rfl ⟨rfl, rfl⟩ (n := 1) (by decide +kernel) (q_gV gw738 gw739 gw740 gw606 gw737) ⟨by decide, by decide⟩ (ddX9_drift (89, .invokevirtual 230, 3) (List.mem_of_getElem? (i := 49) rfl)) ?_
  refine k_iadd h (ddX9_drift (92, .iadd, 1) (List.mem_of_getElem? (i := 50) rfl)) ?_
  refine k_aload_n (i := 0) h (ddX9_drift (93, .aload_n 0, 1) (List.mem_of_getElem? (i := 51) rfl)) rfl ?_
  refine k_getf (ci := 9) (j := 3) (C := RX9) (T := TX9) (N := 33) h rfl (fun w hw => List.mem_cons_of_mem _ (q_inX9 w hw)) (by decide) (List.mem_cons_of_mem _ gw589) (ddX9_drift (94, .getfield 20, 3) (List.mem_of_getElem? (i := 52) rfl)) ?_
  refine k_iload (i := 5) h (ddX9_drift (97, .iload 5, 2) (List.mem_of_getElem? (i := 53) rfl)) ?_
  refine k_iald h (ddX9_drift (99, .iaload, 1) (List.mem_of_getElem? (i := 54) rfl)) ?_
  refine k_irem h (ddX9_drift (100, .irem, 1) (List.mem_of_getElem? (i := 55) rfl)) ?_
  refine k_iast h (ddX9_drift (101, .iastore, 1) (List.mem_of_getElem? (i := 56) rfl)) ?_
  refine k_goto h (ddX9_drift (102, .goto 9, 3) (List.mem_of_getElem? (i := 57) rfl)) (tgt := 111) (by decide) ?_
  exact sX9_drift_111 hl hQ h
theorem sX9_drift_41 {l : Launch} {X : q_CX} (hl : X.2.1 = l) (hQ : q_QM X) (h : q_OK X yX9_drift cX9_drift 6 (some .int) rmX9_drift (Cond.code yX9_drift cX9_drift 6 (some .int) :: q_G)) : q_SK X 6 41 (BX9_drift_41) := by
  refine k_aload_n (i := 0) h (ddX9_drift (41, .aload_n 0, 1) (List.mem_of_getElem? (i := 23) rfl)) rfl ?_
  refine k_getf (ci := 9) (j := 0) (C := RX9) (T := TX9) (N := 33) h rfl (fun w hw => List.mem_cons_of_mem _ (q_inX9 w hw)) (by decide) (List.mem_cons_of_mem _ gw586) (ddX9_drift (42, .getfield 7, 3) (List.mem_of_getElem? (i := 24) rfl)) ?_
  refine k_iconst (v := 3) h (ddX9_drift (45, .iconst 3, 1) (List.mem_of_getElem? (i := 25) rfl)) (by decide) ?_
  refine k_iald h (ddX9_drift (46, .iaload, 1) (List.mem_of_getElem? (i := 26) rfl)) ?_
  refine k_istore (i := 4) h (ddX9_drift (47, .istore 4, 2) (List.mem_of_getElem? (i := 27) rfl)) (by decide) ?_
  refine k_aload_n (i := 0) h (ddX9_drift (49, .aload_n 0, 1) (List.mem_of_getElem? (i := 28) rfl)) rfl ?_
  refine k_bipush (v := 8) h (ddX9_drift (50, .bipush 8, 2) (List.mem_of_getElem? (i := 29) rfl)) (by decide) ?_
  refine k_callV h hl (aX9_draw l) (ci := 9) (C := RX9) (T := TX9) (N := 33) rfl ⟨rfl, rfl⟩ (n := 1) (by decide +kernel) (q_gV gw738 gw739 gw740 gw606 gw737) ⟨by decide, by decide⟩ (ddX9_drift (52, .invokevirtual 230, 3) (List.mem_of_getElem? (i := 30) rfl)) ?_
  refine k_ifne h (ddX9_drift (55, .ifCond .ne 50, 3) (List.mem_of_getElem? (i := 31) rfl)) (tgt := 105) (by decide) ?_ ?_
  · exact sX9_drift_105 hl hQ h
  · exact sX9_drift_58 hl hQ h
theorem sX9_drift_36 {l : Launch} {X : q_CX} (hl : X.2.1 = l) (hQ : q_QM X) (h : q_OK X yX9_drift cX9_drift 6 (some .int) rmX9_drift (Cond.code yX9_drift cX9_drift 6 (some .int) :: q_G)) : q_SK X 6 36 (BX9_drift_36) := by
  refine k_iload_n (i := 3) h (ddX9_drift (36, .iload_n 3, 1) (List.mem_of_getElem? (i := 20) rfl)) rfl ?_
  refine k_iload_n (i := 1) h (ddX9_drift (37, .iload_n 1, 1) (List.mem_of_getElem? (i := 21) rfl)) rfl ?_
  refine k_icge h (ddX9_drift (38, .if_icmp .ge 88, 3) (List.mem_of_getElem? (i := 22) rfl)) (tgt := 126) (by decide) ?_ ?_
  · exact sX9_drift_126 hl hQ h
  · exact sX9_drift_41 hl hQ h
theorem aX9_drift (l : Launch) (as : List Value) (sh : q_Sh) (m : q_Mm) (R : q_KR) (hw : wX9_drift as sh m R) : q_AM l yX9_drift (Cond.code yX9_drift cX9_drift 6 (some .int) :: q_G) rmX9_drift as sh m R := by
  refine q_met (code := TX9_drift) (by decide) (fun X hl hQ _ h pc => ?_) hw.1 hw.2
  unfold TX9_drift
  exact k_at (sX9_drift_0 hl hQ h) (k_at (sX9_drift_36 hl hQ h) (k_no))
/-! TumblingRockModel.next(III)I -/
abbrev dlX9_next : List (Nat × (Instr × Nat)) := [(0, .aload_n 0, 1), (1, .iload_n 1, 1), (2, .invokevirtual 197, 3), (5, .ifCond .ne 6, 3), (8, .ldc 196, 2), (10, .ireturn, 1), (11, .iload_n 2, 1), (12, .invokestatic 209, 3), (15, .ifCond .eq 13, 3), (18, .iload_n 3, 1), (19, .i2l, 1), (20, .lconst 0, 1), (21, .lconst 1, 1), (22, .invokestatic 68, 3), (25, .ifCond .ne 6, 3), (28, .ldc 72, 2), (30, .ireturn, 1), (31, .iconst 0, 1), (32, .istore 4, 2), (34, .iload 4, 2), (36, .aload_n 0, 1), (37, .getfield 39, 3), (40, .if_icmp .ge 21, 3), (43, .aload_n 0, 1), (44, .iload_n 1, 1), (45, .iload_n 2, 1), (46, .iload 4, 2), (48, .iadd, 1), (49, .invokevirtual 182, 3), (52, .ifCond .ne 9, 3), (55, .iinc 4 1, 3), (58, .goto (-24), 3), (61, .iload 4, 2), (63, .aload_n 0, 1), (64, .getfield 39, 3), (67, .if_icmp .ne 5, 3), (70, .iconst (-1), 1), (71, .ireturn, 1), (72, .iconst 0, 1), (73, .istore 5, 2), (75, .iload 5, 2), (77, .aload_n 0, 1), (78, .getfield 39, 3), (81, .if_icmp .ge 24, 3), (84, .aload_n 0, 1), (85, .iload_n 1, 1), (86, .iload_n 2, 1), (87, .iload 4, 2), (89, .iadd, 1), (90, .iload 5, 2), (92, .iadd, 1), (93, .invokevirtual 182, 3), (96, .ifCond .eq 9, 3), (99, .iinc 5 1, 3), (102, .goto (-27), 3), (105, .iload_n 3, 1), (106, .ifCond .ne 8, 3), (109, .iload 4, 2), (111, .goto 5, 3), (114, .iload 5, 2), (116, .ireturn, 1)]
theorem ddX9_next : ∀ q ∈ dlX9_next, decode cX9_next q.1 = .ok q.2 := by decide +kernel
theorem sX9_next_28 {l : Launch} {X : q_CX} (hl : X.2.1 = l) (hQ : q_QM X) (h : q_OK X yX9_next cX9_next 6 (some .int) rmX9_next (Cond.code yX9_next cX9_next 6 (some .int) :: q_G)) : q_SK X 6 28 (BX9_next_28) := by
  refine k_ldc (v := (-1000000002)) h (ddX9_next (28, .ldc 72, 2) (List.mem_of_getElem? (i := 15) rfl)) (List.mem_cons_of_mem _ gw609) ?_
  exact k_iret h hQ (ddX9_next (30, .ireturn, 1) (List.mem_of_getElem? (i := 16) rfl))
theorem sX9_next_31 {l : Launch} {X : q_CX} (hl : X.2.1 = l) (hQ : q_QM X) (h : q_OK X yX9_next cX9_next 6 (some .int) rmX9_next (Cond.code yX9_next cX9_next 6 (some .int) :: q_G)) : q_SK X 6 31 (BX9_next_31) := by
  refine k_iconst (v := 0) h (ddX9_next (31, .iconst 0, 1) (List.mem_of_getElem? (i := 17) rfl)) (by decide) ?_
  refine k_istore (i := 4) h (ddX9_next (32, .istore 4, 2) (List.mem_of_getElem? (i := 18) rfl)) (by decide) ?_
  exact k_cut
theorem sX9_next_18 {l : Launch} {X : q_CX} (hl : X.2.1 = l) (hQ : q_QM X) (h : q_OK X yX9_next cX9_next 6 (some .int) rmX9_next (Cond.code yX9_next cX9_next 6 (some .int) :: q_G)) : q_SK X 6 18 (BX9_next_18) := by
  refine k_iload_n (i := 3) h (ddX9_next (18, .iload_n 3, 1) (List.mem_of_getElem? (i := 9) rfl)) rfl ?_
  refine k_i2l h (ddX9_next (19, .i2l, 1) (List.mem_of_getElem? (i := 10) rfl)) ?_
  refine k_lconst (v := 0) h (ddX9_next (20, .lconst 0, 1) (List.mem_of_getElem? (i := 11) rfl)) (by decide) ?_
  refine k_lconst (v := 1) h (ddX9_next (21, .lconst 1, 1) (List.mem_of_getElem? (i := 12) rfl)) (by decide) ?_
  refine k_callS h hl (aX9_in l) ⟨rfl, rfl⟩ (n := 3) (by decide +kernel) (q_gS gw608 gw607 gw606 gw605) ⟨by decide, by decide⟩ (ddX9_next (22, .invokestatic 68, 3) (List.mem_of_getElem? (i := 13) rfl)) ?_
  refine k_ifne h (ddX9_next (25, .ifCond .ne 6, 3) (List.mem_of_getElem? (i := 14) rfl)) (tgt := 31) (by decide) ?_ ?_
  · exact sX9_next_31 hl hQ h
  · exact sX9_next_28 hl hQ h
theorem sX9_next_11 {l : Launch} {X : q_CX} (hl : X.2.1 = l) (hQ : q_QM X) (h : q_OK X yX9_next cX9_next 6 (some .int) rmX9_next (Cond.code yX9_next cX9_next 6 (some .int) :: q_G)) : q_SK X 6 11 (BX9_next_11) := by
  refine k_iload_n (i := 2) h (ddX9_next (11, .iload_n 2, 1) (List.mem_of_getElem? (i := 6) rfl)) rfl ?_
  refine k_callS h hl (aX9_isStep l) ⟨rfl, rfl⟩ (n := 1) (by decide +kernel) (q_gS gw722 gw721 gw606 gw720) ⟨by decide, by decide⟩ (ddX9_next (12, .invokestatic 209, 3) (List.mem_of_getElem? (i := 7) rfl)) ?_
  refine k_ifeq h (ddX9_next (15, .ifCond .eq 13, 3) (List.mem_of_getElem? (i := 8) rfl)) (tgt := 28) (by decide) ?_ ?_
  · exact sX9_next_28 hl hQ h
  · exact sX9_next_18 hl hQ h
theorem sX9_next_8 {l : Launch} {X : q_CX} (hl : X.2.1 = l) (hQ : q_QM X) (h : q_OK X yX9_next cX9_next 6 (some .int) rmX9_next (Cond.code yX9_next cX9_next 6 (some .int) :: q_G)) : q_SK X 6 8 (BX9_next_8) := by
  refine k_ldc (v := (-1000000001)) h (ddX9_next (8, .ldc 196, 2) (List.mem_of_getElem? (i := 4) rfl)) (List.mem_cons_of_mem _ gw706) ?_
  exact k_iret h hQ (ddX9_next (10, .ireturn, 1) (List.mem_of_getElem? (i := 5) rfl))
theorem sX9_next_0 {l : Launch} {X : q_CX} (hl : X.2.1 = l) (hQ : q_QM X) (h : q_OK X yX9_next cX9_next 6 (some .int) rmX9_next (Cond.code yX9_next cX9_next 6 (some .int) :: q_G)) : q_SK X 6 0 (BX9_next_0) := by
  refine k_aload_n (i := 0) h (ddX9_next (0, .aload_n 0, 1) (List.mem_of_getElem? (i := 0) rfl)) rfl ?_
  refine k_iload_n (i := 1) h (ddX9_next (1, .iload_n 1, 1) (List.mem_of_getElem? (i := 1) rfl)) rfl ?_
  refine k_callV h hl (aX9_isPlace l) (ci := 9) (C := RX9) (T := TX9) (N := 33) rfl ⟨rfl, rfl⟩ (n := 1) (by decide +kernel) (q_gV gw708 gw709 gw710 gw606 gw707) ⟨by decide, by decide⟩ (ddX9_next (2, .invokevirtual 197, 3) (List.mem_of_getElem? (i := 2) rfl)) ?_
  refine k_ifne h (ddX9_next (5, .ifCond .ne 6, 3) (List.mem_of_getElem? (i := 3) rfl)) (tgt := 11) (by decide) ?_ ?_
  · exact sX9_next_11 hl hQ h
  · exact sX9_next_8 hl hQ h
theorem sX9_next_72 {l : Launch} {X : q_CX} (hl : X.2.1 = l) (hQ : q_QM X) (h : q_OK X yX9_next cX9_next 6 (some .int) rmX9_next (Cond.code yX9_next cX9_next 6 (some .int) :: q_G)) : q_SK X 6 72 (BX9_next_72) := by
  refine k_iconst (v := 0) h (ddX9_next (72, .iconst 0, 1) (List.mem_of_getElem? (i := 38) rfl)) (by decide) ?_
  refine k_istore (i := 5) h (ddX9_next (73, .istore 5, 2) (List.mem_of_getElem? (i := 39) rfl)) (by decide) ?_
  exact k_cut
theorem sX9_next_70 {l : Launch} {X : q_CX} (hl : X.2.1 = l) (hQ : q_QM X) (h : q_OK X yX9_next cX9_next 6 (some .int) rmX9_next (Cond.code yX9_next cX9_next 6 (some .int) :: q_G)) : q_SK X 6 70 (BX9_next_70) := by
  refine k_iconst (v := (-1)) h (ddX9_next (70, .iconst (-1), 1) (List.mem_of_getElem? (i := 36) rfl)) (by decide) ?_
  exact k_iret h hQ (ddX9_next (71, .ireturn, 1) (List.mem_of_getElem? (i := 37) rfl))
theorem sX9_next_61 {l : Launch} {X : q_CX} (hl : X.2.1 = l) (hQ : q_QM X) (h : q_OK X yX9_next cX9_next 6 (some .int) rmX9_next (Cond.code yX9_next cX9_next 6 (some .int) :: q_G)) : q_SK X 6 61 (BX9_next_61) := by
  refine k_iload (i := 4) h (ddX9_next (61, .iload 4, 2) (List.mem_of_getElem? (i := 32) rfl)) ?_
  refine k_aload_n (i := 0) h (ddX9_next (63, .aload_n 0, 1) (List.mem_of_getElem? (i := 33) rfl)) rfl ?_
  refine k_getf (ci := 9) (j := 22) (C := RX9) (T := TX9) (N := 33) h rfl (fun w hw => List.mem_cons_of_mem _ (q_inX9 w hw)) (by decide) (List.mem_cons_of_mem _ gw595) (ddX9_next (64, .getfield 39, 3) (List.mem_of_getElem? (i := 34) rfl)) ?_
  refine k_icne h (ddX9_next (67, .if_icmp .ne 5, 3) (List.mem_of_getElem? (i := 35) rfl)) (tgt := 72) (by decide) ?_ ?_
  · exact sX9_next_72 hl hQ h
  · exact sX9_next_70 hl hQ h
theorem sX9_next_55 {l : Launch} {X : q_CX} (hl : X.2.1 = l) (hQ : q_QM X) (h : q_OK X yX9_next cX9_next 6 (some .int) rmX9_next (Cond.code yX9_next cX9_next 6 (some .int) :: q_G)) : q_SK X 6 55 (BX9_next_55) := by
  refine k_iinc (d := 1) h (ddX9_next (55, .iinc 4 1, 3) (List.mem_of_getElem? (i := 30) rfl)) (by decide) (by decide) ?_
  refine k_goto h (ddX9_next (58, .goto (-24), 3) (List.mem_of_getElem? (i := 31) rfl)) (tgt := 34) (by decide) ?_
  exact k_cut
theorem sX9_next_43 {l : Launch} {X : q_CX} (hl : X.2.1 = l) (hQ : q_QM X) (h : q_OK X yX9_next cX9_next 6 (some .int) rmX9_next (Cond.code yX9_next cX9_next 6 (some .int) :: q_G)) : q_SK X 6 43 (BX9_next_43) := by
  refine k_aload_n (i := 0) h (ddX9_next (43, .aload_n 0, 1) (List.mem_of_getElem? (i := 23) rfl)) rfl ?_
  refine k_iload_n (i := 1) h (ddX9_next (44, .iload_n 1, 1) (List.mem_of_getElem? (i := 24) rfl)) rfl ?_
  refine k_iload_n (i := 2) h (ddX9_next (45, .iload_n 2, 1) (List.mem_of_getElem? (i := 25) rfl)) rfl ?_
  refine k_iload (i := 4) h (ddX9_next (46, .iload 4, 2) (List.mem_of_getElem? (i := 26) rfl)) ?_
  refine k_iadd h (ddX9_next (48, .iadd, 1) (List.mem_of_getElem? (i := 27) rfl)) ?_
  refine k_callV h hl (aX9_isLit l) (ci := 9) (C := RX9) (T := TX9) (N := 33) rfl ⟨rfl, rfl⟩ (n := 2) (by decide +kernel) (q_gV gw692 gw693 gw694 gw606 gw691) ⟨by decide, by decide⟩ (ddX9_next (49, .invokevirtual 182, 3) (List.mem_of_getElem? (i := 28) rfl)) ?_
  refine k_ifne h (ddX9_next (52, .ifCond .ne 9, 3) (List.mem_of_getElem? (i := 29) rfl)) (tgt := 61) (by decide) ?_ ?_
  · exact sX9_next_61 hl hQ h
  · exact sX9_next_55 hl hQ h
theorem sX9_next_34 {l : Launch} {X : q_CX} (hl : X.2.1 = l) (hQ : q_QM X) (h : q_OK X yX9_next cX9_next 6 (some .int) rmX9_next (Cond.code yX9_next cX9_next 6 (some .int) :: q_G)) : q_SK X 6 34 (BX9_next_34) := by
  refine k_iload (i := 4) h (ddX9_next (34, .iload 4, 2) (List.mem_of_getElem? (i := 19) rfl)) ?_
  refine k_aload_n (i := 0) h (ddX9_next (36, .aload_n 0, 1) (List.mem_of_getElem? (i := 20) rfl)) rfl ?_
  refine k_getf (ci := 9) (j := 22) (C := RX9) (T := TX9) (N := 33) h rfl (fun w hw => List.mem_cons_of_mem _ (q_inX9 w hw)) (by decide) (List.mem_cons_of_mem _ gw595) (ddX9_next (37, .getfield 39, 3) (List.mem_of_getElem? (i := 21) rfl)) ?_
  refine k_icge h (ddX9_next (40, .if_icmp .ge 21, 3) (List.mem_of_getElem? (i := 22) rfl)) (tgt := 61) (by decide) ?_ ?_
  · exact sX9_next_61 hl hQ h
  · exact sX9_next_43 hl hQ h
theorem sX9_next_116 {l : Launch} {X : q_CX} (hl : X.2.1 = l) (hQ : q_QM X) (h : q_OK X yX9_next cX9_next 6 (some .int) rmX9_next (Cond.code yX9_next cX9_next 6 (some .int) :: q_G)) : q_SK X 6 116 (BX9_next_116) := by
  exact k_iret h hQ (ddX9_next (116, .ireturn, 1) (List.mem_of_getElem? (i := 60) rfl))
theorem sX9_next_114 {l : Launch} {X : q_CX} (hl : X.2.1 = l) (hQ : q_QM X) (h : q_OK X yX9_next cX9_next 6 (some .int) rmX9_next (Cond.code yX9_next cX9_next 6 (some .int) :: q_G)) : q_SK X 6 114 (BX9_next_114) := by
  refine k_iload (i := 5) h (ddX9_next (114, .iload 5, 2) (List.mem_of_getElem? (i := 59) rfl)) ?_
  exact sX9_next_116 hl hQ h
theorem sX9_next_109 {l : Launch} {X : q_CX} (hl : X.2.1 = l) (hQ : q_QM X) (h : q_OK X yX9_next cX9_next 6 (some .int) rmX9_next (Cond.code yX9_next cX9_next 6 (some .int) :: q_G)) : q_SK X 6 109 (BX9_next_109) := by
  refine k_iload (i := 4) h (ddX9_next (109, .iload 4, 2) (List.mem_of_getElem? (i := 57) rfl)) ?_
  refine k_goto h (ddX9_next (111, .goto 5, 3) (List.mem_of_getElem? (i := 58) rfl)) (tgt := 116) (by decide) ?_
  exact sX9_next_116 hl hQ h
theorem sX9_next_105 {l : Launch} {X : q_CX} (hl : X.2.1 = l) (hQ : q_QM X) (h : q_OK X yX9_next cX9_next 6 (some .int) rmX9_next (Cond.code yX9_next cX9_next 6 (some .int) :: q_G)) : q_SK X 6 105 (BX9_next_105) := by
  refine k_iload_n (i := 3) h (ddX9_next (105, .iload_n 3, 1) (List.mem_of_getElem? (i := 55) rfl)) rfl ?_
  refine k_ifne h (ddX9_next (106, .ifCond .ne 8, 3) (List.mem_of_getElem? (i := 56) rfl)) (tgt := 114) (by decide) ?_ ?_
  · exact sX9_next_114 hl hQ h
  · exact sX9_next_109 hl hQ h
theorem sX9_next_99 {l : Launch} {X : q_CX} (hl : X.2.1 = l) (hQ : q_QM X) (h : q_OK X yX9_next cX9_next 6 (some .int) rmX9_next (Cond.code yX9_next cX9_next 6 (some .int) :: q_G)) : q_SK X 6 99 (BX9_next_99) := by
  refine k_iinc (d := 1) h (ddX9_next (99, .iinc 5 1, 3) (List.mem_of_getElem? (i := 53) rfl)) (by decide) (by decide) ?_
  refine k_goto h (ddX9_next (102, .goto (-27), 3) (List.mem_of_getElem? (i := 54) rfl)) (tgt := 75) (by decide) ?_
  exact k_cut
theorem sX9_next_84 {l : Launch} {X : q_CX} (hl : X.2.1 = l) (hQ : q_QM X) (h : q_OK X yX9_next cX9_next 6 (some .int) rmX9_next (Cond.code yX9_next cX9_next 6 (some .int) :: q_G)) : q_SK X 6 84 (BX9_next_84) := by
  refine k_aload_n (i := 0) h (ddX9_next (84, .aload_n 0, 1) (List.mem_of_getElem? (i := 44) rfl)) rfl ?_
  refine k_iload_n (i := 1) h (ddX9_next (85, .iload_n 1, 1) (List.mem_of_getElem? (i := 45) rfl)) rfl ?_
  refine k_iload_n (i := 2) h (ddX9_next (86, .iload_n 2, 1) (List.mem_of_getElem? (i := 46) rfl)) rfl ?_
  refine k_iload (i := 4) h (ddX9_next (87, .iload 4, 2) (List.mem_of_getElem? (i := 47) rfl)) ?_
  refine k_iadd h (ddX9_next (89, .iadd, 1) (List.mem_of_getElem? (i := 48) rfl)) ?_
  refine k_iload (i := 5) h (ddX9_next (90, .iload 5, 2) (List.mem_of_getElem? (i := 49) rfl)) ?_
  refine k_iadd h (ddX9_next (92, .iadd, 1) (List.mem_of_getElem? (i := 50) rfl)) ?_
  refine k_callV h hl (aX9_isLit l) (ci := 9) (C := RX9) (T := TX9) (N := 33) rfl ⟨rfl, rfl⟩ (n := 2) (by decide +kernel) (q_gV gw692 gw693 gw694 gw606 gw691) ⟨by decide, by decide⟩ (ddX9_next (93, .invokevirtual 182, 3) (List.mem_of_getElem? (i := 51) rfl)) ?_
  refine k_ifeq h (ddX9_next (96, .ifCond .eq 9, 3) (List.mem_of_getElem? (i := 52) rfl)) (tgt := 105) (by decide) ?_ ?_
  · exact sX9_next_105 hl hQ h
  · exact sX9_next_99 hl hQ h
theorem sX9_next_75 {l : Launch} {X : q_CX} (hl : X.2.1 = l) (hQ : q_QM X) (h : q_OK X yX9_next cX9_next 6 (some .int) rmX9_next (Cond.code yX9_next cX9_next 6 (some .int) :: q_G)) : q_SK X 6 75 (BX9_next_75) := by
  refine k_iload (i := 5) h (ddX9_next (75, .iload 5, 2) (List.mem_of_getElem? (i := 40) rfl)) ?_
  refine k_aload_n (i := 0) h (ddX9_next (77, .aload_n 0, 1) (List.mem_of_getElem? (i := 41) rfl)) rfl ?_
  refine k_getf (ci := 9) (j := 22) (C := RX9) (T := TX9) (N := 33) h rfl (fun w hw => List.mem_cons_of_mem _ (q_inX9 w hw)) (by decide) (List.mem_cons_of_mem _ gw595) (ddX9_next (78, .getfield 39, 3) (List.mem_of_getElem? (i := 42) rfl)) ?_
  refine k_icge h (ddX9_next (81, .if_icmp .ge 24, 3) (List.mem_of_getElem? (i := 43) rfl)) (tgt := 105) (by decide) ?_ ?_
  · exact sX9_next_105 hl hQ h
  · exact sX9_next_84 hl hQ h
theorem aX9_next (l : Launch) (as : List Value) (sh : q_Sh) (m : q_Mm) (R : q_KR) (hw : wX9_next as sh m R) : q_AM l yX9_next (Cond.code yX9_next cX9_next 6 (some .int) :: q_G) rmX9_next as sh m R := by
  refine q_met (code := TX9_next) (by decide) (fun X hl hQ _ h pc => ?_) hw.1 hw.2
  unfold TX9_next
  exact k_at (sX9_next_0 hl hQ h) (k_at (sX9_next_34 hl hQ h) (k_at (sX9_next_75 hl hQ h) (k_no)))
/-! TumblingRockModel.share(II)I -/
abbrev dlX9_share : List (Nat × (Instr × Nat)) := [(0, .aload_n 0, 1), (1, .iload_n 1, 1), (2, .invokevirtual 197, 3), (5, .ifCond .ne 6, 3), (8, .ldc 196, 2), (10, .ireturn, 1), (11, .iload_n 2, 1), (12, .i2l, 1), (13, .lconst 0, 1), (14, .lconst 1, 1), (15, .invokestatic 68, 3), (18, .ifCond .ne 6, 3), (21, .ldc 72, 2), (23, .ireturn, 1), (24, .aload_n 0, 1), (25, .iload_n 1, 1), (26, .invokevirtual 206, 3), (29, .istore_n 3, 1), (30, .aload_n 0, 1), (31, .getfield 39, 3), (34, .iload_n 3, 1), (35, .invokestatic 168, 3), (38, .istore 4, 2), (40, .iload_n 2, 1), (41, .ifCond .ne 10, 3), (44, .iload_n 3, 1), (45, .iload 4, 2), (47, .idiv, 1), (48, .goto 10, 3), (51, .aload_n 0, 1), (52, .getfield 39, 3), (55, .iload 4, 2), (57, .idiv, 1), (58, .ireturn, 1)]
theorem ddX9_share : ∀ q ∈ dlX9_share, decode cX9_share q.1 = .ok q.2 := by decide +kernel
theorem sX9_share_58 {l : Launch} {X : q_CX} (hl : X.2.1 = l) (hQ : q_QM X) (h : q_OK X yX9_share cX9_share 5 (some .int) rmX9_share (Cond.code yX9_share cX9_share 5 (some .int) :: q_G)) : q_SK X 5 58 (BX9_share_58) := by
  exact k_iret h hQ (ddX9_share (58, .ireturn, 1) (List.mem_of_getElem? (i := 33) rfl))
theorem sX9_share_51 {l : Launch} {X : q_CX} (hl : X.2.1 = l) (hQ : q_QM X) (h : q_OK X yX9_share cX9_share 5 (some .int) rmX9_share (Cond.code yX9_share cX9_share 5 (some .int) :: q_G)) : q_SK X 5 51 (BX9_share_51) := by
  refine k_aload_n (i := 0) h (ddX9_share (51, .aload_n 0, 1) (List.mem_of_getElem? (i := 29) rfl)) rfl ?_
  refine k_getf (ci := 9) (j := 22) (C := RX9) (T := TX9) (N := 33) h rfl (fun w hw => List.mem_cons_of_mem _ (q_inX9 w hw)) (by decide) (List.mem_cons_of_mem _ gw595) (ddX9_share (52, .getfield 39, 3) (List.mem_of_getElem? (i := 30) rfl)) ?_
  refine k_iload (i := 4) h (ddX9_share (55, .iload 4, 2) (List.mem_of_getElem? (i := 31) rfl)) ?_
  refine k_idiv h (ddX9_share (57, .idiv, 1) (List.mem_of_getElem? (i := 32) rfl)) ?_
  exact sX9_share_58 hl hQ h
theorem sX9_share_44 {l : Launch} {X : q_CX} (hl : X.2.1 = l) (hQ : q_QM X) (h : q_OK X yX9_share cX9_share 5 (some .int) rmX9_share (Cond.code yX9_share cX9_share 5 (some .int) :: q_G)) : q_SK X 5 44 (BX9_share_44) := by
  refine k_iload_n (i := 3) h (ddX9_share (44, .iload_n 3, 1) (List.mem_of_getElem? (i := 25) rfl)) rfl ?_
  refine k_iload (i := 4) h (ddX9_share (45, .iload 4, 2) (List.mem_of_getElem? (i := 26) rfl)) ?_
  refine k_idiv h (ddX9_share (47, .idiv, 1) (List.mem_of_getElem? (i := 27) rfl)) ?_
  refine k_goto h (ddX9_share (48, .goto 10, 3) (List.mem_of_getElem? (i := 28) rfl)) (tgt := 58) (by decide) ?_
  exact sX9_share_58 hl hQ h
theorem sX9_share_24 {l : Launch} {X : q_CX} (hl : X.2.1 = l) (hQ : q_QM X) (h : q_OK X yX9_share cX9_share 5 (some .int) rmX9_share (Cond.code yX9_share cX9_share 5 (some .int) :: q_G)) : q_SK X 5 24 (BX9_share_24) := by
  refine k_aload_n (i := 0) h (ddX9_share (24, .aload_n 0, 1) (List.mem_of_getElem? (i := 14) rfl)) rfl ?_
  refine k_iload_n (i := 1) h (ddX9_share (25, .iload_n 1, 1) (List.mem_of_getElem? (i := 15) rfl)) rfl ?_
  refine k_callV h hl (aX9_litSteps l) (ci := 9) (C := RX9) (T := TX9) (N := 33) rfl ⟨rfl, rfl⟩ (n := 1) (by decide +kernel) (q_gV gw717 gw718 gw719 gw606 gw716) ⟨by decide, by decide⟩ (ddX9_share (26, .invokevirtual 206, 3) (List.mem_of_getElem? (i := 16) rfl)) ?_
  refine k_istore_n (i := 3) h (ddX9_share (29, .istore_n 3, 1) (List.mem_of_getElem? (i := 17) rfl)) rfl (by decide) ?_
  refine k_aload_n (i := 0) h (ddX9_share (30, .aload_n 0, 1) (List.mem_of_getElem? (i := 18) rfl)) rfl ?_
  refine k_getf (ci := 9) (j := 22) (C := RX9) (T := TX9) (N := 33) h rfl (fun w hw => List.mem_cons_of_mem _ (q_inX9 w hw)) (by decide) (List.mem_cons_of_mem _ gw595) (ddX9_share (31, .getfield 39, 3) (List.mem_of_getElem? (i := 19) rfl)) ?_
  refine k_iload_n (i := 3) h (ddX9_share (34, .iload_n 3, 1) (List.mem_of_getElem? (i := 20) rfl)) rfl ?_
  refine k_callS h hl (aX9_common l) ⟨rfl, rfl⟩ (n := 2) (by decide +kernel) (q_gS gw677 gw676 gw606 gw675) ⟨by decide, by decide⟩ (ddX9_share (35, .invokestatic 168, 3) (List.mem_of_getElem? (i := 21) rfl)) ?_
  refine k_istore (i := 4) h (ddX9_share (38, .istore 4, 2) (List.mem_of_getElem? (i := 22) rfl)) (by decide) ?_
  refine k_iload_n (i := 2) h (ddX9_share (40, .iload_n 2, 1) (List.mem_of_getElem? (i := 23) rfl)) rfl ?_
  refine k_ifne h (ddX9_share (41, .ifCond .ne 10, 3) (List.mem_of_getElem? (i := 24) rfl)) (tgt := 51) (by decide) ?_ ?_
  · exact sX9_share_51 hl hQ h
  · exact sX9_share_44 hl hQ h
theorem sX9_share_21 {l : Launch} {X : q_CX} (hl : X.2.1 = l) (hQ : q_QM X) (h : q_OK X yX9_share cX9_share 5 (some .int) rmX9_share (Cond.code yX9_share cX9_share 5 (some .int) :: q_G)) : q_SK X 5 21 (BX9_share_21) := by
  refine k_ldc (v := (-1000000002)) h (ddX9_share (21, .ldc 72, 2) (List.mem_of_getElem? (i := 12) rfl)) (List.mem_cons_of_mem _ gw609) ?_
  exact k_iret h hQ (ddX9_share (23, .ireturn, 1) (List.mem_of_getElem? (i := 13) rfl))
theorem sX9_share_11 {l : Launch} {X : q_CX} (hl : X.2.1 = l) (hQ : q_QM X) (h : q_OK X yX9_share cX9_share 5 (some .int) rmX9_share (Cond.code yX9_share cX9_share 5 (some .int) :: q_G)) : q_SK X 5 11 (BX9_share_11) := by
  refine k_iload_n (i := 2) h (ddX9_share (11, .iload_n 2, 1) (List.mem_of_getElem? (i := 6) rfl)) rfl ?_
  refine k_i2l h (ddX9_share (12, .i2l, 1) (List.mem_of_getElem? (i := 7) rfl)) ?_
  refine k_lconst (v := 0) h (ddX9_share (13, .lconst 0, 1) (List.mem_of_getElem? (i := 8) rfl)) (by decide) ?_
  refine k_lconst (v := 1) h (ddX9_share (14, .lconst 1, 1) (List.mem_of_getElem? (i := 9) rfl)) (by decide) ?_
  refine k_callS h hl (aX9_in l) ⟨rfl, rfl⟩ (n := 3) (by decide +kernel) (q_gS gw608 gw607 gw606 gw605) ⟨by decide, by decide⟩ (ddX9_share (15, .invokestatic 68, 3) (List.mem_of_getElem? (i := 10) rfl)) ?_
  refine k_ifne h (ddX9_share (18, .ifCond .ne 6, 3) (List.mem_of_getElem? (i := 11) rfl)) (tgt := 24) (by decide) ?_ ?_
  · exact sX9_share_24 hl hQ h
  · exact sX9_share_21 hl hQ h
theorem sX9_share_8 {l : Launch} {X : q_CX} (hl : X.2.1 = l) (hQ : q_QM X) (h : q_OK X yX9_share cX9_share 5 (some .int) rmX9_share (Cond.code yX9_share cX9_share 5 (some .int) :: q_G)) : q_SK X 5 8 (BX9_share_8) := by
  refine k_ldc (v := (-1000000001)) h (ddX9_share (8, .ldc 196, 2) (List.mem_of_getElem? (i := 4) rfl)) (List.mem_cons_of_mem _ gw706) ?_
  exact k_iret h hQ (ddX9_share (10, .ireturn, 1) (List.mem_of_getElem? (i := 5) rfl))
theorem sX9_share_0 {l : Launch} {X : q_CX} (hl : X.2.1 = l) (hQ : q_QM X) (h : q_OK X yX9_share cX9_share 5 (some .int) rmX9_share (Cond.code yX9_share cX9_share 5 (some .int) :: q_G)) : q_SK X 5 0 (BX9_share_0) := by
  refine k_aload_n (i := 0) h (ddX9_share (0, .aload_n 0, 1) (List.mem_of_getElem? (i := 0) rfl)) rfl ?_
  refine k_iload_n (i := 1) h (ddX9_share (1, .iload_n 1, 1) (List.mem_of_getElem? (i := 1) rfl)) rfl ?_
  refine k_callV h hl (aX9_isPlace l) (ci := 9) (C := RX9) (T := TX9) (N := 33) rfl ⟨rfl, rfl⟩ (n := 1) (by decide +kernel) (q_gV gw708 gw709 gw710 gw606 gw707) ⟨by decide, by decide⟩ (ddX9_share (2, .invokevirtual 197, 3) (List.mem_of_getElem? (i := 2) rfl)) ?_
  refine k_ifne h (ddX9_share (5, .ifCond .ne 6, 3) (List.mem_of_getElem? (i := 3) rfl)) (tgt := 11) (by decide) ?_ ?_
  · exact sX9_share_11 hl hQ h
  · exact sX9_share_8 hl hQ h
theorem aX9_share (l : Launch) (as : List Value) (sh : q_Sh) (m : q_Mm) (R : q_KR) (hw : wX9_share as sh m R) : q_AM l yX9_share (Cond.code yX9_share cX9_share 5 (some .int) :: q_G) rmX9_share as sh m R := by
  refine q_met (code := TX9_share) (by decide) (fun X hl hQ _ h pc => ?_) hw.1 hw.2
  unfold TX9_share
  exact k_at (sX9_share_0 hl hQ h) (k_no)
/-! TumblingRockModel.stand(IIII)I -/
abbrev dlX9_stand : List (Nat × (Instr × Nat)) := [(0, .iload_n 1, 1), (1, .i2l, 1), (2, .lconst 0, 1), (3, .ldc2_w 218, 3), (6, .invokestatic 68, 3), (9, .ifCond .eq 35, 3), (12, .iload_n 2, 1), (13, .i2l, 1), (14, .lconst 0, 1), (15, .ldc2_w 218, 3), (18, .invokestatic 68, 3), (21, .ifCond .eq 23, 3), (24, .iload_n 3, 1), (25, .i2l, 1), (26, .lconst 0, 1), (27, .ldc2_w 218, 3), (30, .invokestatic 68, 3), (33, .ifCond .eq 11, 3), (36, .iload 4, 2), (38, .invokestatic 209, 3), (41, .ifCond .ne 6, 3), (44, .ldc 72, 2), (46, .ireturn, 1), (47, .iconst 0, 1), (48, .istore 5, 2), (50, .iload 5, 2), (52, .aload_n 0, 1), (53, .getfield 39, 3), (56, .if_icmp .ge 97, 3), (59, .iconst 1, 1), (60, .istore 6, 2), (62, .iconst 0, 1), (63, .istore 7, 2), (65, .iload 7, 2), (67, .aload_n 0, 1), (68, .getfield 150, 3), (71, .if_icmp .ge 65, 3), (74, .iload 6, 2), (76, .ifCond .eq 51, 3), (79, .iload 4, 2), (81, .iload 5, 2), (83, .iadd, 1), (84, .aload_n 0, 1), (85, .getfield 7, 3), (88, .iload 7, 2), (90, .iaload, 1), (91, .iadd, 1), (92, .aload_n 0, 1), (93, .getfield 20, 3), (96, .iload 7, 2), (98, .iaload, 1), (99, .irem, 1), (100, .iload 7, 2), (102, .ifCond .ne 7, 3), (105, .iload_n 1, 1), (106, .goto 14, 3), (109, .iload 7, 2), (111, .iconst 1, 1), (112, .if_icmp .ne 7, 3), (115, .iload_n 2, 1), (116, .goto 4, 3), (119, .iload_n 3, 1), (120, .if_icmp .ne 7, 3), (123, .iconst 1, 1), (124, .goto 4, 3), (127, .iconst 0, 1), (128, .istore 6, 2), (130, .iinc 7 1, 3), (133, .goto (-68), 3), (136, .iload 6, 2), (138, .ifCond .eq 9, 3), (141, .iload 4, 2), (143, .iload 5, 2), (145, .iadd, 1), (146, .ireturn, 1), (147, .iinc 5 1, 3), (150, .goto (-100), 3), (153, .iconst (-1), 1), (154, .ireturn, 1)]
theorem ddX9_stand : ∀ q ∈ dlX9_stand, decode cX9_stand q.1 = .ok q.2 := by decide +kernel
theorem sX9_stand_44 {l : Launch} {X : q_CX} (hl : X.2.1 = l) (hQ : q_QM X) (h : q_OK X yX9_stand cX9_stand 8 (some .int) rmX9_stand (Cond.code yX9_stand cX9_stand 8 (some .int) :: q_G)) : q_SK X 8 44 (BX9_stand_44) := by
  refine k_ldc (v := (-1000000002)) h (ddX9_stand (44, .ldc 72, 2) (List.mem_of_getElem? (i := 21) rfl)) (List.mem_cons_of_mem _ gw609) ?_
  exact k_iret h hQ (ddX9_stand (46, .ireturn, 1) (List.mem_of_getElem? (i := 22) rfl))
theorem sX9_stand_47 {l : Launch} {X : q_CX} (hl : X.2.1 = l) (hQ : q_QM X) (h : q_OK X yX9_stand cX9_stand 8 (some .int) rmX9_stand (Cond.code yX9_stand cX9_stand 8 (some .int) :: q_G)) : q_SK X 8 47 (BX9_stand_47) := by
  refine k_iconst (v := 0) h (ddX9_stand (47, .iconst 0, 1) (List.mem_of_getElem? (i := 23) rfl)) (by decide) ?_
  refine k_istore (i := 5) h (ddX9_stand (48, .istore 5, 2) (List.mem_of_getElem? (i := 24) rfl)) (by decide) ?_
  exact k_cut
theorem sX9_stand_36 {l : Launch} {X : q_CX} (hl : X.2.1 = l) (hQ : q_QM X) (h : q_OK X yX9_stand cX9_stand 8 (some .int) rmX9_stand (Cond.code yX9_stand cX9_stand 8 (some .int) :: q_G)) : q_SK X 8 36 (BX9_stand_36) := by
  refine k_iload (i := 4) h (ddX9_stand (36, .iload 4, 2) (List.mem_of_getElem? (i := 18) rfl)) ?_
  refine k_callS h hl (aX9_isStep l) ⟨rfl, rfl⟩ (n := 1) (by decide +kernel) (q_gS gw722 gw721 gw606 gw720) ⟨by decide, by decide⟩ (ddX9_stand (38, .invokestatic 209, 3) (List.mem_of_getElem? (i := 19) rfl)) ?_
  refine k_ifne h (ddX9_stand (41, .ifCond .ne 6, 3) (List.mem_of_getElem? (i := 20) rfl)) (tgt := 47) (by decide) ?_ ?_
  · exact sX9_stand_47 hl hQ h
  · exact sX9_stand_44 hl hQ h
theorem sX9_stand_24 {l : Launch} {X : q_CX} (hl : X.2.1 = l) (hQ : q_QM X) (h : q_OK X yX9_stand cX9_stand 8 (some .int) rmX9_stand (Cond.code yX9_stand cX9_stand 8 (some .int) :: q_G)) : q_SK X 8 24 (BX9_stand_24) := by
  refine k_iload_n (i := 3) h (ddX9_stand (24, .iload_n 3, 1) (List.mem_of_getElem? (i := 12) rfl)) rfl ?_
  refine k_i2l h (ddX9_stand (25, .i2l, 1) (List.mem_of_getElem? (i := 13) rfl)) ?_
  refine k_lconst (v := 0) h (ddX9_stand (26, .lconst 0, 1) (List.mem_of_getElem? (i := 14) rfl)) (by decide) ?_
  refine k_ldc2 (v := 11) h (ddX9_stand (27, .ldc2_w 218, 3) (List.mem_of_getElem? (i := 15) rfl)) (List.mem_cons_of_mem _ gw729) ?_
  refine k_callS h hl (aX9_in l) ⟨rfl, rfl⟩ (n := 3) (by decide +kernel) (q_gS gw608 gw607 gw606 gw605) ⟨by decide, by decide⟩ (ddX9_stand (30, .invokestatic 68, 3) (List.mem_of_getElem? (i := 16) rfl)) ?_
  refine k_ifeq h (ddX9_stand (33, .ifCond .eq 11, 3) (List.mem_of_getElem? (i := 17) rfl)) (tgt := 44) (by decide) ?_ ?_
  · exact sX9_stand_44 hl hQ h
  · exact sX9_stand_36 hl hQ h
theorem sX9_stand_12 {l : Launch} {X : q_CX} (hl : X.2.1 = l) (hQ : q_QM X) (h : q_OK X yX9_stand cX9_stand 8 (some .int) rmX9_stand (Cond.code yX9_stand cX9_stand 8 (some .int) :: q_G)) : q_SK X 8 12 (BX9_stand_12) := by
  refine k_iload_n (i := 2) h (ddX9_stand (12, .iload_n 2, 1) (List.mem_of_getElem? (i := 6) rfl)) rfl ?_
  refine k_i2l h (ddX9_stand (13, .i2l, 1) (List.mem_of_getElem? (i := 7) rfl)) ?_
  refine k_lconst (v := 0) h (ddX9_stand (14, .lconst 0, 1) (List.mem_of_getElem? (i := 8) rfl)) (by decide) ?_
  refine k_ldc2 (v := 11) h (ddX9_stand (15, .ldc2_w 218, 3) (List.mem_of_getElem? (i := 9) rfl)) (List.mem_cons_of_mem _ gw729) ?_
  refine k_callS h hl (aX9_in l) ⟨rfl, rfl⟩ (n := 3) (by decide +kernel) (q_gS gw608 gw607 gw606 gw605) ⟨by decide, by decide⟩ (ddX9_stand (18, .invokestatic 68, 3) (List.mem_of_getElem? (i := 10) rfl)) ?_
  refine k_ifeq h (ddX9_stand (21, .ifCond .eq 23, 3) (List.mem_of_getElem? (i := 11) rfl)) (tgt := 44) (by decide) ?_ ?_
  · exact sX9_stand_44 hl hQ h
  · exact sX9_stand_24 hl hQ h
theorem sX9_stand_0 {l : Launch} {X : q_CX} (hl : X.2.1 = l) (hQ : q_QM X) (h : q_OK X yX9_stand cX9_stand 8 (some .int) rmX9_stand (Cond.code yX9_stand cX9_stand 8 (some .int) :: q_G)) : q_SK X 8 0 (BX9_stand_0) := by
  refine k_iload_n (i := 1) h (ddX9_stand (0, .iload_n 1, 1) (List.mem_of_getElem? (i := 0) rfl)) rfl ?_
  refine k_i2l h (ddX9_stand (1, .i2l, 1) (List.mem_of_getElem? (i := 1) rfl)) ?_
  refine k_lconst (v := 0) h (ddX9_stand (2, .lconst 0, 1) (List.mem_of_getElem? (i := 2) rfl)) (by decide) ?_
  refine k_ldc2 (v := 11) h (ddX9_stand (3, .ldc2_w 218, 3) (List.mem_of_getElem? (i := 3) rfl)) (List.mem_cons_of_mem _ gw729) ?_
  refine k_callS h hl (aX9_in l) ⟨rfl, rfl⟩ (n := 3) (by decide +kernel) (q_gS gw608 gw607 gw606 gw605) ⟨by decide, by decide⟩ (ddX9_stand (6, .invokestatic 68, 3) (List.mem_of_getElem? (i := 4) rfl)) ?_
  refine k_ifeq h (ddX9_stand (9, .ifCond .eq 35, 3) (List.mem_of_getElem? (i := 5) rfl)) (tgt := 44) (by decide) ?_ ?_
  · exact sX9_stand_44 hl hQ h
  · exact sX9_stand_12 hl hQ h
theorem sX9_stand_153 {l : Launch} {X : q_CX} (hl : X.2.1 = l) (hQ : q_QM X) (h : q_OK X yX9_stand cX9_stand 8 (some .int) rmX9_stand (Cond.code yX9_stand cX9_stand 8 (some .int) :: q_G)) : q_SK X 8 153 (BX9_stand_153) := by
  refine k_iconst (v := (-1)) h (ddX9_stand (153, .iconst (-1), 1) (List.mem_of_getElem? (i := 77) rfl)) (by decide) ?_
  exact k_iret h hQ (ddX9_stand (154, .ireturn, 1) (List.mem_of_getElem? (i := 78) rfl))
theorem sX9_stand_59 {l : Launch} {X : q_CX} (hl : X.2.1 = l) (hQ : q_QM X) (h : q_OK X yX9_stand cX9_stand 8 (some .int) rmX9_stand (Cond.code yX9_stand cX9_stand 8 (some .int) :: q_G)) : q_SK X 8 59 (BX9_stand_59) := by
  refine k_iconst (v := 1) h (ddX9_stand (59, .iconst 1, 1) (List.mem_of_getElem? (i := 29) rfl)) (by decide) ?_
  refine k_istore (i := 6) h (ddX9_stand (60, .istore 6, 2) (List.mem_of_getElem? (i := 30) rfl)) (by decide) ?_
  refine k_iconst (v := 0) h (ddX9_stand (62, .iconst 0, 1) (List.mem_of_getElem? (i := 31) rfl)) (by decide) ?_
  refine k_istore (i := 7) h (ddX9_stand (63, .istore 7, 2) (List.mem_of_getElem? (i := 32) rfl)) (by decide) ?_
  exact k_cut
theorem sX9_stand_50 {l : Launch} {X : q_CX} (hl : X.2.1 = l) (hQ : q_QM X) (h : q_OK X yX9_stand cX9_stand 8 (some .int) rmX9_stand (Cond.code yX9_stand cX9_stand 8 (some .int) :: q_G)) : q_SK X 8 50 (BX9_stand_50) := by
  refine k_iload (i := 5) h (ddX9_stand (50, .iload 5, 2) (List.mem_of_getElem? (i := 25) rfl)) ?_
  refine k_aload_n (i := 0) h (ddX9_stand (52, .aload_n 0, 1) (List.mem_of_getElem? (i := 26) rfl)) rfl ?_
  refine k_getf (ci := 9) (j := 22) (C := RX9) (T := TX9) (N := 33) h rfl (fun w hw => List.mem_cons_of_mem _ (q_inX9 w hw)) (by decide) (List.mem_cons_of_mem _ gw595) (ddX9_stand (53, .getfield 39, 3) (List.mem_of_getElem? (i := 27) rfl)) ?_
  refine k_icge h (ddX9_stand (56, .if_icmp .ge 97, 3) (List.mem_of_getElem? (i := 28) rfl)) (tgt := 153) (by decide) ?_ ?_
  · exact sX9_stand_153 hl hQ h
  · exact sX9_stand_59 hl hQ h
theorem sX9_stand_147 {l : Launch} {X : q_CX} (hl : X.2.1 = l) (hQ : q_QM X) (h : q_OK X yX9_stand cX9_stand 8 (some .int) rmX9_stand (Cond.code yX9_stand cX9_stand 8 (some .int) :: q_G)) : q_SK X 8 147 (BX9_stand_147) := by
  refine k_iinc (d := 1) h (ddX9_stand (147, .iinc 5 1, 3) (List.mem_of_getElem? (i := 75) rfl)) (by decide) (by decide) ?_
  refine k_goto h (ddX9_stand (150, .goto (-100), 3) (List.mem_of_getElem? (i := 76) rfl)) (tgt := 50) (by decide) ?_
  exact k_cut
theorem sX9_stand_141 {l : Launch} {X : q_CX} (hl : X.2.1 = l) (hQ : q_QM X) (h : q_OK X yX9_stand cX9_stand 8 (some .int) rmX9_stand (Cond.code yX9_stand cX9_stand 8 (some .int) :: q_G)) : q_SK X 8 141 (BX9_stand_141) := by
  refine k_iload (i := 4) h (ddX9_stand (141, .iload 4, 2) (List.mem_of_getElem? (i := 71) rfl)) ?_
  refine k_iload (i := 5) h (ddX9_stand (143, .iload 5, 2) (List.mem_of_getElem? (i := 72) rfl)) ?_
  refine k_iadd h (ddX9_stand (145, .iadd, 1) (List.mem_of_getElem? (i := 73) rfl)) ?_
  exact k_iret h hQ (ddX9_stand (146, .ireturn, 1) (List.mem_of_getElem? (i := 74) rfl))
theorem sX9_stand_136 {l : Launch} {X : q_CX} (hl : X.2.1 = l) (hQ : q_QM X) (h : q_OK X yX9_stand cX9_stand 8 (some .int) rmX9_stand (Cond.code yX9_stand cX9_stand 8 (some .int) :: q_G)) : q_SK X 8 136 (BX9_stand_136) := by
  refine k_iload (i := 6) h (ddX9_stand (136, .iload 6, 2) (List.mem_of_getElem? (i := 69) rfl)) ?_
  refine k_ifeq h (ddX9_stand (138, .ifCond .eq 9, 3) (List.mem_of_getElem? (i := 70) rfl)) (tgt := 147) (by decide) ?_ ?_
  · exact sX9_stand_147 hl hQ h
  · exact sX9_stand_141 hl hQ h
theorem sX9_stand_128 {l : Launch} {X : q_CX} (hl : X.2.1 = l) (hQ : q_QM X) (h : q_OK X yX9_stand cX9_stand 8 (some .int) rmX9_stand (Cond.code yX9_stand cX9_stand 8 (some .int) :: q_G)) : q_SK X 8 128 (BX9_stand_128) := by
  refine k_istore (i := 6) h (ddX9_stand (128, .istore 6, 2) (List.mem_of_getElem? (i := 66) rfl)) (by decide) ?_
  refine k_iinc (d := 1) h (ddX9_stand (130, .iinc 7 1, 3) (List.mem_of_getElem? (i := 67) rfl)) (by decide) (by decide) ?_
  refine k_goto h (ddX9_stand (133, .goto (-68), 3) (List.mem_of_getElem? (i := 68) rfl)) (tgt := 65) (by decide) ?_
  exact k_cut
theorem sX9_stand_127 {l : Launch} {X : q_CX} (hl : X.2.1 = l) (hQ : q_QM X) (h : q_OK X yX9_stand cX9_stand 8 (some .int) rmX9_stand (Cond.code yX9_stand cX9_stand 8 (some .int) :: q_G)) : q_SK X 8 127 (BX9_stand_127) := by
  refine k_iconst (v := 0) h (ddX9_stand (127, .iconst 0, 1) (List.mem_of_getElem? (i := 65) rfl)) (by decide) ?_
  exact sX9_stand_128 hl hQ h
theorem sX9_stand_123 {l : Launch} {X : q_CX} (hl : X.2.1 = l) (hQ : q_QM X) (h : q_OK X yX9_stand cX9_stand 8 (some .int) rmX9_stand (Cond.code yX9_stand cX9_stand 8 (some .int) :: q_G)) : q_SK X 8 123 (BX9_stand_123) := by
  refine k_iconst (v := 1) h (ddX9_stand (123, .iconst 1, 1) (List.mem_of_getElem? (i := 63) rfl)) (by decide) ?_
  refine k_goto h (ddX9_stand (124, .goto 4, 3) (List.mem_of_getElem? (i := 64) rfl)) (tgt := 128) (by decide) ?_
  exact sX9_stand_128 hl hQ h
theorem sX9_stand_120 {l : Launch} {X : q_CX} (hl : X.2.1 = l) (hQ : q_QM X) (h : q_OK X yX9_stand cX9_stand 8 (some .int) rmX9_stand (Cond.code yX9_stand cX9_stand 8 (some .int) :: q_G)) : q_SK X 8 120 (BX9_stand_120) := by
  refine k_icne h (ddX9_stand (120, .if_icmp .ne 7, 3) (List.mem_of_getElem? (i := 62) rfl)) (tgt := 127) (by decide) ?_ ?_
  · exact sX9_stand_127 hl hQ h
  · exact sX9_stand_123 hl hQ h
theorem sX9_stand_119 {l : Launch} {X : q_CX} (hl : X.2.1 = l) (hQ : q_QM X) (h : q_OK X yX9_stand cX9_stand 8 (some .int) rmX9_stand (Cond.code yX9_stand cX9_stand 8 (some .int) :: q_G)) : q_SK X 8 119 (BX9_stand_119) := by
  refine k_iload_n (i := 3) h (ddX9_stand (119, .iload_n 3, 1) (List.mem_of_getElem? (i := 61) rfl)) rfl ?_
  exact sX9_stand_120 hl hQ h
theorem sX9_stand_115 {l : Launch} {X : q_CX} (hl : X.2.1 = l) (hQ : q_QM X) (h : q_OK X yX9_stand cX9_stand 8 (some .int) rmX9_stand (Cond.code yX9_stand cX9_stand 8 (some .int) :: q_G)) : q_SK X 8 115 (BX9_stand_115) := by
  refine k_iload_n (i := 2) h (ddX9_stand (115, .iload_n 2, 1) (List.mem_of_getElem? (i := 59) rfl)) rfl ?_
  refine k_goto h (ddX9_stand (116, .goto 4, 3) (List.mem_of_getElem? (i := 60) rfl)) (tgt := 120) (by decide) ?_
  exact sX9_stand_120 hl hQ h
theorem sX9_stand_109 {l : Launch} {X : q_CX} (hl : X.2.1 = l) (hQ : q_QM X) (h : q_OK X yX9_stand cX9_stand 8 (some .int) rmX9_stand (Cond.code yX9_stand cX9_stand 8 (some .int) :: q_G)) : q_SK X 8 109 (BX9_stand_109) := by
  refine k_iload (i := 7) h (ddX9_stand (109, .iload 7, 2) (List.mem_of_getElem? (i := 56) rfl)) ?_
  refine k_iconst (v := 1) h (ddX9_stand (111, .iconst 1, 1) (List.mem_of_getElem? (i := 57) rfl)) (by decide) ?_
  refine k_icne h (ddX9_stand (112, .if_icmp .ne 7, 3) (List.mem_of_getElem? (i := 58) rfl)) (tgt := 119) (by decide) ?_ ?_
  · exact sX9_stand_119 hl hQ h
  · exact sX9_stand_115 hl hQ h
theorem sX9_stand_105 {l : Launch} {X : q_CX} (hl : X.2.1 = l) (hQ : q_QM X) (h : q_OK X yX9_stand cX9_stand 8 (some .int) rmX9_stand (Cond.code yX9_stand cX9_stand 8 (some .int) :: q_G)) : q_SK X 8 105 (BX9_stand_105) := by
  refine k_iload_n (i := 1) h (ddX9_stand (105, .iload_n 1, 1) (List.mem_of_getElem? (i := 54) rfl)) rfl ?_
  refine k_goto h (ddX9_stand (106, .goto 14, 3) (List.mem_of_getElem? (i := 55) rfl)) (tgt := 120) (by decide) ?_
  exact sX9_stand_120 hl hQ h
theorem sX9_stand_79 {l : Launch} {X : q_CX} (hl : X.2.1 = l) (hQ : q_QM X) (h : q_OK X yX9_stand cX9_stand 8 (some .int) rmX9_stand (Cond.code yX9_stand cX9_stand 8 (some .int) :: q_G)) : q_SK X 8 79 (BX9_stand_79) := by
  refine k_iload (i := 4) h (ddX9_stand (79, .iload 4, 2) (List.mem_of_getElem? (i := 39) rfl)) ?_
  refine k_iload (i := 5) h (ddX9_stand (81, .iload 5, 2) (List.mem_of_getElem? (i := 40) rfl)) ?_
  refine k_iadd h (ddX9_stand (83, .iadd, 1) (List.mem_of_getElem? (i := 41) rfl)) ?_
  refine k_aload_n (i := 0) h (ddX9_stand (84, .aload_n 0, 1) (List.mem_of_getElem? (i := 42) rfl)) rfl ?_
  refine k_getf (ci := 9) (j := 0) (C := RX9) (T := TX9) (N := 33) h rfl (fun w hw => List.mem_cons_of_mem _ (q_inX9 w hw)) (by decide) (List.mem_cons_of_mem _ gw586) (ddX9_stand (85, .getfield 7, 3) (List.mem_of_getElem? (i := 43) rfl)) ?_
  refine k_iload (i := 7) h (ddX9_stand (88, .iload 7, 2) (List.mem_of_getElem? (i := 44) rfl)) ?_
  refine k_iald h (ddX9_stand (90, .iaload, 1) (List.mem_of_getElem? (i := 45) rfl)) ?_
  refine k_iadd h (ddX9_stand (91, .iadd, 1) (List.mem_of_getElem? (i := 46) rfl)) ?_
  refine k_aload_n (i := 0) h (ddX9_stand (92, .aload_n 0, 1) (List.mem_of_getElem? (i := 47) rfl)) rfl ?_
  refine k_getf (ci := 9) (j := 3) (C := RX9) (T := TX9) (N := 33) h rfl (fun w hw => List.mem_cons_of_mem _ (q_inX9 w hw)) (by decide) (List.mem_cons_of_mem _ gw589) (ddX9_stand (93, .getfield 20, 3) (List.mem_of_getElem? (i := 48) rfl)) ?_
  refine k_iload (i := 7) h (ddX9_stand (96, .iload 7, 2) (List.mem_of_getElem? (i := 49) rfl)) ?_
  refine k_iald h (ddX9_stand (98, .iaload, 1) (List.mem_of_getElem? (i := 50) rfl)) ?_
  refine k_irem h (ddX9_stand (99, .irem, 1) (List.mem_of_getElem? (i := 51) rfl)) ?_
  refine k_iload (i := 7) h (ddX9_stand (100, .iload 7, 2) (List.mem_of_getElem? (i := 52) rfl)) ?_
  refine k_ifne h (ddX9_stand (102, .ifCond .ne 7, 3) (List.mem_of_getElem? (i := 53) rfl)) (tgt := 109) (by decide) ?_ ?_
  · exact sX9_stand_109 hl hQ h
  · exact sX9_stand_105 hl hQ h
theorem sX9_stand_74 {l : Launch} {X : q_CX} (hl : X.2.1 = l) (hQ : q_QM X) (h : q_OK X yX9_stand cX9_stand 8 (some .int) rmX9_stand (Cond.code yX9_stand cX9_stand 8 (some .int) :: q_G)) : q_SK X 8 74 (BX9_stand_74) := by
  refine k_iload (i := 6) h (ddX9_stand (74, .iload 6, 2) (List.mem_of_getElem? (i := 37) rfl)) ?_
  refine k_ifeq h (ddX9_stand (76, .ifCond .eq 51, 3) (List.mem_of_getElem? (i := 38) rfl)) (tgt := 127) (by decide) ?_ ?_
  · exact sX9_stand_127 hl hQ h
  · exact sX9_stand_79 hl hQ h
theorem sX9_stand_65 {l : Launch} {X : q_CX} (hl : X.2.1 = l) (hQ : q_QM X) (h : q_OK X yX9_stand cX9_stand 8 (some .int) rmX9_stand (Cond.code yX9_stand cX9_stand 8 (some .int) :: q_G)) : q_SK X 8 65 (BX9_stand_65) := by
  refine k_iload (i := 7) h (ddX9_stand (65, .iload 7, 2) (List.mem_of_getElem? (i := 33) rfl)) ?_
  refine k_aload_n (i := 0) h (ddX9_stand (67, .aload_n 0, 1) (List.mem_of_getElem? (i := 34) rfl)) rfl ?_
  refine k_getf (ci := 9) (j := 7) (C := RX9) (T := TX9) (N := 33) h rfl (fun w hw => List.mem_cons_of_mem _ (q_inX9 w hw)) (by decide) (List.mem_cons_of_mem _ gw669) (ddX9_stand (68, .getfield 150, 3) (List.mem_of_getElem? (i := 35) rfl)) ?_
  refine k_icge h (ddX9_stand (71, .if_icmp .ge 65, 3) (List.mem_of_getElem? (i := 36) rfl)) (tgt := 136) (by decide) ?_ ?_
  · exact sX9_stand_136 hl hQ h
  · exact sX9_stand_74 hl hQ h
theorem aX9_stand (l : Launch) (as : List Value) (sh : q_Sh) (m : q_Mm) (R : q_KR) (hw : wX9_stand as sh m R) : q_AM l yX9_stand (Cond.code yX9_stand cX9_stand 8 (some .int) :: q_G) rmX9_stand as sh m R := by
  refine q_met (code := TX9_stand) (by decide) (fun X hl hQ _ h pc => ?_) hw.1 hw.2
  unfold TX9_stand
  exact k_at (sX9_stand_0 hl hQ h) (k_at (sX9_stand_50 hl hQ h) (k_at (sX9_stand_65 hl hQ h) (k_no)))
/-! TumblingRockModel.mayGo(II)Z -/
abbrev dlX9_mayGo : List (Nat × (Instr × Nat)) := [(0, .iload_n 1, 1), (1, .iload_n 2, 1), (2, .if_icmp .eq 16, 3), (5, .aload_n 0, 1), (6, .getfield 26, 3), (9, .iload_n 1, 1), (10, .iaload, 1), (11, .iload_n 2, 1), (12, .invokestatic 118, 3), (15, .ifCond .eq 7, 3), (18, .iconst 1, 1), (19, .goto 4, 3), (22, .iconst 0, 1), (23, .ireturn, 1)]
theorem ddX9_mayGo : ∀ q ∈ dlX9_mayGo, decode cX9_mayGo q.1 = .ok q.2 := by decide +kernel
theorem sX9_mayGo_23 {l : Launch} {X : q_CX} (hl : X.2.1 = l) (hQ : q_QM X) (h : q_OK X yX9_mayGo cX9_mayGo 3 (some .boolean) rmX9_mayGo (Cond.code yX9_mayGo cX9_mayGo 3 (some .boolean) :: q_G)) : q_SK X 3 23 (BX9_mayGo_23) := by
  exact k_zret h hQ (ddX9_mayGo (23, .ireturn, 1) (List.mem_of_getElem? (i := 13) rfl))
theorem sX9_mayGo_18 {l : Launch} {X : q_CX} (hl : X.2.1 = l) (hQ : q_QM X) (h : q_OK X yX9_mayGo cX9_mayGo 3 (some .boolean) rmX9_mayGo (Cond.code yX9_mayGo cX9_mayGo 3 (some .boolean) :: q_G)) : q_SK X 3 18 (BX9_mayGo_18) := by
  refine k_iconst (v := 1) h (ddX9_mayGo (18, .iconst 1, 1) (List.mem_of_getElem? (i := 10) rfl)) (by decide) ?_
  refine k_goto h (ddX9_mayGo (19, .goto 4, 3) (List.mem_of_getElem? (i := 11) rfl)) (tgt := 23) (by decide) ?_
  exact sX9_mayGo_23 hl hQ h
theorem sX9_mayGo_22 {l : Launch} {X : q_CX} (hl : X.2.1 = l) (hQ : q_QM X) (h : q_OK X yX9_mayGo cX9_mayGo 3 (some .boolean) rmX9_mayGo (Cond.code yX9_mayGo cX9_mayGo 3 (some .boolean) :: q_G)) : q_SK X 3 22 (BX9_mayGo_22) := by
  refine k_iconst (v := 0) h (ddX9_mayGo (22, .iconst 0, 1) (List.mem_of_getElem? (i := 12) rfl)) (by decide) ?_
  exact sX9_mayGo_23 hl hQ h
theorem sX9_mayGo_5 {l : Launch} {X : q_CX} (hl : X.2.1 = l) (hQ : q_QM X) (h : q_OK X yX9_mayGo cX9_mayGo 3 (some .boolean) rmX9_mayGo (Cond.code yX9_mayGo cX9_mayGo 3 (some .boolean) :: q_G)) : q_SK X 3 5 (BX9_mayGo_5) := by
  refine k_aload_n (i := 0) h (ddX9_mayGo (5, .aload_n 0, 1) (List.mem_of_getElem? (i := 3) rfl)) rfl ?_
  refine k_getf (ci := 9) (j := 5) (C := RX9) (T := TX9) (N := 33) h rfl (fun w hw => List.mem_cons_of_mem _ (q_inX9 w hw)) (by decide) (List.mem_cons_of_mem _ gw591) (ddX9_mayGo (6, .getfield 26, 3) (List.mem_of_getElem? (i := 4) rfl)) ?_
  refine k_iload_n (i := 1) h (ddX9_mayGo (9, .iload_n 1, 1) (List.mem_of_getElem? (i := 5) rfl)) rfl ?_
  refine k_iald h (ddX9_mayGo (10, .iaload, 1) (List.mem_of_getElem? (i := 6) rfl)) ?_
  refine k_iload_n (i := 2) h (ddX9_mayGo (11, .iload_n 2, 1) (List.mem_of_getElem? (i := 7) rfl)) rfl ?_
  refine k_callS h hl (aX9_has l) ⟨rfl, rfl⟩ (n := 2) (by decide +kernel) (q_gS gw638 gw637 gw606 gw636) ⟨by decide, by decide⟩ (ddX9_mayGo (12, .invokestatic 118, 3) (List.mem_of_getElem? (i := 8) rfl)) ?_
  refine k_ifeq h (ddX9_mayGo (15, .ifCond .eq 7, 3) (List.mem_of_getElem? (i := 9) rfl)) (tgt := 22) (by decide) ?_ ?_
  · exact sX9_mayGo_22 hl hQ h
  · exact sX9_mayGo_18 hl hQ h
theorem sX9_mayGo_0 {l : Launch} {X : q_CX} (hl : X.2.1 = l) (hQ : q_QM X) (h : q_OK X yX9_mayGo cX9_mayGo 3 (some .boolean) rmX9_mayGo (Cond.code yX9_mayGo cX9_mayGo 3 (some .boolean) :: q_G)) : q_SK X 3 0 (BX9_mayGo_0) := by
  refine k_iload_n (i := 1) h (ddX9_mayGo (0, .iload_n 1, 1) (List.mem_of_getElem? (i := 0) rfl)) rfl ?_
  refine k_iload_n (i := 2) h (ddX9_mayGo (1, .iload_n 2, 1) (List.mem_of_getElem? (i := 1) rfl)) rfl ?_
  refine k_iceq h (ddX9_mayGo (2, .if_icmp .eq 16, 3) (List.mem_of_getElem? (i := 2) rfl)) (tgt := 18) (by decide) ?_ ?_
  · exact sX9_mayGo_18 hl hQ h
  · exact sX9_mayGo_5 hl hQ h
theorem aX9_mayGo (l : Launch) (as : List Value) (sh : q_Sh) (m : q_Mm) (R : q_KR) (hw : wX9_mayGo as sh m R) : q_AM l yX9_mayGo (Cond.code yX9_mayGo cX9_mayGo 3 (some .boolean) :: q_G) rmX9_mayGo as sh m R := by
  refine q_met (code := TX9_mayGo) (by decide) (fun X hl hQ _ h pc => ?_) hw.1 hw.2
  unfold TX9_mayGo
  exact k_at (sX9_mayGo_0 hl hQ h) (k_no)
/-! TumblingRockModel.bestNext(III)I -/
abbrev dlX9_bestNext : List (Nat × (Instr × Nat)) := [(0, .iconst (-1), 1), (1, .istore 4, 2), (3, .iconst (-1), 1), (4, .istore 5, 2), (6, .iconst 0, 1), (7, .istore 6, 2), (9, .iload 6, 2), (11, .aload_n 0, 1), (12, .getfield 153, 3), (15, .if_icmp .ge 67, 3), (18, .aload_n 0, 1), (19, .iload_n 1, 1), (20, .iload 6, 2), (22, .invokevirtual 238, 3), (25, .ifCond .eq 33, 3), (28, .aload_n 0, 1), (29, .iload 6, 2), (31, .iload_n 2, 1), (32, .iconst 1, 1), (33, .iadd, 1), (34, .invokevirtual 182, 3), (37, .invokestatic 185, 3), (40, .aload_n 0, 1), (41, .getfield 45, 3), (44, .bipush 8, 2), (46, .iload_n 3, 1), (47, .iconst 1, 1), (48, .isub, 1), (49, .imul, 1), (50, .iload 6, 2), (52, .iadd, 1), (53, .iaload, 1), (54, .iadd, 1), (55, .goto 4, 3), (58, .iconst (-1), 1), (59, .istore 7, 2), (61, .iload 7, 2), (63, .iload 5, 2), (65, .if_icmp .le 11, 3), (68, .iload 6, 2), (70, .istore 4, 2), (72, .iload 7, 2), (74, .istore 5, 2), (76, .iinc 6 1, 3), (79, .goto (-70), 3), (82, .iload 4, 2), (84, .ireturn, 1)]
theorem ddX9_bestNext : ∀ q ∈ dlX9_bestNext, decode cX9_bestNext q.1 = .ok q.2 := by decide +kernel
theorem sX9_bestNext_0 {l : Launch} {X : q_CX} (hl : X.2.1 = l) (hQ : q_QM X) (h : q_OK X yX9_bestNext cX9_bestNext 8 (some .int) rmX9_bestNext (Cond.code yX9_bestNext cX9_bestNext 8 (some .int) :: q_G)) : q_SK X 8 0 (BX9_bestNext_0) := by
  refine k_iconst (v := (-1)) h (ddX9_bestNext (0, .iconst (-1), 1) (List.mem_of_getElem? (i := 0) rfl)) (by decide) ?_
  refine k_istore (i := 4) h (ddX9_bestNext (1, .istore 4, 2) (List.mem_of_getElem? (i := 1) rfl)) (by decide) ?_
  refine k_iconst (v := (-1)) h (ddX9_bestNext (3, .iconst (-1), 1) (List.mem_of_getElem? (i := 2) rfl)) (by decide) ?_
  refine k_istore (i := 5) h (ddX9_bestNext (4, .istore 5, 2) (List.mem_of_getElem? (i := 3) rfl)) (by decide) ?_
  refine k_iconst (v := 0) h (ddX9_bestNext (6, .iconst 0, 1) (List.mem_of_getElem? (i := 4) rfl)) (by decide) ?_
  refine k_istore (i := 6) h (ddX9_bestNext (7, .istore 6, 2) (List.mem_of_getElem? (i := 5) rfl)) (by decide) ?_
  exact k_cut
theorem sX9_bestNext_82 {l : Launch} {X : q_CX} (hl : X.2.1 = l) (hQ : q_QM X) (h : q_OK X yX9_bestNext cX9_bestNext 8 (some .int) rmX9_bestNext (Cond.code yX9_bestNext cX9_bestNext 8 (some .int) :: q_G)) : q_SK X 8 82 (BX9_bestNext_82) := by
  refine k_iload (i := 4) h (ddX9_bestNext (82, .iload 4, 2) (List.mem_of_getElem? (i := 45) rfl)) ?_
  exact k_iret h hQ (ddX9_bestNext (84, .ireturn, 1) (List.mem_of_getElem? (i := 46) rfl))
theorem sX9_bestNext_76 {l : Launch} {X : q_CX} (hl : X.2.1 = l) (hQ : q_QM X) (h : q_OK X yX9_bestNext cX9_bestNext 8 (some .int) rmX9_bestNext (Cond.code yX9_bestNext cX9_bestNext 8 (some .int) :: q_G)) : q_SK X 8 76 (BX9_bestNext_76) := by
  refine k_iinc (d := 1) h (ddX9_bestNext (76, .iinc 6 1, 3) (List.mem_of_getElem? (i := 43) rfl)) (by decide) (by decide) ?_
  refine k_goto h (ddX9_bestNext (79, .goto (-70), 3) (List.mem_of_getElem? (i := 44) rfl)) (tgt := 9) (by decide) ?_
  exact k_cut
theorem sX9_bestNext_68 {l : Launch} {X : q_CX} (hl : X.2.1 = l) (hQ : q_QM X) (h : q_OK X yX9_bestNext cX9_bestNext 8 (some .int) rmX9_bestNext (Cond.code yX9_bestNext cX9_bestNext 8 (some .int) :: q_G)) : q_SK X 8 68 (BX9_bestNext_68) := by
  refine k_iload (i := 6) h (ddX9_bestNext (68, .iload 6, 2) (List.mem_of_getElem? (i := 39) rfl)) ?_
  refine k_istore (i := 4) h (ddX9_bestNext (70, .istore 4, 2) (List.mem_of_getElem? (i := 40) rfl)) (by decide) ?_
  refine k_iload (i := 7) h (ddX9_bestNext (72, .iload 7, 2) (List.mem_of_getElem? (i := 41) rfl)) ?_
  refine k_istore (i := 5) h (ddX9_bestNext (74, .istore 5, 2) (List.mem_of_getElem? (i := 42) rfl)) (by decide) ?_
  exact sX9_bestNext_76 hl hQ h
theorem sX9_bestNext_59 {l : Launch} {X : q_CX} (hl : X.2.1 = l) (hQ : q_QM X) (h : q_OK X yX9_bestNext cX9_bestNext 8 (some .int) rmX9_bestNext (Cond.code yX9_bestNext cX9_bestNext 8 (some .int) :: q_G)) : q_SK X 8 59 (BX9_bestNext_59) := by
  refine k_istore (i := 7) h (ddX9_bestNext (59, .istore 7, 2) (List.mem_of_getElem? (i := 35) rfl)) (by decide) ?_
  refine k_iload (i := 7) h (ddX9_bestNext (61, .iload 7, 2) (List.mem_of_getElem? (i := 36) rfl)) ?_
  refine k_iload (i := 5) h (ddX9_bestNext (63, .iload 5, 2) (List.mem_of_getElem? (i := 37) rfl)) ?_
  refine k_icle h (ddX9_bestNext (65, .if_icmp .le 11, 3) (List.mem_of_getElem? (i := 38) rfl)) (tgt := 76) (by decide) ?_ ?_
  · exact sX9_bestNext_76 hl hQ h
  · exact sX9_bestNext_68 hl hQ h
theorem sX9_bestNext_58 {l : Launch} {X : q_CX} (hl : X.2.1 = l) (hQ : q_QM X) (h : q_OK X yX9_bestNext cX9_bestNext 8 (some .int) rmX9_bestNext (Cond.code yX9_bestNext cX9_bestNext 8 (some .int) :: q_G)) : q_SK X 8 58 (BX9_bestNext_58) := by
  refine k_iconst (v := (-1)) h (ddX9_bestNext (58, .iconst (-1), 1) (List.mem_of_getElem? (i := 34) rfl)) (by decide) ?_
  exact sX9_bestNext_59 hl hQ h
theorem sX9_bestNext_28 {l : Launch} {X : q_CX} (hl : X.2.1 = l) (hQ : q_QM X) (h : q_OK X yX9_bestNext cX9_bestNext 8 (some .int) rmX9_bestNext (Cond.code yX9_bestNext cX9_bestNext 8 (some .int) :: q_G)) : q_SK X 8 28 (BX9_bestNext_28) := by
  refine k_aload_n (i := 0) h (ddX9_bestNext (28, .aload_n 0, 1) (List.mem_of_getElem? (i := 15) rfl)) rfl ?_
  refine k_iload (i := 6) h (ddX9_bestNext (29, .iload 6, 2) (List.mem_of_getElem? (i := 16) rfl)) ?_
  refine k_iload_n (i := 2) h (ddX9_bestNext (31, .iload_n 2, 1) (List.mem_of_getElem? (i := 17) rfl)) rfl ?_
  refine k_iconst (v := 1) h (ddX9_bestNext (32, .iconst 1, 1) (List.mem_of_getElem? (i := 18) rfl)) (by decide) ?_
  refine k_iadd h (ddX9_bestNext (33, .iadd, 1) (List.mem_of_getElem? (i := 19) rfl)) ?_
  refine k_callV h hl (aX9_isLit l) (ci := 9) (C := RX9) (T := TX9) (N := 33) rfl ⟨rfl, rfl⟩ (n := 2) (by decide +kernel) (q_gV gw692 gw693 gw694 gw606 gw691) ⟨by decide, by decide⟩ (ddX9_bestNext (34, .invokevirtual 182, 3) (List.mem_of_getElem? (i := 20) rfl)) ?_
  refine k_callS h hl (aX9_one l) ⟨rfl, rfl⟩ (n := 1) (by decide +kernel) (q_gS gw697 gw696 gw606 gw695) ⟨by decide, by decide⟩ (ddX9_bestNext (37, .invokestatic 185, 3) (List.mem_of_getElem? (i := 21) rfl)) ?_
  refine k_aload_n (i := 0) h (ddX9_bestNext (40, .aload_n 0, 1) (List.mem_of_getElem? (i := 22) rfl)) rfl ?_
  refine k_getf (ci := 9) (j := 24) (C := RX9) (T := TX9) (N := 33) h rfl (fun w hw => List.mem_cons_of_mem _ (q_inX9 w hw)) (by decide) (List.mem_cons_of_mem _ gw597) (ddX9_bestNext (41, .getfield 45, 3) (List.mem_of_getElem? (i := 23) rfl)) ?_
  refine k_bipush (v := 8) h (ddX9_bestNext (44, .bipush 8, 2) (List.mem_of_getElem? (i := 24) rfl)) (by decide) ?_
  refine k_iload_n (i := 3) h (ddX9_bestNext (46, .iload_n 3, 1) (List.mem_of_getElem? (i := 25) rfl)) rfl ?_
  refine k_iconst (v := 1) h (ddX9_bestNext (47, .iconst 1, 1) (List.mem_of_getElem? (i := 26) rfl)) (by decide) ?_
  refine k_isub h (ddX9_bestNext (48, .isub, 1) (List.mem_of_getElem? (i := 27) rfl)) ?_
  refine k_imul h (ddX9_bestNext (49, .imul, 1) (List.mem_of_getElem? (i := 28) rfl)) ?_
  refine k_iload (i := 6) h (ddX9_bestNext (50, .iload 6, 2) (List.mem_of_getElem? (i := 29) rfl)) ?_
  refine k_iadd h (ddX9_bestNext (52, .iadd, 1) (List.mem_of_getElem? (i := 30) rfl)) ?_
  refine k_iald h (ddX9_bestNext (53, .iaload, 1) (List.mem_of_getElem? (i := 31) rfl)) ?_
  refine k_iadd h (ddX9_bestNext (54, .iadd, 1) (List.mem_of_getElem? (i := 32) rfl)) ?_
  refine k_goto h (ddX9_bestNext (55, .goto 4, 3) (List.mem_of_getElem? (i := 33) rfl)) (tgt := 59) (by decide) ?_
  exact sX9_bestNext_59 hl hQ h
theorem sX9_bestNext_18 {l : Launch} {X : q_CX} (hl : X.2.1 = l) (hQ : q_QM X) (h : q_OK X yX9_bestNext cX9_bestNext 8 (some .int) rmX9_bestNext (Cond.code yX9_bestNext cX9_bestNext 8 (some .int) :: q_G)) : q_SK X 8 18 (BX9_bestNext_18) := by
  refine k_aload_n (i := 0) h (ddX9_bestNext (18, .aload_n 0, 1) (List.mem_of_getElem? (i := 10) rfl)) rfl ?_
  refine k_iload_n (i := 1) h (ddX9_bestNext (19, .iload_n 1, 1) (List.mem_of_getElem? (i := 11) rfl)) rfl ?_
  refine k_iload (i := 6) h (ddX9_bestNext (20, .iload 6, 2) (List.mem_of_getElem? (i := 12) rfl)) ?_
  refine k_callV h hl (aX9_mayGo l) (ci := 9) (C := RX9) (T := TX9) (N := 33) rfl ⟨rfl, rfl⟩ (n := 2) (by decide +kernel) (q_gV gw747 gw748 gw749 gw606 gw746) ⟨by decide, by decide⟩ (ddX9_bestNext (22, .invokevirtual 238, 3) (List.mem_of_getElem? (i := 13) rfl)) ?_
  refine k_ifeq h (ddX9_bestNext (25, .ifCond .eq 33, 3) (List.mem_of_getElem? (i := 14) rfl)) (tgt := 58) (by decide) ?_ ?_
  · exact sX9_bestNext_58 hl hQ h
  · exact sX9_bestNext_28 hl hQ h
theorem sX9_bestNext_9 {l : Launch} {X : q_CX} (hl : X.2.1 = l) (hQ : q_QM X) (h : q_OK X yX9_bestNext cX9_bestNext 8 (some .int) rmX9_bestNext (Cond.code yX9_bestNext cX9_bestNext 8 (some .int) :: q_G)) : q_SK X 8 9 (BX9_bestNext_9) := by
  refine k_iload (i := 6) h (ddX9_bestNext (9, .iload 6, 2) (List.mem_of_getElem? (i := 6) rfl)) ?_
  refine k_aload_n (i := 0) h (ddX9_bestNext (11, .aload_n 0, 1) (List.mem_of_getElem? (i := 7) rfl)) rfl ?_
  refine k_getf (ci := 9) (j := 8) (C := RX9) (T := TX9) (N := 33) h rfl (fun w hw => List.mem_cons_of_mem _ (q_inX9 w hw)) (by decide) (List.mem_cons_of_mem _ gw670) (ddX9_bestNext (12, .getfield 153, 3) (List.mem_of_getElem? (i := 8) rfl)) ?_
  refine k_icge h (ddX9_bestNext (15, .if_icmp .ge 67, 3) (List.mem_of_getElem? (i := 9) rfl)) (tgt := 82) (by decide) ?_ ?_
  · exact sX9_bestNext_82 hl hQ h
  · exact sX9_bestNext_18 hl hQ h
theorem aX9_bestNext (l : Launch) (as : List Value) (sh : q_Sh) (m : q_Mm) (R : q_KR) (hw : wX9_bestNext as sh m R) : q_AM l yX9_bestNext (Cond.code yX9_bestNext cX9_bestNext 8 (some .int) :: q_G) rmX9_bestNext as sh m R := by
  refine q_met (code := TX9_bestNext) (by decide) (fun X hl hQ _ h pc => ?_) hw.1 hw.2
  unfold TX9_bestNext
  exact k_at (sX9_bestNext_0 hl hQ h) (k_at (sX9_bestNext_9 hl hQ h) (k_no))
/-! TumblingRockModel.way(IIII)I -/
abbrev dlX9_way : List (Nat × (Instr × Nat)) := [(0, .aload_n 0, 1), (1, .iload_n 1, 1), (2, .invokevirtual 197, 3), (5, .ifCond .ne 6, 3), (8, .ldc 196, 2), (10, .ireturn, 1), (11, .iload_n 2, 1), (12, .invokestatic 209, 3), (15, .ifCond .eq 29, 3), (18, .iload_n 3, 1), (19, .i2l, 1), (20, .lconst 1, 1), (21, .ldc2_w 241, 3), (24, .invokestatic 68, 3), (27, .ifCond .eq 17, 3), (30, .iload 4, 2), (32, .i2l, 1), (33, .ldc2_w 243, 3), (36, .iload_n 3, 1), (37, .i2l, 1), (38, .invokestatic 68, 3), (41, .ifCond .ne 6, 3), (44, .ldc 72, 2), (46, .ireturn, 1), (47, .iconst 0, 1), (48, .istore 5, 2), (50, .iload 5, 2), (52, .bipush 8, 2), (54, .if_icmp .ge 17, 3), (57, .aload_n 0, 1), (58, .getfield 45, 3), (61, .iload 5, 2), (63, .iconst 0, 1), (64, .iastore, 1), (65, .iinc 5 1, 3), (68, .goto (-18), 3), (71, .iconst 1, 1), (72, .istore 5, 2), (74, .iload 5, 2), (76, .iload_n 3, 1), (77, .if_icmp .gt 89, 3), (80, .iconst 0, 1), (81, .istore 6, 2), (83, .iload 6, 2), (85, .aload_n 0, 1), (86, .getfield 153, 3), (89, .if_icmp .ge 71, 3), (92, .iload_n 2, 1), (93, .iload_n 3, 1), (94, .iadd, 1), (95, .iload 5, 2), (97, .isub, 1), (98, .istore 7, 2), (100, .aload_n 0, 1), (101, .iload 6, 2), (103, .iload 7, 2), (105, .iload 5, 2), (107, .invokevirtual 245, 3), (110, .istore 8, 2), (112, .aload_n 0, 1), (113, .getfield 45, 3), (116, .bipush 8, 2), (118, .iload 5, 2), (120, .imul, 1), (121, .iload 6, 2), (123, .iadd, 1), (124, .aload_n 0, 1), (125, .iload 8, 2), (127, .iload 7, 2), (129, .iconst 1, 1), (130, .iadd, 1), (131, .invokevirtual 182, 3), (134, .invokestatic 185, 3), (137, .aload_n 0, 1), (138, .getfield 45, 3), (141, .bipush 8, 2), (143, .iload 5, 2), (145, .iconst 1, 1), (146, .isub, 1), (147, .imul, 1), (148, .iload 8, 2), (150, .iadd, 1), (151, .iaload, 1), (152, .iadd, 1), (153, .iastore, 1), (154, .iinc 6 1, 3), (157, .goto (-74), 3), (160, .iinc 5 1, 3), (163, .goto (-89), 3), (166, .iload 4, 2), (168, .ifCond .ge 15, 3), (171, .aload_n 0, 1), (172, .getfield 45, 3), (175, .bipush 8, 2), (177, .iload_n 3, 1), (178, .imul, 1), (179, .iload_n 1, 1), (180, .iadd, 1), (181, .iaload, 1), (182, .ireturn, 1), (183, .iload_n 1, 1), (184, .istore 5, 2), (186, .iconst 0, 1), (187, .istore 6, 2), (189, .iload 6, 2), (191, .iload 4, 2), (193, .if_icmp .ge 25, 3), (196, .aload_n 0, 1), (197, .iload 5, 2), (199, .iload_n 2, 1), (200, .iload 6, 2), (202, .iadd, 1), (203, .iload_n 3, 1), (204, .iload 6, 2), (206, .isub, 1), (207, .invokevirtual 245, 3), (210, .istore 5, 2), (212, .iinc 6 1, 3), (215, .goto (-26), 3), (218, .iload 5, 2), (220, .ireturn, 1)]
theorem ddX9_way : ∀ q ∈ dlX9_way, decode cX9_way q.1 = .ok q.2 := by decide +kernel
theorem sX9_way_44 {l : Launch} {X : q_CX} (hl : X.2.1 = l) (hQ : q_QM X) (h : q_OK X yX9_way cX9_way 9 (some .int) rmX9_way (Cond.code yX9_way cX9_way 9 (some .int) :: q_G)) : q_SK X 9 44 (BX9_way_44) := by
  refine k_ldc (v := (-1000000002)) h (ddX9_way (44, .ldc 72, 2) (List.mem_of_getElem? (i := 22) rfl)) (List.mem_cons_of_mem _ gw609) ?_
  exact k_iret h hQ (ddX9_way (46, .ireturn, 1) (List.mem_of_getElem? (i := 23) rfl))
theorem sX9_way_47 {l : Launch} {X : q_CX} (hl : X.2.1 = l) (hQ : q_QM X) (h : q_OK X yX9_way cX9_way 9 (some .int) rmX9_way (Cond.code yX9_way cX9_way 9 (some .int) :: q_G)) : q_SK X 9 47 (BX9_way_47) := by
  refine k_iconst (v := 0) h (ddX9_way (47, .iconst 0, 1) (List.mem_of_getElem? (i := 24) rfl)) (by decide) ?_
  refine k_istore (i := 5) h (ddX9_way (48, .istore 5, 2) (List.mem_of_getElem? (i := 25) rfl)) (by decide) ?_
  exact k_cut
theorem sX9_way_30 {l : Launch} {X : q_CX} (hl : X.2.1 = l) (hQ : q_QM X) (h : q_OK X yX9_way cX9_way 9 (some .int) rmX9_way (Cond.code yX9_way cX9_way 9 (some .int) :: q_G)) : q_SK X 9 30 (BX9_way_30) := by
  refine k_iload (i := 4) h (ddX9_way (30, .iload 4, 2) (List.mem_of_getElem? (i := 15) rfl)) ?_
  refine k_i2l h (ddX9_way (32, .i2l, 1) (List.mem_of_getElem? (i := 16) rfl)) ?_
  refine k_ldc2 (v := (-1)) h (ddX9_way (33, .ldc2_w 243, 3) (List.mem_of_getElem? (i := 17) rfl)) (List.mem_cons_of_mem _ gw751) ?_
  refine k_iload_n (i := 3) h (ddX9_way (36, .iload_n 3, 1) (List.mem_of_getElem? (i := 18) rfl)) rfl ?_
  refine k_i2l h (ddX9_way (37, .i2l, 1) (List.mem_of_getElem? (i := 19) rfl)) ?_
  refine k_callS h hl (aX9_in l) ⟨rfl, rfl⟩ (n := 3) (by decide +kernel) (q_gS gw608 gw607 gw606 gw605) ⟨by decide, by decide⟩ (ddX9_way (38, .invokestatic 68, 3) (List.mem_of_getElem? (i := 20) rfl)) ?_
  refine k_ifne h (ddX9_way (41, .ifCond .ne 6, 3) (List.mem_of_getElem? (i := 21) rfl)) (tgt := 47) (by decide) ?_ ?_
  · exact sX9_way_47 hl hQ h
  · exact sX9_way_44 hl hQ h
theorem sX9_way_18 {l : Launch} {X : q_CX} (hl : X.2.1 = l) (hQ : q_QM X) (h : q_OK X yX9_way cX9_way 9 (some .int) rmX9_way (Cond.code yX9_way cX9_way 9 (some .int) :: q_G)) : q_SK X 9 18 (BX9_way_18) := by
  refine k_iload_n (i := 3) h (ddX9_way (18, .iload_n 3, 1) (List.mem_of_getElem? (i := 9) rfl)) rfl ?_
  refine k_i2l h (ddX9_way (19, .i2l, 1) (List.mem_of_getElem? (i := 10) rfl)) ?_
  refine k_lconst (v := 1) h (ddX9_way (20, .lconst 1, 1) (List.mem_of_getElem? (i := 11) rfl)) (by decide) ?_
  refine k_ldc2 (v := 40) h (ddX9_way (21, .ldc2_w 241, 3) (List.mem_of_getElem? (i := 12) rfl)) (List.mem_cons_of_mem _ gw750) ?_
  refine k_callS h hl (aX9_in l) ⟨rfl, rfl⟩ (n := 3) (by decide +kernel) (q_gS gw608 gw607 gw606 gw605) ⟨by decide, by decide⟩ (ddX9_way (24, .invokestatic 68, 3) (List.mem_of_getElem? (i := 13) rfl)) ?_
  refine k_ifeq h (ddX9_way (27, .ifCond .eq 17, 3) (List.mem_of_getElem? (i := 14) rfl)) (tgt := 44) (by decide) ?_ ?_
  · exact sX9_way_44 hl hQ h
  · exact sX9_way_30 hl hQ h
theorem sX9_way_11 {l : Launch} {X : q_CX} (hl : X.2.1 = l) (hQ : q_QM X) (h : q_OK X yX9_way cX9_way 9 (some .int) rmX9_way (Cond.code yX9_way cX9_way 9 (some .int) :: q_G)) : q_SK X 9 11 (BX9_way_11) := by
  refine k_iload_n (i := 2) h (ddX9_way (11, .iload_n 2, 1) (List.mem_of_getElem? (i := 6) rfl)) rfl ?_
  refine k_callS h hl (aX9_isStep l) ⟨rfl, rfl⟩ (n := 1) (by decide +kernel) (q_gS gw722 gw721 gw606 gw720) ⟨by decide, by decide⟩ (ddX9_way (12, .invokestatic 209, 3) (List.mem_of_getElem? (i := 7) rfl)) ?_
  refine k_ifeq h (ddX9_way (15, .ifCond .eq 29, 3) (List.mem_of_getElem? (i := 8) rfl)) (tgt := 44) (by decide) ?_ ?_
  · exact sX9_way_44 hl hQ h
  · exact sX9_way_18 hl hQ h
theorem sX9_way_8 {l : Launch} {X : q_CX} (hl : X.2.1 = l) (hQ : q_QM X) (h : q_OK X yX9_way cX9_way 9 (some .int) rmX9_way (Cond.code yX9_way cX9_way 9 (some .int) :: q_G)) : q_SK X 9 8 (BX9_way_8) := by
  refine k_ldc (v := (-1000000001)) h (ddX9_way (8, .ldc 196, 2) (List.mem_of_getElem? (i := 4) rfl)) (List.mem_cons_of_mem _ gw706) ?_
  exact k_iret h hQ (ddX9_way (10, .ireturn, 1) (List.mem_of_getElem? (i := 5) rfl))
theorem sX9_way_0 {l : Launch} {X : q_CX} (hl : X.2.1 = l) (hQ : q_QM X) (h : q_OK X yX9_way cX9_way 9 (some .int) rmX9_way (Cond.code yX9_way cX9_way 9 (some .int) :: q_G)) : q_SK X 9 0 (BX9_way_0) := by
  refine k_aload_n (i := 0) h (ddX9_way (0, .aload_n 0, 1) (List.mem_of_getElem? (i := 0) rfl)) rfl ?_
  refine k_iload_n (i := 1) h (ddX9_way (1, .iload_n 1, 1) (List.mem_of_getElem? (i := 1) rfl)) rfl ?_
  refine k_callV h hl (aX9_isPlace l) (ci := 9) (C := RX9) (T := TX9) (N := 33) rfl ⟨rfl, rfl⟩ (n := 1) (by decide +kernel) (q_gV gw708 gw709 gw710 gw606 gw707) ⟨by decide, by decide⟩ (ddX9_way (2, .invokevirtual 197, 3) (List.mem_of_getElem? (i := 2) rfl)) ?_
  refine k_ifne h (ddX9_way (5, .ifCond .ne 6, 3) (List.mem_of_getElem? (i := 3) rfl)) (tgt := 11) (by decide) ?_ ?_
  · exact sX9_way_11 hl hQ h
  · exact sX9_way_8 hl hQ h
theorem sX9_way_71 {l : Launch} {X : q_CX} (hl : X.2.1 = l) (hQ : q_QM X) (h : q_OK X yX9_way cX9_way 9 (some .int) rmX9_way (Cond.code yX9_way cX9_way 9 (some .int) :: q_G)) : q_SK X 9 71 (BX9_way_71) := by
  refine k_iconst (v := 1) h (ddX9_way (71, .iconst 1, 1) (List.mem_of_getElem? (i := 36) rfl)) (by decide) ?_
  refine k_istore (i := 5) h (ddX9_way (72, .istore 5, 2) (List.mem_of_getElem? (i := 37) rfl)) (by decide) ?_
  exact k_cut
theorem sX9_way_57 {l : Launch} {X : q_CX} (hl : X.2.1 = l) (hQ : q_QM X) (h : q_OK X yX9_way cX9_way 9 (some .int) rmX9_way (Cond.code yX9_way cX9_way 9 (some .int) :: q_G)) : q_SK X 9 57 (BX9_way_57) := by
  refine k_aload_n (i := 0) h (ddX9_way (57, .aload_n 0, 1) (List.mem_of_getElem? (i := 29) rfl)) rfl ?_
  refine k_getf (ci := 9) (j := 24) (C := RX9) (T := TX9) (N := 33) h rfl (fun w hw => List.mem_cons_of_mem _ (q_inX9 w hw)) (by decide) (List.mem_cons_of_mem _ gw597) (ddX9_way (58, .getfield 45, 3) (List.mem_of_getElem? (i := 30) rfl)) ?_
  refine k_iload (i := 5) h (ddX9_way (61, .iload 5, 2) (List.mem_of_getElem? (i := 31) rfl)) ?_
  refine k_iconst (v := 0) h (ddX9_way (63, .iconst 0, 1) (List.mem_of_getElem? (i := 32) rfl)) (by decide) ?_
  refine k_iast h (ddX9_way (64, .iastore, 1) (List.mem_of_getElem? (i := 33) rfl)) ?_
  refine k_iinc (d := 1) h (ddX9_way (65, .iinc 5 1, 3) (List.mem_of_getElem? (i := 34) rfl)) (by decide) (by decide) ?_
  refine k_goto h (ddX9_way (68, .goto (-18), 3) (List.mem_of_getElem? (i := 35) rfl)) (tgt := 50) (by decide) ?_
  exact k_cut
theorem sX9_way_50 {l : Launch} {X : q_CX} (hl : X.2.1 = l) (hQ : q_QM X) (h : q_OK X yX9_way cX9_way 9 (some .int) rmX9_way (Cond.code yX9_way cX9_way 9 (some .int) :: q_G)) : q_SK X 9 50 (BX9_way_50) := by
  refine k_iload (i := 5) h (ddX9_way (50, .iload 5, 2) (List.mem_of_getElem? (i := 26) rfl)) ?_
  refine k_bipush (v := 8) h (ddX9_way (52, .bipush 8, 2) (List.mem_of_getElem? (i := 27) rfl)) (by decide) ?_
  refine k_icge h (ddX9_way (54, .if_icmp .ge 17, 3) (List.mem_of_getElem? (i := 28) rfl)) (tgt := 71) (by decide) ?_ ?_
  · exact sX9_way_71 hl hQ h
  · exact sX9_way_57 hl hQ h
theorem sX9_way_183 {l : Launch} {X : q_CX} (hl : X.2.1 = l) (hQ : q_QM X) (h : q_OK X yX9_way cX9_way 9 (some .int) rmX9_way (Cond.code yX9_way cX9_way 9 (some .int) :: q_G)) : q_SK X 9 183 (BX9_way_183) := by
  refine k_iload_n (i := 1) h (ddX9_way (183, .iload_n 1, 1) (List.mem_of_getElem? (i := 100) rfl)) rfl ?_
  refine k_istore (i := 5) h (ddX9_way (184, .istore 5, 2) (List.mem_of_getElem? (i := 101) rfl)) (by decide) ?_
  refine k_iconst (v := 0) h (ddX9_way (186, .iconst 0, 1) (List.mem_of_getElem? (i := 102) rfl)) (by decide) ?_
  refine k_istore (i := 6) h (ddX9_way (187, .istore 6, 2) (List.mem_of_getElem? (i := 103) rfl)) (by decide) ?_
  exact k_cut
theorem sX9_way_171 {l : Launch} {X : q_CX} (hl : X.2.1 = l) (hQ : q_QM X) (h : q_OK X yX9_way cX9_way 9 (some .int) rmX9_way (Cond.code yX9_way cX9_way 9 (some .int) :: q_G)) : q_SK X 9 171 (BX9_way_171) := by
  refine k_aload_n (i := 0) h (ddX9_way (171, .aload_n 0, 1) (List.mem_of_getElem? (i := 91) rfl)) rfl ?_
  refine k_getf (ci := 9) (j := 24) (C := RX9) (T := TX9) (N := 33) h rfl (fun w hw => List.mem_cons_of_mem _ (q_inX9 w hw)) (by decide) (List.mem_cons_of_mem _ gw597) (ddX9_way (172, .getfield 45, 3) (List.mem_of_getElem? (i := 92) rfl)) ?_
  refine k_bipush (v := 8) h (ddX9_way (175, .bipush 8, 2) (List.mem_of_getElem? (i := 93) rfl)) (by decide) ?_
  refine k_iload_n (i := 3) h (ddX9_way (177, .iload_n 3, 1) (List.mem_of_getElem? (i := 94) rfl)) rfl ?_
  refine k_imul h (ddX9_way (178, .imul, 1) (List.mem_of_getElem? (i := 95) rfl)) ?_
  refine k_iload_n (i := 1) h (ddX9_way (179, .iload_n 1, 1) (List.mem_of_getElem? (i := 96) rfl)) rfl ?_
  refine k_iadd h (ddX9_way (180, .iadd, 1) (List.mem_of_getElem? (i := 97) rfl)) ?_
  refine k_iald h (ddX9_way (181, .iaload, 1) (List.mem_of_getElem? (i := 98) rfl)) ?_
  exact k_iret h hQ (ddX9_way (182, .ireturn, 1) (List.mem_of_getElem? (i := 99) rfl))
theorem sX9_way_166 {l : Launch} {X : q_CX} (hl : X.2.1 = l) (hQ : q_QM X) (h : q_OK X yX9_way cX9_way 9 (some .int) rmX9_way (Cond.code yX9_way cX9_way 9 (some .int) :: q_G)) : q_SK X 9 166 (BX9_way_166) := by
  refine k_iload (i := 4) h (ddX9_way (166, .iload 4, 2) (List.mem_of_getElem? (i := 89) rfl)) ?_
  refine k_ifge h (ddX9_way (168, .ifCond .ge 15, 3) (List.mem_of_getElem? (i := 90) rfl)) (tgt := 183) (by decide) ?_ ?_
  · exact sX9_way_183 hl hQ h
  · exact sX9_way_171 hl hQ h
theorem sX9_way_80 {l : Launch} {X : q_CX} (hl : X.2.1 = l) (hQ : q_QM X) (h : q_OK X yX9_way cX9_way 9 (some .int) rmX9_way (Cond.code yX9_way cX9_way 9 (some .int) :: q_G)) : q_SK X 9 80 (BX9_way_80) := by
  refine k_iconst (v := 0) h (ddX9_way (80, .iconst 0, 1) (List.mem_of_getElem? (i := 41) rfl)) (by decide) ?_
  refine k_istore (i := 6) h (ddX9_way (81, .istore 6, 2) (List.mem_of_getElem? (i := 42) rfl)) (by decide) ?_
  exact k_cut
theorem sX9_way_74 {l : Launch} {X : q_CX} (hl : X.2.1 = l) (hQ : q_QM X) (h : q_OK X yX9_way cX9_way 9 (some .int) rmX9_way (Cond.code yX9_way cX9_way 9 (some .int) :: q_G)) : q_SK X 9 74 (BX9_way_74) := by
  refine k_iload (i := 5) h (ddX9_way (74, .iload 5, 2) (List.mem_of_getElem? (i := 38) rfl)) ?_
  refine k_iload_n (i := 3) h (ddX9_way (76, .iload_n 3, 1) (List.mem_of_getElem? (i := 39) rfl)) rfl ?_
  refine k_icgt h (ddX9_way (77, .if_icmp .gt 89, 3) (List.mem_of_getElem? (i := 40) rfl)) (tgt := 166) (by decide) ?_ ?_
  · exact sX9_way_166 hl hQ h
  · exact sX9_way_80 hl hQ h
theorem sX9_way_160 {l : Launch} {X : q_CX} (hl : X.2.1 = l) (hQ : q_QM X) (h : q_OK X yX9_way cX9_way 9 (some .int) rmX9_way (Cond.code yX9_way cX9_way 9 (some .int) :: q_G)) : q_SK X 9 160 (BX9_way_160) := by
  refine k_iinc (d := 1) h (ddX9_way (160, .iinc 5 1, 3) (List.mem_of_getElem? (i := 87) rfl)) (by decide) (by decide) ?_
  refine k_goto h (ddX9_way (163, .goto (-89), 3) (List.mem_of_getElem? (i := 88) rfl)) (tgt := 74) (by decide) ?_
  exact k_cut
theorem sX9_way_92 {l : Launch} {X : q_CX} (hl : X.2.1 = l) (hQ : q_QM X) (h : q_OK X yX9_way cX9_way 9 (some .int) rmX9_way (Cond.code yX9_way cX9_way 9 (some .int) :: q_G)) : q_SK X 9 92 (BX9_way_92) := by
  refine k_iload_n (i := 2) h (ddX9_way (92, .iload_n 2, 1) (List.mem_of_getElem? (i := 47) rfl)) rfl ?_
  refine k_iload_n (i := 3) h (ddX9_way (93, .iload_n 3, 1) (List.mem_of_getElem? (i := 48) rfl)) rfl ?_
  refine k_iadd h (ddX9_way (94, .iadd, 1) (List.mem_of_getElem? (i := 49) rfl)) ?_
  refine k_iload (i := 5) h (ddX9_way (95, .iload 5, 2) (List.mem_of_getElem? (i := 50) rfl)) ?_
  refine k_isub h (ddX9_way (97, .isub, 1) (List.mem_of_getElem? (i := 51) rfl)) ?_
  refine k_istore (i := 7) h (ddX9_way (98, .istore 7, 2) (List.mem_of_getElem? (i := 52) rfl)) (by decide) ?_
  refine k_aload_n (i := 0) h (ddX9_way (100, .aload_n 0, 1) (List.mem_of_getElem? (i := 53) rfl)) rfl ?_
  refine k_iload (i := 6) h (ddX9_way (101, .iload 6, 2) (List.mem_of_getElem? (i := 54) rfl)) ?_
  refine k_iload (i := 7) h (ddX9_way (103, .iload 7, 2) (List.mem_of_getElem? (i := 55) rfl)) ?_
  refine k_iload (i := 5) h (ddX9_way (105, .iload 5, 2) (List.mem_of_getElem? (i := 56) rfl)) ?_
  refine k_callV h hl (aX9_bestNext l) (ci := 9) (C := RX9) (T := TX9) (N := 33) rfl ⟨rfl, rfl⟩ (n := 3) (by decide +kernel) (q_gV gw753 gw754 gw755 gw606 gw752) ⟨by decide, by decide⟩ (ddX9_way (107, .invokevirtual 245, 3) (List.mem_of_getElem? (i := 57) rfl)) ?_
  refine k_istore (i := 8) h (ddX9_way (110, .istore 8, 2) (List.mem_of_getElem? (i := 58) rfl)) (by decide) ?_
  refine k_aload_n (i := 0) h (ddX9_way (112, .aload_n 0, 1) (List.mem_of_getElem? (i := 59) rfl)) rfl ?_
  refine k_getf (ci := 9) (j := 24) (C := RX9) (T := TX9) (N := 33) h rfl (fun w hw => List.mem_cons_of_mem _ (q_inX9 w hw)) (by decide) (List.mem_cons_of_mem _ gw597) (ddX9_way (113, .getfield 45, 3) (List.mem_of_getElem? (i := 60) rfl)) ?_
  refine k_bipush (v := 8) h (ddX9_way (116, .bipush 8, 2) (List.mem_of_getElem? (i := 61) rfl)) (by decide) ?_
  refine k_iload (i := 5) h (ddX9_way (118, .iload 5, 2) (List.mem_of_getElem? (i := 62) rfl)) ?_
  refine k_imul h (ddX9_way (120, .imul, 1) (List.mem_of_getElem? (i := 63) rfl)) ?_
  refine k_iload (i := 6) h (ddX9_way (121, .iload 6, 2) (List.mem_of_getElem? (i := 64) rfl)) ?_
  refine k_iadd h (ddX9_way (123, .iadd, 1) (List.mem_of_getElem? (i := 65) rfl)) ?_
  refine k_aload_n (i := 0) h (ddX9_way (124, .aload_n 0, 1) (List.mem_of_getElem? (i := 66) rfl)) rfl ?_
  refine k_iload (i := 8) h (ddX9_way (125, .iload 8, 2) (List.mem_of_getElem? (i := 67) rfl)) ?_
  refine k_iload (i := 7) h (ddX9_way (127, .iload 7, 2) (List.mem_of_getElem? (i := 68) rfl)) ?_
  refine k_iconst (v := 1) h (ddX9_way (129, .iconst 1, 1) (List.mem_of_getElem? (i := 69) rfl)) (by decide) ?_
  refine k_iadd h (ddX9_way (130, .iadd, 1) (List.mem_of_getElem? (i := 70) rfl)) ?_
  refine k_callV h hl (aX9_isLit l) (ci := 9) (C := RX9) (T := TX9) (N := 33) rfl ⟨rfl, rfl⟩ (n := 2) (by decide +kernel) (q_gV gw692 gw693 gw694 gw606 gw691) ⟨by decide, by decide⟩ (ddX9_way (131, .invokevirtual 182, 3) (List.mem_of_getElem? (i := 71) rfl)) ?_
  refine k_callS h hl (aX9_one l) ⟨rfl, rfl⟩ (n := 1) (by decide +kernel) (q_gS gw697 gw696 gw606 gw695) ⟨by decide, by decide⟩ (ddX9_way (134, .invokestatic 185, 3) (List.mem_of_getElem? (i := 72) rfl)) ?_
  refine k_aload_n (i := 0) h (ddX9_way (137, .aload_n 0, 1) (List.mem_of_getElem? (i := 73) rfl)) rfl ?_
  refine k_getf (ci := 9) (j := 24) (C := RX9) (T := TX9) (N := 33) h rfl (fun w hw => List.mem_cons_of_mem _ (q_inX9 w hw)) (by decide) (List.mem_cons_of_mem _ gw597) (ddX9_way (138, .getfield 45, 3) (List.mem_of_getElem? (i := 74) rfl)) ?_
  refine k_bipush (v := 8) h (ddX9_way (141, .bipush 8, 2) (List.mem_of_getElem? (i := 75) rfl)) (by decide) ?_
  refine k_iload (i := 5) h (ddX9_way (143, .iload 5, 2) (List.mem_of_getElem? (i := 76) rfl)) ?_
  refine k_iconst (v := 1) h (ddX9_way (145, .iconst 1, 1) (List.mem_of_getElem? (i := 77) rfl)) (by decide) ?_
  refine k_isub h (ddX9_way (146, .isub, 1) (List.mem_of_getElem? (i := 78) rfl)) ?_
  refine k_imul h (ddX9_way (147, .imul, 1) (List.mem_of_getElem? (i := 79) rfl)) ?_
  refine k_iload (i := 8) h (ddX9_way (148, .iload 8, 2) (List.mem_of_getElem? (i := 80) rfl)) ?_
  refine k_iadd h (ddX9_way (150, .iadd, 1) (List.mem_of_getElem? (i := 81) rfl)) ?_
  refine k_iald h (ddX9_way (151, .iaload, 1) (List.mem_of_getElem? (i := 82) rfl)) ?_
  refine k_iadd h (ddX9_way (152, .iadd, 1) (List.mem_of_getElem? (i := 83) rfl)) ?_
  refine k_iast h (ddX9_way (153, .iastore, 1) (List.mem_of_getElem? (i := 84) rfl)) ?_
  refine k_iinc (d := 1) h (ddX9_way (154, .iinc 6 1, 3) (List.mem_of_getElem? (i := 85) rfl)) (by decide) (by decide) ?_
  refine k_goto h (ddX9_way (157, .goto (-74), 3) (List.mem_of_getElem? (i := 86) rfl)) (tgt := 83) (by decide) ?_
  exact k_cut
theorem sX9_way_83 {l : Launch} {X : q_CX} (hl : X.2.1 = l) (hQ : q_QM X) (h : q_OK X yX9_way cX9_way 9 (some .int) rmX9_way (Cond.code yX9_way cX9_way 9 (some .int) :: q_G)) : q_SK X 9 83 (BX9_way_83) := by
  refine k_iload (i := 6) h (ddX9_way (83, .iload 6, 2) (List.mem_of_getElem? (i := 43) rfl)) ?_
  refine k_aload_n (i := 0) h (ddX9_way (85, .aload_n 0, 1) (List.mem_of_getElem? (i := 44) rfl)) rfl ?_
  refine k_getf (ci := 9) (j := 8) (C := RX9) (T := TX9) (N := 33) h rfl (fun w hw => List.mem_cons_of_mem _ (q_inX9 w hw)) (by decide) (List.mem_cons_of_mem _ gw670) (ddX9_way (86, .getfield 153, 3) (List.mem_of_getElem? (i := 45) rfl)) ?_
  refine k_icge h (ddX9_way (89, .if_icmp .ge 71, 3) (List.mem_of_getElem? (i := 46) rfl)) (tgt := 160) (by decide) ?_ ?_
  · exact sX9_way_160 hl hQ h
  · exact sX9_way_92 hl hQ h
theorem sX9_way_218 {l : Launch} {X : q_CX} (hl : X.2.1 = l) (hQ : q_QM X) (h : q_OK X yX9_way cX9_way 9 (some .int) rmX9_way (Cond.code yX9_way cX9_way 9 (some .int) :: q_G)) : q_SK X 9 218 (BX9_way_218) := by
  refine k_iload (i := 5) h (ddX9_way (218, .iload 5, 2) (List.mem_of_getElem? (i := 119) rfl)) ?_
  exact k_iret h hQ (ddX9_way (220, .ireturn, 1) (List.mem_of_getElem? (i := 120) rfl))
theorem sX9_way_196 {l : Launch} {X : q_CX} (hl : X.2.1 = l) (hQ : q_QM X) (h : q_OK X yX9_way cX9_way 9 (some .int) rmX9_way (Cond.code yX9_way cX9_way 9 (some .int) :: q_G)) : q_SK X 9 196 (BX9_way_196) := by
  refine k_aload_n (i := 0) h (ddX9_way (196, .aload_n 0, 1) (List.mem_of_getElem? (i := 107) rfl)) rfl ?_
  refine k_iload (i := 5) h (ddX9_way (197, .iload 5, 2) (List.mem_of_getElem? (i := 108) rfl)) ?_
  refine k_iload_n (i := 2) h (ddX9_way (199, .iload_n 2, 1) (List.mem_of_getElem? (i := 109) rfl)) rfl ?_
  refine k_iload (i := 6) h (ddX9_way (200, .iload 6, 2) (List.mem_of_getElem? (i := 110) rfl)) ?_
  refine k_iadd h (ddX9_way (202, .iadd, 1) (List.mem_of_getElem? (i := 111) rfl)) ?_
  refine k_iload_n (i := 3) h (ddX9_way (203, .iload_n 3, 1) (List.mem_of_getElem? (i := 112) rfl)) rfl ?_
  refine k_iload (i := 6) h (ddX9_way (204, .iload 6, 2) (List.mem_of_getElem? (i := 113) rfl)) ?_
  refine k_isub h (ddX9_way (206, .isub, 1) (List.mem_of_getElem? (i := 114) rfl)) ?_
  refine k_callV h hl (aX9_bestNext l) (ci := 9) (C := RX9) (T := TX9) (N := 33) rfl ⟨rfl, rfl⟩ (n := 3) (by decide +kernel) (q_gV gw753 gw754 gw755 gw606 gw752) ⟨by decide, by decide⟩ (ddX9_way (207, .invokevirtual 245, 3) (List.mem_of_getElem? (i := 115) rfl)) ?_
  refine k_istore (i := 5) h (ddX9_way (210, .istore 5, 2) (List.mem_of_getElem? (i := 116) rfl)) (by decide) ?_
  refine k_iinc (d := 1) h (ddX9_way (212, .iinc 6 1, 3) (List.mem_of_getElem? (i := 117) rfl)) (by decide) (by decide) ?_
  refine k_goto h (ddX9_way (215, .goto (-26), 3) (List.mem_of_getElem? (i := 118) rfl)) (tgt := 189) (by decide) ?_
  exact k_cut
theorem sX9_way_189 {l : Launch} {X : q_CX} (hl : X.2.1 = l) (hQ : q_QM X) (h : q_OK X yX9_way cX9_way 9 (some .int) rmX9_way (Cond.code yX9_way cX9_way 9 (some .int) :: q_G)) : q_SK X 9 189 (BX9_way_189) := by
  refine k_iload (i := 6) h (ddX9_way (189, .iload 6, 2) (List.mem_of_getElem? (i := 104) rfl)) ?_
  refine k_iload (i := 4) h (ddX9_way (191, .iload 4, 2) (List.mem_of_getElem? (i := 105) rfl)) ?_
  refine k_icge h (ddX9_way (193, .if_icmp .ge 25, 3) (List.mem_of_getElem? (i := 106) rfl)) (tgt := 218) (by decide) ?_ ?_
  · exact sX9_way_218 hl hQ h
  · exact sX9_way_196 hl hQ h
theorem aX9_way (l : Launch) (as : List Value) (sh : q_Sh) (m : q_Mm) (R : q_KR) (hw : wX9_way as sh m R) : q_AM l yX9_way (Cond.code yX9_way cX9_way 9 (some .int) :: q_G) rmX9_way as sh m R := by
  refine q_met (code := TX9_way) (by decide) (fun X hl hQ _ h pc => ?_) hw.1 hw.2
  unfold TX9_way
  exact k_at (sX9_way_0 hl hQ h) (k_at (sX9_way_50 hl hQ h) (k_at (sX9_way_74 hl hQ h) (k_at (sX9_way_83 hl hQ h) (k_at (sX9_way_189 hl hQ h) (k_no)))))
/-! TumblingRockModel.mail(III)I -/
abbrev dlX9_mail : List (Nat × (Instr × Nat)) := [(0, .aload_n 0, 1), (1, .iload_n 1, 1), (2, .invokevirtual 197, 3), (5, .ifCond .eq 11, 3), (8, .aload_n 0, 1), (9, .iload_n 2, 1), (10, .invokevirtual 197, 3), (13, .ifCond .ne 6, 3), (16, .ldc 196, 2), (18, .ireturn, 1), (19, .iload_n 3, 1), (20, .invokestatic 209, 3), (23, .ifCond .ne 6, 3), (26, .ldc 72, 2), (28, .ireturn, 1), (29, .aload_n 0, 1), (30, .iload_n 1, 1), (31, .iload_n 3, 1), (32, .invokevirtual 182, 3), (35, .invokestatic 185, 3), (38, .iload_n 1, 1), (39, .ishl, 1), (40, .istore 4, 2), (42, .iconst 0, 1), (43, .istore 5, 2), (45, .iload 5, 2), (47, .bipush 8, 2), (49, .aload_n 0, 1), (50, .getfield 39, 3), (53, .imul, 1), (54, .if_icmp .gt 112, 3), (57, .iload 4, 2), (59, .ifCond .eq 107, 3), (62, .iload 4, 2), (64, .iload_n 2, 1), (65, .invokestatic 118, 3), (68, .ifCond .eq 6, 3), (71, .iload 5, 2), (73, .ireturn, 1), (74, .iconst 0, 1), (75, .istore 6, 2), (77, .iconst 0, 1), (78, .istore 7, 2), (80, .iload 7, 2), (82, .aload_n 0, 1), (83, .getfield 153, 3), (86, .if_icmp .ge 70, 3), (89, .iload 4, 2), (91, .aload_n 0, 1), (92, .getfield 26, 3), (95, .iload 7, 2), (97, .iaload, 1), (98, .iconst 1, 1), (99, .iload 7, 2), (101, .ishl, 1), (102, .ior, 1), (103, .iand, 1), (104, .ifCond .eq 7, 3), (107, .iconst 1, 1), (108, .goto 4, 3), (111, .iconst 0, 1), (112, .istore 8, 2), (114, .iload 6, 2), (116, .iload 8, 2), (118, .ifCond .eq 22, 3), (121, .aload_n 0, 1), (122, .iload 7, 2), (124, .iload_n 3, 1), (125, .iload 5, 2), (127, .iadd, 1), (128, .iconst 1, 1), (129, .iadd, 1), (130, .invokevirtual 182, 3), (133, .ifCond .eq 7, 3), (136, .iconst 1, 1), (137, .goto 4, 3), (140, .iconst 0, 1), (141, .invokestatic 185, 3), (144, .iload 7, 2), (146, .ishl, 1), (147, .ior, 1), (148, .istore 6, 2), (150, .iinc 7 1, 3), (153, .goto (-73), 3), (156, .iload 6, 2), (158, .istore 4, 2), (160, .iinc 5 1, 3), (163, .goto (-118), 3), (166, .iconst (-1), 1), (167, .ireturn, 1)]
theorem ddX9_mail : ∀ q ∈ dlX9_mail, decode cX9_mail q.1 = .ok q.2 := by decide +kernel
theorem sX9_mail_16 {l : Launch} {X : q_CX} (hl : X.2.1 = l) (hQ : q_QM X) (h : q_OK X yX9_mail cX9_mail 9 (some .int) rmX9_mail (Cond.code yX9_mail cX9_mail 9 (some .int) :: q_G)) : q_SK X 9 16 (BX9_mail_16) := by
  refine k_ldc (v := (-1000000001)) h (ddX9_mail (16, .ldc 196, 2) (List.mem_of_getElem? (i := 8) rfl)) (List.mem_cons_of_mem _ gw706) ?_
  exact k_iret h hQ (ddX9_mail (18, .ireturn, 1) (List.mem_of_getElem? (i := 9) rfl))
theorem sX9_mail_29 {l : Launch} {X : q_CX} (hl : X.2.1 = l) (hQ : q_QM X) (h : q_OK X yX9_mail cX9_mail 9 (some .int) rmX9_mail (Cond.code yX9_mail cX9_mail 9 (some .int) :: q_G)) : q_SK X 9 29 (BX9_mail_29) := by
  refine k_aload_n (i := 0) h (ddX9_mail (29, .aload_n 0, 1) (List.mem_of_getElem? (i := 15) rfl)) rfl ?_
  refine k_iload_n (i := 1) h (ddX9_mail (30, .iload_n 1, 1) (List.mem_of_getElem? (i := 16) rfl)) rfl ?_
  refine k_iload_n (i := 3) h (ddX9_mail (31, .iload_n 3, 1) (List.mem_of_getElem? (i := 17) rfl)) rfl ?_
  refine k_callV h hl (aX9_isLit l) (ci := 9) (C := RX9) (T := TX9) (N := 33) rfl ⟨rfl, rfl⟩ (n := 2) (by decide +kernel) (q_gV gw692 gw693 gw694 gw606 gw691) ⟨by decide, by decide⟩ (ddX9_mail (32, .invokevirtual 182, 3) (List.mem_of_getElem? (i := 18) rfl)) ?_
  refine k_callS h hl (aX9_one l) ⟨rfl, rfl⟩ (n := 1) (by decide +kernel) (q_gS gw697 gw696 gw606 gw695) ⟨by decide, by decide⟩ (ddX9_mail (35, .invokestatic 185, 3) (List.mem_of_getElem? (i := 19) rfl)) ?_
  refine k_iload_n (i := 1) h (ddX9_mail (38, .iload_n 1, 1) (List.mem_of_getElem? (i := 20) rfl)) rfl ?_
  refine k_ishl h (ddX9_mail (39, .ishl, 1) (List.mem_of_getElem? (i := 21) rfl)) ?_
  refine k_istore (i := 4) h (ddX9_mail (40, .istore 4, 2) (List.mem_of_getElem? (i := 22) rfl)) (by decide) ?_
  refine k_iconst (v := 0) h (ddX9_mail (42, .iconst 0, 1) (List.mem_of_getElem? (i := 23) rfl)) (by decide) ?_
  refine k_istore (i := 5) h (ddX9_mail (43, .istore 5, 2) (List.mem_of_getElem? (i := 24) rfl)) (by decide) ?_
  exact k_cut
theorem sX9_mail_26 {l : Launch} {X : q_CX} (hl : X.2.1 = l) (hQ : q_QM X) (h : q_OK X yX9_mail cX9_mail 9 (some .int) rmX9_mail (Cond.code yX9_mail cX9_mail 9 (some .int) :: q_G)) : q_SK X 9 26 (BX9_mail_26) := by
  refine k_ldc (v := (-1000000002)) h (ddX9_mail (26, .ldc 72, 2) (List.mem_of_getElem? (i := 13) rfl)) (List.mem_cons_of_mem _ gw609) ?_
  exact k_iret h hQ (ddX9_mail (28, .ireturn, 1) (List.mem_of_getElem? (i := 14) rfl))
theorem sX9_mail_19 {l : Launch} {X : q_CX} (hl : X.2.1 = l) (hQ : q_QM X) (h : q_OK X yX9_mail cX9_mail 9 (some .int) rmX9_mail (Cond.code yX9_mail cX9_mail 9 (some .int) :: q_G)) : q_SK X 9 19 (BX9_mail_19) := by
  refine k_iload_n (i := 3) h (ddX9_mail (19, .iload_n 3, 1) (List.mem_of_getElem? (i := 10) rfl)) rfl ?_
  refine k_callS h hl (aX9_isStep l) ⟨rfl, rfl⟩ (n := 1) (by decide +kernel) (q_gS gw722 gw721 gw606 gw720) ⟨by decide, by decide⟩ (ddX9_mail (20, .invokestatic 209, 3) (List.mem_of_getElem? (i := 11) rfl)) ?_
  refine k_ifne h (ddX9_mail (23, .ifCond .ne 6, 3) (List.mem_of_getElem? (i := 12) rfl)) (tgt := 29) (by decide) ?_ ?_
  · exact sX9_mail_29 hl hQ h
  · exact sX9_mail_26 hl hQ h
theorem sX9_mail_8 {l : Launch} {X : q_CX} (hl : X.2.1 = l) (hQ : q_QM X) (h : q_OK X yX9_mail cX9_mail 9 (some .int) rmX9_mail (Cond.code yX9_mail cX9_mail 9 (some .int) :: q_G)) : q_SK X 9 8 (BX9_mail_8) := by
  refine k_aload_n (i := 0) h (ddX9_mail (8, .aload_n 0, 1) (List.mem_of_getElem? (i := 4) rfl)) rfl ?_
  refine k_iload_n (i := 2) h (ddX9_mail (9, .iload_n 2, 1) (List.mem_of_getElem? (i := 5) rfl)) rfl ?_
  refine k_callV h hl (aX9_isPlace l) (ci := 9) (C := RX9) (T := TX9) (N := 33) rfl ⟨rfl, rfl⟩ (n := 1) (by decide +kernel) (q_gV gw708 gw709 gw710 gw606 gw707) ⟨by decide, by decide⟩ (ddX9_mail (10, .invokevirtual 197, 3) (List.mem_of_getElem? (i := 6) rfl)) ?_
  refine k_ifne h (ddX9_mail (13, .ifCond .ne 6, 3) (List.mem_of_getElem? (i := 7) rfl)) (tgt := 19) (by decide) ?_ ?_
  · exact sX9_mail_19 hl hQ h
  · exact sX9_mail_16 hl hQ h
theorem sX9_mail_0 {l : Launch} {X : q_CX} (hl : X.2.1 = l) (hQ : q_QM X) (h : q_OK X yX9_mail cX9_mail 9 (some .int) rmX9_mail (Cond.code yX9_mail cX9_mail 9 (some .int) :: q_G)) : q_SK X 9 0 (BX9_mail_0) := by
  refine k_aload_n (i := 0) h (ddX9_mail (0, .aload_n 0, 1) (List.mem_of_getElem? (i := 0) rfl)) rfl ?_
  refine k_iload_n (i := 1) h (ddX9_mail (1, .iload_n 1, 1) (List.mem_of_getElem? (i := 1) rfl)) rfl ?_
  refine k_callV h hl (aX9_isPlace l) (ci := 9) (C := RX9) (T := TX9) (N := 33) rfl ⟨rfl, rfl⟩ (n := 1) (by decide +kernel) (q_gV gw708 gw709 gw710 gw606 gw707) ⟨by decide, by decide⟩ (ddX9_mail (2, .invokevirtual 197, 3) (List.mem_of_getElem? (i := 2) rfl)) ?_
  refine k_ifeq h (ddX9_mail (5, .ifCond .eq 11, 3) (List.mem_of_getElem? (i := 3) rfl)) (tgt := 16) (by decide) ?_ ?_
  · exact sX9_mail_16 hl hQ h
  · exact sX9_mail_8 hl hQ h
theorem sX9_mail_166 {l : Launch} {X : q_CX} (hl : X.2.1 = l) (hQ : q_QM X) (h : q_OK X yX9_mail cX9_mail 9 (some .int) rmX9_mail (Cond.code yX9_mail cX9_mail 9 (some .int) :: q_G)) : q_SK X 9 166 (BX9_mail_166) := by
  refine k_iconst (v := (-1)) h (ddX9_mail (166, .iconst (-1), 1) (List.mem_of_getElem? (i := 88) rfl)) (by decide) ?_
  exact k_iret h hQ (ddX9_mail (167, .ireturn, 1) (List.mem_of_getElem? (i := 89) rfl))
theorem sX9_mail_74 {l : Launch} {X : q_CX} (hl : X.2.1 = l) (hQ : q_QM X) (h : q_OK X yX9_mail cX9_mail 9 (some .int) rmX9_mail (Cond.code yX9_mail cX9_mail 9 (some .int) :: q_G)) : q_SK X 9 74 (BX9_mail_74) := by
  refine k_iconst (v := 0) h (ddX9_mail (74, .iconst 0, 1) (List.mem_of_getElem? (i := 39) rfl)) (by decide) ?_
  refine k_istore (i := 6) h (ddX9_mail (75, .istore 6, 2) (List.mem_of_getElem? (i := 40) rfl)) (by decide) ?_
  refine k_iconst (v := 0) h (ddX9_mail (77, .iconst 0, 1) (List.mem_of_getElem? (i := 41) rfl)) (by decide) ?_
  refine k_istore (i := 7) h (ddX9_mail (78, .istore 7, 2) (List.mem_of_getElem? (i := 42) rfl)) (by decide) ?_
  exact k_cut
theorem sX9_mail_71 {l : Launch} {X : q_CX} (hl : X.2.1 = l) (hQ : q_QM X) (h : q_OK X yX9_mail cX9_mail 9 (some .int) rmX9_mail (Cond.code yX9_mail cX9_mail 9 (some .int) :: q_G)) : q_SK X 9 71 (BX9_mail_71) := by
  refine k_iload (i := 5) h (ddX9_mail (71, .iload 5, 2) (List.mem_of_getElem? (i := 37) rfl)) ?_
  exact k_iret h hQ (ddX9_mail (73, .ireturn, 1) (List.mem_of_getElem? (i := 38) rfl))
theorem sX9_mail_62 {l : Launch} {X : q_CX} (hl : X.2.1 = l) (hQ : q_QM X) (h : q_OK X yX9_mail cX9_mail 9 (some .int) rmX9_mail (Cond.code yX9_mail cX9_mail 9 (some .int) :: q_G)) : q_SK X 9 62 (BX9_mail_62) := by
  refine k_iload (i := 4) h (ddX9_mail (62, .iload 4, 2) (List.mem_of_getElem? (i := 33) rfl)) ?_
  refine k_iload_n (i := 2) h (ddX9_mail (64, .iload_n 2, 1) (List.mem_of_getElem? (i := 34) rfl)) rfl ?_
  refine k_callS h hl (aX9_has l) ⟨rfl, rfl⟩ (n := 2) (by decide +kernel) (q_gS gw638 gw637 gw606 gw636) ⟨by decide, by decide⟩ (ddX9_mail (65, .invokestatic 118, 3) (List.mem_of_getElem? (i := 35) rfl)) ?_
  refine k_ifeq h (ddX9_mail (68, .ifCond .eq 6, 3) (List.mem_of_getElem? (i := 36) rfl)) (tgt := 74) (by decide) ?_ ?_
  · exact sX9_mail_74 hl hQ h
  · exact sX9_mail_71 hl hQ h
theorem sX9_mail_57 {l : Launch} {X : q_CX} (hl : X.2.1 = l) (hQ : q_QM X) (h : q_OK X yX9_mail cX9_mail 9 (some .int) rmX9_mail (Cond.code yX9_mail cX9_mail 9 (some .int) :: q_G)) : q_SK X 9 57 (BX9_mail_57) := by
  refine k_iload (i := 4) h (ddX9_mail (57, .iload 4, 2) (List.mem_of_getElem? (i := 31) rfl)) ?_
  refine k_ifeq h (ddX9_mail (59, .ifCond .eq 107, 3) (List.mem_of_getElem? (i := 32) rfl)) (tgt := 166) (by decide) ?_ ?_
  · exact sX9_mail_166 hl hQ h
  · exact sX9_mail_62 hl hQ h
theorem sX9_mail_45 {l : Launch} {X : q_CX} (hl : X.2.1 = l) (hQ : q_QM X) (h : q_OK X yX9_mail cX9_mail 9 (some .int) rmX9_mail (Cond.code yX9_mail cX9_mail 9 (some .int) :: q_G)) : q_SK X 9 45 (BX9_mail_45) := by
  refine k_iload (i := 5) h (ddX9_mail (45, .iload 5, 2) (List.mem_of_getElem? (i := 25) rfl)) ?_
  refine k_bipush (v := 8) h (ddX9_mail (47, .bipush 8, 2) (List.mem_of_getElem? (i := 26) rfl)) (by decide) ?_
  refine k_aload_n (i := 0) h (ddX9_mail (49, .aload_n 0, 1) (List.mem_of_getElem? (i := 27) rfl)) rfl ?_
  refine k_getf (ci := 9) (j := 22) (C := RX9) (T := TX9) (N := 33) h rfl (fun w hw => List.mem_cons_of_mem _ (q_inX9 w hw)) (by decide) (List.mem_cons_of_mem _ gw595) (ddX9_mail (50, .getfield 39, 3) (List.mem_of_getElem? (i := 28) rfl)) ?_
  refine k_imul h (ddX9_mail (53, .imul, 1) (List.mem_of_getElem? (i := 29) rfl)) ?_
  refine k_icgt h (ddX9_mail (54, .if_icmp .gt 112, 3) (List.mem_of_getElem? (i := 30) rfl)) (tgt := 166) (by decide) ?_ ?_
  · exact sX9_mail_166 hl hQ h
  · exact sX9_mail_57 hl hQ h
theorem sX9_mail_156 {l : Launch} {X : q_CX} (hl : X.2.1 = l) (hQ : q_QM X) (h : q_OK X yX9_mail cX9_mail 9 (some .int) rmX9_mail (Cond.code yX9_mail cX9_mail 9 (some .int) :: q_G)) : q_SK X 9 156 (BX9_mail_156) := by
  refine k_iload (i := 6) h (ddX9_mail (156, .iload 6, 2) (List.mem_of_getElem? (i := 84) rfl)) ?_
  refine k_istore (i := 4) h (ddX9_mail (158, .istore 4, 2) (List.mem_of_getElem? (i := 85) rfl)) (by decide) ?_
  refine k_iinc (d := 1) h (ddX9_mail (160, .iinc 5 1, 3) (List.mem_of_getElem? (i := 86) rfl)) (by decide) (by decide) ?_
  refine k_goto h (ddX9_mail (163, .goto (-118), 3) (List.mem_of_getElem? (i := 87) rfl)) (tgt := 45) (by decide) ?_
  exact k_cut
theorem sX9_mail_111 {l : Launch} {X : q_CX} (hl : X.2.1 = l) (hQ : q_QM X) (h : q_OK X yX9_mail cX9_mail 9 (some .int) rmX9_mail (Cond.code yX9_mail cX9_mail 9 (some .int) :: q_G)) : q_SK X 9 111 (BX9_mail_111) := by
  refine k_iconst (v := 0) h (ddX9_mail (111, .iconst 0, 1) (List.mem_of_getElem? (i := 60) rfl)) (by decide) ?_
  exact k_cut
theorem sX9_mail_107 {l : Launch} {X : q_CX} (hl : X.2.1 = l) (hQ : q_QM X) (h : q_OK X yX9_mail cX9_mail 9 (some .int) rmX9_mail (Cond.code yX9_mail cX9_mail 9 (some .int) :: q_G)) : q_SK X 9 107 (BX9_mail_107) := by
  refine k_iconst (v := 1) h (ddX9_mail (107, .iconst 1, 1) (List.mem_of_getElem? (i := 58) rfl)) (by decide) ?_
  refine k_goto h (ddX9_mail (108, .goto 4, 3) (List.mem_of_getElem? (i := 59) rfl)) (tgt := 112) (by decide) ?_
  exact k_cut
theorem sX9_mail_89 {l : Launch} {X : q_CX} (hl : X.2.1 = l) (hQ : q_QM X) (h : q_OK X yX9_mail cX9_mail 9 (some .int) rmX9_mail (Cond.code yX9_mail cX9_mail 9 (some .int) :: q_G)) : q_SK X 9 89 (BX9_mail_89) := by
  refine k_iload (i := 4) h (ddX9_mail (89, .iload 4, 2) (List.mem_of_getElem? (i := 47) rfl)) ?_
  refine k_aload_n (i := 0) h (ddX9_mail (91, .aload_n 0, 1) (List.mem_of_getElem? (i := 48) rfl)) rfl ?_
  refine k_getf (ci := 9) (j := 5) (C := RX9) (T := TX9) (N := 33) h rfl (fun w hw => List.mem_cons_of_mem _ (q_inX9 w hw)) (by decide) (List.mem_cons_of_mem _ gw591) (ddX9_mail (92, .getfield 26, 3) (List.mem_of_getElem? (i := 49) rfl)) ?_
  refine k_iload (i := 7) h (ddX9_mail (95, .iload 7, 2) (List.mem_of_getElem? (i := 50) rfl)) ?_
  refine k_iald h (ddX9_mail (97, .iaload, 1) (List.mem_of_getElem? (i := 51) rfl)) ?_
  refine k_iconst (v := 1) h (ddX9_mail (98, .iconst 1, 1) (List.mem_of_getElem? (i := 52) rfl)) (by decide) ?_
  refine k_iload (i := 7) h (ddX9_mail (99, .iload 7, 2) (List.mem_of_getElem? (i := 53) rfl)) ?_
  refine k_ishl h (ddX9_mail (101, .ishl, 1) (List.mem_of_getElem? (i := 54) rfl)) ?_
  refine k_ior h (ddX9_mail (102, .ior, 1) (List.mem_of_getElem? (i := 55) rfl)) ?_
  refine k_iand h (ddX9_mail (103, .iand, 1) (List.mem_of_getElem? (i := 56) rfl)) ?_
  refine k_ifeq h (ddX9_mail (104, .ifCond .eq 7, 3) (List.mem_of_getElem? (i := 57) rfl)) (tgt := 111) (by decide) ?_ ?_
  · exact sX9_mail_111 hl hQ h
  · exact sX9_mail_107 hl hQ h
theorem sX9_mail_80 {l : Launch} {X : q_CX} (hl : X.2.1 = l) (hQ : q_QM X) (h : q_OK X yX9_mail cX9_mail 9 (some .int) rmX9_mail (Cond.code yX9_mail cX9_mail 9 (some .int) :: q_G)) : q_SK X 9 80 (BX9_mail_80) := by
  refine k_iload (i := 7) h (ddX9_mail (80, .iload 7, 2) (List.mem_of_getElem? (i := 43) rfl)) ?_
  refine k_aload_n (i := 0) h (ddX9_mail (82, .aload_n 0, 1) (List.mem_of_getElem? (i := 44) rfl)) rfl ?_
  refine k_getf (ci := 9) (j := 8) (C := RX9) (T := TX9) (N := 33) h rfl (fun w hw => List.mem_cons_of_mem _ (q_inX9 w hw)) (by decide) (List.mem_cons_of_mem _ gw670) (ddX9_mail (83, .getfield 153, 3) (List.mem_of_getElem? (i := 45) rfl)) ?_
  refine k_icge h (ddX9_mail (86, .if_icmp .ge 70, 3) (List.mem_of_getElem? (i := 46) rfl)) (tgt := 156) (by decide) ?_ ?_
  · exact sX9_mail_156 hl hQ h
  · exact sX9_mail_89 hl hQ h
theorem sX9_mail_141 {l : Launch} {X : q_CX} (hl : X.2.1 = l) (hQ : q_QM X) (h : q_OK X yX9_mail cX9_mail 9 (some .int) rmX9_mail (Cond.code yX9_mail cX9_mail 9 (some .int) :: q_G)) : q_SK X 9 141 (BX9_mail_141) := by
  refine k_callS h hl (aX9_one l) ⟨rfl, rfl⟩ (n := 1) (by decide +kernel) (q_gS gw697 gw696 gw606 gw695) ⟨by decide, by decide⟩ (ddX9_mail (141, .invokestatic 185, 3) (List.mem_of_getElem? (i := 77) rfl)) ?_
  refine k_iload (i := 7) h (ddX9_mail (144, .iload 7, 2) (List.mem_of_getElem? (i := 78) rfl)) ?_
  refine k_ishl h (ddX9_mail (146, .ishl, 1) (List.mem_of_getElem? (i := 79) rfl)) ?_
  refine k_ior h (ddX9_mail (147, .ior, 1) (List.mem_of_getElem? (i := 80) rfl)) ?_
  refine k_istore (i := 6) h (ddX9_mail (148, .istore 6, 2) (List.mem_of_getElem? (i := 81) rfl)) (by decide) ?_
  refine k_iinc (d := 1) h (ddX9_mail (150, .iinc 7 1, 3) (List.mem_of_getElem? (i := 82) rfl)) (by decide) (by decide) ?_
  refine k_goto h (ddX9_mail (153, .goto (-73), 3) (List.mem_of_getElem? (i := 83) rfl)) (tgt := 80) (by decide) ?_
  exact k_cut
theorem sX9_mail_140 {l : Launch} {X : q_CX} (hl : X.2.1 = l) (hQ : q_QM X) (h : q_OK X yX9_mail cX9_mail 9 (some .int) rmX9_mail (Cond.code yX9_mail cX9_mail 9 (some .int) :: q_G)) : q_SK X 9 140 (BX9_mail_140) := by
  refine k_iconst (v := 0) h (ddX9_mail (140, .iconst 0, 1) (List.mem_of_getElem? (i := 76) rfl)) (by decide) ?_
  exact sX9_mail_141 hl hQ h
theorem sX9_mail_136 {l : Launch} {X : q_CX} (hl : X.2.1 = l) (hQ : q_QM X) (h : q_OK X yX9_mail cX9_mail 9 (some .int) rmX9_mail (Cond.code yX9_mail cX9_mail 9 (some .int) :: q_G)) : q_SK X 9 136 (BX9_mail_136) := by
  refine k_iconst (v := 1) h (ddX9_mail (136, .iconst 1, 1) (List.mem_of_getElem? (i := 74) rfl)) (by decide) ?_
  refine k_goto h (ddX9_mail (137, .goto 4, 3) (List.mem_of_getElem? (i := 75) rfl)) (tgt := 141) (by decide) ?_
  exact sX9_mail_141 hl hQ h
theorem sX9_mail_121 {l : Launch} {X : q_CX} (hl : X.2.1 = l) (hQ : q_QM X) (h : q_OK X yX9_mail cX9_mail 9 (some .int) rmX9_mail (Cond.code yX9_mail cX9_mail 9 (some .int) :: q_G)) : q_SK X 9 121 (BX9_mail_121) := by
  refine k_aload_n (i := 0) h (ddX9_mail (121, .aload_n 0, 1) (List.mem_of_getElem? (i := 65) rfl)) rfl ?_
  refine k_iload (i := 7) h (ddX9_mail (122, .iload 7, 2) (List.mem_of_getElem? (i := 66) rfl)) ?_
  refine k_iload_n (i := 3) h (ddX9_mail (124, .iload_n 3, 1) (List.mem_of_getElem? (i := 67) rfl)) rfl ?_
  refine k_iload (i := 5) h (ddX9_mail (125, .iload 5, 2) (List.mem_of_getElem? (i := 68) rfl)) ?_
  refine k_iadd h (ddX9_mail (127, .iadd, 1) (List.mem_of_getElem? (i := 69) rfl)) ?_
  refine k_iconst (v := 1) h (ddX9_mail (128, .iconst 1, 1) (List.mem_of_getElem? (i := 70) rfl)) (by decide) ?_
  refine k_iadd h (ddX9_mail (129, .iadd, 1) (List.mem_of_getElem? (i := 71) rfl)) ?_
  refine k_callV h hl (aX9_isLit l) (ci := 9) (C := RX9) (T := TX9) (N := 33) rfl ⟨rfl, rfl⟩ (n := 2) (by decide +kernel) (q_gV gw692 gw693 gw694 gw606 gw691) ⟨by decide, by decide⟩ (ddX9_mail (130, .invokevirtual 182, 3) (List.mem_of_getElem? (i := 72) rfl)) ?_
  refine k_ifeq h (ddX9_mail (133, .ifCond .eq 7, 3) (List.mem_of_getElem? (i := 73) rfl)) (tgt := 140) (by decide) ?_ ?_
  · exact sX9_mail_140 hl hQ h
  · exact sX9_mail_136 hl hQ h
theorem sX9_mail_112 {l : Launch} {X : q_CX} (hl : X.2.1 = l) (hQ : q_QM X) (h : q_OK X yX9_mail cX9_mail 9 (some .int) rmX9_mail (Cond.code yX9_mail cX9_mail 9 (some .int) :: q_G)) : q_SK X 9 112 (BX9_mail_112) := by
  refine k_istore (i := 8) h (ddX9_mail (112, .istore 8, 2) (List.mem_of_getElem? (i := 61) rfl)) (by decide) ?_
  refine k_iload (i := 6) h (ddX9_mail (114, .iload 6, 2) (List.mem_of_getElem? (i := 62) rfl)) ?_
  refine k_iload (i := 8) h (ddX9_mail (116, .iload 8, 2) (List.mem_of_getElem? (i := 63) rfl)) ?_
  refine k_ifeq h (ddX9_mail (118, .ifCond .eq 22, 3) (List.mem_of_getElem? (i := 64) rfl)) (tgt := 140) (by decide) ?_ ?_
  · exact sX9_mail_140 hl hQ h
  · exact sX9_mail_121 hl hQ h
theorem aX9_mail (l : Launch) (as : List Value) (sh : q_Sh) (m : q_Mm) (R : q_KR) (hw : wX9_mail as sh m R) : q_AM l yX9_mail (Cond.code yX9_mail cX9_mail 9 (some .int) :: q_G) rmX9_mail as sh m R := by
  refine q_met (code := TX9_mail) (by decide) (fun X hl hQ _ h pc => ?_) hw.1 hw.2
  unfold TX9_mail
  exact k_at (sX9_mail_0 hl hQ h) (k_at (sX9_mail_45 hl hQ h) (k_at (sX9_mail_80 hl hQ h) (k_at (sX9_mail_112 hl hQ h) (k_no))))
