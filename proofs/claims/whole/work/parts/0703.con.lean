/-! Contracts, leaves first; written by wip/whole/gen.py. -/
/-! TumblingRock$Reader.readWay(LTumblingRock$Rock;)V -/
abbrev dlX3_readWay : List (Nat × (Instr × Nat)) := [(0, .aload_n 0, 1), (1, .aload_n 1, 1), (2, .getfield 68, 3), (5, .iconst 1, 1), (6, .isub, 1), (7, .invokevirtual 97, 3), (10, .istore_n 2, 1), (11, .aload_n 0, 1), (12, .invokevirtual 30, 3), (15, .aload_n 0, 1), (16, .getfield 19, 3), (19, .istore_n 3, 1), (20, .aload_n 0, 1), (21, .aload_n 1, 1), (22, .getfield 68, 3), (25, .iconst 1, 1), (26, .isub, 1), (27, .invokevirtual 97, 3), (30, .istore 4, 2), (32, .iload_n 2, 1), (33, .iload 4, 2), (35, .if_icmp .eq 13, 3), (38, .aload_n 1, 1), (39, .iload_n 2, 1), (40, .iload 4, 2), (42, .invokevirtual 111, 3), (45, .ifCond .eq 9, 3), (48, .aload_n 0, 1), (49, .iconst 4, 1), (50, .iload_n 3, 1), (51, .invokevirtual 90, 3), (54, .aload_n 0, 1), (55, .invokevirtual 104, 3), (58, .aload_n 0, 1), (59, .getfield 22, 3), (62, .ifCond .ne 10, 3), (65, .aload_n 1, 1), (66, .iload_n 2, 1), (67, .iload 4, 2), (69, .invokevirtual 115, 3), (72, .return_, 1)]
theorem ddX3_readWay : ∀ q ∈ dlX3_readWay, decode cX3_readWay q.1 = .ok q.2 := by decide +kernel
theorem sX3_readWay_72 {l : Launch} {X : q_CX} (hl : X.2.1 = l) (hQ : q_QM X) (h : q_OK X yX3_readWay cX3_readWay 5 none rmX3_readWay (Cond.code yX3_readWay cX3_readWay 5 none :: q_G)) : q_SK X 5 72 (BX3_readWay_72) := by
  exact k_vret h hQ (ddX3_readWay (72, .return_, 1) (List.mem_of_getElem? (i := 40) rfl))
theorem sX3_readWay_65 {l : Launch} {X : q_CX} (hl : X.2.1 = l) (hQ : q_QM X) (h : q_OK X yX3_readWay cX3_readWay 5 none rmX3_readWay (Cond.code yX3_readWay cX3_readWay 5 none :: q_G)) : q_SK X 5 65 (BX3_readWay_65) := by
  refine k_aload_n (i := 1) h (ddX3_readWay (65, .aload_n 1, 1) (List.mem_of_getElem? (i := 36) rfl)) rfl ?_
  refine k_iload_n (i := 2) h (ddX3_readWay (66, .iload_n 2, 1) (List.mem_of_getElem? (i := 37) rfl)) rfl ?_
  refine k_iload (i := 4) h (ddX3_readWay (67, .iload 4, 2) (List.mem_of_getElem? (i := 38) rfl)) ?_
  refine k_callV h hl (aX4_addWay l) (ci := 4) (C := RX4) (T := TX4) (N := 14) rfl ⟨rfl, rfl⟩ (n := 2) (by decide +kernel) (q_gV gw262 gw263 gw264 gw71 gw261) ⟨by decide, by decide⟩ (ddX3_readWay (69, .invokevirtual 115, 3) (List.mem_of_getElem? (i := 39) rfl)) ?_
  exact sX3_readWay_72 hl hQ h
theorem sX3_readWay_54 {l : Launch} {X : q_CX} (hl : X.2.1 = l) (hQ : q_QM X) (h : q_OK X yX3_readWay cX3_readWay 5 none rmX3_readWay (Cond.code yX3_readWay cX3_readWay 5 none :: q_G)) : q_SK X 5 54 (BX3_readWay_54) := by
  refine k_aload_n (i := 0) h (ddX3_readWay (54, .aload_n 0, 1) (List.mem_of_getElem? (i := 31) rfl)) rfl ?_
  refine k_callV h hl (aX3_readEnd l) (ci := 3) (C := RX3) (T := TX3) (N := 4) rfl ⟨rfl, rfl⟩ (n := 0) (by decide +kernel) (q_gV gw239 gw240 gw241 gw14 gw238) ⟨by decide, by decide⟩ (ddX3_readWay (55, .invokevirtual 104, 3) (List.mem_of_getElem? (i := 32) rfl)) ?_
  refine k_aload_n (i := 0) h (ddX3_readWay (58, .aload_n 0, 1) (List.mem_of_getElem? (i := 33) rfl)) rfl ?_
  refine k_getf (ci := 3) (j := 2) (C := RX3) (T := TX3) (N := 4) h rfl (fun w hw => List.mem_cons_of_mem _ (q_inX3 w hw)) (by decide) (List.mem_cons_of_mem _ gw152) (ddX3_readWay (59, .getfield 22, 3) (List.mem_of_getElem? (i := 34) rfl)) ?_
  refine k_ifne h (ddX3_readWay (62, .ifCond .ne 10, 3) (List.mem_of_getElem? (i := 35) rfl)) (tgt := 72) (by decide) ?_ ?_
  · exact sX3_readWay_72 hl hQ h
  · exact sX3_readWay_65 hl hQ h
theorem sX3_readWay_38 {l : Launch} {X : q_CX} (hl : X.2.1 = l) (hQ : q_QM X) (h : q_OK X yX3_readWay cX3_readWay 5 none rmX3_readWay (Cond.code yX3_readWay cX3_readWay 5 none :: q_G)) : q_SK X 5 38 (BX3_readWay_38) := by
  refine k_aload_n (i := 1) h (ddX3_readWay (38, .aload_n 1, 1) (List.mem_of_getElem? (i := 22) rfl)) rfl ?_
  refine k_iload_n (i := 2) h (ddX3_readWay (39, .iload_n 2, 1) (List.mem_of_getElem? (i := 23) rfl)) rfl ?_
  refine k_iload (i := 4) h (ddX3_readWay (40, .iload 4, 2) (List.mem_of_getElem? (i := 24) rfl)) ?_
  refine k_callV h hl (aX4_leads l) (ci := 4) (C := RX4) (T := TX4) (N := 14) rfl ⟨rfl, rfl⟩ (n := 2) (by decide +kernel) (q_gV gw258 gw259 gw260 gw71 gw257) ⟨by decide, by decide⟩ (ddX3_readWay (42, .invokevirtual 111, 3) (List.mem_of_getElem? (i := 25) rfl)) ?_
  refine k_ifeq h (ddX3_readWay (45, .ifCond .eq 9, 3) (List.mem_of_getElem? (i := 26) rfl)) (tgt := 54) (by decide) ?_ ?_
  · exact sX3_readWay_54 hl hQ h
  · exact k_cut
theorem sX3_readWay_0 {l : Launch} {X : q_CX} (hl : X.2.1 = l) (hQ : q_QM X) (h : q_OK X yX3_readWay cX3_readWay 5 none rmX3_readWay (Cond.code yX3_readWay cX3_readWay 5 none :: q_G)) : q_SK X 5 0 (BX3_readWay_0) := by
  refine k_aload_n (i := 0) h (ddX3_readWay (0, .aload_n 0, 1) (List.mem_of_getElem? (i := 0) rfl)) rfl ?_
  refine k_aload_n (i := 1) h (ddX3_readWay (1, .aload_n 1, 1) (List.mem_of_getElem? (i := 1) rfl)) rfl ?_
  refine k_getf (ci := 4) (j := 1) (C := RX4) (T := TX4) (N := 14) h rfl (fun w hw => List.mem_cons_of_mem _ (q_inX4 w hw)) (by decide) (List.mem_cons_of_mem _ gw237) (ddX3_readWay (2, .getfield 68, 3) (List.mem_of_getElem? (i := 2) rfl)) ?_
  refine k_iconst (v := 1) h (ddX3_readWay (5, .iconst 1, 1) (List.mem_of_getElem? (i := 3) rfl)) (by decide) ?_
  refine k_isub h (ddX3_readWay (6, .isub, 1) (List.mem_of_getElem? (i := 4) rfl)) ?_
  refine k_callV h hl (aX3_readNumber l) (ci := 3) (C := RX3) (T := TX3) (N := 4) rfl ⟨rfl, rfl⟩ (n := 1) (by decide +kernel) (q_gV gw222 gw223 gw224 gw14 gw221) ⟨by decide, by decide⟩ (ddX3_readWay (7, .invokevirtual 97, 3) (List.mem_of_getElem? (i := 5) rfl)) ?_
  refine k_istore_n (i := 2) h (ddX3_readWay (10, .istore_n 2, 1) (List.mem_of_getElem? (i := 6) rfl)) rfl (by decide) ?_
  refine k_aload_n (i := 0) h (ddX3_readWay (11, .aload_n 0, 1) (List.mem_of_getElem? (i := 7) rfl)) rfl ?_
  refine k_callV h hl (aX3_passBlanks l) (ci := 3) (C := RX3) (T := TX3) (N := 4) rfl ⟨rfl, rfl⟩ (n := 0) (by decide +kernel) (q_gV gw160 gw161 gw162 gw14 gw159) ⟨by decide, by decide⟩ (ddX3_readWay (12, .invokevirtual 30, 3) (List.mem_of_getElem? (i := 8) rfl)) ?_
  refine k_aload_n (i := 0) h (ddX3_readWay (15, .aload_n 0, 1) (List.mem_of_getElem? (i := 9) rfl)) rfl ?_
  refine k_getf (ci := 3) (j := 1) (C := RX3) (T := TX3) (N := 4) h rfl (fun w hw => List.mem_cons_of_mem _ (q_inX3 w hw)) (by decide) (List.mem_cons_of_mem _ gw151) (ddX3_readWay (16, .getfield 19, 3) (List.mem_of_getElem? (i := 10) rfl)) ?_
  refine k_istore_n (i := 3) h (ddX3_readWay (19, .istore_n 3, 1) (List.mem_of_getElem? (i := 11) rfl)) rfl (by decide) ?_
  refine k_aload_n (i := 0) h (ddX3_readWay (20, .aload_n 0, 1) (List.mem_of_getElem? (i := 12) rfl)) rfl ?_
  refine k_aload_n (i := 1) h (ddX3_readWay (21, .aload_n 1, 1) (List.mem_of_getElem? (i := 13) rfl)) rfl ?_
  refine k_getf (ci := 4) (j := 1) (C := RX4) (T := TX4) (N := 14) h rfl (fun w hw => List.mem_cons_of_mem _ (q_inX4 w hw)) (by decide) (List.mem_cons_of_mem _ gw237) (ddX3_readWay (22, .getfield 68, 3) (List.mem_of_getElem? (i := 14) rfl)) ?_
  refine k_iconst (v := 1) h (ddX3_readWay (25, .iconst 1, 1) (List.mem_of_getElem? (i := 15) rfl)) (by decide) ?_
  refine k_isub h (ddX3_readWay (26, .isub, 1) (List.mem_of_getElem? (i := 16) rfl)) ?_
  refine k_callV h hl (aX3_readNumber l) (ci := 3) (C := RX3) (T := TX3) (N := 4) rfl ⟨rfl, rfl⟩ (n := 1) (by decide +kernel) (q_gV gw222 gw223 gw224 gw14 gw221) ⟨by decide, by decide⟩ (ddX3_readWay (27, .invokevirtual 97, 3) (List.mem_of_getElem? (i := 17) rfl)) ?_
  refine k_istore (i := 4) h (ddX3_readWay (30, .istore 4, 2) (List.mem_of_getElem? (i := 18) rfl)) (by decide) ?_
  refine k_iload_n (i := 2) h (ddX3_readWay (32, .iload_n 2, 1) (List.mem_of_getElem? (i := 19) rfl)) rfl ?_
  refine k_iload (i := 4) h (ddX3_readWay (33, .iload 4, 2) (List.mem_of_getElem? (i := 20) rfl)) ?_
  refine k_iceq h (ddX3_readWay (35, .if_icmp .eq 13, 3) (List.mem_of_getElem? (i := 21) rfl)) (tgt := 48) (by decide) ?_ ?_
  · exact k_cut
  · exact sX3_readWay_38 hl hQ h
theorem sX3_readWay_48 {l : Launch} {X : q_CX} (hl : X.2.1 = l) (hQ : q_QM X) (h : q_OK X yX3_readWay cX3_readWay 5 none rmX3_readWay (Cond.code yX3_readWay cX3_readWay 5 none :: q_G)) : q_SK X 5 48 (BX3_readWay_48) := by
  refine k_aload_n (i := 0) h (ddX3_readWay (48, .aload_n 0, 1) (List.mem_of_getElem? (i := 27) rfl)) rfl ?_
  refine k_iconst (v := 4) h (ddX3_readWay (49, .iconst 4, 1) (List.mem_of_getElem? (i := 28) rfl)) (by decide) ?_
  refine k_iload_n (i := 3) h (ddX3_readWay (50, .iload_n 3, 1) (List.mem_of_getElem? (i := 29) rfl)) rfl ?_
  refine k_callV h hl (aX3_refuse l) (ci := 3) (C := RX3) (T := TX3) (N := 4) rfl ⟨rfl, rfl⟩ (n := 2) (by decide +kernel) (q_gV gw206 gw207 gw208 gw14 gw205) ⟨by decide, by decide⟩ (ddX3_readWay (51, .invokevirtual 90, 3) (List.mem_of_getElem? (i := 30) rfl)) ?_
  exact sX3_readWay_54 hl hQ h
theorem aX3_readWay (l : Launch) (as : List Value) (sh : q_Sh) (m : q_Mm) (R : q_KR) (hw : wX3_readWay as sh m R) : q_AM l yX3_readWay (Cond.code yX3_readWay cX3_readWay 5 none :: q_G) rmX3_readWay as sh m R := by
  refine q_met (code := TX3_readWay) (by decide) (fun X hl hQ _ h pc => ?_) hw.1 hw.2
  unfold TX3_readWay
  exact k_at (sX3_readWay_0 hl hQ h) (k_at (sX3_readWay_48 hl hQ h) (k_no))
/-! TumblingRock$Rock.addPush(III)V -/
abbrev dlX4_addPush : List (Nat × (Instr × Nat)) := [(0, .aload_n 0, 1), (1, .getfield 27, 3), (4, .aload_n 0, 1), (5, .getfield 52, 3), (8, .iconst 3, 1), (9, .imul, 1), (10, .iload_n 1, 1), (11, .invokestatic 55, 3), (14, .aload_n 0, 1), (15, .getfield 27, 3), (18, .aload_n 0, 1), (19, .getfield 52, 3), (22, .iconst 3, 1), (23, .imul, 1), (24, .iconst 1, 1), (25, .iadd, 1), (26, .iload_n 2, 1), (27, .invokestatic 55, 3), (30, .aload_n 0, 1), (31, .getfield 27, 3), (34, .aload_n 0, 1), (35, .getfield 52, 3), (38, .iconst 3, 1), (39, .imul, 1), (40, .iconst 2, 1), (41, .iadd, 1), (42, .iload_n 3, 1), (43, .invokestatic 55, 3), (46, .aload_n 0, 1), (47, .dup, 1), (48, .getfield 52, 3), (51, .iconst 1, 1), (52, .iadd, 1), (53, .putfield 52, 3), (56, .return_, 1)]
theorem ddX4_addPush : ∀ q ∈ dlX4_addPush, decode cX4_addPush q.1 = .ok q.2 := by decide +kernel
theorem sX4_addPush_0 {l : Launch} {X : q_CX} (hl : X.2.1 = l) (hQ : q_QM X) (h : q_OK X yX4_addPush cX4_addPush 4 none rmX4_addPush (Cond.code yX4_addPush cX4_addPush 4 none :: q_G)) : q_SK X 4 0 (BX4_addPush_0) := by
  refine k_aload_n (i := 0) h (ddX4_addPush (0, .aload_n 0, 1) (List.mem_of_getElem? (i := 0) rfl)) rfl ?_
  refine k_getf (ci := 4) (j := 11) (C := RX4) (T := TX4) (N := 14) h rfl (fun w hw => List.mem_cons_of_mem _ (q_inX4 w hw)) (by decide) (List.mem_cons_of_mem _ gw78) (ddX4_addPush (1, .getfield 27, 3) (List.mem_of_getElem? (i := 1) rfl)) ?_
  refine k_aload_n (i := 0) h (ddX4_addPush (4, .aload_n 0, 1) (List.mem_of_getElem? (i := 2) rfl)) rfl ?_
  refine k_getf (ci := 4) (j := 3) (C := RX4) (T := TX4) (N := 14) h rfl (fun w hw => List.mem_cons_of_mem _ (q_inX4 w hw)) (by decide) (List.mem_cons_of_mem _ gw84) (ddX4_addPush (5, .getfield 52, 3) (List.mem_of_getElem? (i := 3) rfl)) ?_
  refine k_iconst (v := 3) h (ddX4_addPush (8, .iconst 3, 1) (List.mem_of_getElem? (i := 4) rfl)) (by decide) ?_
  refine k_imul h (ddX4_addPush (9, .imul, 1) (List.mem_of_getElem? (i := 5) rfl)) ?_
  refine k_iload_n (i := 1) h (ddX4_addPush (10, .iload_n 1, 1) (List.mem_of_getElem? (i := 6) rfl)) rfl ?_
  refine k_callN h hl (aX8_put l) ⟨rfl, rfl⟩ (n := 3) (by decide +kernel) (q_gN gw143) (by decide +kernel) (List.mem_cons_of_mem _ gw91) (List.mem_cons_of_mem _ gw144) ⟨by decide, by decide⟩ (ddX4_addPush (11, .invokestatic 55, 3) (List.mem_of_getElem? (i := 7) rfl)) ?_
  refine k_aload_n (i := 0) h (ddX4_addPush (14, .aload_n 0, 1) (List.mem_of_getElem? (i := 8) rfl)) rfl ?_
  refine k_getf (ci := 4) (j := 11) (C := RX4) (T := TX4) (N := 14) h rfl (fun w hw => List.mem_cons_of_mem _ (q_inX4 w hw)) (by decide) (List.mem_cons_of_mem _ gw78) (ddX4_addPush (15, .getfield 27, 3) (List.mem_of_getElem? (i := 9) rfl)) ?_
  refine k_aload_n (i := 0) h (ddX4_addPush (18, .aload_n 0, 1) (List.mem_of_getElem? (i := 10) rfl)) rfl ?_
  refine k_getf (ci := 4) (j := 3) (C := RX4) (T := TX4) (N := 14) h rfl (fun w hw => List.mem_cons_of_mem _ (q_inX4 w hw)) (by decide) (List.mem_cons_of_mem _ gw84) (ddX4_addPush (19, .getfield 52, 3) (List.mem_of_getElem? (i := 11) rfl)) ?_
  refine k_iconst (v := 3) h (ddX4_addPush (22, .iconst 3, 1) (List.mem_of_getElem? (i := 12) rfl)) (by decide) ?_
  refine k_imul h (ddX4_addPush (23, .imul, 1) (List.mem_of_getElem? (i := 13) rfl)) ?_
  refine k_iconst (v := 1) h (ddX4_addPush (24, .iconst 1, 1) (List.mem_of_getElem? (i := 14) rfl)) (by decide) ?_
  refine k_iadd h (ddX4_addPush (25, .iadd, 1) (List.mem_of_getElem? (i := 15) rfl)) ?_
  refine k_iload_n (i := 2) h (ddX4_addPush (26, .iload_n 2, 1) (List.mem_of_getElem? (i := 16) rfl)) rfl ?_
  refine k_callN h hl (aX8_put l) ⟨rfl, rfl⟩ (n := 3) (by decide +kernel) (q_gN gw143) (by decide +kernel) (List.mem_cons_of_mem _ gw91) (List.mem_cons_of_mem _ gw144) ⟨by decide, by decide⟩ (ddX4_addPush (27, .invokestatic 55, 3) (List.mem_of_getElem? (i := 17) rfl)) ?_
  refine k_aload_n (i := 0) h (ddX4_addPush (30, .aload_n 0, 1) (List.mem_of_getElem? (i := 18) rfl)) rfl ?_
  refine k_getf (ci := 4) (j := 11) (C := RX4) (T := TX4) (N := 14) h rfl (fun w hw => List.mem_cons_of_mem _ (q_inX4 w hw)) (by decide) (List.mem_cons_of_mem _ gw78) (ddX4_addPush (31, .getfield 27, 3) (List.mem_of_getElem? (i := 19) rfl)) ?_
  refine k_aload_n (i := 0) h (ddX4_addPush (34, .aload_n 0, 1) (List.mem_of_getElem? (i := 20) rfl)) rfl ?_
  refine k_getf (ci := 4) (j := 3) (C := RX4) (T := TX4) (N := 14) h rfl (fun w hw => List.mem_cons_of_mem _ (q_inX4 w hw)) (by decide) (List.mem_cons_of_mem _ gw84) (ddX4_addPush (35, .getfield 52, 3) (List.mem_of_getElem? (i := 21) rfl)) ?_
  refine k_iconst (v := 3) h (ddX4_addPush (38, .iconst 3, 1) (List.mem_of_getElem? (i := 22) rfl)) (by decide) ?_
  refine k_imul h (ddX4_addPush (39, .imul, 1) (List.mem_of_getElem? (i := 23) rfl)) ?_
  refine k_iconst (v := 2) h (ddX4_addPush (40, .iconst 2, 1) (List.mem_of_getElem? (i := 24) rfl)) (by decide) ?_
  refine k_iadd h (ddX4_addPush (41, .iadd, 1) (List.mem_of_getElem? (i := 25) rfl)) ?_
  refine k_iload_n (i := 3) h (ddX4_addPush (42, .iload_n 3, 1) (List.mem_of_getElem? (i := 26) rfl)) rfl ?_
  refine k_callN h hl (aX8_put l) ⟨rfl, rfl⟩ (n := 3) (by decide +kernel) (q_gN gw143) (by decide +kernel) (List.mem_cons_of_mem _ gw91) (List.mem_cons_of_mem _ gw144) ⟨by decide, by decide⟩ (ddX4_addPush (43, .invokestatic 55, 3) (List.mem_of_getElem? (i := 27) rfl)) ?_
  refine k_aload_n (i := 0) h (ddX4_addPush (46, .aload_n 0, 1) (List.mem_of_getElem? (i := 28) rfl)) rfl ?_
  refine k_dup h (ddX4_addPush (47, .dup, 1) (List.mem_of_getElem? (i := 29) rfl)) ?_
  refine k_getf (ci := 4) (j := 3) (C := RX4) (T := TX4) (N := 14) h rfl (fun w hw => List.mem_cons_of_mem _ (q_inX4 w hw)) (by decide) (List.mem_cons_of_mem _ gw84) (ddX4_addPush (48, .getfield 52, 3) (List.mem_of_getElem? (i := 30) rfl)) ?_
  refine k_iconst (v := 1) h (ddX4_addPush (51, .iconst 1, 1) (List.mem_of_getElem? (i := 31) rfl)) (by decide) ?_
  refine k_iadd h (ddX4_addPush (52, .iadd, 1) (List.mem_of_getElem? (i := 32) rfl)) ?_
  refine k_putf (ci := 4) (j := 3) (C := RX4) (T := TX4) (N := 14) h rfl (fun w hw => List.mem_cons_of_mem _ (q_inX4 w hw)) (by decide) (List.mem_cons_of_mem _ gw84) tyX4 tyX4_ok nmX4 (by decide +kernel) (by decide +kernel) (ddX4_addPush (53, .putfield 52, 3) (List.mem_of_getElem? (i := 33) rfl)) ?_
  exact k_vret h hQ (ddX4_addPush (56, .return_, 1) (List.mem_of_getElem? (i := 34) rfl))
theorem aX4_addPush (l : Launch) (as : List Value) (sh : q_Sh) (m : q_Mm) (R : q_KR) (hw : wX4_addPush as sh m R) : q_AM l yX4_addPush (Cond.code yX4_addPush cX4_addPush 4 none :: q_G) rmX4_addPush as sh m R := by
  refine q_met (code := TX4_addPush) (by decide) (fun X hl hQ _ h pc => ?_) hw.1 hw.2
  unfold TX4_addPush
  exact k_at (sX4_addPush_0 hl hQ h) (k_no)
/-! TumblingRock$Reader.readPush(LTumblingRock$Rock;)V -/
abbrev dlX3_readPush : List (Nat × (Instr × Nat)) := [(0, .aload_n 0, 1), (1, .bipush 11, 2), (3, .invokevirtual 97, 3), (6, .istore_n 2, 1), (7, .aload_n 0, 1), (8, .bipush 11, 2), (10, .invokevirtual 97, 3), (13, .istore_n 3, 1), (14, .aload_n 0, 1), (15, .bipush 11, 2), (17, .invokevirtual 97, 3), (20, .istore 4, 2), (22, .aload_n 0, 1), (23, .invokevirtual 104, 3), (26, .aload_n 0, 1), (27, .getfield 22, 3), (30, .ifCond .ne 11, 3), (33, .aload_n 1, 1), (34, .iload_n 2, 1), (35, .iload_n 3, 1), (36, .iload 4, 2), (38, .invokevirtual 118, 3), (41, .return_, 1)]
theorem ddX3_readPush : ∀ q ∈ dlX3_readPush, decode cX3_readPush q.1 = .ok q.2 := by decide +kernel
theorem sX3_readPush_41 {l : Launch} {X : q_CX} (hl : X.2.1 = l) (hQ : q_QM X) (h : q_OK X yX3_readPush cX3_readPush 5 none rmX3_readPush (Cond.code yX3_readPush cX3_readPush 5 none :: q_G)) : q_SK X 5 41 (BX3_readPush_41) := by
  exact k_vret h hQ (ddX3_readPush (41, .return_, 1) (List.mem_of_getElem? (i := 22) rfl))
theorem sX3_readPush_33 {l : Launch} {X : q_CX} (hl : X.2.1 = l) (hQ : q_QM X) (h : q_OK X yX3_readPush cX3_readPush 5 none rmX3_readPush (Cond.code yX3_readPush cX3_readPush 5 none :: q_G)) : q_SK X 5 33 (BX3_readPush_33) := by
  refine k_aload_n (i := 1) h (ddX3_readPush (33, .aload_n 1, 1) (List.mem_of_getElem? (i := 17) rfl)) rfl ?_
  refine k_iload_n (i := 2) h (ddX3_readPush (34, .iload_n 2, 1) (List.mem_of_getElem? (i := 18) rfl)) rfl ?_
  refine k_iload_n (i := 3) h (ddX3_readPush (35, .iload_n 3, 1) (List.mem_of_getElem? (i := 19) rfl)) rfl ?_
  refine k_iload (i := 4) h (ddX3_readPush (36, .iload 4, 2) (List.mem_of_getElem? (i := 20) rfl)) ?_
  refine k_callV h hl (aX4_addPush l) (ci := 4) (C := RX4) (T := TX4) (N := 14) rfl ⟨rfl, rfl⟩ (n := 3) (by decide +kernel) (q_gV gw271 gw272 gw273 gw71 gw270) ⟨by decide, by decide⟩ (ddX3_readPush (38, .invokevirtual 118, 3) (List.mem_of_getElem? (i := 21) rfl)) ?_
  exact sX3_readPush_41 hl hQ h
theorem sX3_readPush_0 {l : Launch} {X : q_CX} (hl : X.2.1 = l) (hQ : q_QM X) (h : q_OK X yX3_readPush cX3_readPush 5 none rmX3_readPush (Cond.code yX3_readPush cX3_readPush 5 none :: q_G)) : q_SK X 5 0 (BX3_readPush_0) := by
  refine k_aload_n (i := 0) h (ddX3_readPush (0, .aload_n 0, 1) (List.mem_of_getElem? (i := 0) rfl)) rfl ?_
  refine k_bipush (v := 11) h (ddX3_readPush (1, .bipush 11, 2) (List.mem_of_getElem? (i := 1) rfl)) (by decide) ?_
  refine k_callV h hl (aX3_readNumber l) (ci := 3) (C := RX3) (T := TX3) (N := 4) rfl ⟨rfl, rfl⟩ (n := 1) (by decide +kernel) (q_gV gw222 gw223 gw224 gw14 gw221) ⟨by decide, by decide⟩ (ddX3_readPush (3, .invokevirtual 97, 3) (List.mem_of_getElem? (i := 2) rfl)) ?_
  refine k_istore_n (i := 2) h (ddX3_readPush (6, .istore_n 2, 1) (List.mem_of_getElem? (i := 3) rfl)) rfl (by decide) ?_
  refine k_aload_n (i := 0) h (ddX3_readPush (7, .aload_n 0, 1) (List.mem_of_getElem? (i := 4) rfl)) rfl ?_
  refine k_bipush (v := 11) h (ddX3_readPush (8, .bipush 11, 2) (List.mem_of_getElem? (i := 5) rfl)) (by decide) ?_
  refine k_callV h hl (aX3_readNumber l) (ci := 3) (C := RX3) (T := TX3) (N := 4) rfl ⟨rfl, rfl⟩ (n := 1) (by decide +kernel) (q_gV gw222 gw223 gw224 gw14 gw221) ⟨by decide, by decide⟩ (ddX3_readPush (10, .invokevirtual 97, 3) (List.mem_of_getElem? (i := 6) rfl)) ?_
  refine k_istore_n (i := 3) h (ddX3_readPush (13, .istore_n 3, 1) (List.mem_of_getElem? (i := 7) rfl)) rfl (by decide) ?_
  refine k_aload_n (i := 0) h (ddX3_readPush (14, .aload_n 0, 1) (List.mem_of_getElem? (i := 8) rfl)) rfl ?_
  refine k_bipush (v := 11) h (ddX3_readPush (15, .bipush 11, 2) (List.mem_of_getElem? (i := 9) rfl)) (by decide) ?_
  refine k_callV h hl (aX3_readNumber l) (ci := 3) (C := RX3) (T := TX3) (N := 4) rfl ⟨rfl, rfl⟩ (n := 1) (by decide +kernel) (q_gV gw222 gw223 gw224 gw14 gw221) ⟨by decide, by decide⟩ (ddX3_readPush (17, .invokevirtual 97, 3) (List.mem_of_getElem? (i := 10) rfl)) ?_
  refine k_istore (i := 4) h (ddX3_readPush (20, .istore 4, 2) (List.mem_of_getElem? (i := 11) rfl)) (by decide) ?_
  refine k_aload_n (i := 0) h (ddX3_readPush (22, .aload_n 0, 1) (List.mem_of_getElem? (i := 12) rfl)) rfl ?_
  refine k_callV h hl (aX3_readEnd l) (ci := 3) (C := RX3) (T := TX3) (N := 4) rfl ⟨rfl, rfl⟩ (n := 0) (by decide +kernel) (q_gV gw239 gw240 gw241 gw14 gw238) ⟨by decide, by decide⟩ (ddX3_readPush (23, .invokevirtual 104, 3) (List.mem_of_getElem? (i := 13) rfl)) ?_
  refine k_aload_n (i := 0) h (ddX3_readPush (26, .aload_n 0, 1) (List.mem_of_getElem? (i := 14) rfl)) rfl ?_
  refine k_getf (ci := 3) (j := 2) (C := RX3) (T := TX3) (N := 4) h rfl (fun w hw => List.mem_cons_of_mem _ (q_inX3 w hw)) (by decide) (List.mem_cons_of_mem _ gw152) (ddX3_readPush (27, .getfield 22, 3) (List.mem_of_getElem? (i := 15) rfl)) ?_
  refine k_ifne h (ddX3_readPush (30, .ifCond .ne 11, 3) (List.mem_of_getElem? (i := 16) rfl)) (tgt := 41) (by decide) ?_ ?_
  · exact sX3_readPush_41 hl hQ h
  · exact sX3_readPush_33 hl hQ h
theorem aX3_readPush (l : Launch) (as : List Value) (sh : q_Sh) (m : q_Mm) (R : q_KR) (hw : wX3_readPush as sh m R) : q_AM l yX3_readPush (Cond.code yX3_readPush cX3_readPush 5 none :: q_G) rmX3_readPush as sh m R := by
  refine q_met (code := TX3_readPush) (by decide) (fun X hl hQ _ h pc => ?_) hw.1 hw.2
  unfold TX3_readPush
  exact k_at (sX3_readPush_0 hl hQ h) (k_no)
/-! TumblingRock$Reader.readClause(LTumblingRock$Rock;)V -/
abbrev dlX3_readClause : List (Nat × (Instr × Nat)) := [(0, .aload_n 0, 1), (1, .getfield 19, 3), (4, .istore_n 2, 1), (5, .aload_n 0, 1), (6, .getfield 19, 3), (9, .aload_n 0, 1), (10, .getfield 9, 3), (13, .getfield 33, 3), (16, .if_icmp .ge 30, 3), (19, .aload_n 0, 1), (20, .getfield 9, 3), (23, .aload_n 0, 1), (24, .getfield 19, 3), (27, .invokevirtual 46, 3), (30, .ifCond .eq 16, 3), (33, .aload_n 0, 1), (34, .dup, 1), (35, .getfield 19, 3), (38, .iconst 1, 1), (39, .iadd, 1), (40, .putfield 19, 3), (43, .goto (-38), 3), (46, .aload_n 0, 1), (47, .getfield 9, 3), (50, .iload_n 2, 1), (51, .aload_n 0, 1), (52, .getfield 19, 3), (55, .ldc 50, 2), (57, .invokevirtual 52, 3), (60, .ifCond .eq 24, 3), (63, .aload_n 0, 1), (64, .aload_n 1, 1), (65, .getfield 56, 3), (68, .iconst 3, 1), (69, .iload_n 2, 1), (70, .invokevirtual 59, 3), (73, .ifCond .eq 133, 3), (76, .aload_n 0, 1), (77, .aload_n 1, 1), (78, .invokevirtual 63, 3), (81, .goto 125, 3), (84, .aload_n 0, 1), (85, .getfield 9, 3), (88, .iload_n 2, 1), (89, .aload_n 0, 1), (90, .getfield 19, 3), (93, .ldc 66, 2), (95, .invokevirtual 52, 3), (98, .ifCond .eq 25, 3), (101, .aload_n 0, 1), (102, .aload_n 1, 1), (103, .getfield 68, 3), (106, .bipush 8, 2), (108, .iload_n 2, 1), (109, .invokevirtual 59, 3), (112, .ifCond .eq 94, 3), (115, .aload_n 0, 1), (116, .aload_n 1, 1), (117, .invokevirtual 71, 3), (120, .goto 86, 3), (123, .aload_n 0, 1), (124, .getfield 9, 3), (127, .iload_n 2, 1), (128, .aload_n 0, 1), (129, .getfield 19, 3), (132, .ldc 74, 2), (134, .invokevirtual 52, 3), (137, .ifCond .eq 25, 3), (140, .aload_n 0, 1), (141, .aload_n 1, 1), (142, .getfield 76, 3), (145, .bipush 12, 2), (147, .iload_n 2, 1), (148, .invokevirtual 59, 3), (151, .ifCond .eq 55, 3), (154, .aload_n 0, 1), (155, .aload_n 1, 1), (156, .invokevirtual 79, 3), (159, .goto 47, 3), (162, .aload_n 0, 1), (163, .getfield 9, 3), (166, .iload_n 2, 1), (167, .aload_n 0, 1), (168, .getfield 19, 3), (171, .ldc 82, 2), (173, .invokevirtual 52, 3), (176, .ifCond .eq 24, 3), (179, .aload_n 0, 1), (180, .aload_n 1, 1), (181, .getfield 84, 3), (184, .iconst 4, 1), (185, .iload_n 2, 1), (186, .invokevirtual 59, 3), (189, .ifCond .eq 17, 3), (192, .aload_n 0, 1), (193, .aload_n 1, 1), (194, .invokevirtual 87, 3), (197, .goto 9, 3), (200, .aload_n 0, 1), (201, .iconst 1, 1), (202, .iload_n 2, 1), (203, .invokevirtual 90, 3), (206, .return_, 1)]
theorem ddX3_readClause : ∀ q ∈ dlX3_readClause, decode cX3_readClause q.1 = .ok q.2 := by decide +kernel
theorem sX3_readClause_0 {l : Launch} {X : q_CX} (hl : X.2.1 = l) (hQ : q_QM X) (h : q_OK X yX3_readClause cX3_readClause 3 none rmX3_readClause (Cond.code yX3_readClause cX3_readClause 3 none :: q_G)) : q_SK X 3 0 (BX3_readClause_0) := by
  refine k_aload_n (i := 0) h (ddX3_readClause (0, .aload_n 0, 1) (List.mem_of_getElem? (i := 0) rfl)) rfl ?_
  refine k_getf (ci := 3) (j := 1) (C := RX3) (T := TX3) (N := 4) h rfl (fun w hw => List.mem_cons_of_mem _ (q_inX3 w hw)) (by decide) (List.mem_cons_of_mem _ gw151) (ddX3_readClause (1, .getfield 19, 3) (List.mem_of_getElem? (i := 1) rfl)) ?_
  refine k_istore_n (i := 2) h (ddX3_readClause (4, .istore_n 2, 1) (List.mem_of_getElem? (i := 2) rfl)) rfl (by decide) ?_
  exact k_cut
theorem sX3_readClause_33 {l : Launch} {X : q_CX} (hl : X.2.1 = l) (hQ : q_QM X) (h : q_OK X yX3_readClause cX3_readClause 3 none rmX3_readClause (Cond.code yX3_readClause cX3_readClause 3 none :: q_G)) : q_SK X 3 33 (BX3_readClause_33) := by
  refine k_aload_n (i := 0) h (ddX3_readClause (33, .aload_n 0, 1) (List.mem_of_getElem? (i := 15) rfl)) rfl ?_
  refine k_dup h (ddX3_readClause (34, .dup, 1) (List.mem_of_getElem? (i := 16) rfl)) ?_
  refine k_getf (ci := 3) (j := 1) (C := RX3) (T := TX3) (N := 4) h rfl (fun w hw => List.mem_cons_of_mem _ (q_inX3 w hw)) (by decide) (List.mem_cons_of_mem _ gw151) (ddX3_readClause (35, .getfield 19, 3) (List.mem_of_getElem? (i := 17) rfl)) ?_
  refine k_iconst (v := 1) h (ddX3_readClause (38, .iconst 1, 1) (List.mem_of_getElem? (i := 18) rfl)) (by decide) ?_
  refine k_iadd h (ddX3_readClause (39, .iadd, 1) (List.mem_of_getElem? (i := 19) rfl)) ?_
  refine k_putf (ci := 3) (j := 1) (C := RX3) (T := TX3) (N := 4) h rfl (fun w hw => List.mem_cons_of_mem _ (q_inX3 w hw)) (by decide) (List.mem_cons_of_mem _ gw151) tyX3 tyX3_ok nmX3 (by decide +kernel) (by decide +kernel) (ddX3_readClause (40, .putfield 19, 3) (List.mem_of_getElem? (i := 20) rfl)) ?_
  refine k_goto h (ddX3_readClause (43, .goto (-38), 3) (List.mem_of_getElem? (i := 21) rfl)) (tgt := 5) (by decide) ?_
  exact k_cut
theorem sX3_readClause_19 {l : Launch} {X : q_CX} (hl : X.2.1 = l) (hQ : q_QM X) (h : q_OK X yX3_readClause cX3_readClause 3 none rmX3_readClause (Cond.code yX3_readClause cX3_readClause 3 none :: q_G)) : q_SK X 3 19 (BX3_readClause_19) := by
  refine k_aload_n (i := 0) h (ddX3_readClause (19, .aload_n 0, 1) (List.mem_of_getElem? (i := 9) rfl)) rfl ?_
  refine k_getf (ci := 3) (j := 0) (C := RX3) (T := TX3) (N := 4) h rfl (fun w hw => List.mem_cons_of_mem _ (q_inX3 w hw)) (by decide) (List.mem_cons_of_mem _ gw16) (ddX3_readClause (20, .getfield 9, 3) (List.mem_of_getElem? (i := 10) rfl)) ?_
  refine k_aload_n (i := 0) h (ddX3_readClause (23, .aload_n 0, 1) (List.mem_of_getElem? (i := 11) rfl)) rfl ?_
  refine k_getf (ci := 3) (j := 1) (C := RX3) (T := TX3) (N := 4) h rfl (fun w hw => List.mem_cons_of_mem _ (q_inX3 w hw)) (by decide) (List.mem_cons_of_mem _ gw151) (ddX3_readClause (24, .getfield 19, 3) (List.mem_of_getElem? (i := 12) rfl)) ?_
  refine k_callV h hl (aX7_isLetter l) (ci := 7) (C := RX7) (T := TX7) (N := 2) rfl ⟨rfl, rfl⟩ (n := 1) (by decide +kernel) (q_gV gw165 gw166 gw167 gw5 gw164) ⟨by decide, by decide⟩ (ddX3_readClause (27, .invokevirtual 46, 3) (List.mem_of_getElem? (i := 13) rfl)) ?_
  refine k_ifeq h (ddX3_readClause (30, .ifCond .eq 16, 3) (List.mem_of_getElem? (i := 14) rfl)) (tgt := 46) (by decide) ?_ ?_
  · exact k_cut
  · exact sX3_readClause_33 hl hQ h
theorem sX3_readClause_5 {l : Launch} {X : q_CX} (hl : X.2.1 = l) (hQ : q_QM X) (h : q_OK X yX3_readClause cX3_readClause 3 none rmX3_readClause (Cond.code yX3_readClause cX3_readClause 3 none :: q_G)) : q_SK X 3 5 (BX3_readClause_5) := by
  refine k_aload_n (i := 0) h (ddX3_readClause (5, .aload_n 0, 1) (List.mem_of_getElem? (i := 3) rfl)) rfl ?_
  refine k_getf (ci := 3) (j := 1) (C := RX3) (T := TX3) (N := 4) h rfl (fun w hw => List.mem_cons_of_mem _ (q_inX3 w hw)) (by decide) (List.mem_cons_of_mem _ gw151) (ddX3_readClause (6, .getfield 19, 3) (List.mem_of_getElem? (i := 4) rfl)) ?_
  refine k_aload_n (i := 0) h (ddX3_readClause (9, .aload_n 0, 1) (List.mem_of_getElem? (i := 5) rfl)) rfl ?_
  refine k_getf (ci := 3) (j := 0) (C := RX3) (T := TX3) (N := 4) h rfl (fun w hw => List.mem_cons_of_mem _ (q_inX3 w hw)) (by decide) (List.mem_cons_of_mem _ gw16) (ddX3_readClause (10, .getfield 9, 3) (List.mem_of_getElem? (i := 6) rfl)) ?_
  refine k_getf (ci := 7) (j := 1) (C := RX7) (T := TX7) (N := 2) h rfl (fun w hw => List.mem_cons_of_mem _ (q_inX7 w hw)) (by decide) (List.mem_cons_of_mem _ gw154) (ddX3_readClause (13, .getfield 33, 3) (List.mem_of_getElem? (i := 7) rfl)) ?_
  refine k_icge h (ddX3_readClause (16, .if_icmp .ge 30, 3) (List.mem_of_getElem? (i := 8) rfl)) (tgt := 46) (by decide) ?_ ?_
  · exact k_cut
  · exact sX3_readClause_19 hl hQ h
theorem sX3_readClause_206 {l : Launch} {X : q_CX} (hl : X.2.1 = l) (hQ : q_QM X) (h : q_OK X yX3_readClause cX3_readClause 3 none rmX3_readClause (Cond.code yX3_readClause cX3_readClause 3 none :: q_G)) : q_SK X 3 206 (BX3_readClause_206) := by
  exact k_vret h hQ (ddX3_readClause (206, .return_, 1) (List.mem_of_getElem? (i := 102) rfl))
theorem sX3_readClause_200 {l : Launch} {X : q_CX} (hl : X.2.1 = l) (hQ : q_QM X) (h : q_OK X yX3_readClause cX3_readClause 3 none rmX3_readClause (Cond.code yX3_readClause cX3_readClause 3 none :: q_G)) : q_SK X 3 200 (BX3_readClause_200) := by
  refine k_aload_n (i := 0) h (ddX3_readClause (200, .aload_n 0, 1) (List.mem_of_getElem? (i := 98) rfl)) rfl ?_
  refine k_iconst (v := 1) h (ddX3_readClause (201, .iconst 1, 1) (List.mem_of_getElem? (i := 99) rfl)) (by decide) ?_
  refine k_iload_n (i := 2) h (ddX3_readClause (202, .iload_n 2, 1) (List.mem_of_getElem? (i := 100) rfl)) rfl ?_
  refine k_callV h hl (aX3_refuse l) (ci := 3) (C := RX3) (T := TX3) (N := 4) rfl ⟨rfl, rfl⟩ (n := 2) (by decide +kernel) (q_gV gw206 gw207 gw208 gw14 gw205) ⟨by decide, by decide⟩ (ddX3_readClause (203, .invokevirtual 90, 3) (List.mem_of_getElem? (i := 101) rfl)) ?_
  exact sX3_readClause_206 hl hQ h
theorem sX3_readClause_192 {l : Launch} {X : q_CX} (hl : X.2.1 = l) (hQ : q_QM X) (h : q_OK X yX3_readClause cX3_readClause 3 none rmX3_readClause (Cond.code yX3_readClause cX3_readClause 3 none :: q_G)) : q_SK X 3 192 (BX3_readClause_192) := by
  refine k_aload_n (i := 0) h (ddX3_readClause (192, .aload_n 0, 1) (List.mem_of_getElem? (i := 94) rfl)) rfl ?_
  refine k_aload_n (i := 1) h (ddX3_readClause (193, .aload_n 1, 1) (List.mem_of_getElem? (i := 95) rfl)) rfl ?_
  refine k_callV h hl (aX3_readPush l) (ci := 3) (C := RX3) (T := TX3) (N := 4) rfl ⟨rfl, rfl⟩ (n := 1) (by decide +kernel) (q_gV gw275 gw276 gw277 gw14 gw274) ⟨by decide, by decide⟩ (ddX3_readClause (194, .invokevirtual 87, 3) (List.mem_of_getElem? (i := 96) rfl)) ?_
  refine k_goto h (ddX3_readClause (197, .goto 9, 3) (List.mem_of_getElem? (i := 97) rfl)) (tgt := 206) (by decide) ?_
  exact sX3_readClause_206 hl hQ h
theorem sX3_readClause_179 {l : Launch} {X : q_CX} (hl : X.2.1 = l) (hQ : q_QM X) (h : q_OK X yX3_readClause cX3_readClause 3 none rmX3_readClause (Cond.code yX3_readClause cX3_readClause 3 none :: q_G)) : q_SK X 3 179 (BX3_readClause_179) := by
  refine k_aload_n (i := 0) h (ddX3_readClause (179, .aload_n 0, 1) (List.mem_of_getElem? (i := 87) rfl)) rfl ?_
  refine k_aload_n (i := 1) h (ddX3_readClause (180, .aload_n 1, 1) (List.mem_of_getElem? (i := 88) rfl)) rfl ?_
  refine k_getf (ci := 4) (j := 3) (C := RX4) (T := TX4) (N := 14) h rfl (fun w hw => List.mem_cons_of_mem _ (q_inX4 w hw)) (by decide) (List.mem_cons_of_mem _ gw269) (ddX3_readClause (181, .getfield 84, 3) (List.mem_of_getElem? (i := 89) rfl)) ?_
  refine k_iconst (v := 4) h (ddX3_readClause (184, .iconst 4, 1) (List.mem_of_getElem? (i := 90) rfl)) (by decide) ?_
  refine k_iload_n (i := 2) h (ddX3_readClause (185, .iload_n 2, 1) (List.mem_of_getElem? (i := 91) rfl)) rfl ?_
  refine k_callV h hl (aX3_hasRoom l) (ci := 3) (C := RX3) (T := TX3) (N := 4) rfl ⟨rfl, rfl⟩ (n := 3) (by decide +kernel) (q_gV gw210 gw211 gw212 gw14 gw209) ⟨by decide, by decide⟩ (ddX3_readClause (186, .invokevirtual 59, 3) (List.mem_of_getElem? (i := 92) rfl)) ?_
  refine k_ifeq h (ddX3_readClause (189, .ifCond .eq 17, 3) (List.mem_of_getElem? (i := 93) rfl)) (tgt := 206) (by decide) ?_ ?_
  · exact sX3_readClause_206 hl hQ h
  · exact sX3_readClause_192 hl hQ h
theorem sX3_readClause_162 {l : Launch} {X : q_CX} (hl : X.2.1 = l) (hQ : q_QM X) (h : q_OK X yX3_readClause cX3_readClause 3 none rmX3_readClause (Cond.code yX3_readClause cX3_readClause 3 none :: q_G)) : q_SK X 3 162 (BX3_readClause_162) := by
  refine k_aload_n (i := 0) h (ddX3_readClause (162, .aload_n 0, 1) (List.mem_of_getElem? (i := 79) rfl)) rfl ?_
  refine k_getf (ci := 3) (j := 0) (C := RX3) (T := TX3) (N := 4) h rfl (fun w hw => List.mem_cons_of_mem _ (q_inX3 w hw)) (by decide) (List.mem_cons_of_mem _ gw16) (ddX3_readClause (163, .getfield 9, 3) (List.mem_of_getElem? (i := 80) rfl)) ?_
  refine k_iload_n (i := 2) h (ddX3_readClause (166, .iload_n 2, 1) (List.mem_of_getElem? (i := 81) rfl)) rfl ?_
  refine k_aload_n (i := 0) h (ddX3_readClause (167, .aload_n 0, 1) (List.mem_of_getElem? (i := 82) rfl)) rfl ?_
  refine k_getf (ci := 3) (j := 1) (C := RX3) (T := TX3) (N := 4) h rfl (fun w hw => List.mem_cons_of_mem _ (q_inX3 w hw)) (by decide) (List.mem_cons_of_mem _ gw151) (ddX3_readClause (168, .getfield 19, 3) (List.mem_of_getElem? (i := 83) rfl)) ?_
  refine k_str h (i := 3) (by decide) rfl rfl (ddX3_readClause (171, .ldc 82, 2) (List.mem_of_getElem? (i := 84) rfl)) ?_
  refine k_callV h hl (aX7_spells l) (ci := 7) (C := RX7) (T := TX7) (N := 2) rfl ⟨rfl, rfl⟩ (n := 3) (by decide +kernel) (q_gV gw201 gw202 gw203 gw5 gw200) ⟨by decide, by decide⟩ (ddX3_readClause (173, .invokevirtual 52, 3) (List.mem_of_getElem? (i := 85) rfl)) ?_
  refine k_ifeq h (ddX3_readClause (176, .ifCond .eq 24, 3) (List.mem_of_getElem? (i := 86) rfl)) (tgt := 200) (by decide) ?_ ?_
  · exact sX3_readClause_200 hl hQ h
  · exact sX3_readClause_179 hl hQ h
theorem sX3_readClause_154 {l : Launch} {X : q_CX} (hl : X.2.1 = l) (hQ : q_QM X) (h : q_OK X yX3_readClause cX3_readClause 3 none rmX3_readClause (Cond.code yX3_readClause cX3_readClause 3 none :: q_G)) : q_SK X 3 154 (BX3_readClause_154) := by
  refine k_aload_n (i := 0) h (ddX3_readClause (154, .aload_n 0, 1) (List.mem_of_getElem? (i := 75) rfl)) rfl ?_
  refine k_aload_n (i := 1) h (ddX3_readClause (155, .aload_n 1, 1) (List.mem_of_getElem? (i := 76) rfl)) rfl ?_
  refine k_callV h hl (aX3_readWay l) (ci := 3) (C := RX3) (T := TX3) (N := 4) rfl ⟨rfl, rfl⟩ (n := 1) (by decide +kernel) (q_gV gw266 gw267 gw268 gw14 gw265) ⟨by decide, by decide⟩ (ddX3_readClause (156, .invokevirtual 79, 3) (List.mem_of_getElem? (i := 77) rfl)) ?_
  refine k_goto h (ddX3_readClause (159, .goto 47, 3) (List.mem_of_getElem? (i := 78) rfl)) (tgt := 206) (by decide) ?_
  exact sX3_readClause_206 hl hQ h
theorem sX3_readClause_140 {l : Launch} {X : q_CX} (hl : X.2.1 = l) (hQ : q_QM X) (h : q_OK X yX3_readClause cX3_readClause 3 none rmX3_readClause (Cond.code yX3_readClause cX3_readClause 3 none :: q_G)) : q_SK X 3 140 (BX3_readClause_140) := by
  refine k_aload_n (i := 0) h (ddX3_readClause (140, .aload_n 0, 1) (List.mem_of_getElem? (i := 68) rfl)) rfl ?_
  refine k_aload_n (i := 1) h (ddX3_readClause (141, .aload_n 1, 1) (List.mem_of_getElem? (i := 69) rfl)) rfl ?_
  refine k_getf (ci := 4) (j := 2) (C := RX4) (T := TX4) (N := 14) h rfl (fun w hw => List.mem_cons_of_mem _ (q_inX4 w hw)) (by decide) (List.mem_cons_of_mem _ gw250) (ddX3_readClause (142, .getfield 76, 3) (List.mem_of_getElem? (i := 70) rfl)) ?_
  refine k_bipush (v := 12) h (ddX3_readClause (145, .bipush 12, 2) (List.mem_of_getElem? (i := 71) rfl)) (by decide) ?_
  refine k_iload_n (i := 2) h (ddX3_readClause (147, .iload_n 2, 1) (List.mem_of_getElem? (i := 72) rfl)) rfl ?_
  refine k_callV h hl (aX3_hasRoom l) (ci := 3) (C := RX3) (T := TX3) (N := 4) rfl ⟨rfl, rfl⟩ (n := 3) (by decide +kernel) (q_gV gw210 gw211 gw212 gw14 gw209) ⟨by decide, by decide⟩ (ddX3_readClause (148, .invokevirtual 59, 3) (List.mem_of_getElem? (i := 73) rfl)) ?_
  refine k_ifeq h (ddX3_readClause (151, .ifCond .eq 55, 3) (List.mem_of_getElem? (i := 74) rfl)) (tgt := 206) (by decide) ?_ ?_
  · exact sX3_readClause_206 hl hQ h
  · exact sX3_readClause_154 hl hQ h
theorem sX3_readClause_123 {l : Launch} {X : q_CX} (hl : X.2.1 = l) (hQ : q_QM X) (h : q_OK X yX3_readClause cX3_readClause 3 none rmX3_readClause (Cond.code yX3_readClause cX3_readClause 3 none :: q_G)) : q_SK X 3 123 (BX3_readClause_123) := by
  refine k_aload_n (i := 0) h (ddX3_readClause (123, .aload_n 0, 1) (List.mem_of_getElem? (i := 60) rfl)) rfl ?_
  refine k_getf (ci := 3) (j := 0) (C := RX3) (T := TX3) (N := 4) h rfl (fun w hw => List.mem_cons_of_mem _ (q_inX3 w hw)) (by decide) (List.mem_cons_of_mem _ gw16) (ddX3_readClause (124, .getfield 9, 3) (List.mem_of_getElem? (i := 61) rfl)) ?_
  refine k_iload_n (i := 2) h (ddX3_readClause (127, .iload_n 2, 1) (List.mem_of_getElem? (i := 62) rfl)) rfl ?_
  refine k_aload_n (i := 0) h (ddX3_readClause (128, .aload_n 0, 1) (List.mem_of_getElem? (i := 63) rfl)) rfl ?_
  refine k_getf (ci := 3) (j := 1) (C := RX3) (T := TX3) (N := 4) h rfl (fun w hw => List.mem_cons_of_mem _ (q_inX3 w hw)) (by decide) (List.mem_cons_of_mem _ gw151) (ddX3_readClause (129, .getfield 19, 3) (List.mem_of_getElem? (i := 64) rfl)) ?_
  refine k_str h (i := 2) (by decide) rfl rfl (ddX3_readClause (132, .ldc 74, 2) (List.mem_of_getElem? (i := 65) rfl)) ?_
  refine k_callV h hl (aX7_spells l) (ci := 7) (C := RX7) (T := TX7) (N := 2) rfl ⟨rfl, rfl⟩ (n := 3) (by decide +kernel) (q_gV gw201 gw202 gw203 gw5 gw200) ⟨by decide, by decide⟩ (ddX3_readClause (134, .invokevirtual 52, 3) (List.mem_of_getElem? (i := 66) rfl)) ?_
  refine k_ifeq h (ddX3_readClause (137, .ifCond .eq 25, 3) (List.mem_of_getElem? (i := 67) rfl)) (tgt := 162) (by decide) ?_ ?_
  · exact sX3_readClause_162 hl hQ h
  · exact sX3_readClause_140 hl hQ h
theorem sX3_readClause_115 {l : Launch} {X : q_CX} (hl : X.2.1 = l) (hQ : q_QM X) (h : q_OK X yX3_readClause cX3_readClause 3 none rmX3_readClause (Cond.code yX3_readClause cX3_readClause 3 none :: q_G)) : q_SK X 3 115 (BX3_readClause_115) := by
  refine k_aload_n (i := 0) h (ddX3_readClause (115, .aload_n 0, 1) (List.mem_of_getElem? (i := 56) rfl)) rfl ?_
  refine k_aload_n (i := 1) h (ddX3_readClause (116, .aload_n 1, 1) (List.mem_of_getElem? (i := 57) rfl)) rfl ?_
  refine k_callV h hl (aX3_readPlace l) (ci := 3) (C := RX3) (T := TX3) (N := 4) rfl ⟨rfl, rfl⟩ (n := 1) (by decide +kernel) (q_gV gw247 gw248 gw249 gw14 gw246) ⟨by decide, by decide⟩ (ddX3_readClause (117, .invokevirtual 71, 3) (List.mem_of_getElem? (i := 58) rfl)) ?_
  refine k_goto h (ddX3_readClause (120, .goto 86, 3) (List.mem_of_getElem? (i := 59) rfl)) (tgt := 206) (by decide) ?_
  exact sX3_readClause_206 hl hQ h
theorem sX3_readClause_101 {l : Launch} {X : q_CX} (hl : X.2.1 = l) (hQ : q_QM X) (h : q_OK X yX3_readClause cX3_readClause 3 none rmX3_readClause (Cond.code yX3_readClause cX3_readClause 3 none :: q_G)) : q_SK X 3 101 (BX3_readClause_101) := by
  refine k_aload_n (i := 0) h (ddX3_readClause (101, .aload_n 0, 1) (List.mem_of_getElem? (i := 49) rfl)) rfl ?_
  refine k_aload_n (i := 1) h (ddX3_readClause (102, .aload_n 1, 1) (List.mem_of_getElem? (i := 50) rfl)) rfl ?_
  refine k_getf (ci := 4) (j := 1) (C := RX4) (T := TX4) (N := 14) h rfl (fun w hw => List.mem_cons_of_mem _ (q_inX4 w hw)) (by decide) (List.mem_cons_of_mem _ gw237) (ddX3_readClause (103, .getfield 68, 3) (List.mem_of_getElem? (i := 51) rfl)) ?_
  refine k_bipush (v := 8) h (ddX3_readClause (106, .bipush 8, 2) (List.mem_of_getElem? (i := 52) rfl)) (by decide) ?_
  refine k_iload_n (i := 2) h (ddX3_readClause (108, .iload_n 2, 1) (List.mem_of_getElem? (i := 53) rfl)) rfl ?_
  refine k_callV h hl (aX3_hasRoom l) (ci := 3) (C := RX3) (T := TX3) (N := 4) rfl ⟨rfl, rfl⟩ (n := 3) (by decide +kernel) (q_gV gw210 gw211 gw212 gw14 gw209) ⟨by decide, by decide⟩ (ddX3_readClause (109, .invokevirtual 59, 3) (List.mem_of_getElem? (i := 54) rfl)) ?_
  refine k_ifeq h (ddX3_readClause (112, .ifCond .eq 94, 3) (List.mem_of_getElem? (i := 55) rfl)) (tgt := 206) (by decide) ?_ ?_
  · exact sX3_readClause_206 hl hQ h
  · exact sX3_readClause_115 hl hQ h
theorem sX3_readClause_84 {l : Launch} {X : q_CX} (hl : X.2.1 = l) (hQ : q_QM X) (h : q_OK X yX3_readClause cX3_readClause 3 none rmX3_readClause (Cond.code yX3_readClause cX3_readClause 3 none :: q_G)) : q_SK X 3 84 (BX3_readClause_84) := by
  refine k_aload_n (i := 0) h (ddX3_readClause (84, .aload_n 0, 1) (List.mem_of_getElem? (i := 41) rfl)) rfl ?_
  refine k_getf (ci := 3) (j := 0) (C := RX3) (T := TX3) (N := 4) h rfl (fun w hw => List.mem_cons_of_mem _ (q_inX3 w hw)) (by decide) (List.mem_cons_of_mem _ gw16) (ddX3_readClause (85, .getfield 9, 3) (List.mem_of_getElem? (i := 42) rfl)) ?_
  refine k_iload_n (i := 2) h (ddX3_readClause (88, .iload_n 2, 1) (List.mem_of_getElem? (i := 43) rfl)) rfl ?_
  refine k_aload_n (i := 0) h (ddX3_readClause (89, .aload_n 0, 1) (List.mem_of_getElem? (i := 44) rfl)) rfl ?_
  refine k_getf (ci := 3) (j := 1) (C := RX3) (T := TX3) (N := 4) h rfl (fun w hw => List.mem_cons_of_mem _ (q_inX3 w hw)) (by decide) (List.mem_cons_of_mem _ gw151) (ddX3_readClause (90, .getfield 19, 3) (List.mem_of_getElem? (i := 45) rfl)) ?_
  refine k_str h (i := 1) (by decide) rfl rfl (ddX3_readClause (93, .ldc 66, 2) (List.mem_of_getElem? (i := 46) rfl)) ?_
  refine k_callV h hl (aX7_spells l) (ci := 7) (C := RX7) (T := TX7) (N := 2) rfl ⟨rfl, rfl⟩ (n := 3) (by decide +kernel) (q_gV gw201 gw202 gw203 gw5 gw200) ⟨by decide, by decide⟩ (ddX3_readClause (95, .invokevirtual 52, 3) (List.mem_of_getElem? (i := 47) rfl)) ?_
  refine k_ifeq h (ddX3_readClause (98, .ifCond .eq 25, 3) (List.mem_of_getElem? (i := 48) rfl)) (tgt := 123) (by decide) ?_ ?_
  · exact sX3_readClause_123 hl hQ h
  · exact sX3_readClause_101 hl hQ h
theorem sX3_readClause_76 {l : Launch} {X : q_CX} (hl : X.2.1 = l) (hQ : q_QM X) (h : q_OK X yX3_readClause cX3_readClause 3 none rmX3_readClause (Cond.code yX3_readClause cX3_readClause 3 none :: q_G)) : q_SK X 3 76 (BX3_readClause_76) := by
  refine k_aload_n (i := 0) h (ddX3_readClause (76, .aload_n 0, 1) (List.mem_of_getElem? (i := 37) rfl)) rfl ?_
  refine k_aload_n (i := 1) h (ddX3_readClause (77, .aload_n 1, 1) (List.mem_of_getElem? (i := 38) rfl)) rfl ?_
  refine k_callV h hl (aX3_readTurning l) (ci := 3) (C := RX3) (T := TX3) (N := 4) rfl ⟨rfl, rfl⟩ (n := 1) (by decide +kernel) (q_gV gw234 gw235 gw236 gw14 gw233) ⟨by decide, by decide⟩ (ddX3_readClause (78, .invokevirtual 63, 3) (List.mem_of_getElem? (i := 39) rfl)) ?_
  refine k_goto h (ddX3_readClause (81, .goto 125, 3) (List.mem_of_getElem? (i := 40) rfl)) (tgt := 206) (by decide) ?_
  exact sX3_readClause_206 hl hQ h
theorem sX3_readClause_63 {l : Launch} {X : q_CX} (hl : X.2.1 = l) (hQ : q_QM X) (h : q_OK X yX3_readClause cX3_readClause 3 none rmX3_readClause (Cond.code yX3_readClause cX3_readClause 3 none :: q_G)) : q_SK X 3 63 (BX3_readClause_63) := by
  refine k_aload_n (i := 0) h (ddX3_readClause (63, .aload_n 0, 1) (List.mem_of_getElem? (i := 30) rfl)) rfl ?_
  refine k_aload_n (i := 1) h (ddX3_readClause (64, .aload_n 1, 1) (List.mem_of_getElem? (i := 31) rfl)) rfl ?_
  refine k_getf (ci := 4) (j := 0) (C := RX4) (T := TX4) (N := 14) h rfl (fun w hw => List.mem_cons_of_mem _ (q_inX4 w hw)) (by decide) (List.mem_cons_of_mem _ gw204) (ddX3_readClause (65, .getfield 56, 3) (List.mem_of_getElem? (i := 32) rfl)) ?_
  refine k_iconst (v := 3) h (ddX3_readClause (68, .iconst 3, 1) (List.mem_of_getElem? (i := 33) rfl)) (by decide) ?_
  refine k_iload_n (i := 2) h (ddX3_readClause (69, .iload_n 2, 1) (List.mem_of_getElem? (i := 34) rfl)) rfl ?_
  refine k_callV h hl (aX3_hasRoom l) (ci := 3) (C := RX3) (T := TX3) (N := 4) rfl ⟨rfl, rfl⟩ (n := 3) (by decide +kernel) (q_gV gw210 gw211 gw212 gw14 gw209) ⟨by decide, by decide⟩ (ddX3_readClause (70, .invokevirtual 59, 3) (List.mem_of_getElem? (i := 35) rfl)) ?_
  refine k_ifeq h (ddX3_readClause (73, .ifCond .eq 133, 3) (List.mem_of_getElem? (i := 36) rfl)) (tgt := 206) (by decide) ?_ ?_
  · exact sX3_readClause_206 hl hQ h
  · exact sX3_readClause_76 hl hQ h
theorem sX3_readClause_46 {l : Launch} {X : q_CX} (hl : X.2.1 = l) (hQ : q_QM X) (h : q_OK X yX3_readClause cX3_readClause 3 none rmX3_readClause (Cond.code yX3_readClause cX3_readClause 3 none :: q_G)) : q_SK X 3 46 (BX3_readClause_46) := by
  refine k_aload_n (i := 0) h (ddX3_readClause (46, .aload_n 0, 1) (List.mem_of_getElem? (i := 22) rfl)) rfl ?_
  refine k_getf (ci := 3) (j := 0) (C := RX3) (T := TX3) (N := 4) h rfl (fun w hw => List.mem_cons_of_mem _ (q_inX3 w hw)) (by decide) (List.mem_cons_of_mem _ gw16) (ddX3_readClause (47, .getfield 9, 3) (List.mem_of_getElem? (i := 23) rfl)) ?_
  refine k_iload_n (i := 2) h (ddX3_readClause (50, .iload_n 2, 1) (List.mem_of_getElem? (i := 24) rfl)) rfl ?_
  refine k_aload_n (i := 0) h (ddX3_readClause (51, .aload_n 0, 1) (List.mem_of_getElem? (i := 25) rfl)) rfl ?_
  refine k_getf (ci := 3) (j := 1) (C := RX3) (T := TX3) (N := 4) h rfl (fun w hw => List.mem_cons_of_mem _ (q_inX3 w hw)) (by decide) (List.mem_cons_of_mem _ gw151) (ddX3_readClause (52, .getfield 19, 3) (List.mem_of_getElem? (i := 26) rfl)) ?_
  refine k_str h (i := 0) (by decide) rfl rfl (ddX3_readClause (55, .ldc 50, 2) (List.mem_of_getElem? (i := 27) rfl)) ?_
  refine k_callV h hl (aX7_spells l) (ci := 7) (C := RX7) (T := TX7) (N := 2) rfl ⟨rfl, rfl⟩ (n := 3) (by decide +kernel) (q_gV gw201 gw202 gw203 gw5 gw200) ⟨by decide, by decide⟩ (ddX3_readClause (57, .invokevirtual 52, 3) (List.mem_of_getElem? (i := 28) rfl)) ?_
  refine k_ifeq h (ddX3_readClause (60, .ifCond .eq 24, 3) (List.mem_of_getElem? (i := 29) rfl)) (tgt := 84) (by decide) ?_ ?_
  · exact sX3_readClause_84 hl hQ h
  · exact sX3_readClause_63 hl hQ h
theorem aX3_readClause (l : Launch) (as : List Value) (sh : q_Sh) (m : q_Mm) (R : q_KR) (hw : wX3_readClause as sh m R) : q_AM l yX3_readClause (Cond.code yX3_readClause cX3_readClause 3 none :: q_G) rmX3_readClause as sh m R := by
  refine q_met (code := TX3_readClause) (by decide) (fun X hl hQ _ h pc => ?_) hw.1 hw.2
  unfold TX3_readClause
  exact k_at (sX3_readClause_0 hl hQ h) (k_at (sX3_readClause_5 hl hQ h) (k_at (sX3_readClause_46 hl hQ h) (k_no)))
/-! TumblingRock$Reader.reads(LTumblingRock$Rock;)Z -/
abbrev dlX3_reads : List (Nat × (Instr × Nat)) := [(0, .aload_n 0, 1), (1, .iconst 0, 1), (2, .putfield 19, 3), (5, .aload_n 0, 1), (6, .iconst 0, 1), (7, .putfield 22, 3), (10, .aload_n 0, 1), (11, .iconst (-1), 1), (12, .putfield 15, 3), (15, .aload_n 1, 1), (16, .invokevirtual 25, 3), (19, .aload_n 0, 1), (20, .invokevirtual 30, 3), (23, .iconst 0, 1), (24, .istore_n 2, 1), (25, .iload_n 2, 1), (26, .sipush 400, 3), (29, .if_icmp .ge 39, 3), (32, .aload_n 0, 1), (33, .getfield 22, 3), (36, .ifCond .ne 32, 3), (39, .aload_n 0, 1), (40, .getfield 19, 3), (43, .aload_n 0, 1), (44, .getfield 9, 3), (47, .getfield 33, 3), (50, .if_icmp .ge 18, 3), (53, .aload_n 0, 1), (54, .aload_n 1, 1), (55, .invokevirtual 38, 3), (58, .aload_n 0, 1), (59, .invokevirtual 30, 3), (62, .iinc 2 1, 3), (65, .goto (-40), 3), (68, .aload_n 0, 1), (69, .getfield 22, 3), (72, .ifCond .ne 7, 3), (75, .iconst 1, 1), (76, .goto 4, 3), (79, .iconst 0, 1), (80, .ireturn, 1)]
theorem ddX3_reads : ∀ q ∈ dlX3_reads, decode cX3_reads q.1 = .ok q.2 := by decide +kernel
theorem sX3_reads_0 {l : Launch} {X : q_CX} (hl : X.2.1 = l) (hQ : q_QM X) (h : q_OK X yX3_reads cX3_reads 3 (some .boolean) rmX3_reads (Cond.code yX3_reads cX3_reads 3 (some .boolean) :: q_G)) : q_SK X 3 0 (BX3_reads_0) := by
  refine k_aload_n (i := 0) h (ddX3_reads (0, .aload_n 0, 1) (List.mem_of_getElem? (i := 0) rfl)) rfl ?_
  refine k_iconst (v := 0) h (ddX3_reads (1, .iconst 0, 1) (List.mem_of_getElem? (i := 1) rfl)) (by decide) ?_
  refine k_putf (ci := 3) (j := 1) (C := RX3) (T := TX3) (N := 4) h rfl (fun w hw => List.mem_cons_of_mem _ (q_inX3 w hw)) (by decide) (List.mem_cons_of_mem _ gw151) tyX3 tyX3_ok nmX3 (by decide +kernel) (by decide +kernel) (ddX3_reads (2, .putfield 19, 3) (List.mem_of_getElem? (i := 2) rfl)) ?_
  refine k_aload_n (i := 0) h (ddX3_reads (5, .aload_n 0, 1) (List.mem_of_getElem? (i := 3) rfl)) rfl ?_
  refine k_iconst (v := 0) h (ddX3_reads (6, .iconst 0, 1) (List.mem_of_getElem? (i := 4) rfl)) (by decide) ?_
  refine k_putf (ci := 3) (j := 2) (C := RX3) (T := TX3) (N := 4) h rfl (fun w hw => List.mem_cons_of_mem _ (q_inX3 w hw)) (by decide) (List.mem_cons_of_mem _ gw152) tyX3 tyX3_ok nmX3 (by decide +kernel) (by decide +kernel) (ddX3_reads (7, .putfield 22, 3) (List.mem_of_getElem? (i := 5) rfl)) ?_
  refine k_aload_n (i := 0) h (ddX3_reads (10, .aload_n 0, 1) (List.mem_of_getElem? (i := 6) rfl)) rfl ?_
  refine k_iconst (v := (-1)) h (ddX3_reads (11, .iconst (-1), 1) (List.mem_of_getElem? (i := 7) rfl)) (by decide) ?_
  refine k_putf (ci := 3) (j := 3) (C := RX3) (T := TX3) (N := 4) h rfl (fun w hw => List.mem_cons_of_mem _ (q_inX3 w hw)) (by decide) (List.mem_cons_of_mem _ gw17) tyX3 tyX3_ok nmX3 (by decide +kernel) (by decide +kernel) (ddX3_reads (12, .putfield 15, 3) (List.mem_of_getElem? (i := 8) rfl)) ?_
  refine k_aload_n (i := 1) h (ddX3_reads (15, .aload_n 1, 1) (List.mem_of_getElem? (i := 9) rfl)) rfl ?_
  refine k_callV h hl (aX4_clear l) (ci := 4) (C := RX4) (T := TX4) (N := 14) rfl ⟨rfl, rfl⟩ (n := 0) (by decide +kernel) (q_gV gw153 gw87 gw88 gw71 gw85) ⟨by decide, by decide⟩ (ddX3_reads (16, .invokevirtual 25, 3) (List.mem_of_getElem? (i := 10) rfl)) ?_
  refine k_aload_n (i := 0) h (ddX3_reads (19, .aload_n 0, 1) (List.mem_of_getElem? (i := 11) rfl)) rfl ?_
  refine k_callV h hl (aX3_passBlanks l) (ci := 3) (C := RX3) (T := TX3) (N := 4) rfl ⟨rfl, rfl⟩ (n := 0) (by decide +kernel) (q_gV gw160 gw161 gw162 gw14 gw159) ⟨by decide, by decide⟩ (ddX3_reads (20, .invokevirtual 30, 3) (List.mem_of_getElem? (i := 12) rfl)) ?_
  refine k_iconst (v := 0) h (ddX3_reads (23, .iconst 0, 1) (List.mem_of_getElem? (i := 13) rfl)) (by decide) ?_
  refine k_istore_n (i := 2) h (ddX3_reads (24, .istore_n 2, 1) (List.mem_of_getElem? (i := 14) rfl)) rfl (by decide) ?_
  exact k_cut
theorem sX3_reads_80 {l : Launch} {X : q_CX} (hl : X.2.1 = l) (hQ : q_QM X) (h : q_OK X yX3_reads cX3_reads 3 (some .boolean) rmX3_reads (Cond.code yX3_reads cX3_reads 3 (some .boolean) :: q_G)) : q_SK X 3 80 (BX3_reads_80) := by
  exact k_zret h hQ (ddX3_reads (80, .ireturn, 1) (List.mem_of_getElem? (i := 40) rfl))
theorem sX3_reads_79 {l : Launch} {X : q_CX} (hl : X.2.1 = l) (hQ : q_QM X) (h : q_OK X yX3_reads cX3_reads 3 (some .boolean) rmX3_reads (Cond.code yX3_reads cX3_reads 3 (some .boolean) :: q_G)) : q_SK X 3 79 (BX3_reads_79) := by
  refine k_iconst (v := 0) h (ddX3_reads (79, .iconst 0, 1) (List.mem_of_getElem? (i := 39) rfl)) (by decide) ?_
  exact sX3_reads_80 hl hQ h
theorem sX3_reads_75 {l : Launch} {X : q_CX} (hl : X.2.1 = l) (hQ : q_QM X) (h : q_OK X yX3_reads cX3_reads 3 (some .boolean) rmX3_reads (Cond.code yX3_reads cX3_reads 3 (some .boolean) :: q_G)) : q_SK X 3 75 (BX3_reads_75) := by
  refine k_iconst (v := 1) h (ddX3_reads (75, .iconst 1, 1) (List.mem_of_getElem? (i := 37) rfl)) (by decide) ?_
  refine k_goto h (ddX3_reads (76, .goto 4, 3) (List.mem_of_getElem? (i := 38) rfl)) (tgt := 80) (by decide) ?_
  exact sX3_reads_80 hl hQ h
theorem sX3_reads_68 {l : Launch} {X : q_CX} (hl : X.2.1 = l) (hQ : q_QM X) (h : q_OK X yX3_reads cX3_reads 3 (some .boolean) rmX3_reads (Cond.code yX3_reads cX3_reads 3 (some .boolean) :: q_G)) : q_SK X 3 68 (BX3_reads_68) := by
  refine k_aload_n (i := 0) h (ddX3_reads (68, .aload_n 0, 1) (List.mem_of_getElem? (i := 34) rfl)) rfl ?_
  refine k_getf (ci := 3) (j := 2) (C := RX3) (T := TX3) (N := 4) h rfl (fun w hw => List.mem_cons_of_mem _ (q_inX3 w hw)) (by decide) (List.mem_cons_of_mem _ gw152) (ddX3_reads (69, .getfield 22, 3) (List.mem_of_getElem? (i := 35) rfl)) ?_
  refine k_ifne h (ddX3_reads (72, .ifCond .ne 7, 3) (List.mem_of_getElem? (i := 36) rfl)) (tgt := 79) (by decide) ?_ ?_
  · exact sX3_reads_79 hl hQ h
  · exact sX3_reads_75 hl hQ h
theorem sX3_reads_53 {l : Launch} {X : q_CX} (hl : X.2.1 = l) (hQ : q_QM X) (h : q_OK X yX3_reads cX3_reads 3 (some .boolean) rmX3_reads (Cond.code yX3_reads cX3_reads 3 (some .boolean) :: q_G)) : q_SK X 3 53 (BX3_reads_53) := by
  refine k_aload_n (i := 0) h (ddX3_reads (53, .aload_n 0, 1) (List.mem_of_getElem? (i := 27) rfl)) rfl ?_
  refine k_aload_n (i := 1) h (ddX3_reads (54, .aload_n 1, 1) (List.mem_of_getElem? (i := 28) rfl)) rfl ?_
  refine k_callV h hl (aX3_readClause l) (ci := 3) (C := RX3) (T := TX3) (N := 4) rfl ⟨rfl, rfl⟩ (n := 1) (by decide +kernel) (q_gV gw279 gw280 gw281 gw14 gw278) ⟨by decide, by decide⟩ (ddX3_reads (55, .invokevirtual 38, 3) (List.mem_of_getElem? (i := 29) rfl)) ?_
  refine k_aload_n (i := 0) h (ddX3_reads (58, .aload_n 0, 1) (List.mem_of_getElem? (i := 30) rfl)) rfl ?_
  refine k_callV h hl (aX3_passBlanks l) (ci := 3) (C := RX3) (T := TX3) (N := 4) rfl ⟨rfl, rfl⟩ (n := 0) (by decide +kernel) (q_gV gw160 gw161 gw162 gw14 gw159) ⟨by decide, by decide⟩ (ddX3_reads (59, .invokevirtual 30, 3) (List.mem_of_getElem? (i := 31) rfl)) ?_
  refine k_iinc (d := 1) h (ddX3_reads (62, .iinc 2 1, 3) (List.mem_of_getElem? (i := 32) rfl)) (by decide) (by decide) ?_
  refine k_goto h (ddX3_reads (65, .goto (-40), 3) (List.mem_of_getElem? (i := 33) rfl)) (tgt := 25) (by decide) ?_
  exact k_cut
theorem sX3_reads_39 {l : Launch} {X : q_CX} (hl : X.2.1 = l) (hQ : q_QM X) (h : q_OK X yX3_reads cX3_reads 3 (some .boolean) rmX3_reads (Cond.code yX3_reads cX3_reads 3 (some .boolean) :: q_G)) : q_SK X 3 39 (BX3_reads_39) := by
  refine k_aload_n (i := 0) h (ddX3_reads (39, .aload_n 0, 1) (List.mem_of_getElem? (i := 21) rfl)) rfl ?_
  refine k_getf (ci := 3) (j := 1) (C := RX3) (T := TX3) (N := 4) h rfl (fun w hw => List.mem_cons_of_mem _ (q_inX3 w hw)) (by decide) (List.mem_cons_of_mem _ gw151) (ddX3_reads (40, .getfield 19, 3) (List.mem_of_getElem? (i := 22) rfl)) ?_
  refine k_aload_n (i := 0) h (ddX3_reads (43, .aload_n 0, 1) (List.mem_of_getElem? (i := 23) rfl)) rfl ?_
  refine k_getf (ci := 3) (j := 0) (C := RX3) (T := TX3) (N := 4) h rfl (fun w hw => List.mem_cons_of_mem _ (q_inX3 w hw)) (by decide) (List.mem_cons_of_mem _ gw16) (ddX3_reads (44, .getfield 9, 3) (List.mem_of_getElem? (i := 24) rfl)) ?_
  refine k_getf (ci := 7) (j := 1) (C := RX7) (T := TX7) (N := 2) h rfl (fun w hw => List.mem_cons_of_mem _ (q_inX7 w hw)) (by decide) (List.mem_cons_of_mem _ gw154) (ddX3_reads (47, .getfield 33, 3) (List.mem_of_getElem? (i := 25) rfl)) ?_
  refine k_icge h (ddX3_reads (50, .if_icmp .ge 18, 3) (List.mem_of_getElem? (i := 26) rfl)) (tgt := 68) (by decide) ?_ ?_
  · exact sX3_reads_68 hl hQ h
  · exact sX3_reads_53 hl hQ h
theorem sX3_reads_32 {l : Launch} {X : q_CX} (hl : X.2.1 = l) (hQ : q_QM X) (h : q_OK X yX3_reads cX3_reads 3 (some .boolean) rmX3_reads (Cond.code yX3_reads cX3_reads 3 (some .boolean) :: q_G)) : q_SK X 3 32 (BX3_reads_32) := by
  refine k_aload_n (i := 0) h (ddX3_reads (32, .aload_n 0, 1) (List.mem_of_getElem? (i := 18) rfl)) rfl ?_
  refine k_getf (ci := 3) (j := 2) (C := RX3) (T := TX3) (N := 4) h rfl (fun w hw => List.mem_cons_of_mem _ (q_inX3 w hw)) (by decide) (List.mem_cons_of_mem _ gw152) (ddX3_reads (33, .getfield 22, 3) (List.mem_of_getElem? (i := 19) rfl)) ?_
  refine k_ifne h (ddX3_reads (36, .ifCond .ne 32, 3) (List.mem_of_getElem? (i := 20) rfl)) (tgt := 68) (by decide) ?_ ?_
  · exact sX3_reads_68 hl hQ h
  · exact sX3_reads_39 hl hQ h
theorem sX3_reads_25 {l : Launch} {X : q_CX} (hl : X.2.1 = l) (hQ : q_QM X) (h : q_OK X yX3_reads cX3_reads 3 (some .boolean) rmX3_reads (Cond.code yX3_reads cX3_reads 3 (some .boolean) :: q_G)) : q_SK X 3 25 (BX3_reads_25) := by
  refine k_iload_n (i := 2) h (ddX3_reads (25, .iload_n 2, 1) (List.mem_of_getElem? (i := 15) rfl)) rfl ?_
  refine k_sipush (v := 400) h (ddX3_reads (26, .sipush 400, 3) (List.mem_of_getElem? (i := 16) rfl)) (by decide) ?_
  refine k_icge h (ddX3_reads (29, .if_icmp .ge 39, 3) (List.mem_of_getElem? (i := 17) rfl)) (tgt := 68) (by decide) ?_ ?_
  · exact sX3_reads_68 hl hQ h
  · exact sX3_reads_32 hl hQ h
theorem aX3_reads (l : Launch) (as : List Value) (sh : q_Sh) (m : q_Mm) (R : q_KR) (hw : wX3_reads as sh m R) : q_AM l yX3_reads (Cond.code yX3_reads cX3_reads 3 (some .boolean) :: q_G) rmX3_reads as sh m R := by
  refine q_met (code := TX3_reads) (by decide) (fun X hl hQ _ h pc => ?_) hw.1 hw.2
  unfold TX3_reads
  exact k_at (sX3_reads_0 hl hQ h) (k_at (sX3_reads_25 hl hQ h) (k_no))
/-! TumblingRock$Farm.begin()V -/
abbrev dlX1_begin : List (Nat × (Instr × Nat)) := [(0, .aload_n 0, 1), (1, .iconst 0, 1), (2, .putfield 9, 3), (5, .aload_n 0, 1), (6, .iconst 0, 1), (7, .putfield 15, 3), (10, .aload_n 0, 1), (11, .iconst 0, 1), (12, .putfield 18, 3), (15, .aload_n 0, 1), (16, .iconst 0, 1), (17, .putfield 21, 3), (20, .return_, 1)]
theorem ddX1_begin : ∀ q ∈ dlX1_begin, decode cX1_begin q.1 = .ok q.2 := by decide +kernel
theorem sX1_begin_0 {l : Launch} {X : q_CX} (hl : X.2.1 = l) (hQ : q_QM X) (h : q_OK X yX1_begin cX1_begin 1 none rmX1_begin (Cond.code yX1_begin cX1_begin 1 none :: q_G)) : q_SK X 1 0 (BX1_begin_0) := by
  refine k_aload_n (i := 0) h (ddX1_begin (0, .aload_n 0, 1) (List.mem_of_getElem? (i := 0) rfl)) rfl ?_
  refine k_iconst (v := 0) h (ddX1_begin (1, .iconst 0, 1) (List.mem_of_getElem? (i := 1) rfl)) (by decide) ?_
  refine k_putf (ci := 1) (j := 0) (C := RX1) (T := TX1) (N := 5) h rfl (fun w hw => List.mem_cons_of_mem _ (q_inX1 w hw)) (by decide) (List.mem_cons_of_mem _ gw288) tyX1 tyX1_ok nmX1 (by decide +kernel) (by decide +kernel) (ddX1_begin (2, .putfield 9, 3) (List.mem_of_getElem? (i := 2) rfl)) ?_
  refine k_aload_n (i := 0) h (ddX1_begin (5, .aload_n 0, 1) (List.mem_of_getElem? (i := 3) rfl)) rfl ?_
  refine k_iconst (v := 0) h (ddX1_begin (6, .iconst 0, 1) (List.mem_of_getElem? (i := 4) rfl)) (by decide) ?_
  refine k_putf (ci := 1) (j := 1) (C := RX1) (T := TX1) (N := 5) h rfl (fun w hw => List.mem_cons_of_mem _ (q_inX1 w hw)) (by decide) (List.mem_cons_of_mem _ gw289) tyX1 tyX1_ok nmX1 (by decide +kernel) (by decide +kernel) (ddX1_begin (7, .putfield 15, 3) (List.mem_of_getElem? (i := 5) rfl)) ?_
  refine k_aload_n (i := 0) h (ddX1_begin (10, .aload_n 0, 1) (List.mem_of_getElem? (i := 6) rfl)) rfl ?_
  refine k_iconst (v := 0) h (ddX1_begin (11, .iconst 0, 1) (List.mem_of_getElem? (i := 7) rfl)) (by decide) ?_
  refine k_putf (ci := 1) (j := 2) (C := RX1) (T := TX1) (N := 5) h rfl (fun w hw => List.mem_cons_of_mem _ (q_inX1 w hw)) (by decide) (List.mem_cons_of_mem _ gw290) tyX1 tyX1_ok nmX1 (by decide +kernel) (by decide +kernel) (ddX1_begin (12, .putfield 18, 3) (List.mem_of_getElem? (i := 8) rfl)) ?_
  refine k_aload_n (i := 0) h (ddX1_begin (15, .aload_n 0, 1) (List.mem_of_getElem? (i := 9) rfl)) rfl ?_
  refine k_iconst (v := 0) h (ddX1_begin (16, .iconst 0, 1) (List.mem_of_getElem? (i := 10) rfl)) (by decide) ?_
  refine k_putf (ci := 1) (j := 3) (C := RX1) (T := TX1) (N := 5) h rfl (fun w hw => List.mem_cons_of_mem _ (q_inX1 w hw)) (by decide) (List.mem_cons_of_mem _ gw291) tyX1 tyX1_ok nmX1 (by decide +kernel) (by decide +kernel) (ddX1_begin (17, .putfield 21, 3) (List.mem_of_getElem? (i := 11) rfl)) ?_
  exact k_vret h hQ (ddX1_begin (20, .return_, 1) (List.mem_of_getElem? (i := 12) rfl))
theorem aX1_begin (l : Launch) (as : List Value) (sh : q_Sh) (m : q_Mm) (R : q_KR) (hw : wX1_begin as sh m R) : q_AM l yX1_begin (Cond.code yX1_begin cX1_begin 1 none :: q_G) rmX1_begin as sh m R := by
  refine q_met (code := TX1_begin) (by decide) (fun X hl hQ _ h pc => ?_) hw.1 hw.2
  unfold TX1_begin
  exact k_at (sX1_begin_0 hl hQ h) (k_no)
/-! TumblingRock$Sight.forget(LTumblingRock$Rock;)V -/
abbrev dlX6_forget : List (Nat × (Instr × Nat)) := [(0, .aload_n 0, 1), (1, .iconst 0, 1), (2, .putfield 22, 3), (5, .aload_n 0, 1), (6, .iconst 0, 1), (7, .putfield 25, 3), (10, .aload_n 0, 1), (11, .aload_n 1, 1), (12, .getfield 29, 3), (15, .sipush 1728, 3), (18, .invokestatic 34, 3), (21, .putfield 18, 3), (24, .iconst 0, 1), (25, .istore_n 2, 1), (26, .iload_n 2, 1), (27, .aload_n 0, 1), (28, .getfield 18, 3), (31, .if_icmp .ge 18, 3), (34, .aload_n 0, 1), (35, .getfield 9, 3), (38, .iload_n 2, 1), (39, .iload_n 2, 1), (40, .invokestatic 40, 3), (43, .iinc 2 1, 3), (46, .goto (-20), 3), (49, .return_, 1)]
theorem ddX6_forget : ∀ q ∈ dlX6_forget, decode cX6_forget q.1 = .ok q.2 := by decide +kernel
theorem sX6_forget_0 {l : Launch} {X : q_CX} (hl : X.2.1 = l) (hQ : q_QM X) (h : q_OK X yX6_forget cX6_forget 3 none rmX6_forget (Cond.code yX6_forget cX6_forget 3 none :: q_G)) : q_SK X 3 0 (BX6_forget_0) := by
  refine k_aload_n (i := 0) h (ddX6_forget (0, .aload_n 0, 1) (List.mem_of_getElem? (i := 0) rfl)) rfl ?_
  refine k_iconst (v := 0) h (ddX6_forget (1, .iconst 0, 1) (List.mem_of_getElem? (i := 1) rfl)) (by decide) ?_
  refine k_putf (ci := 6) (j := 0) (C := RX6) (T := TX6) (N := 8) h rfl (fun w hw => List.mem_cons_of_mem _ (q_inX6 w hw)) (by decide) (List.mem_cons_of_mem _ gw296) tyX6 tyX6_ok nmX6 (by decide +kernel) (by decide +kernel) (ddX6_forget (2, .putfield 22, 3) (List.mem_of_getElem? (i := 2) rfl)) ?_
  refine k_aload_n (i := 0) h (ddX6_forget (5, .aload_n 0, 1) (List.mem_of_getElem? (i := 3) rfl)) rfl ?_
  refine k_iconst (v := 0) h (ddX6_forget (6, .iconst 0, 1) (List.mem_of_getElem? (i := 4) rfl)) (by decide) ?_
  refine k_putz (ci := 6) (j := 5) (C := RX6) (T := TX6) (N := 8) h rfl (fun w hw => List.mem_cons_of_mem _ (q_inX6 w hw)) (by decide) (List.mem_cons_of_mem _ gw297) tyX6 tyX6_ok nmX6 (by decide +kernel) (by decide +kernel) (ddX6_forget (7, .putfield 25, 3) (List.mem_of_getElem? (i := 5) rfl)) ?_
  refine k_aload_n (i := 0) h (ddX6_forget (10, .aload_n 0, 1) (List.mem_of_getElem? (i := 6) rfl)) rfl ?_
  refine k_aload_n (i := 1) h (ddX6_forget (11, .aload_n 1, 1) (List.mem_of_getElem? (i := 7) rfl)) rfl ?_
  refine k_getf (ci := 4) (j := 4) (C := RX4) (T := TX4) (N := 14) h rfl (fun w hw => List.mem_cons_of_mem _ (q_inX4 w hw)) (by decide) (List.mem_cons_of_mem _ gw298) (ddX6_forget (12, .getfield 29, 3) (List.mem_of_getElem? (i := 8) rfl)) ?_
  refine k_sipush (v := 1728) h (ddX6_forget (15, .sipush 1728, 3) (List.mem_of_getElem? (i := 9) rfl)) (by decide) ?_
  refine k_mmin h (List.mem_cons_of_mem _ gw299) (List.mem_cons_of_mem _ gw300) (List.mem_cons_of_mem _ gw301) (List.mem_cons_of_mem _ gw302) (by decide) (by decide) (ddX6_forget (18, .invokestatic 34, 3) (List.mem_of_getElem? (i := 10) rfl)) ?_
  refine k_putf (ci := 6) (j := 1) (C := RX6) (T := TX6) (N := 8) h rfl (fun w hw => List.mem_cons_of_mem _ (q_inX6 w hw)) (by decide) (List.mem_cons_of_mem _ gw38) tyX6 tyX6_ok nmX6 (by decide +kernel) (by decide +kernel) (ddX6_forget (21, .putfield 18, 3) (List.mem_of_getElem? (i := 11) rfl)) ?_
  refine k_iconst (v := 0) h (ddX6_forget (24, .iconst 0, 1) (List.mem_of_getElem? (i := 12) rfl)) (by decide) ?_
  refine k_istore_n (i := 2) h (ddX6_forget (25, .istore_n 2, 1) (List.mem_of_getElem? (i := 13) rfl)) rfl (by decide) ?_
  exact k_cut
theorem sX6_forget_49 {l : Launch} {X : q_CX} (hl : X.2.1 = l) (hQ : q_QM X) (h : q_OK X yX6_forget cX6_forget 3 none rmX6_forget (Cond.code yX6_forget cX6_forget 3 none :: q_G)) : q_SK X 3 49 (BX6_forget_49) := by
  exact k_vret h hQ (ddX6_forget (49, .return_, 1) (List.mem_of_getElem? (i := 25) rfl))
theorem sX6_forget_34 {l : Launch} {X : q_CX} (hl : X.2.1 = l) (hQ : q_QM X) (h : q_OK X yX6_forget cX6_forget 3 none rmX6_forget (Cond.code yX6_forget cX6_forget 3 none :: q_G)) : q_SK X 3 34 (BX6_forget_34) := by
  refine k_aload_n (i := 0) h (ddX6_forget (34, .aload_n 0, 1) (List.mem_of_getElem? (i := 18) rfl)) rfl ?_
  refine k_getf (ci := 6) (j := 6) (C := RX6) (T := TX6) (N := 8) h rfl (fun w hw => List.mem_cons_of_mem _ (q_inX6 w hw)) (by decide) (List.mem_cons_of_mem _ gw36) (ddX6_forget (35, .getfield 9, 3) (List.mem_of_getElem? (i := 19) rfl)) ?_
  refine k_iload_n (i := 2) h (ddX6_forget (38, .iload_n 2, 1) (List.mem_of_getElem? (i := 20) rfl)) rfl ?_
  refine k_iload_n (i := 2) h (ddX6_forget (39, .iload_n 2, 1) (List.mem_of_getElem? (i := 21) rfl)) rfl ?_
  refine k_callN h hl (aX8_put l) ⟨rfl, rfl⟩ (n := 3) (by decide +kernel) (q_gN gw143) (by decide +kernel) (List.mem_cons_of_mem _ gw91) (List.mem_cons_of_mem _ gw144) ⟨by decide, by decide⟩ (ddX6_forget (40, .invokestatic 40, 3) (List.mem_of_getElem? (i := 22) rfl)) ?_
  refine k_iinc (d := 1) h (ddX6_forget (43, .iinc 2 1, 3) (List.mem_of_getElem? (i := 23) rfl)) (by decide) (by decide) ?_
  refine k_goto h (ddX6_forget (46, .goto (-20), 3) (List.mem_of_getElem? (i := 24) rfl)) (tgt := 26) (by decide) ?_
  exact k_cut
theorem sX6_forget_26 {l : Launch} {X : q_CX} (hl : X.2.1 = l) (hQ : q_QM X) (h : q_OK X yX6_forget cX6_forget 3 none rmX6_forget (Cond.code yX6_forget cX6_forget 3 none :: q_G)) : q_SK X 3 26 (BX6_forget_26) := by
  refine k_iload_n (i := 2) h (ddX6_forget (26, .iload_n 2, 1) (List.mem_of_getElem? (i := 14) rfl)) rfl ?_
  refine k_aload_n (i := 0) h (ddX6_forget (27, .aload_n 0, 1) (List.mem_of_getElem? (i := 15) rfl)) rfl ?_
  refine k_getf (ci := 6) (j := 1) (C := RX6) (T := TX6) (N := 8) h rfl (fun w hw => List.mem_cons_of_mem _ (q_inX6 w hw)) (by decide) (List.mem_cons_of_mem _ gw38) (ddX6_forget (28, .getfield 18, 3) (List.mem_of_getElem? (i := 16) rfl)) ?_
  refine k_icge h (ddX6_forget (31, .if_icmp .ge 18, 3) (List.mem_of_getElem? (i := 17) rfl)) (tgt := 49) (by decide) ?_ ?_
  · exact sX6_forget_49 hl hQ h
  · exact sX6_forget_34 hl hQ h
theorem aX6_forget (l : Launch) (as : List Value) (sh : q_Sh) (m : q_Mm) (R : q_KR) (hw : wX6_forget as sh m R) : q_AM l yX6_forget (Cond.code yX6_forget cX6_forget 3 none :: q_G) rmX6_forget as sh m R := by
  refine q_met (code := TX6_forget) (by decide) (fun X hl hQ _ h pc => ?_) hw.1 hw.2
  unfold TX6_forget
  exact k_at (sX6_forget_0 hl hQ h) (k_at (sX6_forget_26 hl hQ h) (k_no))
/-! TumblingRock.beginAnew()V -/
abbrev dlX8_beginAnew : List (Nat × (Instr × Nat)) := [(0, .aload_n 0, 1), (1, .getfield 28, 3), (4, .invokevirtual 289, 3), (7, .aload_n 0, 1), (8, .getfield 43, 3), (11, .aload_n 0, 1), (12, .getfield 71, 3), (15, .invokevirtual 272, 3), (18, .aload_n 0, 1), (19, .getfield 64, 3), (22, .iconst 0, 1), (23, .putfield 135, 3), (26, .iconst 0, 1), (27, .istore_n 1, 1), (28, .iload_n 1, 1), (29, .iconst 2, 1), (30, .if_icmp .ge 16, 3), (33, .aload_n 0, 1), (34, .getfield 36, 3), (37, .iload_n 1, 1), (38, .iconst 0, 1), (39, .bastore, 1), (40, .iinc 1 1, 3), (43, .goto (-15), 3), (46, .return_, 1)]
theorem ddX8_beginAnew : ∀ q ∈ dlX8_beginAnew, decode cX8_beginAnew q.1 = .ok q.2 := by decide +kernel
theorem sX8_beginAnew_0 {l : Launch} {X : q_CX} (hl : X.2.1 = l) (hQ : q_QM X) (h : q_OK X yX8_beginAnew cX8_beginAnew 2 none rmX8_beginAnew (Cond.code yX8_beginAnew cX8_beginAnew 2 none :: q_G)) : q_SK X 2 0 (BX8_beginAnew_0) := by
  refine k_aload_n (i := 0) h (ddX8_beginAnew (0, .aload_n 0, 1) (List.mem_of_getElem? (i := 0) rfl)) rfl ?_
  refine k_getf (ci := 8) (j := 2) (C := RX8) (T := TX8) (N := 11) h rfl (fun w hw => List.mem_cons_of_mem _ (q_inX8 w hw)) (by decide) (List.mem_cons_of_mem _ gw28) (ddX8_beginAnew (1, .getfield 28, 3) (List.mem_of_getElem? (i := 1) rfl)) ?_
  refine k_callV h hl (aX1_begin l) (ci := 1) (C := RX1) (T := TX1) (N := 5) rfl ⟨rfl, rfl⟩ (n := 0) (by decide +kernel) (q_gV gw293 gw294 gw295 gw24 gw292) ⟨by decide, by decide⟩ (ddX8_beginAnew (4, .invokevirtual 289, 3) (List.mem_of_getElem? (i := 2) rfl)) ?_
  refine k_aload_n (i := 0) h (ddX8_beginAnew (7, .aload_n 0, 1) (List.mem_of_getElem? (i := 3) rfl)) rfl ?_
  refine k_getf (ci := 8) (j := 5) (C := RX8) (T := TX8) (N := 11) h rfl (fun w hw => List.mem_cons_of_mem _ (q_inX8 w hw)) (by decide) (List.mem_cons_of_mem _ gw42) (ddX8_beginAnew (8, .getfield 43, 3) (List.mem_of_getElem? (i := 4) rfl)) ?_
  refine k_aload_n (i := 0) h (ddX8_beginAnew (11, .aload_n 0, 1) (List.mem_of_getElem? (i := 5) rfl)) rfl ?_
  refine k_getf (ci := 8) (j := 9) (C := RX8) (T := TX8) (N := 11) h rfl (fun w hw => List.mem_cons_of_mem _ (q_inX8 w hw)) (by decide) (List.mem_cons_of_mem _ gw135) (ddX8_beginAnew (12, .getfield 71, 3) (List.mem_of_getElem? (i := 6) rfl)) ?_
  refine k_callV h hl (aX6_forget l) (ci := 6) (C := RX6) (T := TX6) (N := 8) rfl ⟨rfl, rfl⟩ (n := 1) (by decide +kernel) (q_gV gw304 gw305 gw306 gw34 gw303) ⟨by decide, by decide⟩ (ddX8_beginAnew (15, .invokevirtual 272, 3) (List.mem_of_getElem? (i := 7) rfl)) ?_
  refine k_aload_n (i := 0) h (ddX8_beginAnew (18, .aload_n 0, 1) (List.mem_of_getElem? (i := 8) rfl)) rfl ?_
  refine k_getf (ci := 8) (j := 8) (C := RX8) (T := TX8) (N := 11) h rfl (fun w hw => List.mem_cons_of_mem _ (q_inX8 w hw)) (by decide) (List.mem_cons_of_mem _ gw68) (ddX8_beginAnew (19, .getfield 64, 3) (List.mem_of_getElem? (i := 9) rfl)) ?_
  refine k_iconst (v := 0) h (ddX8_beginAnew (22, .iconst 0, 1) (List.mem_of_getElem? (i := 10) rfl)) (by decide) ?_
  refine k_putf (ci := 0) (j := 1) (C := RX0) (T := TX0) (N := 2) h rfl (fun w hw => List.mem_cons_of_mem _ (q_inX0 w hw)) (by decide) (List.mem_cons_of_mem _ gw307) tyX0 tyX0_ok nmX0 (by decide +kernel) (by decide +kernel) (ddX8_beginAnew (23, .putfield 135, 3) (List.mem_of_getElem? (i := 11) rfl)) ?_
  refine k_iconst (v := 0) h (ddX8_beginAnew (26, .iconst 0, 1) (List.mem_of_getElem? (i := 12) rfl)) (by decide) ?_
  refine k_istore_n (i := 1) h (ddX8_beginAnew (27, .istore_n 1, 1) (List.mem_of_getElem? (i := 13) rfl)) rfl (by decide) ?_
  exact k_cut
theorem sX8_beginAnew_46 {l : Launch} {X : q_CX} (hl : X.2.1 = l) (hQ : q_QM X) (h : q_OK X yX8_beginAnew cX8_beginAnew 2 none rmX8_beginAnew (Cond.code yX8_beginAnew cX8_beginAnew 2 none :: q_G)) : q_SK X 2 46 (BX8_beginAnew_46) := by
  exact k_vret h hQ (ddX8_beginAnew (46, .return_, 1) (List.mem_of_getElem? (i := 24) rfl))
theorem sX8_beginAnew_33 {l : Launch} {X : q_CX} (hl : X.2.1 = l) (hQ : q_QM X) (h : q_OK X yX8_beginAnew cX8_beginAnew 2 none rmX8_beginAnew (Cond.code yX8_beginAnew cX8_beginAnew 2 none :: q_G)) : q_SK X 2 33 (BX8_beginAnew_33) := by
  refine k_aload_n (i := 0) h (ddX8_beginAnew (33, .aload_n 0, 1) (List.mem_of_getElem? (i := 17) rfl)) rfl ?_
  refine k_getf (ci := 8) (j := 4) (C := RX8) (T := TX8) (N := 11) h rfl (fun w hw => List.mem_cons_of_mem _ (q_inX8 w hw)) (by decide) (List.mem_cons_of_mem _ gw31) (ddX8_beginAnew (34, .getfield 36, 3) (List.mem_of_getElem? (i := 18) rfl)) ?_
  refine k_iload_n (i := 1) h (ddX8_beginAnew (37, .iload_n 1, 1) (List.mem_of_getElem? (i := 19) rfl)) rfl ?_
  refine k_iconst (v := 0) h (ddX8_beginAnew (38, .iconst 0, 1) (List.mem_of_getElem? (i := 20) rfl)) (by decide) ?_
  refine k_zast h (ddX8_beginAnew (39, .bastore, 1) (List.mem_of_getElem? (i := 21) rfl)) ?_
  refine k_iinc (d := 1) h (ddX8_beginAnew (40, .iinc 1 1, 3) (List.mem_of_getElem? (i := 22) rfl)) (by decide) (by decide) ?_
  refine k_goto h (ddX8_beginAnew (43, .goto (-15), 3) (List.mem_of_getElem? (i := 23) rfl)) (tgt := 28) (by decide) ?_
  exact k_cut
theorem sX8_beginAnew_28 {l : Launch} {X : q_CX} (hl : X.2.1 = l) (hQ : q_QM X) (h : q_OK X yX8_beginAnew cX8_beginAnew 2 none rmX8_beginAnew (Cond.code yX8_beginAnew cX8_beginAnew 2 none :: q_G)) : q_SK X 2 28 (BX8_beginAnew_28) := by
  refine k_iload_n (i := 1) h (ddX8_beginAnew (28, .iload_n 1, 1) (List.mem_of_getElem? (i := 14) rfl)) rfl ?_
  refine k_iconst (v := 2) h (ddX8_beginAnew (29, .iconst 2, 1) (List.mem_of_getElem? (i := 15) rfl)) (by decide) ?_
  refine k_icge h (ddX8_beginAnew (30, .if_icmp .ge 16, 3) (List.mem_of_getElem? (i := 16) rfl)) (tgt := 46) (by decide) ?_ ?_
  · exact sX8_beginAnew_46 hl hQ h
  · exact sX8_beginAnew_33 hl hQ h
theorem aX8_beginAnew (l : Launch) (as : List Value) (sh : q_Sh) (m : q_Mm) (R : q_KR) (hw : wX8_beginAnew as sh m R) : q_AM l yX8_beginAnew (Cond.code yX8_beginAnew cX8_beginAnew 2 none :: q_G) rmX8_beginAnew as sh m R := by
  refine q_met (code := TX8_beginAnew) (by decide) (fun X hl hQ _ h pc => ?_) hw.1 hw.2
  unfold TX8_beginAnew
  exact k_at (sX8_beginAnew_0 hl hQ h) (k_at (sX8_beginAnew_28 hl hQ h) (k_no))
/-! TumblingRock.rock()I -/
abbrev dlX8_rock : List (Nat × (Instr × Nat)) := [(0, .aload_n 0, 1), (1, .getfield 21, 3), (4, .aload_n 0, 1), (5, .getfield 75, 3), (8, .invokevirtual 92, 3), (11, .istore_n 1, 1), (12, .aload_n 0, 1), (13, .getfield 10, 3), (16, .iconst 0, 1), (17, .putfield 87, 3), (20, .iload_n 1, 1), (21, .ifCond .ne 14, 3), (24, .bipush (-10), 2), (26, .aload_n 0, 1), (27, .getfield 21, 3), (30, .getfield 96, 3), (33, .isub, 1), (34, .ireturn, 1), (35, .aload_n 0, 1), (36, .getfield 75, 3), (39, .astore_n 2, 1), (40, .aload_n 0, 1), (41, .aload_n 0, 1), (42, .getfield 71, 3), (45, .putfield 75, 3), (48, .aload_n 0, 1), (49, .aload_n 2, 1), (50, .putfield 71, 3), (53, .aload_n 0, 1), (54, .getfield 71, 3), (57, .invokevirtual 99, 3), (60, .aload_n 0, 1), (61, .invokevirtual 102, 3), (64, .aload_n 0, 1), (65, .getfield 71, 3), (68, .getfield 105, 3), (71, .ireturn, 1)]
theorem ddX8_rock : ∀ q ∈ dlX8_rock, decode cX8_rock q.1 = .ok q.2 := by decide +kernel
theorem sX8_rock_35 {l : Launch} {X : q_CX} (hl : X.2.1 = l) (hQ : q_QM X) (h : q_OK X yX8_rock cX8_rock 3 (some .int) rmX8_rock (Cond.code yX8_rock cX8_rock 3 (some .int) :: q_G)) : q_SK X 3 35 (BX8_rock_35) := by
  refine k_aload_n (i := 0) h (ddX8_rock (35, .aload_n 0, 1) (List.mem_of_getElem? (i := 18) rfl)) rfl ?_
  refine k_getf (ci := 8) (j := 10) (C := RX8) (T := TX8) (N := 11) h rfl (fun w hw => List.mem_cons_of_mem _ (q_inX8 w hw)) (by decide) (List.mem_cons_of_mem _ gw136) (ddX8_rock (36, .getfield 75, 3) (List.mem_of_getElem? (i := 19) rfl)) ?_
  refine k_astore_n (i := 2) h (ddX8_rock (39, .astore_n 2, 1) (List.mem_of_getElem? (i := 20) rfl)) rfl (by decide) ?_
  refine k_aload_n (i := 0) h (ddX8_rock (40, .aload_n 0, 1) (List.mem_of_getElem? (i := 21) rfl)) rfl ?_
  refine k_aload_n (i := 0) h (ddX8_rock (41, .aload_n 0, 1) (List.mem_of_getElem? (i := 22) rfl)) rfl ?_
  refine k_getf (ci := 8) (j := 9) (C := RX8) (T := TX8) (N := 11) h rfl (fun w hw => List.mem_cons_of_mem _ (q_inX8 w hw)) (by decide) (List.mem_cons_of_mem _ gw135) (ddX8_rock (42, .getfield 71, 3) (List.mem_of_getElem? (i := 23) rfl)) ?_
  refine k_putr (ty := .object "TumblingRock$Rock") (ci := 8) (j := 10) (C := RX8) (T := TX8) (N := 11) h rfl (fun w hw => List.mem_cons_of_mem _ (q_inX8 w hw)) (by decide) (List.mem_cons_of_mem _ gw136) tyX8 tyX8_ok nmX8 (by decide +kernel) (by decide +kernel) (fun _ => ⟨rfl, rfl⟩) (ddX8_rock (45, .putfield 75, 3) (List.mem_of_getElem? (i := 24) rfl)) ?_
  refine k_aload_n (i := 0) h (ddX8_rock (48, .aload_n 0, 1) (List.mem_of_getElem? (i := 25) rfl)) rfl ?_
  refine k_aload_n (i := 2) h (ddX8_rock (49, .aload_n 2, 1) (List.mem_of_getElem? (i := 26) rfl)) rfl ?_
  refine k_putr (ty := .object "TumblingRock$Rock") (ci := 8) (j := 9) (C := RX8) (T := TX8) (N := 11) h rfl (fun w hw => List.mem_cons_of_mem _ (q_inX8 w hw)) (by decide) (List.mem_cons_of_mem _ gw135) tyX8 tyX8_ok nmX8 (by decide +kernel) (by decide +kernel) (fun _ => ⟨rfl, rfl⟩) (ddX8_rock (50, .putfield 71, 3) (List.mem_of_getElem? (i := 27) rfl)) ?_
  refine k_aload_n (i := 0) h (ddX8_rock (53, .aload_n 0, 1) (List.mem_of_getElem? (i := 28) rfl)) rfl ?_
  refine k_getf (ci := 8) (j := 9) (C := RX8) (T := TX8) (N := 11) h rfl (fun w hw => List.mem_cons_of_mem _ (q_inX8 w hw)) (by decide) (List.mem_cons_of_mem _ gw135) (ddX8_rock (54, .getfield 71, 3) (List.mem_of_getElem? (i := 29) rfl)) ?_
  refine k_callV h hl (aX4_settle l) (ci := 4) (C := RX4) (T := TX4) (N := 14) rfl ⟨rfl, rfl⟩ (n := 0) (by decide +kernel) (q_gV gw287 gw130 gw131 gw71 gw128) ⟨by decide, by decide⟩ (ddX8_rock (57, .invokevirtual 99, 3) (List.mem_of_getElem? (i := 30) rfl)) ?_
  refine k_aload_n (i := 0) h (ddX8_rock (60, .aload_n 0, 1) (List.mem_of_getElem? (i := 31) rfl)) rfl ?_
  refine k_callV h hl (aX8_beginAnew l) (ci := 8) (C := RX8) (T := TX8) (N := 11) rfl ⟨rfl, rfl⟩ (n := 0) (by decide +kernel) (q_gV gw309 gw310 gw311 gw91 gw308) ⟨by decide, by decide⟩ (ddX8_rock (61, .invokevirtual 102, 3) (List.mem_of_getElem? (i := 32) rfl)) ?_
  refine k_aload_n (i := 0) h (ddX8_rock (64, .aload_n 0, 1) (List.mem_of_getElem? (i := 33) rfl)) rfl ?_
  refine k_getf (ci := 8) (j := 9) (C := RX8) (T := TX8) (N := 11) h rfl (fun w hw => List.mem_cons_of_mem _ (q_inX8 w hw)) (by decide) (List.mem_cons_of_mem _ gw135) (ddX8_rock (65, .getfield 71, 3) (List.mem_of_getElem? (i := 34) rfl)) ?_
  refine k_getf (ci := 4) (j := 1) (C := RX4) (T := TX4) (N := 14) h rfl (fun w hw => List.mem_cons_of_mem _ (q_inX4 w hw)) (by decide) (List.mem_cons_of_mem _ gw312) (ddX8_rock (68, .getfield 105, 3) (List.mem_of_getElem? (i := 35) rfl)) ?_
  exact k_iret h hQ (ddX8_rock (71, .ireturn, 1) (List.mem_of_getElem? (i := 36) rfl))
theorem sX8_rock_24 {l : Launch} {X : q_CX} (hl : X.2.1 = l) (hQ : q_QM X) (h : q_OK X yX8_rock cX8_rock 3 (some .int) rmX8_rock (Cond.code yX8_rock cX8_rock 3 (some .int) :: q_G)) : q_SK X 3 24 (BX8_rock_24) := by
  refine k_bipush (v := (-10)) h (ddX8_rock (24, .bipush (-10), 2) (List.mem_of_getElem? (i := 12) rfl)) (by decide) ?_
  refine k_aload_n (i := 0) h (ddX8_rock (26, .aload_n 0, 1) (List.mem_of_getElem? (i := 13) rfl)) rfl ?_
  refine k_getf (ci := 8) (j := 1) (C := RX8) (T := TX8) (N := 11) h rfl (fun w hw => List.mem_cons_of_mem _ (q_inX8 w hw)) (by decide) (List.mem_cons_of_mem _ gw21) (ddX8_rock (27, .getfield 21, 3) (List.mem_of_getElem? (i := 14) rfl)) ?_
  refine k_getf (ci := 3) (j := 2) (C := RX3) (T := TX3) (N := 4) h rfl (fun w hw => List.mem_cons_of_mem _ (q_inX3 w hw)) (by decide) (List.mem_cons_of_mem _ gw286) (ddX8_rock (30, .getfield 96, 3) (List.mem_of_getElem? (i := 15) rfl)) ?_
  refine k_isub h (ddX8_rock (33, .isub, 1) (List.mem_of_getElem? (i := 16) rfl)) ?_
  exact k_iret h hQ (ddX8_rock (34, .ireturn, 1) (List.mem_of_getElem? (i := 17) rfl))
theorem sX8_rock_0 {l : Launch} {X : q_CX} (hl : X.2.1 = l) (hQ : q_QM X) (h : q_OK X yX8_rock cX8_rock 3 (some .int) rmX8_rock (Cond.code yX8_rock cX8_rock 3 (some .int) :: q_G)) : q_SK X 3 0 (BX8_rock_0) := by
  refine k_aload_n (i := 0) h (ddX8_rock (0, .aload_n 0, 1) (List.mem_of_getElem? (i := 0) rfl)) rfl ?_
  refine k_getf (ci := 8) (j := 1) (C := RX8) (T := TX8) (N := 11) h rfl (fun w hw => List.mem_cons_of_mem _ (q_inX8 w hw)) (by decide) (List.mem_cons_of_mem _ gw21) (ddX8_rock (1, .getfield 21, 3) (List.mem_of_getElem? (i := 1) rfl)) ?_
  refine k_aload_n (i := 0) h (ddX8_rock (4, .aload_n 0, 1) (List.mem_of_getElem? (i := 2) rfl)) rfl ?_
  refine k_getf (ci := 8) (j := 10) (C := RX8) (T := TX8) (N := 11) h rfl (fun w hw => List.mem_cons_of_mem _ (q_inX8 w hw)) (by decide) (List.mem_cons_of_mem _ gw136) (ddX8_rock (5, .getfield 75, 3) (List.mem_of_getElem? (i := 3) rfl)) ?_
  refine k_callV h hl (aX3_reads l) (ci := 3) (C := RX3) (T := TX3) (N := 4) rfl ⟨rfl, rfl⟩ (n := 1) (by decide +kernel) (q_gV gw283 gw284 gw285 gw14 gw282) ⟨by decide, by decide⟩ (ddX8_rock (8, .invokevirtual 92, 3) (List.mem_of_getElem? (i := 4) rfl)) ?_
  refine k_istore_n (i := 1) h (ddX8_rock (11, .istore_n 1, 1) (List.mem_of_getElem? (i := 5) rfl)) rfl (by decide) ?_
  refine k_aload_n (i := 0) h (ddX8_rock (12, .aload_n 0, 1) (List.mem_of_getElem? (i := 6) rfl)) rfl ?_
  refine k_getf (ci := 8) (j := 0) (C := RX8) (T := TX8) (N := 11) h rfl (fun w hw => List.mem_cons_of_mem _ (q_inX8 w hw)) (by decide) (List.mem_cons_of_mem _ gw11) (ddX8_rock (13, .getfield 10, 3) (List.mem_of_getElem? (i := 7) rfl)) ?_
  refine k_iconst (v := 0) h (ddX8_rock (16, .iconst 0, 1) (List.mem_of_getElem? (i := 8) rfl)) (by decide) ?_
  refine k_putf (ci := 7) (j := 1) (C := RX7) (T := TX7) (N := 2) h rfl (fun w hw => List.mem_cons_of_mem _ (q_inX7 w hw)) (by decide) (List.mem_cons_of_mem _ gw149) tyX7 tyX7_ok nmX7 (by decide +kernel) (by decide +kernel) (ddX8_rock (17, .putfield 87, 3) (List.mem_of_getElem? (i := 9) rfl)) ?_
  refine k_iload_n (i := 1) h (ddX8_rock (20, .iload_n 1, 1) (List.mem_of_getElem? (i := 10) rfl)) rfl ?_
  refine k_ifne h (ddX8_rock (21, .ifCond .ne 14, 3) (List.mem_of_getElem? (i := 11) rfl)) (tgt := 35) (by decide) ?_ ?_
  · exact sX8_rock_35 hl hQ h
  · exact sX8_rock_24 hl hQ h
theorem aX8_rock (l : Launch) (as : List Value) (sh : q_Sh) (m : q_Mm) (R : q_KR) (hw : wX8_rock as sh m R) : q_AM l yX8_rock (Cond.code yX8_rock cX8_rock 3 (some .int) :: q_G) rmX8_rock as sh m R := by
  refine q_met (code := TX8_rock) (by decide) (fun X hl hQ _ h pc => ?_) hw.1 hw.2
  unfold TX8_rock
  exact k_at (sX8_rock_0 hl hQ h) (k_no)
/-! TumblingRock.fault()I -/
abbrev dlX8_fault : List (Nat × (Instr × Nat)) := [(0, .aload_n 0, 1), (1, .getfield 21, 3), (4, .getfield 108, 3), (7, .ireturn, 1)]
theorem ddX8_fault : ∀ q ∈ dlX8_fault, decode cX8_fault q.1 = .ok q.2 := by decide +kernel
theorem sX8_fault_0 {l : Launch} {X : q_CX} (hl : X.2.1 = l) (hQ : q_QM X) (h : q_OK X yX8_fault cX8_fault 1 (some .int) rmX8_fault (Cond.code yX8_fault cX8_fault 1 (some .int) :: q_G)) : q_SK X 1 0 (BX8_fault_0) := by
  refine k_aload_n (i := 0) h (ddX8_fault (0, .aload_n 0, 1) (List.mem_of_getElem? (i := 0) rfl)) rfl ?_
  refine k_getf (ci := 8) (j := 1) (C := RX8) (T := TX8) (N := 11) h rfl (fun w hw => List.mem_cons_of_mem _ (q_inX8 w hw)) (by decide) (List.mem_cons_of_mem _ gw21) (ddX8_fault (1, .getfield 21, 3) (List.mem_of_getElem? (i := 1) rfl)) ?_
  refine k_getf (ci := 3) (j := 3) (C := RX3) (T := TX3) (N := 4) h rfl (fun w hw => List.mem_cons_of_mem _ (q_inX3 w hw)) (by decide) (List.mem_cons_of_mem _ gw313) (ddX8_fault (4, .getfield 108, 3) (List.mem_of_getElem? (i := 2) rfl)) ?_
  exact k_iret h hQ (ddX8_fault (7, .ireturn, 1) (List.mem_of_getElem? (i := 3) rfl))
theorem aX8_fault (l : Launch) (as : List Value) (sh : q_Sh) (m : q_Mm) (R : q_KR) (hw : wX8_fault as sh m R) : q_AM l yX8_fault (Cond.code yX8_fault cX8_fault 1 (some .int) :: q_G) rmX8_fault as sh m R := by
  refine q_met (code := TX8_fault) (by decide) (fun X hl hQ _ h pc => ?_) hw.1 hw.2
  unfold TX8_fault
  exact k_at (sX8_fault_0 hl hQ h) (k_no)
/-! TumblingRock.standingAt(I)I -/
abbrev dlX8_standingAt : List (Nat × (Instr × Nat)) := [(0, .aload_n 0, 1), (1, .getfield 71, 3), (4, .aload_n 0, 1), (5, .getfield 28, 3), (8, .getfield 155, 3), (11, .iload_n 1, 1), (12, .iload_n 1, 1), (13, .iload_n 1, 1), (14, .invokevirtual 292, 3), (17, .ireturn, 1)]
theorem ddX8_standingAt : ∀ q ∈ dlX8_standingAt, decode cX8_standingAt q.1 = .ok q.2 := by decide +kernel
theorem sX8_standingAt_0 {l : Launch} {X : q_CX} (hl : X.2.1 = l) (hQ : q_QM X) (h : q_OK X yX8_standingAt cX8_standingAt 2 (some .int) rmX8_standingAt (Cond.code yX8_standingAt cX8_standingAt 2 (some .int) :: q_G)) : q_SK X 2 0 (BX8_standingAt_0) := by
  refine k_aload_n (i := 0) h (ddX8_standingAt (0, .aload_n 0, 1) (List.mem_of_getElem? (i := 0) rfl)) rfl ?_
  refine k_getf (ci := 8) (j := 9) (C := RX8) (T := TX8) (N := 11) h rfl (fun w hw => List.mem_cons_of_mem _ (q_inX8 w hw)) (by decide) (List.mem_cons_of_mem _ gw135) (ddX8_standingAt (1, .getfield 71, 3) (List.mem_of_getElem? (i := 1) rfl)) ?_
  refine k_aload_n (i := 0) h (ddX8_standingAt (4, .aload_n 0, 1) (List.mem_of_getElem? (i := 2) rfl)) rfl ?_
  refine k_getf (ci := 8) (j := 2) (C := RX8) (T := TX8) (N := 11) h rfl (fun w hw => List.mem_cons_of_mem _ (q_inX8 w hw)) (by decide) (List.mem_cons_of_mem _ gw28) (ddX8_standingAt (5, .getfield 28, 3) (List.mem_of_getElem? (i := 3) rfl)) ?_
  refine k_getf (ci := 1) (j := 0) (C := RX1) (T := TX1) (N := 5) h rfl (fun w hw => List.mem_cons_of_mem _ (q_inX1 w hw)) (by decide) (List.mem_cons_of_mem _ gw322) (ddX8_standingAt (8, .getfield 155, 3) (List.mem_of_getElem? (i := 4) rfl)) ?_
  refine k_iload_n (i := 1) h (ddX8_standingAt (11, .iload_n 1, 1) (List.mem_of_getElem? (i := 5) rfl)) rfl ?_
  refine k_iload_n (i := 1) h (ddX8_standingAt (12, .iload_n 1, 1) (List.mem_of_getElem? (i := 6) rfl)) rfl ?_
  refine k_iload_n (i := 1) h (ddX8_standingAt (13, .iload_n 1, 1) (List.mem_of_getElem? (i := 7) rfl)) rfl ?_
  refine k_callV h hl (aX4_moved l) (ci := 4) (C := RX4) (T := TX4) (N := 14) rfl ⟨rfl, rfl⟩ (n := 4) (by decide +kernel) (q_gV gw323 gw126 gw127 gw71 gw124) ⟨by decide, by decide⟩ (ddX8_standingAt (14, .invokevirtual 292, 3) (List.mem_of_getElem? (i := 8) rfl)) ?_
  exact k_iret h hQ (ddX8_standingAt (17, .ireturn, 1) (List.mem_of_getElem? (i := 9) rfl))
theorem aX8_standingAt (l : Launch) (as : List Value) (sh : q_Sh) (m : q_Mm) (R : q_KR) (hw : wX8_standingAt as sh m R) : q_AM l yX8_standingAt (Cond.code yX8_standingAt cX8_standingAt 2 (some .int) :: q_G) rmX8_standingAt as sh m R := by
  refine q_met (code := TX8_standingAt) (by decide) (fun X hl hQ _ h pc => ?_) hw.1 hw.2
  unfold TX8_standingAt
  exact k_at (sX8_standingAt_0 hl hQ h) (k_no)
/-! TumblingRock$Rock.litSet(I)I -/
abbrev dlX4_litSet : List (Nat × (Instr × Nat)) := [(0, .aload_n 0, 1), (1, .getfield 30, 3), (4, .iload_n 1, 1), (5, .invokestatic 90, 3), (8, .ireturn, 1)]
theorem ddX4_litSet : ∀ q ∈ dlX4_litSet, decode cX4_litSet q.1 = .ok q.2 := by decide +kernel
theorem sX4_litSet_0 {l : Launch} {X : q_CX} (hl : X.2.1 = l) (hQ : q_QM X) (h : q_OK X yX4_litSet cX4_litSet 2 (some .int) rmX4_litSet (Cond.code yX4_litSet cX4_litSet 2 (some .int) :: q_G)) : q_SK X 2 0 (BX4_litSet_0) := by
  refine k_aload_n (i := 0) h (ddX4_litSet (0, .aload_n 0, 1) (List.mem_of_getElem? (i := 0) rfl)) rfl ?_
  refine k_getf (ci := 4) (j := 12) (C := RX4) (T := TX4) (N := 14) h rfl (fun w hw => List.mem_cons_of_mem _ (q_inX4 w hw)) (by decide) (List.mem_cons_of_mem _ gw79) (ddX4_litSet (1, .getfield 30, 3) (List.mem_of_getElem? (i := 1) rfl)) ?_
  refine k_iload_n (i := 1) h (ddX4_litSet (4, .iload_n 1, 1) (List.mem_of_getElem? (i := 2) rfl)) rfl ?_
  refine k_callN h hl (aX8_at l) ⟨rfl, rfl⟩ (n := 2) (by decide +kernel) (q_gN gw98) (by decide +kernel) (List.mem_cons_of_mem _ gw91) (List.mem_cons_of_mem _ gw99) ⟨by decide, by decide⟩ (ddX4_litSet (5, .invokestatic 90, 3) (List.mem_of_getElem? (i := 3) rfl)) ?_
  exact k_iret h hQ (ddX4_litSet (8, .ireturn, 1) (List.mem_of_getElem? (i := 4) rfl))
theorem aX4_litSet (l : Launch) (as : List Value) (sh : q_Sh) (m : q_Mm) (R : q_KR) (hw : wX4_litSet as sh m R) : q_AM l yX4_litSet (Cond.code yX4_litSet cX4_litSet 2 (some .int) :: q_G) rmX4_litSet as sh m R := by
  refine q_met (code := TX4_litSet) (by decide) (fun X hl hQ _ h pc => ?_) hw.1 hw.2
  unfold TX4_litSet
  exact k_at (sX4_litSet_0 hl hQ h) (k_no)
/-! TumblingRock.told(I)I -/
abbrev dlX8_told : List (Nat × (Instr × Nat)) := [(0, .iload_n 1, 1), (64, .aload_n 0, 1), (65, .getfield 71, 3), (68, .getfield 111, 3), (71, .ireturn, 1), (72, .aload_n 0, 1), (73, .getfield 71, 3), (76, .getfield 105, 3), (79, .ireturn, 1), (80, .aload_n 0, 1), (81, .getfield 71, 3), (84, .getfield 114, 3), (87, .ireturn, 1), (88, .aload_n 0, 1), (89, .getfield 71, 3), (92, .getfield 117, 3), (95, .ireturn, 1), (96, .aload_n 0, 1), (97, .getfield 10, 3), (100, .getfield 87, 3), (103, .ireturn, 1), (104, .aload_n 0, 1), (105, .getfield 71, 3), (108, .getfield 120, 3), (111, .ireturn, 1), (112, .aload_n 0, 1), (113, .getfield 28, 3), (116, .getfield 123, 3), (119, .ireturn, 1), (120, .aload_n 0, 1), (121, .getfield 71, 3), (124, .getfield 105, 3), (127, .ifCond .le 13, 3), (130, .aload_n 0, 1), (131, .getfield 28, 3), (134, .getfield 126, 3), (137, .goto 4, 3), (140, .iconst (-1), 1), (141, .ireturn, 1), (142, .aload_n 0, 1), (143, .getfield 28, 3), (146, .getfield 129, 3), (149, .ireturn, 1), (150, .aload_n 0, 1), (151, .getfield 43, 3), (154, .getfield 132, 3), (157, .ireturn, 1), (158, .aload_n 0, 1), (159, .getfield 64, 3), (162, .getfield 135, 3), (165, .ireturn, 1), (166, .aload_n 0, 1), (167, .getfield 71, 3), (170, .aload_n 0, 1), (171, .aload_n 0, 1), (172, .getfield 28, 3), (175, .getfield 123, 3), (178, .invokevirtual 136, 3), (181, .invokevirtual 140, 3), (184, .ireturn, 1), (185, .ldc 82, 2), (187, .ireturn, 1)]
theorem ddX8_told : ∀ q ∈ dlX8_told, decode cX8_told q.1 = .ok q.2 := by decide +kernel
theorem sX8_told_64 {l : Launch} {X : q_CX} (hl : X.2.1 = l) (hQ : q_QM X) (h : q_OK X yX8_told cX8_told 2 (some .int) rmX8_told (Cond.code yX8_told cX8_told 2 (some .int) :: q_G)) : q_SK X 2 64 (BX8_told_64) := by
  refine k_aload_n (i := 0) h (ddX8_told (64, .aload_n 0, 1) (List.mem_of_getElem? (i := 1) rfl)) rfl ?_
  refine k_getf (ci := 8) (j := 9) (C := RX8) (T := TX8) (N := 11) h rfl (fun w hw => List.mem_cons_of_mem _ (q_inX8 w hw)) (by decide) (List.mem_cons_of_mem _ gw135) (ddX8_told (65, .getfield 71, 3) (List.mem_of_getElem? (i := 2) rfl)) ?_
  refine k_getf (ci := 4) (j := 0) (C := RX4) (T := TX4) (N := 14) h rfl (fun w hw => List.mem_cons_of_mem _ (q_inX4 w hw)) (by decide) (List.mem_cons_of_mem _ gw314) (ddX8_told (68, .getfield 111, 3) (List.mem_of_getElem? (i := 3) rfl)) ?_
  exact k_iret h hQ (ddX8_told (71, .ireturn, 1) (List.mem_of_getElem? (i := 4) rfl))
theorem sX8_told_72 {l : Launch} {X : q_CX} (hl : X.2.1 = l) (hQ : q_QM X) (h : q_OK X yX8_told cX8_told 2 (some .int) rmX8_told (Cond.code yX8_told cX8_told 2 (some .int) :: q_G)) : q_SK X 2 72 (BX8_told_72) := by
  refine k_aload_n (i := 0) h (ddX8_told (72, .aload_n 0, 1) (List.mem_of_getElem? (i := 5) rfl)) rfl ?_
  refine k_getf (ci := 8) (j := 9) (C := RX8) (T := TX8) (N := 11) h rfl (fun w hw => List.mem_cons_of_mem _ (q_inX8 w hw)) (by decide) (List.mem_cons_of_mem _ gw135) (ddX8_told (73, .getfield 71, 3) (List.mem_of_getElem? (i := 6) rfl)) ?_
  refine k_getf (ci := 4) (j := 1) (C := RX4) (T := TX4) (N := 14) h rfl (fun w hw => List.mem_cons_of_mem _ (q_inX4 w hw)) (by decide) (List.mem_cons_of_mem _ gw312) (ddX8_told (76, .getfield 105, 3) (List.mem_of_getElem? (i := 7) rfl)) ?_
  exact k_iret h hQ (ddX8_told (79, .ireturn, 1) (List.mem_of_getElem? (i := 8) rfl))
theorem sX8_told_80 {l : Launch} {X : q_CX} (hl : X.2.1 = l) (hQ : q_QM X) (h : q_OK X yX8_told cX8_told 2 (some .int) rmX8_told (Cond.code yX8_told cX8_told 2 (some .int) :: q_G)) : q_SK X 2 80 (BX8_told_80) := by
  refine k_aload_n (i := 0) h (ddX8_told (80, .aload_n 0, 1) (List.mem_of_getElem? (i := 9) rfl)) rfl ?_
  refine k_getf (ci := 8) (j := 9) (C := RX8) (T := TX8) (N := 11) h rfl (fun w hw => List.mem_cons_of_mem _ (q_inX8 w hw)) (by decide) (List.mem_cons_of_mem _ gw135) (ddX8_told (81, .getfield 71, 3) (List.mem_of_getElem? (i := 10) rfl)) ?_
  refine k_getf (ci := 4) (j := 2) (C := RX4) (T := TX4) (N := 14) h rfl (fun w hw => List.mem_cons_of_mem _ (q_inX4 w hw)) (by decide) (List.mem_cons_of_mem _ gw315) (ddX8_told (84, .getfield 114, 3) (List.mem_of_getElem? (i := 11) rfl)) ?_
  exact k_iret h hQ (ddX8_told (87, .ireturn, 1) (List.mem_of_getElem? (i := 12) rfl))
theorem sX8_told_88 {l : Launch} {X : q_CX} (hl : X.2.1 = l) (hQ : q_QM X) (h : q_OK X yX8_told cX8_told 2 (some .int) rmX8_told (Cond.code yX8_told cX8_told 2 (some .int) :: q_G)) : q_SK X 2 88 (BX8_told_88) := by
  refine k_aload_n (i := 0) h (ddX8_told (88, .aload_n 0, 1) (List.mem_of_getElem? (i := 13) rfl)) rfl ?_
  refine k_getf (ci := 8) (j := 9) (C := RX8) (T := TX8) (N := 11) h rfl (fun w hw => List.mem_cons_of_mem _ (q_inX8 w hw)) (by decide) (List.mem_cons_of_mem _ gw135) (ddX8_told (89, .getfield 71, 3) (List.mem_of_getElem? (i := 14) rfl)) ?_
  refine k_getf (ci := 4) (j := 3) (C := RX4) (T := TX4) (N := 14) h rfl (fun w hw => List.mem_cons_of_mem _ (q_inX4 w hw)) (by decide) (List.mem_cons_of_mem _ gw316) (ddX8_told (92, .getfield 117, 3) (List.mem_of_getElem? (i := 15) rfl)) ?_
  exact k_iret h hQ (ddX8_told (95, .ireturn, 1) (List.mem_of_getElem? (i := 16) rfl))
theorem sX8_told_96 {l : Launch} {X : q_CX} (hl : X.2.1 = l) (hQ : q_QM X) (h : q_OK X yX8_told cX8_told 2 (some .int) rmX8_told (Cond.code yX8_told cX8_told 2 (some .int) :: q_G)) : q_SK X 2 96 (BX8_told_96) := by
  refine k_aload_n (i := 0) h (ddX8_told (96, .aload_n 0, 1) (List.mem_of_getElem? (i := 17) rfl)) rfl ?_
  refine k_getf (ci := 8) (j := 0) (C := RX8) (T := TX8) (N := 11) h rfl (fun w hw => List.mem_cons_of_mem _ (q_inX8 w hw)) (by decide) (List.mem_cons_of_mem _ gw11) (ddX8_told (97, .getfield 10, 3) (List.mem_of_getElem? (i := 18) rfl)) ?_
  refine k_getf (ci := 7) (j := 1) (C := RX7) (T := TX7) (N := 2) h rfl (fun w hw => List.mem_cons_of_mem _ (q_inX7 w hw)) (by decide) (List.mem_cons_of_mem _ gw149) (ddX8_told (100, .getfield 87, 3) (List.mem_of_getElem? (i := 19) rfl)) ?_
  exact k_iret h hQ (ddX8_told (103, .ireturn, 1) (List.mem_of_getElem? (i := 20) rfl))
theorem sX8_told_104 {l : Launch} {X : q_CX} (hl : X.2.1 = l) (hQ : q_QM X) (h : q_OK X yX8_told cX8_told 2 (some .int) rmX8_told (Cond.code yX8_told cX8_told 2 (some .int) :: q_G)) : q_SK X 2 104 (BX8_told_104) := by
  refine k_aload_n (i := 0) h (ddX8_told (104, .aload_n 0, 1) (List.mem_of_getElem? (i := 21) rfl)) rfl ?_
  refine k_getf (ci := 8) (j := 9) (C := RX8) (T := TX8) (N := 11) h rfl (fun w hw => List.mem_cons_of_mem _ (q_inX8 w hw)) (by decide) (List.mem_cons_of_mem _ gw135) (ddX8_told (105, .getfield 71, 3) (List.mem_of_getElem? (i := 22) rfl)) ?_
  refine k_getf (ci := 4) (j := 5) (C := RX4) (T := TX4) (N := 14) h rfl (fun w hw => List.mem_cons_of_mem _ (q_inX4 w hw)) (by decide) (List.mem_cons_of_mem _ gw317) (ddX8_told (108, .getfield 120, 3) (List.mem_of_getElem? (i := 23) rfl)) ?_
  exact k_iret h hQ (ddX8_told (111, .ireturn, 1) (List.mem_of_getElem? (i := 24) rfl))
theorem sX8_told_112 {l : Launch} {X : q_CX} (hl : X.2.1 = l) (hQ : q_QM X) (h : q_OK X yX8_told cX8_told 2 (some .int) rmX8_told (Cond.code yX8_told cX8_told 2 (some .int) :: q_G)) : q_SK X 2 112 (BX8_told_112) := by
  refine k_aload_n (i := 0) h (ddX8_told (112, .aload_n 0, 1) (List.mem_of_getElem? (i := 25) rfl)) rfl ?_
  refine k_getf (ci := 8) (j := 2) (C := RX8) (T := TX8) (N := 11) h rfl (fun w hw => List.mem_cons_of_mem _ (q_inX8 w hw)) (by decide) (List.mem_cons_of_mem _ gw28) (ddX8_told (113, .getfield 28, 3) (List.mem_of_getElem? (i := 26) rfl)) ?_
  refine k_getf (ci := 1) (j := 2) (C := RX1) (T := TX1) (N := 5) h rfl (fun w hw => List.mem_cons_of_mem _ (q_inX1 w hw)) (by decide) (List.mem_cons_of_mem _ gw318) (ddX8_told (116, .getfield 123, 3) (List.mem_of_getElem? (i := 27) rfl)) ?_
  exact k_iret h hQ (ddX8_told (119, .ireturn, 1) (List.mem_of_getElem? (i := 28) rfl))
theorem sX8_told_141 {l : Launch} {X : q_CX} (hl : X.2.1 = l) (hQ : q_QM X) (h : q_OK X yX8_told cX8_told 2 (some .int) rmX8_told (Cond.code yX8_told cX8_told 2 (some .int) :: q_G)) : q_SK X 2 141 (BX8_told_141) := by
  exact k_iret h hQ (ddX8_told (141, .ireturn, 1) (List.mem_of_getElem? (i := 38) rfl))
theorem sX8_told_140 {l : Launch} {X : q_CX} (hl : X.2.1 = l) (hQ : q_QM X) (h : q_OK X yX8_told cX8_told 2 (some .int) rmX8_told (Cond.code yX8_told cX8_told 2 (some .int) :: q_G)) : q_SK X 2 140 (BX8_told_140) := by
  refine k_iconst (v := (-1)) h (ddX8_told (140, .iconst (-1), 1) (List.mem_of_getElem? (i := 37) rfl)) (by decide) ?_
  exact sX8_told_141 hl hQ h
theorem sX8_told_130 {l : Launch} {X : q_CX} (hl : X.2.1 = l) (hQ : q_QM X) (h : q_OK X yX8_told cX8_told 2 (some .int) rmX8_told (Cond.code yX8_told cX8_told 2 (some .int) :: q_G)) : q_SK X 2 130 (BX8_told_130) := by
  refine k_aload_n (i := 0) h (ddX8_told (130, .aload_n 0, 1) (List.mem_of_getElem? (i := 33) rfl)) rfl ?_
  refine k_getf (ci := 8) (j := 2) (C := RX8) (T := TX8) (N := 11) h rfl (fun w hw => List.mem_cons_of_mem _ (q_inX8 w hw)) (by decide) (List.mem_cons_of_mem _ gw28) (ddX8_told (131, .getfield 28, 3) (List.mem_of_getElem? (i := 34) rfl)) ?_
  refine k_getf (ci := 1) (j := 1) (C := RX1) (T := TX1) (N := 5) h rfl (fun w hw => List.mem_cons_of_mem _ (q_inX1 w hw)) (by decide) (List.mem_cons_of_mem _ gw319) (ddX8_told (134, .getfield 126, 3) (List.mem_of_getElem? (i := 35) rfl)) ?_
  refine k_goto h (ddX8_told (137, .goto 4, 3) (List.mem_of_getElem? (i := 36) rfl)) (tgt := 141) (by decide) ?_
  exact sX8_told_141 hl hQ h
theorem sX8_told_120 {l : Launch} {X : q_CX} (hl : X.2.1 = l) (hQ : q_QM X) (h : q_OK X yX8_told cX8_told 2 (some .int) rmX8_told (Cond.code yX8_told cX8_told 2 (some .int) :: q_G)) : q_SK X 2 120 (BX8_told_120) := by
  refine k_aload_n (i := 0) h (ddX8_told (120, .aload_n 0, 1) (List.mem_of_getElem? (i := 29) rfl)) rfl ?_
  refine k_getf (ci := 8) (j := 9) (C := RX8) (T := TX8) (N := 11) h rfl (fun w hw => List.mem_cons_of_mem _ (q_inX8 w hw)) (by decide) (List.mem_cons_of_mem _ gw135) (ddX8_told (121, .getfield 71, 3) (List.mem_of_getElem? (i := 30) rfl)) ?_
  refine k_getf (ci := 4) (j := 1) (C := RX4) (T := TX4) (N := 14) h rfl (fun w hw => List.mem_cons_of_mem _ (q_inX4 w hw)) (by decide) (List.mem_cons_of_mem _ gw312) (ddX8_told (124, .getfield 105, 3) (List.mem_of_getElem? (i := 31) rfl)) ?_
  refine k_ifle h (ddX8_told (127, .ifCond .le 13, 3) (List.mem_of_getElem? (i := 32) rfl)) (tgt := 140) (by decide) ?_ ?_
  · exact sX8_told_140 hl hQ h
  · exact sX8_told_130 hl hQ h
theorem sX8_told_142 {l : Launch} {X : q_CX} (hl : X.2.1 = l) (hQ : q_QM X) (h : q_OK X yX8_told cX8_told 2 (some .int) rmX8_told (Cond.code yX8_told cX8_told 2 (some .int) :: q_G)) : q_SK X 2 142 (BX8_told_142) := by
  refine k_aload_n (i := 0) h (ddX8_told (142, .aload_n 0, 1) (List.mem_of_getElem? (i := 39) rfl)) rfl ?_
  refine k_getf (ci := 8) (j := 2) (C := RX8) (T := TX8) (N := 11) h rfl (fun w hw => List.mem_cons_of_mem _ (q_inX8 w hw)) (by decide) (List.mem_cons_of_mem _ gw28) (ddX8_told (143, .getfield 28, 3) (List.mem_of_getElem? (i := 40) rfl)) ?_
  refine k_getf (ci := 1) (j := 3) (C := RX1) (T := TX1) (N := 5) h rfl (fun w hw => List.mem_cons_of_mem _ (q_inX1 w hw)) (by decide) (List.mem_cons_of_mem _ gw320) (ddX8_told (146, .getfield 129, 3) (List.mem_of_getElem? (i := 41) rfl)) ?_
  exact k_iret h hQ (ddX8_told (149, .ireturn, 1) (List.mem_of_getElem? (i := 42) rfl))
theorem sX8_told_150 {l : Launch} {X : q_CX} (hl : X.2.1 = l) (hQ : q_QM X) (h : q_OK X yX8_told cX8_told 2 (some .int) rmX8_told (Cond.code yX8_told cX8_told 2 (some .int) :: q_G)) : q_SK X 2 150 (BX8_told_150) := by
  refine k_aload_n (i := 0) h (ddX8_told (150, .aload_n 0, 1) (List.mem_of_getElem? (i := 43) rfl)) rfl ?_
  refine k_getf (ci := 8) (j := 5) (C := RX8) (T := TX8) (N := 11) h rfl (fun w hw => List.mem_cons_of_mem _ (q_inX8 w hw)) (by decide) (List.mem_cons_of_mem _ gw42) (ddX8_told (151, .getfield 43, 3) (List.mem_of_getElem? (i := 44) rfl)) ?_
  refine k_getf (ci := 6) (j := 0) (C := RX6) (T := TX6) (N := 8) h rfl (fun w hw => List.mem_cons_of_mem _ (q_inX6 w hw)) (by decide) (List.mem_cons_of_mem _ gw321) (ddX8_told (154, .getfield 132, 3) (List.mem_of_getElem? (i := 45) rfl)) ?_
  exact k_iret h hQ (ddX8_told (157, .ireturn, 1) (List.mem_of_getElem? (i := 46) rfl))
theorem sX8_told_158 {l : Launch} {X : q_CX} (hl : X.2.1 = l) (hQ : q_QM X) (h : q_OK X yX8_told cX8_told 2 (some .int) rmX8_told (Cond.code yX8_told cX8_told 2 (some .int) :: q_G)) : q_SK X 2 158 (BX8_told_158) := by
  refine k_aload_n (i := 0) h (ddX8_told (158, .aload_n 0, 1) (List.mem_of_getElem? (i := 47) rfl)) rfl ?_
  refine k_getf (ci := 8) (j := 8) (C := RX8) (T := TX8) (N := 11) h rfl (fun w hw => List.mem_cons_of_mem _ (q_inX8 w hw)) (by decide) (List.mem_cons_of_mem _ gw68) (ddX8_told (159, .getfield 64, 3) (List.mem_of_getElem? (i := 48) rfl)) ?_
  refine k_getf (ci := 0) (j := 1) (C := RX0) (T := TX0) (N := 2) h rfl (fun w hw => List.mem_cons_of_mem _ (q_inX0 w hw)) (by decide) (List.mem_cons_of_mem _ gw307) (ddX8_told (162, .getfield 135, 3) (List.mem_of_getElem? (i := 49) rfl)) ?_
  exact k_iret h hQ (ddX8_told (165, .ireturn, 1) (List.mem_of_getElem? (i := 50) rfl))
theorem sX8_told_166 {l : Launch} {X : q_CX} (hl : X.2.1 = l) (hQ : q_QM X) (h : q_OK X yX8_told cX8_told 2 (some .int) rmX8_told (Cond.code yX8_told cX8_told 2 (some .int) :: q_G)) : q_SK X 2 166 (BX8_told_166) := by
  refine k_aload_n (i := 0) h (ddX8_told (166, .aload_n 0, 1) (List.mem_of_getElem? (i := 51) rfl)) rfl ?_
  refine k_getf (ci := 8) (j := 9) (C := RX8) (T := TX8) (N := 11) h rfl (fun w hw => List.mem_cons_of_mem _ (q_inX8 w hw)) (by decide) (List.mem_cons_of_mem _ gw135) (ddX8_told (167, .getfield 71, 3) (List.mem_of_getElem? (i := 52) rfl)) ?_
  refine k_aload_n (i := 0) h (ddX8_told (170, .aload_n 0, 1) (List.mem_of_getElem? (i := 53) rfl)) rfl ?_
  refine k_aload_n (i := 0) h (ddX8_told (171, .aload_n 0, 1) (List.mem_of_getElem? (i := 54) rfl)) rfl ?_
  refine k_getf (ci := 8) (j := 2) (C := RX8) (T := TX8) (N := 11) h rfl (fun w hw => List.mem_cons_of_mem _ (q_inX8 w hw)) (by decide) (List.mem_cons_of_mem _ gw28) (ddX8_told (172, .getfield 28, 3) (List.mem_of_getElem? (i := 55) rfl)) ?_
  refine k_getf (ci := 1) (j := 2) (C := RX1) (T := TX1) (N := 5) h rfl (fun w hw => List.mem_cons_of_mem _ (q_inX1 w hw)) (by decide) (List.mem_cons_of_mem _ gw318) (ddX8_told (175, .getfield 123, 3) (List.mem_of_getElem? (i := 56) rfl)) ?_
  refine k_callV h hl (aX8_standingAt l) (ci := 8) (C := RX8) (T := TX8) (N := 11) rfl ⟨rfl, rfl⟩ (n := 1) (by decide +kernel) (q_gV gw325 gw326 gw327 gw91 gw324) ⟨by decide, by decide⟩ (ddX8_told (178, .invokevirtual 136, 3) (List.mem_of_getElem? (i := 57) rfl)) ?_
  refine k_callV h hl (aX4_litSet l) (ci := 4) (C := RX4) (T := TX4) (N := 14) rfl ⟨rfl, rfl⟩ (n := 1) (by decide +kernel) (q_gV gw329 gw330 gw331 gw71 gw328) ⟨by decide, by decide⟩ (ddX8_told (181, .invokevirtual 140, 3) (List.mem_of_getElem? (i := 58) rfl)) ?_
  exact k_iret h hQ (ddX8_told (184, .ireturn, 1) (List.mem_of_getElem? (i := 59) rfl))
theorem sX8_told_185 {l : Launch} {X : q_CX} (hl : X.2.1 = l) (hQ : q_QM X) (h : q_OK X yX8_told cX8_told 2 (some .int) rmX8_told (Cond.code yX8_told cX8_told 2 (some .int) :: q_G)) : q_SK X 2 185 (BX8_told_185) := by
  refine k_ldc (v := (-1000000002)) h (ddX8_told (185, .ldc 82, 2) (List.mem_of_getElem? (i := 60) rfl)) (List.mem_cons_of_mem _ gw140) ?_
  exact k_iret h hQ (ddX8_told (187, .ireturn, 1) (List.mem_of_getElem? (i := 61) rfl))
theorem sX8_told_0 {l : Launch} {X : q_CX} (hl : X.2.1 = l) (hQ : q_QM X) (h : q_OK X yX8_told cX8_told 2 (some .int) rmX8_told (Cond.code yX8_told cX8_told 2 (some .int) :: q_G)) : q_SK X 2 0 (BX8_told_0) := by
  refine k_iload_n (i := 1) h (ddX8_told (0, .iload_n 1, 1) (List.mem_of_getElem? (i := 0) rfl)) rfl ?_
  refine k_sw h (dflt := 184) (hi := 11) (offs := #[63, 71, 79, 87, 95, 103, 111, 119, 141, 149, 157, 165]) (len := 63) (tgt := 185) (by decide +kernel) (by decide) (by decide) ⟨⟨63, 64, rfl, by decide, by exact sX8_told_64 hl hQ h⟩, ⟨⟨71, 72, rfl, by decide, by exact sX8_told_72 hl hQ h⟩, ⟨⟨79, 80, rfl, by decide, by exact sX8_told_80 hl hQ h⟩, ⟨⟨87, 88, rfl, by decide, by exact sX8_told_88 hl hQ h⟩, ⟨⟨95, 96, rfl, by decide, by exact sX8_told_96 hl hQ h⟩, ⟨⟨103, 104, rfl, by decide, by exact sX8_told_104 hl hQ h⟩, ⟨⟨111, 112, rfl, by decide, by exact sX8_told_112 hl hQ h⟩, ⟨⟨119, 120, rfl, by decide, by exact sX8_told_120 hl hQ h⟩, ⟨⟨141, 142, rfl, by decide, by exact sX8_told_142 hl hQ h⟩, ⟨⟨149, 150, rfl, by decide, by exact sX8_told_150 hl hQ h⟩, ⟨⟨157, 158, rfl, by decide, by exact sX8_told_158 hl hQ h⟩, ⟨⟨165, 166, rfl, by decide, by exact sX8_told_166 hl hQ h⟩, trivial⟩⟩⟩⟩⟩⟩⟩⟩⟩⟩⟩⟩ (by decide) ?_
  exact sX8_told_185 hl hQ h
theorem aX8_told (l : Launch) (as : List Value) (sh : q_Sh) (m : q_Mm) (R : q_KR) (hw : wX8_told as sh m R) : q_AM l yX8_told (Cond.code yX8_told cX8_told 2 (some .int) :: q_G) rmX8_told as sh m R := by
  refine q_met (code := TX8_told) (by decide) (fun X hl hQ _ h pc => ?_) hw.1 hw.2
  unfold TX8_told
  exact k_at (sX8_told_0 hl hQ h) (k_no)
/-! TumblingRock.isTurning(I)Z -/
abbrev dlX8_isTurning : List (Nat × (Instr × Nat)) := [(0, .iload_n 1, 1), (1, .iconst 0, 1), (2, .aload_n 0, 1), (3, .getfield 71, 3), (6, .getfield 111, 3), (9, .iconst 1, 1), (10, .isub, 1), (11, .invokestatic 78, 3), (14, .ireturn, 1)]
theorem ddX8_isTurning : ∀ q ∈ dlX8_isTurning, decode cX8_isTurning q.1 = .ok q.2 := by decide +kernel
theorem sX8_isTurning_0 {l : Launch} {X : q_CX} (hl : X.2.1 = l) (hQ : q_QM X) (h : q_OK X yX8_isTurning cX8_isTurning 2 (some .boolean) rmX8_isTurning (Cond.code yX8_isTurning cX8_isTurning 2 (some .boolean) :: q_G)) : q_SK X 2 0 (BX8_isTurning_0) := by
  refine k_iload_n (i := 1) h (ddX8_isTurning (0, .iload_n 1, 1) (List.mem_of_getElem? (i := 0) rfl)) rfl ?_
  refine k_iconst (v := 0) h (ddX8_isTurning (1, .iconst 0, 1) (List.mem_of_getElem? (i := 1) rfl)) (by decide) ?_
  refine k_aload_n (i := 0) h (ddX8_isTurning (2, .aload_n 0, 1) (List.mem_of_getElem? (i := 2) rfl)) rfl ?_
  refine k_getf (ci := 8) (j := 9) (C := RX8) (T := TX8) (N := 11) h rfl (fun w hw => List.mem_cons_of_mem _ (q_inX8 w hw)) (by decide) (List.mem_cons_of_mem _ gw135) (ddX8_isTurning (3, .getfield 71, 3) (List.mem_of_getElem? (i := 3) rfl)) ?_
  refine k_getf (ci := 4) (j := 0) (C := RX4) (T := TX4) (N := 14) h rfl (fun w hw => List.mem_cons_of_mem _ (q_inX4 w hw)) (by decide) (List.mem_cons_of_mem _ gw314) (ddX8_isTurning (6, .getfield 111, 3) (List.mem_of_getElem? (i := 4) rfl)) ?_
  refine k_iconst (v := 1) h (ddX8_isTurning (9, .iconst 1, 1) (List.mem_of_getElem? (i := 5) rfl)) (by decide) ?_
  refine k_isub h (ddX8_isTurning (10, .isub, 1) (List.mem_of_getElem? (i := 6) rfl)) ?_
  refine k_callS h hl (aX8_inside l) ⟨rfl, rfl⟩ (n := 3) (by decide +kernel) (q_gS gw139 gw138 gw91 gw137) ⟨by decide, by decide⟩ (ddX8_isTurning (11, .invokestatic 78, 3) (List.mem_of_getElem? (i := 7) rfl)) ?_
  exact k_zret h hQ (ddX8_isTurning (14, .ireturn, 1) (List.mem_of_getElem? (i := 8) rfl))
theorem aX8_isTurning (l : Launch) (as : List Value) (sh : q_Sh) (m : q_Mm) (R : q_KR) (hw : wX8_isTurning as sh m R) : q_AM l yX8_isTurning (Cond.code yX8_isTurning cX8_isTurning 2 (some .boolean) :: q_G) rmX8_isTurning as sh m R := by
  refine q_met (code := TX8_isTurning) (by decide) (fun X hl hQ _ h pc => ?_) hw.1 hw.2
  unfold TX8_isTurning
  exact k_at (sX8_isTurning_0 hl hQ h) (k_no)
/-! TumblingRock.turning(II)I -/
abbrev dlX8_turning : List (Nat × (Instr × Nat)) := [(0, .aload_n 0, 1), (1, .iload_n 1, 1), (2, .invokevirtual 143, 3), (5, .ifCond .ne 6, 3), (8, .ldc 147, 2), (10, .ireturn, 1), (11, .aload_n 0, 1), (12, .getfield 71, 3), (15, .aload_n 0, 1), (16, .aload_n 0, 1), (17, .getfield 28, 3), (20, .getfield 123, 3), (23, .invokevirtual 136, 3), (26, .iload_n 1, 1), (27, .invokevirtual 148, 3), (30, .istore_n 3, 1), (31, .iload_n 2, 1), (64, .aload_n 0, 1), (65, .getfield 71, 3), (68, .iload_n 1, 1), (69, .invokevirtual 152, 3), (72, .ireturn, 1), (73, .aload_n 0, 1), (74, .getfield 71, 3), (77, .aload_n 0, 1), (78, .getfield 28, 3), (81, .getfield 155, 3), (84, .iload_n 1, 1), (85, .invokevirtual 148, 3), (88, .ireturn, 1), (89, .iload_n 3, 1), (90, .ireturn, 1), (91, .aload_n 0, 1), (92, .getfield 71, 3), (95, .iload_n 1, 1), (96, .iload_n 3, 1), (97, .invokevirtual 158, 3), (100, .ireturn, 1), (101, .ldc 82, 2), (103, .ireturn, 1)]
theorem ddX8_turning : ∀ q ∈ dlX8_turning, decode cX8_turning q.1 = .ok q.2 := by decide +kernel
theorem sX8_turning_64 {l : Launch} {X : q_CX} (hl : X.2.1 = l) (hQ : q_QM X) (h : q_OK X yX8_turning cX8_turning 4 (some .int) rmX8_turning (Cond.code yX8_turning cX8_turning 4 (some .int) :: q_G)) : q_SK X 4 64 (BX8_turning_64) := by
  refine k_aload_n (i := 0) h (ddX8_turning (64, .aload_n 0, 1) (List.mem_of_getElem? (i := 17) rfl)) rfl ?_
  refine k_getf (ci := 8) (j := 9) (C := RX8) (T := TX8) (N := 11) h rfl (fun w hw => List.mem_cons_of_mem _ (q_inX8 w hw)) (by decide) (List.mem_cons_of_mem _ gw135) (ddX8_turning (65, .getfield 71, 3) (List.mem_of_getElem? (i := 18) rfl)) ?_
  refine k_iload_n (i := 1) h (ddX8_turning (68, .iload_n 1, 1) (List.mem_of_getElem? (i := 19) rfl)) rfl ?_
  refine k_callV h hl (aX4_size l) (ci := 4) (C := RX4) (T := TX4) (N := 14) rfl ⟨rfl, rfl⟩ (n := 1) (by decide +kernel) (q_gV gw338 gw227 gw228 gw71 gw225) ⟨by decide, by decide⟩ (ddX8_turning (69, .invokevirtual 152, 3) (List.mem_of_getElem? (i := 20) rfl)) ?_
  exact k_iret h hQ (ddX8_turning (72, .ireturn, 1) (List.mem_of_getElem? (i := 21) rfl))
theorem sX8_turning_73 {l : Launch} {X : q_CX} (hl : X.2.1 = l) (hQ : q_QM X) (h : q_OK X yX8_turning cX8_turning 4 (some .int) rmX8_turning (Cond.code yX8_turning cX8_turning 4 (some .int) :: q_G)) : q_SK X 4 73 (BX8_turning_73) := by
  refine k_aload_n (i := 0) h (ddX8_turning (73, .aload_n 0, 1) (List.mem_of_getElem? (i := 22) rfl)) rfl ?_
  refine k_getf (ci := 8) (j := 9) (C := RX8) (T := TX8) (N := 11) h rfl (fun w hw => List.mem_cons_of_mem _ (q_inX8 w hw)) (by decide) (List.mem_cons_of_mem _ gw135) (ddX8_turning (74, .getfield 71, 3) (List.mem_of_getElem? (i := 23) rfl)) ?_
  refine k_aload_n (i := 0) h (ddX8_turning (77, .aload_n 0, 1) (List.mem_of_getElem? (i := 24) rfl)) rfl ?_
  refine k_getf (ci := 8) (j := 2) (C := RX8) (T := TX8) (N := 11) h rfl (fun w hw => List.mem_cons_of_mem _ (q_inX8 w hw)) (by decide) (List.mem_cons_of_mem _ gw28) (ddX8_turning (78, .getfield 28, 3) (List.mem_of_getElem? (i := 25) rfl)) ?_
  refine k_getf (ci := 1) (j := 0) (C := RX1) (T := TX1) (N := 5) h rfl (fun w hw => List.mem_cons_of_mem _ (q_inX1 w hw)) (by decide) (List.mem_cons_of_mem _ gw322) (ddX8_turning (81, .getfield 155, 3) (List.mem_of_getElem? (i := 26) rfl)) ?_
  refine k_iload_n (i := 1) h (ddX8_turning (84, .iload_n 1, 1) (List.mem_of_getElem? (i := 27) rfl)) rfl ?_
  refine k_callV h hl (aX4_digit l) (ci := 4) (C := RX4) (T := TX4) (N := 14) rfl ⟨rfl, rfl⟩ (n := 2) (by decide +kernel) (q_gV gw337 gw106 gw107 gw71 gw104) ⟨by decide, by decide⟩ (ddX8_turning (85, .invokevirtual 148, 3) (List.mem_of_getElem? (i := 28) rfl)) ?_
  exact k_iret h hQ (ddX8_turning (88, .ireturn, 1) (List.mem_of_getElem? (i := 29) rfl))
theorem sX8_turning_89 {l : Launch} {X : q_CX} (hl : X.2.1 = l) (hQ : q_QM X) (h : q_OK X yX8_turning cX8_turning 4 (some .int) rmX8_turning (Cond.code yX8_turning cX8_turning 4 (some .int) :: q_G)) : q_SK X 4 89 (BX8_turning_89) := by
  refine k_iload_n (i := 3) h (ddX8_turning (89, .iload_n 3, 1) (List.mem_of_getElem? (i := 30) rfl)) rfl ?_
  exact k_iret h hQ (ddX8_turning (90, .ireturn, 1) (List.mem_of_getElem? (i := 31) rfl))
theorem sX8_turning_91 {l : Launch} {X : q_CX} (hl : X.2.1 = l) (hQ : q_QM X) (h : q_OK X yX8_turning cX8_turning 4 (some .int) rmX8_turning (Cond.code yX8_turning cX8_turning 4 (some .int) :: q_G)) : q_SK X 4 91 (BX8_turning_91) := by
  refine k_aload_n (i := 0) h (ddX8_turning (91, .aload_n 0, 1) (List.mem_of_getElem? (i := 32) rfl)) rfl ?_
  refine k_getf (ci := 8) (j := 9) (C := RX8) (T := TX8) (N := 11) h rfl (fun w hw => List.mem_cons_of_mem _ (q_inX8 w hw)) (by decide) (List.mem_cons_of_mem _ gw135) (ddX8_turning (92, .getfield 71, 3) (List.mem_of_getElem? (i := 33) rfl)) ?_
  refine k_iload_n (i := 1) h (ddX8_turning (95, .iload_n 1, 1) (List.mem_of_getElem? (i := 34) rfl)) rfl ?_
  refine k_iload_n (i := 3) h (ddX8_turning (96, .iload_n 3, 1) (List.mem_of_getElem? (i := 35) rfl)) rfl ?_
  refine k_callV h hl (aX4_part l) (ci := 4) (C := RX4) (T := TX4) (N := 14) rfl ⟨rfl, rfl⟩ (n := 2) (by decide +kernel) (q_gV gw339 gw110 gw111 gw71 gw108) ⟨by decide, by decide⟩ (ddX8_turning (97, .invokevirtual 158, 3) (List.mem_of_getElem? (i := 36) rfl)) ?_
  exact k_iret h hQ (ddX8_turning (100, .ireturn, 1) (List.mem_of_getElem? (i := 37) rfl))
theorem sX8_turning_101 {l : Launch} {X : q_CX} (hl : X.2.1 = l) (hQ : q_QM X) (h : q_OK X yX8_turning cX8_turning 4 (some .int) rmX8_turning (Cond.code yX8_turning cX8_turning 4 (some .int) :: q_G)) : q_SK X 4 101 (BX8_turning_101) := by
  refine k_ldc (v := (-1000000002)) h (ddX8_turning (101, .ldc 82, 2) (List.mem_of_getElem? (i := 38) rfl)) (List.mem_cons_of_mem _ gw140) ?_
  exact k_iret h hQ (ddX8_turning (103, .ireturn, 1) (List.mem_of_getElem? (i := 39) rfl))
theorem sX8_turning_11 {l : Launch} {X : q_CX} (hl : X.2.1 = l) (hQ : q_QM X) (h : q_OK X yX8_turning cX8_turning 4 (some .int) rmX8_turning (Cond.code yX8_turning cX8_turning 4 (some .int) :: q_G)) : q_SK X 4 11 (BX8_turning_11) := by
  refine k_aload_n (i := 0) h (ddX8_turning (11, .aload_n 0, 1) (List.mem_of_getElem? (i := 6) rfl)) rfl ?_
  refine k_getf (ci := 8) (j := 9) (C := RX8) (T := TX8) (N := 11) h rfl (fun w hw => List.mem_cons_of_mem _ (q_inX8 w hw)) (by decide) (List.mem_cons_of_mem _ gw135) (ddX8_turning (12, .getfield 71, 3) (List.mem_of_getElem? (i := 7) rfl)) ?_
  refine k_aload_n (i := 0) h (ddX8_turning (15, .aload_n 0, 1) (List.mem_of_getElem? (i := 8) rfl)) rfl ?_
  refine k_aload_n (i := 0) h (ddX8_turning (16, .aload_n 0, 1) (List.mem_of_getElem? (i := 9) rfl)) rfl ?_
  refine k_getf (ci := 8) (j := 2) (C := RX8) (T := TX8) (N := 11) h rfl (fun w hw => List.mem_cons_of_mem _ (q_inX8 w hw)) (by decide) (List.mem_cons_of_mem _ gw28) (ddX8_turning (17, .getfield 28, 3) (List.mem_of_getElem? (i := 10) rfl)) ?_
  refine k_getf (ci := 1) (j := 2) (C := RX1) (T := TX1) (N := 5) h rfl (fun w hw => List.mem_cons_of_mem _ (q_inX1 w hw)) (by decide) (List.mem_cons_of_mem _ gw318) (ddX8_turning (20, .getfield 123, 3) (List.mem_of_getElem? (i := 11) rfl)) ?_
  refine k_callV h hl (aX8_standingAt l) (ci := 8) (C := RX8) (T := TX8) (N := 11) rfl ⟨rfl, rfl⟩ (n := 1) (by decide +kernel) (q_gV gw325 gw326 gw327 gw91 gw324) ⟨by decide, by decide⟩ (ddX8_turning (23, .invokevirtual 136, 3) (List.mem_of_getElem? (i := 12) rfl)) ?_
  refine k_iload_n (i := 1) h (ddX8_turning (26, .iload_n 1, 1) (List.mem_of_getElem? (i := 13) rfl)) rfl ?_
  refine k_callV h hl (aX4_digit l) (ci := 4) (C := RX4) (T := TX4) (N := 14) rfl ⟨rfl, rfl⟩ (n := 2) (by decide +kernel) (q_gV gw337 gw106 gw107 gw71 gw104) ⟨by decide, by decide⟩ (ddX8_turning (27, .invokevirtual 148, 3) (List.mem_of_getElem? (i := 14) rfl)) ?_
  refine k_istore_n (i := 3) h (ddX8_turning (30, .istore_n 3, 1) (List.mem_of_getElem? (i := 15) rfl)) rfl (by decide) ?_
  refine k_iload_n (i := 2) h (ddX8_turning (31, .iload_n 2, 1) (List.mem_of_getElem? (i := 16) rfl)) rfl ?_
  refine k_sw h (dflt := 69) (hi := 3) (offs := #[32, 41, 57, 59]) (len := 32) (tgt := 101) (by decide +kernel) (by decide) (by decide) ⟨⟨32, 64, rfl, by decide, by exact sX8_turning_64 hl hQ h⟩, ⟨⟨41, 73, rfl, by decide, by exact sX8_turning_73 hl hQ h⟩, ⟨⟨57, 89, rfl, by decide, by exact sX8_turning_89 hl hQ h⟩, ⟨⟨59, 91, rfl, by decide, by exact sX8_turning_91 hl hQ h⟩, trivial⟩⟩⟩⟩ (by decide) ?_
  exact sX8_turning_101 hl hQ h
theorem sX8_turning_8 {l : Launch} {X : q_CX} (hl : X.2.1 = l) (hQ : q_QM X) (h : q_OK X yX8_turning cX8_turning 4 (some .int) rmX8_turning (Cond.code yX8_turning cX8_turning 4 (some .int) :: q_G)) : q_SK X 4 8 (BX8_turning_8) := by
  refine k_ldc (v := (-1000000001)) h (ddX8_turning (8, .ldc 147, 2) (List.mem_of_getElem? (i := 4) rfl)) (List.mem_cons_of_mem _ gw336) ?_
  exact k_iret h hQ (ddX8_turning (10, .ireturn, 1) (List.mem_of_getElem? (i := 5) rfl))
theorem sX8_turning_0 {l : Launch} {X : q_CX} (hl : X.2.1 = l) (hQ : q_QM X) (h : q_OK X yX8_turning cX8_turning 4 (some .int) rmX8_turning (Cond.code yX8_turning cX8_turning 4 (some .int) :: q_G)) : q_SK X 4 0 (BX8_turning_0) := by
  refine k_aload_n (i := 0) h (ddX8_turning (0, .aload_n 0, 1) (List.mem_of_getElem? (i := 0) rfl)) rfl ?_
  refine k_iload_n (i := 1) h (ddX8_turning (1, .iload_n 1, 1) (List.mem_of_getElem? (i := 1) rfl)) rfl ?_
  refine k_callV h hl (aX8_isTurning l) (ci := 8) (C := RX8) (T := TX8) (N := 11) rfl ⟨rfl, rfl⟩ (n := 1) (by decide +kernel) (q_gV gw333 gw334 gw335 gw91 gw332) ⟨by decide, by decide⟩ (ddX8_turning (2, .invokevirtual 143, 3) (List.mem_of_getElem? (i := 2) rfl)) ?_
  refine k_ifne h (ddX8_turning (5, .ifCond .ne 6, 3) (List.mem_of_getElem? (i := 3) rfl)) (tgt := 11) (by decide) ?_ ?_
  · exact sX8_turning_11 hl hQ h
  · exact sX8_turning_8 hl hQ h
theorem aX8_turning (l : Launch) (as : List Value) (sh : q_Sh) (m : q_Mm) (R : q_KR) (hw : wX8_turning as sh m R) : q_AM l yX8_turning (Cond.code yX8_turning cX8_turning 4 (some .int) :: q_G) rmX8_turning as sh m R := by
  refine q_met (code := TX8_turning) (by decide) (fun X hl hQ _ h pc => ?_) hw.1 hw.2
  unfold TX8_turning
  exact k_at (sX8_turning_0 hl hQ h) (k_no)
/-! TumblingRock.isPlace(I)Z -/
abbrev dlX8_isPlace : List (Nat × (Instr × Nat)) := [(0, .iload_n 1, 1), (1, .iconst 0, 1), (2, .aload_n 0, 1), (3, .getfield 71, 3), (6, .getfield 105, 3), (9, .iconst 1, 1), (10, .isub, 1), (11, .invokestatic 78, 3), (14, .ireturn, 1)]
theorem ddX8_isPlace : ∀ q ∈ dlX8_isPlace, decode cX8_isPlace q.1 = .ok q.2 := by decide +kernel
theorem sX8_isPlace_0 {l : Launch} {X : q_CX} (hl : X.2.1 = l) (hQ : q_QM X) (h : q_OK X yX8_isPlace cX8_isPlace 2 (some .boolean) rmX8_isPlace (Cond.code yX8_isPlace cX8_isPlace 2 (some .boolean) :: q_G)) : q_SK X 2 0 (BX8_isPlace_0) := by
  refine k_iload_n (i := 1) h (ddX8_isPlace (0, .iload_n 1, 1) (List.mem_of_getElem? (i := 0) rfl)) rfl ?_
  refine k_iconst (v := 0) h (ddX8_isPlace (1, .iconst 0, 1) (List.mem_of_getElem? (i := 1) rfl)) (by decide) ?_
  refine k_aload_n (i := 0) h (ddX8_isPlace (2, .aload_n 0, 1) (List.mem_of_getElem? (i := 2) rfl)) rfl ?_
  refine k_getf (ci := 8) (j := 9) (C := RX8) (T := TX8) (N := 11) h rfl (fun w hw => List.mem_cons_of_mem _ (q_inX8 w hw)) (by decide) (List.mem_cons_of_mem _ gw135) (ddX8_isPlace (3, .getfield 71, 3) (List.mem_of_getElem? (i := 3) rfl)) ?_
  refine k_getf (ci := 4) (j := 1) (C := RX4) (T := TX4) (N := 14) h rfl (fun w hw => List.mem_cons_of_mem _ (q_inX4 w hw)) (by decide) (List.mem_cons_of_mem _ gw312) (ddX8_isPlace (6, .getfield 105, 3) (List.mem_of_getElem? (i := 4) rfl)) ?_
  refine k_iconst (v := 1) h (ddX8_isPlace (9, .iconst 1, 1) (List.mem_of_getElem? (i := 5) rfl)) (by decide) ?_
  refine k_isub h (ddX8_isPlace (10, .isub, 1) (List.mem_of_getElem? (i := 6) rfl)) ?_
  refine k_callS h hl (aX8_inside l) ⟨rfl, rfl⟩ (n := 3) (by decide +kernel) (q_gS gw139 gw138 gw91 gw137) ⟨by decide, by decide⟩ (ddX8_isPlace (11, .invokestatic 78, 3) (List.mem_of_getElem? (i := 7) rfl)) ?_
  exact k_zret h hQ (ddX8_isPlace (14, .ireturn, 1) (List.mem_of_getElem? (i := 8) rfl))
theorem aX8_isPlace (l : Launch) (as : List Value) (sh : q_Sh) (m : q_Mm) (R : q_KR) (hw : wX8_isPlace as sh m R) : q_AM l yX8_isPlace (Cond.code yX8_isPlace cX8_isPlace 2 (some .boolean) :: q_G) rmX8_isPlace as sh m R := by
  refine q_met (code := TX8_isPlace) (by decide) (fun X hl hQ _ h pc => ?_) hw.1 hw.2
  unfold TX8_isPlace
  exact k_at (sX8_isPlace_0 hl hQ h) (k_no)
/-! TumblingRock$Rock.litBit(II)I -/
abbrev dlX4_litBit : List (Nat × (Instr × Nat)) := [(0, .aload_n 0, 1), (1, .iload_n 2, 1), (2, .invokevirtual 120, 3), (5, .iload_n 1, 1), (6, .invokestatic 94, 3), (9, .ireturn, 1)]
theorem ddX4_litBit : ∀ q ∈ dlX4_litBit, decode cX4_litBit q.1 = .ok q.2 := by decide +kernel
theorem sX4_litBit_0 {l : Launch} {X : q_CX} (hl : X.2.1 = l) (hQ : q_QM X) (h : q_OK X yX4_litBit cX4_litBit 3 (some .int) rmX4_litBit (Cond.code yX4_litBit cX4_litBit 3 (some .int) :: q_G)) : q_SK X 3 0 (BX4_litBit_0) := by
  refine k_aload_n (i := 0) h (ddX4_litBit (0, .aload_n 0, 1) (List.mem_of_getElem? (i := 0) rfl)) rfl ?_
  refine k_iload_n (i := 2) h (ddX4_litBit (1, .iload_n 2, 1) (List.mem_of_getElem? (i := 1) rfl)) rfl ?_
  refine k_callV h hl (aX4_litSet l) (ci := 4) (C := RX4) (T := TX4) (N := 14) rfl ⟨rfl, rfl⟩ (n := 1) (by decide +kernel) (q_gV gw346 gw330 gw331 gw71 gw328) ⟨by decide, by decide⟩ (ddX4_litBit (2, .invokevirtual 120, 3) (List.mem_of_getElem? (i := 2) rfl)) ?_
  refine k_iload_n (i := 1) h (ddX4_litBit (5, .iload_n 1, 1) (List.mem_of_getElem? (i := 3) rfl)) rfl ?_
  refine k_callN h hl (aX8_bit l) ⟨rfl, rfl⟩ (n := 2) (by decide +kernel) (q_gN gw255) (by decide +kernel) (List.mem_cons_of_mem _ gw91) (List.mem_cons_of_mem _ gw256) ⟨by decide, by decide⟩ (ddX4_litBit (6, .invokestatic 94, 3) (List.mem_of_getElem? (i := 4) rfl)) ?_
  exact k_iret h hQ (ddX4_litBit (9, .ireturn, 1) (List.mem_of_getElem? (i := 5) rfl))
theorem aX4_litBit (l : Launch) (as : List Value) (sh : q_Sh) (m : q_Mm) (R : q_KR) (hw : wX4_litBit as sh m R) : q_AM l yX4_litBit (Cond.code yX4_litBit cX4_litBit 3 (some .int) :: q_G) rmX4_litBit as sh m R := by
  refine q_met (code := TX4_litBit) (by decide) (fun X hl hQ _ h pc => ?_) hw.1 hw.2
  unfold TX4_litBit
  exact k_at (sX4_litBit_0 hl hQ h) (k_no)
