/-! Contracts, leaves first; written by wip/whole/gen.py. -/
/-! TumblingRock.feed(IJ)I -/
abbrev dlX8_feed : List (Nat × (Instr × Nat)) := [(0, .iload_n 1, 1), (1, .iconst 1, 1), (2, .bipush 8, 2), (4, .invokestatic 78, 3), (7, .ifCond .ne 6, 3), (10, .ldc 82, 2), (12, .ireturn, 1), (13, .aload_n 0, 1), (14, .getfield 10, 3), (17, .iload_n 1, 1), (18, .lload_n 2, 1), (19, .invokevirtual 83, 3), (22, .ifCond .eq 13, 3), (25, .aload_n 0, 1), (26, .getfield 10, 3), (29, .getfield 87, 3), (32, .goto 5, 3), (35, .ldc 91, 2), (37, .ireturn, 1)]
theorem ddX8_feed : ∀ q ∈ dlX8_feed, decode cX8_feed q.1 = .ok q.2 := by decide +kernel
theorem sX8_feed_37 {l : Launch} {X : q_CX} (hl : X.2.1 = l) (hQ : q_QM X) (h : q_OK X yX8_feed cX8_feed 4 (some .int) rmX8_feed (Cond.code yX8_feed cX8_feed 4 (some .int) :: q_G)) : q_SK X 4 37 (BX8_feed_37) := by
  exact k_iret h hQ (ddX8_feed (37, .ireturn, 1) (List.mem_of_getElem? (i := 18) rfl))
theorem sX8_feed_35 {l : Launch} {X : q_CX} (hl : X.2.1 = l) (hQ : q_QM X) (h : q_OK X yX8_feed cX8_feed 4 (some .int) rmX8_feed (Cond.code yX8_feed cX8_feed 4 (some .int) :: q_G)) : q_SK X 4 35 (BX8_feed_35) := by
  refine k_ldc (v := (-1000000004)) h (ddX8_feed (35, .ldc 91, 2) (List.mem_of_getElem? (i := 17) rfl)) (List.mem_cons_of_mem _ gw150) ?_
  exact sX8_feed_37 hl hQ h
theorem sX8_feed_25 {l : Launch} {X : q_CX} (hl : X.2.1 = l) (hQ : q_QM X) (h : q_OK X yX8_feed cX8_feed 4 (some .int) rmX8_feed (Cond.code yX8_feed cX8_feed 4 (some .int) :: q_G)) : q_SK X 4 25 (BX8_feed_25) := by
  refine k_aload_n (i := 0) h (ddX8_feed (25, .aload_n 0, 1) (List.mem_of_getElem? (i := 13) rfl)) rfl ?_
  refine k_getf (ci := 8) (j := 0) (C := RX8) (T := TX8) (N := 11) h rfl (fun w hw => List.mem_cons_of_mem _ (q_inX8 w hw)) (by decide) (List.mem_cons_of_mem _ gw11) (ddX8_feed (26, .getfield 10, 3) (List.mem_of_getElem? (i := 14) rfl)) ?_
  refine k_getf (ci := 7) (j := 1) (C := RX7) (T := TX7) (N := 2) h rfl (fun w hw => List.mem_cons_of_mem _ (q_inX7 w hw)) (by decide) (List.mem_cons_of_mem _ gw149) (ddX8_feed (29, .getfield 87, 3) (List.mem_of_getElem? (i := 15) rfl)) ?_
  refine k_goto h (ddX8_feed (32, .goto 5, 3) (List.mem_of_getElem? (i := 16) rfl)) (tgt := 37) (by decide) ?_
  exact sX8_feed_37 hl hQ h
theorem sX8_feed_13 {l : Launch} {X : q_CX} (hl : X.2.1 = l) (hQ : q_QM X) (h : q_OK X yX8_feed cX8_feed 4 (some .int) rmX8_feed (Cond.code yX8_feed cX8_feed 4 (some .int) :: q_G)) : q_SK X 4 13 (BX8_feed_13) := by
  refine k_aload_n (i := 0) h (ddX8_feed (13, .aload_n 0, 1) (List.mem_of_getElem? (i := 7) rfl)) rfl ?_
  refine k_getf (ci := 8) (j := 0) (C := RX8) (T := TX8) (N := 11) h rfl (fun w hw => List.mem_cons_of_mem _ (q_inX8 w hw)) (by decide) (List.mem_cons_of_mem _ gw11) (ddX8_feed (14, .getfield 10, 3) (List.mem_of_getElem? (i := 8) rfl)) ?_
  refine k_iload_n (i := 1) h (ddX8_feed (17, .iload_n 1, 1) (List.mem_of_getElem? (i := 9) rfl)) rfl ?_
  refine k_lload_n (i := 2) h (ddX8_feed (18, .lload_n 2, 1) (List.mem_of_getElem? (i := 10) rfl)) rfl ?_
  refine k_callV h hl (aX7_take l) (ci := 7) (C := RX7) (T := TX7) (N := 2) rfl ⟨rfl, rfl⟩ (n := 2) (by decide +kernel) (q_gV gw146 gw147 gw148 gw5 gw145) ⟨by decide, by decide⟩ (ddX8_feed (19, .invokevirtual 83, 3) (List.mem_of_getElem? (i := 11) rfl)) ?_
  refine k_ifeq h (ddX8_feed (22, .ifCond .eq 13, 3) (List.mem_of_getElem? (i := 12) rfl)) (tgt := 35) (by decide) ?_ ?_
  · exact sX8_feed_35 hl hQ h
  · exact sX8_feed_25 hl hQ h
theorem sX8_feed_10 {l : Launch} {X : q_CX} (hl : X.2.1 = l) (hQ : q_QM X) (h : q_OK X yX8_feed cX8_feed 4 (some .int) rmX8_feed (Cond.code yX8_feed cX8_feed 4 (some .int) :: q_G)) : q_SK X 4 10 (BX8_feed_10) := by
  refine k_ldc (v := (-1000000002)) h (ddX8_feed (10, .ldc 82, 2) (List.mem_of_getElem? (i := 5) rfl)) (List.mem_cons_of_mem _ gw140) ?_
  exact k_iret h hQ (ddX8_feed (12, .ireturn, 1) (List.mem_of_getElem? (i := 6) rfl))
theorem sX8_feed_0 {l : Launch} {X : q_CX} (hl : X.2.1 = l) (hQ : q_QM X) (h : q_OK X yX8_feed cX8_feed 4 (some .int) rmX8_feed (Cond.code yX8_feed cX8_feed 4 (some .int) :: q_G)) : q_SK X 4 0 (BX8_feed_0) := by
  refine k_iload_n (i := 1) h (ddX8_feed (0, .iload_n 1, 1) (List.mem_of_getElem? (i := 0) rfl)) rfl ?_
  refine k_iconst (v := 1) h (ddX8_feed (1, .iconst 1, 1) (List.mem_of_getElem? (i := 1) rfl)) (by decide) ?_
  refine k_bipush (v := 8) h (ddX8_feed (2, .bipush 8, 2) (List.mem_of_getElem? (i := 2) rfl)) (by decide) ?_
  refine k_callS h hl (aX8_inside l) ⟨rfl, rfl⟩ (n := 3) (by decide +kernel) (q_gS gw139 gw138 gw91 gw137) ⟨by decide, by decide⟩ (ddX8_feed (4, .invokestatic 78, 3) (List.mem_of_getElem? (i := 3) rfl)) ?_
  refine k_ifne h (ddX8_feed (7, .ifCond .ne 6, 3) (List.mem_of_getElem? (i := 4) rfl)) (tgt := 13) (by decide) ?_ ?_
  · exact sX8_feed_13 hl hQ h
  · exact sX8_feed_10 hl hQ h
theorem aX8_feed (l : Launch) (as : List Value) (sh : q_Sh) (m : q_Mm) (R : q_KR) (hw : wX8_feed as sh m R) : q_AM l yX8_feed (Cond.code yX8_feed cX8_feed 4 (some .int) :: q_G) rmX8_feed as sh m R := by
  refine q_met (code := TX8_feed) (by decide) (fun X hl hQ _ h pc => ?_) hw.1 hw.2
  unfold TX8_feed
  exact k_at (sX8_feed_0 hl hQ h) (k_no)
/-! TumblingRock$Text.byteAt(I)I -/
abbrev dlX7_byteAt : List (Nat × (Instr × Nat)) := [(0, .iload_n 1, 1), (1, .ifCond .lt 27, 3), (4, .iload_n 1, 1), (5, .aload_n 0, 1), (6, .getfield 15, 3), (9, .if_icmp .ge 19, 3), (12, .iload_n 1, 1), (13, .sipush 400, 3), (16, .if_icmp .ge 12, 3), (19, .aload_n 0, 1), (20, .getfield 9, 3), (23, .iload_n 1, 1), (24, .iaload, 1), (25, .goto 4, 3), (28, .iconst (-1), 1), (29, .ireturn, 1)]
theorem ddX7_byteAt : ∀ q ∈ dlX7_byteAt, decode cX7_byteAt q.1 = .ok q.2 := by decide +kernel
theorem sX7_byteAt_29 {l : Launch} {X : q_CX} (hl : X.2.1 = l) (hQ : q_QM X) (h : q_OK X yX7_byteAt cX7_byteAt 2 (some .int) rmX7_byteAt (Cond.code yX7_byteAt cX7_byteAt 2 (some .int) :: q_G)) : q_SK X 2 29 (BX7_byteAt_29) := by
  exact k_iret h hQ (ddX7_byteAt (29, .ireturn, 1) (List.mem_of_getElem? (i := 15) rfl))
theorem sX7_byteAt_28 {l : Launch} {X : q_CX} (hl : X.2.1 = l) (hQ : q_QM X) (h : q_OK X yX7_byteAt cX7_byteAt 2 (some .int) rmX7_byteAt (Cond.code yX7_byteAt cX7_byteAt 2 (some .int) :: q_G)) : q_SK X 2 28 (BX7_byteAt_28) := by
  refine k_iconst (v := (-1)) h (ddX7_byteAt (28, .iconst (-1), 1) (List.mem_of_getElem? (i := 14) rfl)) (by decide) ?_
  exact sX7_byteAt_29 hl hQ h
theorem sX7_byteAt_19 {l : Launch} {X : q_CX} (hl : X.2.1 = l) (hQ : q_QM X) (h : q_OK X yX7_byteAt cX7_byteAt 2 (some .int) rmX7_byteAt (Cond.code yX7_byteAt cX7_byteAt 2 (some .int) :: q_G)) : q_SK X 2 19 (BX7_byteAt_19) := by
  refine k_aload_n (i := 0) h (ddX7_byteAt (19, .aload_n 0, 1) (List.mem_of_getElem? (i := 9) rfl)) rfl ?_
  refine k_getf (ci := 7) (j := 0) (C := RX7) (T := TX7) (N := 2) h rfl (fun w hw => List.mem_cons_of_mem _ (q_inX7 w hw)) (by decide) (List.mem_cons_of_mem _ gw8) (ddX7_byteAt (20, .getfield 9, 3) (List.mem_of_getElem? (i := 10) rfl)) ?_
  refine k_iload_n (i := 1) h (ddX7_byteAt (23, .iload_n 1, 1) (List.mem_of_getElem? (i := 11) rfl)) rfl ?_
  refine k_iald h (ddX7_byteAt (24, .iaload, 1) (List.mem_of_getElem? (i := 12) rfl)) ?_
  refine k_goto h (ddX7_byteAt (25, .goto 4, 3) (List.mem_of_getElem? (i := 13) rfl)) (tgt := 29) (by decide) ?_
  exact sX7_byteAt_29 hl hQ h
theorem sX7_byteAt_12 {l : Launch} {X : q_CX} (hl : X.2.1 = l) (hQ : q_QM X) (h : q_OK X yX7_byteAt cX7_byteAt 2 (some .int) rmX7_byteAt (Cond.code yX7_byteAt cX7_byteAt 2 (some .int) :: q_G)) : q_SK X 2 12 (BX7_byteAt_12) := by
  refine k_iload_n (i := 1) h (ddX7_byteAt (12, .iload_n 1, 1) (List.mem_of_getElem? (i := 6) rfl)) rfl ?_
  refine k_sipush (v := 400) h (ddX7_byteAt (13, .sipush 400, 3) (List.mem_of_getElem? (i := 7) rfl)) (by decide) ?_
  refine k_icge h (ddX7_byteAt (16, .if_icmp .ge 12, 3) (List.mem_of_getElem? (i := 8) rfl)) (tgt := 28) (by decide) ?_ ?_
  · exact sX7_byteAt_28 hl hQ h
  · exact sX7_byteAt_19 hl hQ h
theorem sX7_byteAt_4 {l : Launch} {X : q_CX} (hl : X.2.1 = l) (hQ : q_QM X) (h : q_OK X yX7_byteAt cX7_byteAt 2 (some .int) rmX7_byteAt (Cond.code yX7_byteAt cX7_byteAt 2 (some .int) :: q_G)) : q_SK X 2 4 (BX7_byteAt_4) := by
  refine k_iload_n (i := 1) h (ddX7_byteAt (4, .iload_n 1, 1) (List.mem_of_getElem? (i := 2) rfl)) rfl ?_
  refine k_aload_n (i := 0) h (ddX7_byteAt (5, .aload_n 0, 1) (List.mem_of_getElem? (i := 3) rfl)) rfl ?_
  refine k_getf (ci := 7) (j := 1) (C := RX7) (T := TX7) (N := 2) h rfl (fun w hw => List.mem_cons_of_mem _ (q_inX7 w hw)) (by decide) (List.mem_cons_of_mem _ gw141) (ddX7_byteAt (6, .getfield 15, 3) (List.mem_of_getElem? (i := 4) rfl)) ?_
  refine k_icge h (ddX7_byteAt (9, .if_icmp .ge 19, 3) (List.mem_of_getElem? (i := 5) rfl)) (tgt := 28) (by decide) ?_ ?_
  · exact sX7_byteAt_28 hl hQ h
  · exact sX7_byteAt_12 hl hQ h
theorem sX7_byteAt_0 {l : Launch} {X : q_CX} (hl : X.2.1 = l) (hQ : q_QM X) (h : q_OK X yX7_byteAt cX7_byteAt 2 (some .int) rmX7_byteAt (Cond.code yX7_byteAt cX7_byteAt 2 (some .int) :: q_G)) : q_SK X 2 0 (BX7_byteAt_0) := by
  refine k_iload_n (i := 1) h (ddX7_byteAt (0, .iload_n 1, 1) (List.mem_of_getElem? (i := 0) rfl)) rfl ?_
  refine k_iflt h (ddX7_byteAt (1, .ifCond .lt 27, 3) (List.mem_of_getElem? (i := 1) rfl)) (tgt := 28) (by decide) ?_ ?_
  · exact sX7_byteAt_28 hl hQ h
  · exact sX7_byteAt_4 hl hQ h
theorem aX7_byteAt (l : Launch) (as : List Value) (sh : q_Sh) (m : q_Mm) (R : q_KR) (hw : wX7_byteAt as sh m R) : q_AM l yX7_byteAt (Cond.code yX7_byteAt cX7_byteAt 2 (some .int) :: q_G) rmX7_byteAt as sh m R := by
  refine q_met (code := TX7_byteAt) (by decide) (fun X hl hQ _ h pc => ?_) hw.1 hw.2
  unfold TX7_byteAt
  exact k_at (sX7_byteAt_0 hl hQ h) (k_no)
/-! TumblingRock$Reader.passBlanks()V -/
abbrev dlX3_passBlanks : List (Nat × (Instr × Nat)) := [(0, .aload_n 0, 1), (1, .getfield 19, 3), (4, .aload_n 0, 1), (5, .getfield 9, 3), (8, .getfield 33, 3), (11, .if_icmp .ge 32, 3), (14, .aload_n 0, 1), (15, .getfield 9, 3), (18, .aload_n 0, 1), (19, .getfield 19, 3), (22, .invokevirtual 42, 3), (25, .bipush 32, 2), (27, .if_icmp .ne 16, 3), (30, .aload_n 0, 1), (31, .dup, 1), (32, .getfield 19, 3), (35, .iconst 1, 1), (36, .iadd, 1), (37, .putfield 19, 3), (40, .goto (-40), 3), (43, .return_, 1)]
theorem ddX3_passBlanks : ∀ q ∈ dlX3_passBlanks, decode cX3_passBlanks q.1 = .ok q.2 := by decide +kernel
theorem sX3_passBlanks_43 {l : Launch} {X : q_CX} (hl : X.2.1 = l) (hQ : q_QM X) (h : q_OK X yX3_passBlanks cX3_passBlanks 1 none rmX3_passBlanks (Cond.code yX3_passBlanks cX3_passBlanks 1 none :: q_G)) : q_SK X 1 43 (BX3_passBlanks_43) := by
  exact k_vret h hQ (ddX3_passBlanks (43, .return_, 1) (List.mem_of_getElem? (i := 20) rfl))
theorem sX3_passBlanks_30 {l : Launch} {X : q_CX} (hl : X.2.1 = l) (hQ : q_QM X) (h : q_OK X yX3_passBlanks cX3_passBlanks 1 none rmX3_passBlanks (Cond.code yX3_passBlanks cX3_passBlanks 1 none :: q_G)) : q_SK X 1 30 (BX3_passBlanks_30) := by
  refine k_aload_n (i := 0) h (ddX3_passBlanks (30, .aload_n 0, 1) (List.mem_of_getElem? (i := 13) rfl)) rfl ?_
  refine k_dup h (ddX3_passBlanks (31, .dup, 1) (List.mem_of_getElem? (i := 14) rfl)) ?_
  refine k_getf (ci := 3) (j := 1) (C := RX3) (T := TX3) (N := 4) h rfl (fun w hw => List.mem_cons_of_mem _ (q_inX3 w hw)) (by decide) (List.mem_cons_of_mem _ gw151) (ddX3_passBlanks (32, .getfield 19, 3) (List.mem_of_getElem? (i := 15) rfl)) ?_
  refine k_iconst (v := 1) h (ddX3_passBlanks (35, .iconst 1, 1) (List.mem_of_getElem? (i := 16) rfl)) (by decide) ?_
  refine k_iadd h (ddX3_passBlanks (36, .iadd, 1) (List.mem_of_getElem? (i := 17) rfl)) ?_
  refine k_putf (ci := 3) (j := 1) (C := RX3) (T := TX3) (N := 4) h rfl (fun w hw => List.mem_cons_of_mem _ (q_inX3 w hw)) (by decide) (List.mem_cons_of_mem _ gw151) tyX3 tyX3_ok nmX3 (by decide +kernel) (by decide +kernel) (ddX3_passBlanks (37, .putfield 19, 3) (List.mem_of_getElem? (i := 18) rfl)) ?_
  refine k_goto h (ddX3_passBlanks (40, .goto (-40), 3) (List.mem_of_getElem? (i := 19) rfl)) (tgt := 0) (by decide) ?_
  exact k_cut
theorem sX3_passBlanks_14 {l : Launch} {X : q_CX} (hl : X.2.1 = l) (hQ : q_QM X) (h : q_OK X yX3_passBlanks cX3_passBlanks 1 none rmX3_passBlanks (Cond.code yX3_passBlanks cX3_passBlanks 1 none :: q_G)) : q_SK X 1 14 (BX3_passBlanks_14) := by
  refine k_aload_n (i := 0) h (ddX3_passBlanks (14, .aload_n 0, 1) (List.mem_of_getElem? (i := 6) rfl)) rfl ?_
  refine k_getf (ci := 3) (j := 0) (C := RX3) (T := TX3) (N := 4) h rfl (fun w hw => List.mem_cons_of_mem _ (q_inX3 w hw)) (by decide) (List.mem_cons_of_mem _ gw16) (ddX3_passBlanks (15, .getfield 9, 3) (List.mem_of_getElem? (i := 7) rfl)) ?_
  refine k_aload_n (i := 0) h (ddX3_passBlanks (18, .aload_n 0, 1) (List.mem_of_getElem? (i := 8) rfl)) rfl ?_
  refine k_getf (ci := 3) (j := 1) (C := RX3) (T := TX3) (N := 4) h rfl (fun w hw => List.mem_cons_of_mem _ (q_inX3 w hw)) (by decide) (List.mem_cons_of_mem _ gw151) (ddX3_passBlanks (19, .getfield 19, 3) (List.mem_of_getElem? (i := 9) rfl)) ?_
  refine k_callV h hl (aX7_byteAt l) (ci := 7) (C := RX7) (T := TX7) (N := 2) rfl ⟨rfl, rfl⟩ (n := 1) (by decide +kernel) (q_gV gw156 gw157 gw158 gw5 gw155) ⟨by decide, by decide⟩ (ddX3_passBlanks (22, .invokevirtual 42, 3) (List.mem_of_getElem? (i := 10) rfl)) ?_
  refine k_bipush (v := 32) h (ddX3_passBlanks (25, .bipush 32, 2) (List.mem_of_getElem? (i := 11) rfl)) (by decide) ?_
  refine k_icne h (ddX3_passBlanks (27, .if_icmp .ne 16, 3) (List.mem_of_getElem? (i := 12) rfl)) (tgt := 43) (by decide) ?_ ?_
  · exact sX3_passBlanks_43 hl hQ h
  · exact sX3_passBlanks_30 hl hQ h
theorem sX3_passBlanks_0 {l : Launch} {X : q_CX} (hl : X.2.1 = l) (hQ : q_QM X) (h : q_OK X yX3_passBlanks cX3_passBlanks 1 none rmX3_passBlanks (Cond.code yX3_passBlanks cX3_passBlanks 1 none :: q_G)) : q_SK X 1 0 (BX3_passBlanks_0) := by
  refine k_aload_n (i := 0) h (ddX3_passBlanks (0, .aload_n 0, 1) (List.mem_of_getElem? (i := 0) rfl)) rfl ?_
  refine k_getf (ci := 3) (j := 1) (C := RX3) (T := TX3) (N := 4) h rfl (fun w hw => List.mem_cons_of_mem _ (q_inX3 w hw)) (by decide) (List.mem_cons_of_mem _ gw151) (ddX3_passBlanks (1, .getfield 19, 3) (List.mem_of_getElem? (i := 1) rfl)) ?_
  refine k_aload_n (i := 0) h (ddX3_passBlanks (4, .aload_n 0, 1) (List.mem_of_getElem? (i := 2) rfl)) rfl ?_
  refine k_getf (ci := 3) (j := 0) (C := RX3) (T := TX3) (N := 4) h rfl (fun w hw => List.mem_cons_of_mem _ (q_inX3 w hw)) (by decide) (List.mem_cons_of_mem _ gw16) (ddX3_passBlanks (5, .getfield 9, 3) (List.mem_of_getElem? (i := 3) rfl)) ?_
  refine k_getf (ci := 7) (j := 1) (C := RX7) (T := TX7) (N := 2) h rfl (fun w hw => List.mem_cons_of_mem _ (q_inX7 w hw)) (by decide) (List.mem_cons_of_mem _ gw154) (ddX3_passBlanks (8, .getfield 33, 3) (List.mem_of_getElem? (i := 4) rfl)) ?_
  refine k_icge h (ddX3_passBlanks (11, .if_icmp .ge 32, 3) (List.mem_of_getElem? (i := 5) rfl)) (tgt := 43) (by decide) ?_ ?_
  · exact sX3_passBlanks_43 hl hQ h
  · exact sX3_passBlanks_14 hl hQ h
theorem aX3_passBlanks (l : Launch) (as : List Value) (sh : q_Sh) (m : q_Mm) (R : q_KR) (hw : wX3_passBlanks as sh m R) : q_AM l yX3_passBlanks (Cond.code yX3_passBlanks cX3_passBlanks 1 none :: q_G) rmX3_passBlanks as sh m R := by
  refine q_met (code := TX3_passBlanks) (by decide) (fun X hl hQ _ h pc => ?_) hw.1 hw.2
  unfold TX3_passBlanks
  exact k_at (sX3_passBlanks_0 hl hQ h) (k_no)
/-! TumblingRock$Text.isLetter(I)Z -/
abbrev dlX7_isLetter : List (Nat × (Instr × Nat)) := [(0, .aload_n 0, 1), (1, .iload_n 1, 1), (2, .invokevirtual 25, 3), (5, .bipush 97, 2), (7, .bipush 122, 2), (9, .invokestatic 29, 3), (12, .ireturn, 1)]
theorem ddX7_isLetter : ∀ q ∈ dlX7_isLetter, decode cX7_isLetter q.1 = .ok q.2 := by decide +kernel
theorem sX7_isLetter_0 {l : Launch} {X : q_CX} (hl : X.2.1 = l) (hQ : q_QM X) (h : q_OK X yX7_isLetter cX7_isLetter 2 (some .boolean) rmX7_isLetter (Cond.code yX7_isLetter cX7_isLetter 2 (some .boolean) :: q_G)) : q_SK X 2 0 (BX7_isLetter_0) := by
  refine k_aload_n (i := 0) h (ddX7_isLetter (0, .aload_n 0, 1) (List.mem_of_getElem? (i := 0) rfl)) rfl ?_
  refine k_iload_n (i := 1) h (ddX7_isLetter (1, .iload_n 1, 1) (List.mem_of_getElem? (i := 1) rfl)) rfl ?_
  refine k_callV h hl (aX7_byteAt l) (ci := 7) (C := RX7) (T := TX7) (N := 2) rfl ⟨rfl, rfl⟩ (n := 1) (by decide +kernel) (q_gV gw163 gw157 gw158 gw5 gw155) ⟨by decide, by decide⟩ (ddX7_isLetter (2, .invokevirtual 25, 3) (List.mem_of_getElem? (i := 2) rfl)) ?_
  refine k_bipush (v := 97) h (ddX7_isLetter (5, .bipush 97, 2) (List.mem_of_getElem? (i := 3) rfl)) (by decide) ?_
  refine k_bipush (v := 122) h (ddX7_isLetter (7, .bipush 122, 2) (List.mem_of_getElem? (i := 4) rfl)) (by decide) ?_
  refine k_callN h hl (aX8_inside l) ⟨rfl, rfl⟩ (n := 3) (by decide +kernel) (q_gN gw137) (by decide +kernel) (List.mem_cons_of_mem _ gw91) (List.mem_cons_of_mem _ gw138) ⟨by decide, by decide⟩ (ddX7_isLetter (9, .invokestatic 29, 3) (List.mem_of_getElem? (i := 5) rfl)) ?_
  exact k_zret h hQ (ddX7_isLetter (12, .ireturn, 1) (List.mem_of_getElem? (i := 6) rfl))
theorem aX7_isLetter (l : Launch) (as : List Value) (sh : q_Sh) (m : q_Mm) (R : q_KR) (hw : wX7_isLetter as sh m R) : q_AM l yX7_isLetter (Cond.code yX7_isLetter cX7_isLetter 2 (some .boolean) :: q_G) rmX7_isLetter as sh m R := by
  refine q_met (code := TX7_isLetter) (by decide) (fun X hl hQ _ h pc => ?_) hw.1 hw.2
  unfold TX7_isLetter
  exact k_at (sX7_isLetter_0 hl hQ h) (k_no)
/-! java/lang/String.coder()B -/
abbrev dlJ0_coder_7d493 : List (Nat × (Instr × Nat)) := [(0, .getstatic 38, 3), (3, .ifCond .eq 10, 3), (6, .aload_n 0, 1), (7, .getfield 15, 3), (10, .goto 4, 3), (13, .iconst 1, 1), (14, .ireturn, 1)]
theorem ddJ0_coder_7d493 : ∀ q ∈ dlJ0_coder_7d493, decode cJ0_coder_7d493 q.1 = .ok q.2 := by decide +kernel
theorem sJ0_coder_7d493_14 {l : Launch} {X : q_CX} (hl : X.2.1 = l) (hQ : q_QM X) (h : q_OK X yJ0_coder_7d493 cJ0_coder_7d493 1 (some .byte) rmJ0_coder_7d493 (Cond.code yJ0_coder_7d493 cJ0_coder_7d493 1 (some .byte) :: q_G)) : q_SK X 1 14 (BJ0_coder_7d493_14) := by
  exact k_nret h hQ (ddJ0_coder_7d493 (14, .ireturn, 1) (List.mem_of_getElem? (i := 6) rfl))
theorem sJ0_coder_7d493_13 {l : Launch} {X : q_CX} (hl : X.2.1 = l) (hQ : q_QM X) (h : q_OK X yJ0_coder_7d493 cJ0_coder_7d493 1 (some .byte) rmJ0_coder_7d493 (Cond.code yJ0_coder_7d493 cJ0_coder_7d493 1 (some .byte) :: q_G)) : q_SK X 1 13 (BJ0_coder_7d493_13) := by
  refine k_iconst (v := 1) h (ddJ0_coder_7d493 (13, .iconst 1, 1) (List.mem_of_getElem? (i := 5) rfl)) (by decide) ?_
  exact sJ0_coder_7d493_14 hl hQ h
theorem sJ0_coder_7d493_6 {l : Launch} {X : q_CX} (hl : X.2.1 = l) (hQ : q_QM X) (h : q_OK X yJ0_coder_7d493 cJ0_coder_7d493 1 (some .byte) rmJ0_coder_7d493 (Cond.code yJ0_coder_7d493 cJ0_coder_7d493 1 (some .byte) :: q_G)) : q_SK X 1 6 (BJ0_coder_7d493_6) := by
  refine k_aload_n (i := 0) h (ddJ0_coder_7d493 (6, .aload_n 0, 1) (List.mem_of_getElem? (i := 2) rfl)) rfl ?_
  refine k_scod h (List.mem_cons_of_mem _ gw170) (ddJ0_coder_7d493 (7, .getfield 15, 3) (List.mem_of_getElem? (i := 3) rfl)) ?_
  refine k_goto h (ddJ0_coder_7d493 (10, .goto 4, 3) (List.mem_of_getElem? (i := 4) rfl)) (tgt := 14) (by decide) ?_
  exact sJ0_coder_7d493_14 hl hQ h
theorem sJ0_coder_7d493_0 {l : Launch} {X : q_CX} (hl : X.2.1 = l) (hQ : q_QM X) (h : q_OK X yJ0_coder_7d493 cJ0_coder_7d493 1 (some .byte) rmJ0_coder_7d493 (Cond.code yJ0_coder_7d493 cJ0_coder_7d493 1 (some .byte) :: q_G)) : q_SK X 1 0 (BJ0_coder_7d493_0) := by
  refine k_gsc h (List.mem_cons_of_mem _ gw169) (ddJ0_coder_7d493 (0, .getstatic 38, 3) (List.mem_of_getElem? (i := 0) rfl)) ?_
  refine k_ifeq h (ddJ0_coder_7d493 (3, .ifCond .eq 10, 3) (List.mem_of_getElem? (i := 1) rfl)) (tgt := 13) (by decide) ?_ ?_
  · exact sJ0_coder_7d493_13 hl hQ h
  · exact sJ0_coder_7d493_6 hl hQ h
theorem aJ0_coder_7d493 (l : Launch) (as : List Value) (sh : q_Sh) (m : q_Mm) (R : q_KR) (hw : wJ0_coder_7d493 as sh m R) : q_AM l yJ0_coder_7d493 (Cond.code yJ0_coder_7d493 cJ0_coder_7d493 1 (some .byte) :: q_G) rmJ0_coder_7d493 as sh m R := by
  refine q_met (code := TJ0_coder_7d493) (by decide) (fun X hl hQ _ h pc => ?_) hw.1 hw.2
  unfold TJ0_coder_7d493
  exact k_at (sJ0_coder_7d493_0 hl hQ h) (k_no)
/-! java/lang/String.length()I -/
abbrev dlJ0_length_8abf5 : List (Nat × (Instr × Nat)) := [(0, .aload_n 0, 1), (1, .getfield 9, 3), (4, .arraylength, 1), (5, .aload_n 0, 1), (6, .invokevirtual 335, 3), (9, .ishr, 1), (10, .ireturn, 1)]
theorem ddJ0_length_8abf5 : ∀ q ∈ dlJ0_length_8abf5, decode cJ0_length_8abf5 q.1 = .ok q.2 := by decide +kernel
theorem sJ0_length_8abf5_0 {l : Launch} {X : q_CX} (hl : X.2.1 = l) (hQ : q_QM X) (h : q_OK X yJ0_length_8abf5 cJ0_length_8abf5 1 (some .int) rmJ0_length_8abf5 (Cond.code yJ0_length_8abf5 cJ0_length_8abf5 1 (some .int) :: q_G)) : q_SK X 1 0 (BJ0_length_8abf5_0) := by
  refine k_aload_n (i := 0) h (ddJ0_length_8abf5 (0, .aload_n 0, 1) (List.mem_of_getElem? (i := 0) rfl)) rfl ?_
  refine k_sval h (List.mem_cons_of_mem _ gw168) (ddJ0_length_8abf5 (1, .getfield 9, 3) (List.mem_of_getElem? (i := 1) rfl)) ?_
  refine k_salen h (ddJ0_length_8abf5 (4, .arraylength, 1) (List.mem_of_getElem? (i := 2) rfl)) ?_
  refine k_aload_n (i := 0) h (ddJ0_length_8abf5 (5, .aload_n 0, 1) (List.mem_of_getElem? (i := 3) rfl)) rfl ?_
  refine k_callT h hl (aJ0_coder_7d493 l) ⟨rfl, rfl⟩ (n := 0) (by decide +kernel) (q_gV gw173 gw174 gw175 gw172 gw171) ⟨by decide, by decide⟩ (ddJ0_length_8abf5 (6, .invokevirtual 335, 3) (List.mem_of_getElem? (i := 4) rfl)) ?_
  refine k_ishr h (ddJ0_length_8abf5 (9, .ishr, 1) (List.mem_of_getElem? (i := 5) rfl)) ?_
  exact k_iret h hQ (ddJ0_length_8abf5 (10, .ireturn, 1) (List.mem_of_getElem? (i := 6) rfl))
theorem aJ0_length_8abf5 (l : Launch) (as : List Value) (sh : q_Sh) (m : q_Mm) (R : q_KR) (hw : wJ0_length_8abf5 as sh m R) : q_AM l yJ0_length_8abf5 (Cond.code yJ0_length_8abf5 cJ0_length_8abf5 1 (some .int) :: q_G) rmJ0_length_8abf5 as sh m R := by
  refine q_met (code := TJ0_length_8abf5) (by decide) (fun X hl hQ _ h pc => ?_) hw.1 hw.2
  unfold TJ0_length_8abf5
  exact k_at (sJ0_length_8abf5_0 hl hQ h) (k_no)
/-! java/lang/String.isLatin1()Z -/
abbrev dlJ0_isLatin1_aae02 : List (Nat × (Instr × Nat)) := [(0, .getstatic 38, 3), (3, .ifCond .eq 14, 3), (6, .aload_n 0, 1), (7, .getfield 15, 3), (10, .ifCond .ne 7, 3), (13, .iconst 1, 1), (14, .goto 4, 3), (17, .iconst 0, 1), (18, .ireturn, 1)]
theorem ddJ0_isLatin1_aae02 : ∀ q ∈ dlJ0_isLatin1_aae02, decode cJ0_isLatin1_aae02 q.1 = .ok q.2 := by decide +kernel
theorem sJ0_isLatin1_aae02_18 {l : Launch} {X : q_CX} (hl : X.2.1 = l) (hQ : q_QM X) (h : q_OK X yJ0_isLatin1_aae02 cJ0_isLatin1_aae02 1 (some .boolean) rmJ0_isLatin1_aae02 (Cond.code yJ0_isLatin1_aae02 cJ0_isLatin1_aae02 1 (some .boolean) :: q_G)) : q_SK X 1 18 (BJ0_isLatin1_aae02_18) := by
  exact k_zret h hQ (ddJ0_isLatin1_aae02 (18, .ireturn, 1) (List.mem_of_getElem? (i := 8) rfl))
theorem sJ0_isLatin1_aae02_17 {l : Launch} {X : q_CX} (hl : X.2.1 = l) (hQ : q_QM X) (h : q_OK X yJ0_isLatin1_aae02 cJ0_isLatin1_aae02 1 (some .boolean) rmJ0_isLatin1_aae02 (Cond.code yJ0_isLatin1_aae02 cJ0_isLatin1_aae02 1 (some .boolean) :: q_G)) : q_SK X 1 17 (BJ0_isLatin1_aae02_17) := by
  refine k_iconst (v := 0) h (ddJ0_isLatin1_aae02 (17, .iconst 0, 1) (List.mem_of_getElem? (i := 7) rfl)) (by decide) ?_
  exact sJ0_isLatin1_aae02_18 hl hQ h
theorem sJ0_isLatin1_aae02_13 {l : Launch} {X : q_CX} (hl : X.2.1 = l) (hQ : q_QM X) (h : q_OK X yJ0_isLatin1_aae02 cJ0_isLatin1_aae02 1 (some .boolean) rmJ0_isLatin1_aae02 (Cond.code yJ0_isLatin1_aae02 cJ0_isLatin1_aae02 1 (some .boolean) :: q_G)) : q_SK X 1 13 (BJ0_isLatin1_aae02_13) := by
  refine k_iconst (v := 1) h (ddJ0_isLatin1_aae02 (13, .iconst 1, 1) (List.mem_of_getElem? (i := 5) rfl)) (by decide) ?_
  refine k_goto h (ddJ0_isLatin1_aae02 (14, .goto 4, 3) (List.mem_of_getElem? (i := 6) rfl)) (tgt := 18) (by decide) ?_
  exact sJ0_isLatin1_aae02_18 hl hQ h
theorem sJ0_isLatin1_aae02_6 {l : Launch} {X : q_CX} (hl : X.2.1 = l) (hQ : q_QM X) (h : q_OK X yJ0_isLatin1_aae02 cJ0_isLatin1_aae02 1 (some .boolean) rmJ0_isLatin1_aae02 (Cond.code yJ0_isLatin1_aae02 cJ0_isLatin1_aae02 1 (some .boolean) :: q_G)) : q_SK X 1 6 (BJ0_isLatin1_aae02_6) := by
  refine k_aload_n (i := 0) h (ddJ0_isLatin1_aae02 (6, .aload_n 0, 1) (List.mem_of_getElem? (i := 2) rfl)) rfl ?_
  refine k_scod h (List.mem_cons_of_mem _ gw170) (ddJ0_isLatin1_aae02 (7, .getfield 15, 3) (List.mem_of_getElem? (i := 3) rfl)) ?_
  refine k_ifne h (ddJ0_isLatin1_aae02 (10, .ifCond .ne 7, 3) (List.mem_of_getElem? (i := 4) rfl)) (tgt := 17) (by decide) ?_ ?_
  · exact sJ0_isLatin1_aae02_17 hl hQ h
  · exact sJ0_isLatin1_aae02_13 hl hQ h
theorem sJ0_isLatin1_aae02_0 {l : Launch} {X : q_CX} (hl : X.2.1 = l) (hQ : q_QM X) (h : q_OK X yJ0_isLatin1_aae02 cJ0_isLatin1_aae02 1 (some .boolean) rmJ0_isLatin1_aae02 (Cond.code yJ0_isLatin1_aae02 cJ0_isLatin1_aae02 1 (some .boolean) :: q_G)) : q_SK X 1 0 (BJ0_isLatin1_aae02_0) := by
  refine k_gsc h (List.mem_cons_of_mem _ gw169) (ddJ0_isLatin1_aae02 (0, .getstatic 38, 3) (List.mem_of_getElem? (i := 0) rfl)) ?_
  refine k_ifeq h (ddJ0_isLatin1_aae02 (3, .ifCond .eq 14, 3) (List.mem_of_getElem? (i := 1) rfl)) (tgt := 17) (by decide) ?_ ?_
  · exact sJ0_isLatin1_aae02_17 hl hQ h
  · exact sJ0_isLatin1_aae02_6 hl hQ h
theorem aJ0_isLatin1_aae02 (l : Launch) (as : List Value) (sh : q_Sh) (m : q_Mm) (R : q_KR) (hw : wJ0_isLatin1_aae02 as sh m R) : q_AM l yJ0_isLatin1_aae02 (Cond.code yJ0_isLatin1_aae02 cJ0_isLatin1_aae02 1 (some .boolean) :: q_G) rmJ0_isLatin1_aae02 as sh m R := by
  refine q_met (code := TJ0_isLatin1_aae02) (by decide) (fun X hl hQ _ h pc => ?_) hw.1 hw.2
  unfold TJ0_isLatin1_aae02
  exact k_at (sJ0_isLatin1_aae02_0 hl hQ h) (k_no)
/-! jdk/internal/util/Preconditions.checkIndex(IILjava/util/function/BiFunction;)I -/
abbrev dlJ3_checkIndex_8e157 : List (Nat × (Instr × Nat)) := [(0, .iload_n 0, 1), (1, .ifCond .lt 8, 3), (4, .iload_n 0, 1), (5, .iload_n 1, 1), (6, .if_icmp .lt 10, 3), (9, .aload_n 2, 1), (10, .iload_n 0, 1), (11, .iload_n 1, 1), (12, .invokestatic 95, 3), (16, .iload_n 0, 1), (17, .ireturn, 1)]
theorem ddJ3_checkIndex_8e157 : ∀ q ∈ dlJ3_checkIndex_8e157, decode cJ3_checkIndex_8e157 q.1 = .ok q.2 := by decide +kernel
theorem sJ3_checkIndex_8e157_16 {l : Launch} {X : q_CX} (hl : X.2.1 = l) (hQ : q_QM X) (h : q_OK X yJ3_checkIndex_8e157 cJ3_checkIndex_8e157 3 (some .int) rmJ3_checkIndex_8e157 (Cond.code yJ3_checkIndex_8e157 cJ3_checkIndex_8e157 3 (some .int) :: q_G)) : q_SK X 3 16 (BJ3_checkIndex_8e157_16) := by
  refine k_iload_n (i := 0) h (ddJ3_checkIndex_8e157 (16, .iload_n 0, 1) (List.mem_of_getElem? (i := 9) rfl)) rfl ?_
  exact k_iret h hQ (ddJ3_checkIndex_8e157 (17, .ireturn, 1) (List.mem_of_getElem? (i := 10) rfl))
theorem sJ3_checkIndex_8e157_4 {l : Launch} {X : q_CX} (hl : X.2.1 = l) (hQ : q_QM X) (h : q_OK X yJ3_checkIndex_8e157 cJ3_checkIndex_8e157 3 (some .int) rmJ3_checkIndex_8e157 (Cond.code yJ3_checkIndex_8e157 cJ3_checkIndex_8e157 3 (some .int) :: q_G)) : q_SK X 3 4 (BJ3_checkIndex_8e157_4) := by
  refine k_iload_n (i := 0) h (ddJ3_checkIndex_8e157 (4, .iload_n 0, 1) (List.mem_of_getElem? (i := 2) rfl)) rfl ?_
  refine k_iload_n (i := 1) h (ddJ3_checkIndex_8e157 (5, .iload_n 1, 1) (List.mem_of_getElem? (i := 3) rfl)) rfl ?_
  refine k_iclt h (ddJ3_checkIndex_8e157 (6, .if_icmp .lt 10, 3) (List.mem_of_getElem? (i := 4) rfl)) (tgt := 16) (by decide) ?_ ?_
  · exact sJ3_checkIndex_8e157_16 hl hQ h
  · exact k_no
theorem sJ3_checkIndex_8e157_0 {l : Launch} {X : q_CX} (hl : X.2.1 = l) (hQ : q_QM X) (h : q_OK X yJ3_checkIndex_8e157 cJ3_checkIndex_8e157 3 (some .int) rmJ3_checkIndex_8e157 (Cond.code yJ3_checkIndex_8e157 cJ3_checkIndex_8e157 3 (some .int) :: q_G)) : q_SK X 3 0 (BJ3_checkIndex_8e157_0) := by
  refine k_iload_n (i := 0) h (ddJ3_checkIndex_8e157 (0, .iload_n 0, 1) (List.mem_of_getElem? (i := 0) rfl)) rfl ?_
  refine k_iflt h (ddJ3_checkIndex_8e157 (1, .ifCond .lt 8, 3) (List.mem_of_getElem? (i := 1) rfl)) (tgt := 9) (by decide) ?_ ?_
  · exact k_no
  · exact sJ3_checkIndex_8e157_4 hl hQ h
theorem aJ3_checkIndex_8e157 (l : Launch) (as : List Value) (sh : q_Sh) (m : q_Mm) (R : q_KR) (hw : wJ3_checkIndex_8e157 as sh m R) : q_AM l yJ3_checkIndex_8e157 (Cond.code yJ3_checkIndex_8e157 cJ3_checkIndex_8e157 3 (some .int) :: q_G) rmJ3_checkIndex_8e157 as sh m R := by
  refine q_met (code := TJ3_checkIndex_8e157) (by decide) (fun X hl hQ _ h pc => ?_) hw.1 hw.2
  unfold TJ3_checkIndex_8e157
  exact k_at (sJ3_checkIndex_8e157_0 hl hQ h) (k_no)
/-! java/lang/String.checkIndex(II)V -/
abbrev dlJ0_checkIndex_df160 : List (Nat × (Instr × Nat)) := [(0, .iload_n 0, 1), (1, .iload_n 1, 1), (2, .getstatic 1053, 3), (5, .invokestatic 1059, 3), (8, .pop, 1), (9, .return_, 1)]
theorem ddJ0_checkIndex_df160 : ∀ q ∈ dlJ0_checkIndex_df160, decode cJ0_checkIndex_df160 q.1 = .ok q.2 := by decide +kernel
theorem sJ0_checkIndex_df160_0 {l : Launch} {X : q_CX} (hl : X.2.1 = l) (hQ : q_QM X) (h : q_OK X yJ0_checkIndex_df160 cJ0_checkIndex_df160 2 none rmJ0_checkIndex_df160 (Cond.code yJ0_checkIndex_df160 cJ0_checkIndex_df160 2 none :: q_G)) : q_SK X 2 0 (BJ0_checkIndex_df160_0) := by
  refine k_iload_n (i := 0) h (ddJ0_checkIndex_df160 (0, .iload_n 0, 1) (List.mem_of_getElem? (i := 0) rfl)) rfl ?_
  refine k_iload_n (i := 1) h (ddJ0_checkIndex_df160 (1, .iload_n 1, 1) (List.mem_of_getElem? (i := 1) rfl)) rfl ?_
  refine k_gsf h (List.mem_cons_of_mem _ gw184) (ddJ0_checkIndex_df160 (2, .getstatic 1053, 3) (List.mem_of_getElem? (i := 2) rfl)) ?_
  refine k_callS h hl (aJ3_checkIndex_8e157 l) ⟨rfl, rfl⟩ (n := 3) (by decide +kernel) (q_gS gw188 gw187 gw186 gw185) ⟨by decide, by decide⟩ (ddJ0_checkIndex_df160 (5, .invokestatic 1059, 3) (List.mem_of_getElem? (i := 3) rfl)) ?_
  refine k_pop h (ddJ0_checkIndex_df160 (8, .pop, 1) (List.mem_of_getElem? (i := 4) rfl)) ?_
  exact k_vret h hQ (ddJ0_checkIndex_df160 (9, .return_, 1) (List.mem_of_getElem? (i := 5) rfl))
theorem aJ0_checkIndex_df160 (l : Launch) (as : List Value) (sh : q_Sh) (m : q_Mm) (R : q_KR) (hw : wJ0_checkIndex_df160 as sh m R) : q_AM l yJ0_checkIndex_df160 (Cond.code yJ0_checkIndex_df160 cJ0_checkIndex_df160 2 none :: q_G) rmJ0_checkIndex_df160 as sh m R := by
  refine q_met (code := TJ0_checkIndex_df160) (by decide) (fun X hl hQ _ h pc => ?_) hw.1 hw.2
  unfold TJ0_checkIndex_df160
  exact k_at (sJ0_checkIndex_df160_0 hl hQ h) (k_no)
/-! java/lang/StringLatin1.charAt([BI)C -/
abbrev dlJ1_charAt_3b067 : List (Nat × (Instr × Nat)) := [(0, .iload_n 1, 1), (1, .aload_n 0, 1), (2, .arraylength, 1), (3, .invokestatic 9, 3), (6, .aload_n 0, 1), (7, .iload_n 1, 1), (8, .baload, 1), (9, .sipush 255, 3), (12, .iand, 1), (13, .i2c, 1), (14, .ireturn, 1)]
theorem ddJ1_charAt_3b067 : ∀ q ∈ dlJ1_charAt_3b067, decode cJ1_charAt_3b067 q.1 = .ok q.2 := by decide +kernel
theorem sJ1_charAt_3b067_0 {l : Launch} {X : q_CX} (hl : X.2.1 = l) (hQ : q_QM X) (h : q_OK X yJ1_charAt_3b067 cJ1_charAt_3b067 2 (some .char) rmJ1_charAt_3b067 (Cond.code yJ1_charAt_3b067 cJ1_charAt_3b067 2 (some .char) :: q_G)) : q_SK X 2 0 (BJ1_charAt_3b067_0) := by
  refine k_iload_n (i := 1) h (ddJ1_charAt_3b067 (0, .iload_n 1, 1) (List.mem_of_getElem? (i := 0) rfl)) rfl ?_
  refine k_aload_n (i := 0) h (ddJ1_charAt_3b067 (1, .aload_n 0, 1) (List.mem_of_getElem? (i := 1) rfl)) rfl ?_
  refine k_salen h (ddJ1_charAt_3b067 (2, .arraylength, 1) (List.mem_of_getElem? (i := 2) rfl)) ?_
  refine k_callS h hl (aJ0_checkIndex_df160 l) ⟨rfl, rfl⟩ (n := 2) (by decide +kernel) (q_gS gw191 gw190 gw172 gw189) ⟨by decide, by decide⟩ (ddJ1_charAt_3b067 (3, .invokestatic 9, 3) (List.mem_of_getElem? (i := 3) rfl)) ?_
  refine k_aload_n (i := 0) h (ddJ1_charAt_3b067 (6, .aload_n 0, 1) (List.mem_of_getElem? (i := 4) rfl)) rfl ?_
  refine k_iload_n (i := 1) h (ddJ1_charAt_3b067 (7, .iload_n 1, 1) (List.mem_of_getElem? (i := 5) rfl)) rfl ?_
  refine k_sbald h (ddJ1_charAt_3b067 (8, .baload, 1) (List.mem_of_getElem? (i := 6) rfl)) ?_
  refine k_sipush (v := 255) h (ddJ1_charAt_3b067 (9, .sipush 255, 3) (List.mem_of_getElem? (i := 7) rfl)) (by decide) ?_
  refine k_iand h (ddJ1_charAt_3b067 (12, .iand, 1) (List.mem_of_getElem? (i := 8) rfl)) ?_
  refine k_i2c h (ddJ1_charAt_3b067 (13, .i2c, 1) (List.mem_of_getElem? (i := 9) rfl)) ?_
  exact k_nret h hQ (ddJ1_charAt_3b067 (14, .ireturn, 1) (List.mem_of_getElem? (i := 10) rfl))
theorem aJ1_charAt_3b067 (l : Launch) (as : List Value) (sh : q_Sh) (m : q_Mm) (R : q_KR) (hw : wJ1_charAt_3b067 as sh m R) : q_AM l yJ1_charAt_3b067 (Cond.code yJ1_charAt_3b067 cJ1_charAt_3b067 2 (some .char) :: q_G) rmJ1_charAt_3b067 as sh m R := by
  refine q_met (code := TJ1_charAt_3b067) (by decide) (fun X hl hQ _ h pc => ?_) hw.1 hw.2
  unfold TJ1_charAt_3b067
  exact k_at (sJ1_charAt_3b067_0 hl hQ h) (k_no)
/-! java/lang/String.charAt(I)C -/
abbrev dlJ0_charAt_5068e : List (Nat × (Instr × Nat)) := [(0, .aload_n 0, 1), (1, .invokevirtual 492, 3), (4, .ifCond .eq 12, 3), (7, .aload_n 0, 1), (8, .getfield 9, 3), (11, .iload_n 1, 1), (12, .invokestatic 495, 3), (15, .ireturn, 1), (16, .aload_n 0, 1), (17, .getfield 9, 3), (20, .iload_n 1, 1), (21, .invokestatic 498, 3), (24, .ireturn, 1)]
theorem ddJ0_charAt_5068e : ∀ q ∈ dlJ0_charAt_5068e, decode cJ0_charAt_5068e q.1 = .ok q.2 := by decide +kernel
theorem sJ0_charAt_5068e_7 {l : Launch} {X : q_CX} (hl : X.2.1 = l) (hQ : q_QM X) (h : q_OK X yJ0_charAt_5068e cJ0_charAt_5068e 2 (some .char) rmJ0_charAt_5068e (Cond.code yJ0_charAt_5068e cJ0_charAt_5068e 2 (some .char) :: q_G)) : q_SK X 2 7 (BJ0_charAt_5068e_7) := by
  refine k_aload_n (i := 0) h (ddJ0_charAt_5068e (7, .aload_n 0, 1) (List.mem_of_getElem? (i := 3) rfl)) rfl ?_
  refine k_sval h (List.mem_cons_of_mem _ gw168) (ddJ0_charAt_5068e (8, .getfield 9, 3) (List.mem_of_getElem? (i := 4) rfl)) ?_
  refine k_iload_n (i := 1) h (ddJ0_charAt_5068e (11, .iload_n 1, 1) (List.mem_of_getElem? (i := 5) rfl)) rfl ?_
  refine k_callS h hl (aJ1_charAt_3b067 l) ⟨rfl, rfl⟩ (n := 2) (by decide +kernel) (q_gS gw195 gw194 gw193 gw192) ⟨by decide, by decide⟩ (ddJ0_charAt_5068e (12, .invokestatic 495, 3) (List.mem_of_getElem? (i := 6) rfl)) ?_
  exact k_nret h hQ (ddJ0_charAt_5068e (15, .ireturn, 1) (List.mem_of_getElem? (i := 7) rfl))
theorem sJ0_charAt_5068e_0 {l : Launch} {X : q_CX} (hl : X.2.1 = l) (hQ : q_QM X) (h : q_OK X yJ0_charAt_5068e cJ0_charAt_5068e 2 (some .char) rmJ0_charAt_5068e (Cond.code yJ0_charAt_5068e cJ0_charAt_5068e 2 (some .char) :: q_G)) : q_SK X 2 0 (BJ0_charAt_5068e_0) := by
  refine k_aload_n (i := 0) h (ddJ0_charAt_5068e (0, .aload_n 0, 1) (List.mem_of_getElem? (i := 0) rfl)) rfl ?_
  refine k_callT h hl (aJ0_isLatin1_aae02 l) ⟨rfl, rfl⟩ (n := 0) (by decide +kernel) (q_gV gw181 gw182 gw183 gw172 gw180) ⟨by decide, by decide⟩ (ddJ0_charAt_5068e (1, .invokevirtual 492, 3) (List.mem_of_getElem? (i := 1) rfl)) ?_
  refine k_ifeq h (ddJ0_charAt_5068e (4, .ifCond .eq 12, 3) (List.mem_of_getElem? (i := 2) rfl)) (tgt := 16) (by decide) ?_ ?_
  · exact k_no
  · exact sJ0_charAt_5068e_7 hl hQ h
theorem aJ0_charAt_5068e (l : Launch) (as : List Value) (sh : q_Sh) (m : q_Mm) (R : q_KR) (hw : wJ0_charAt_5068e as sh m R) : q_AM l yJ0_charAt_5068e (Cond.code yJ0_charAt_5068e cJ0_charAt_5068e 2 (some .char) :: q_G) rmJ0_charAt_5068e as sh m R := by
  refine q_met (code := TJ0_charAt_5068e) (by decide) (fun X hl hQ _ h pc => ?_) hw.1 hw.2
  unfold TJ0_charAt_5068e
  exact k_at (sJ0_charAt_5068e_0 hl hQ h) (k_no)
/-! TumblingRock$Text.spells(IILjava/lang/String;)Z -/
abbrev dlX7_spells : List (Nat × (Instr × Nat)) := [(0, .iload_n 2, 1), (1, .iload_n 1, 1), (2, .isub, 1), (3, .aload_n 3, 1), (4, .invokevirtual 33, 3), (7, .if_icmp .eq 5, 3), (10, .iconst 0, 1), (11, .ireturn, 1), (12, .iconst 0, 1), (13, .istore 4, 2), (15, .iload 4, 2), (17, .aload_n 3, 1), (18, .invokevirtual 33, 3), (21, .if_icmp .ge 28, 3), (24, .aload_n 0, 1), (25, .iload_n 1, 1), (26, .iload 4, 2), (28, .iadd, 1), (29, .invokevirtual 25, 3), (32, .aload_n 3, 1), (33, .iload 4, 2), (35, .invokevirtual 38, 3), (38, .if_icmp .eq 5, 3), (41, .iconst 0, 1), (42, .ireturn, 1), (43, .iinc 4 1, 3), (46, .goto (-31), 3), (49, .iconst 1, 1), (50, .ireturn, 1)]
theorem ddX7_spells : ∀ q ∈ dlX7_spells, decode cX7_spells q.1 = .ok q.2 := by decide +kernel
theorem sX7_spells_12 {l : Launch} {X : q_CX} (hl : X.2.1 = l) (hQ : q_QM X) (h : q_OK X yX7_spells cX7_spells 5 (some .boolean) rmX7_spells (Cond.code yX7_spells cX7_spells 5 (some .boolean) :: q_G)) : q_SK X 5 12 (BX7_spells_12) := by
  refine k_iconst (v := 0) h (ddX7_spells (12, .iconst 0, 1) (List.mem_of_getElem? (i := 8) rfl)) (by decide) ?_
  refine k_istore (i := 4) h (ddX7_spells (13, .istore 4, 2) (List.mem_of_getElem? (i := 9) rfl)) (by decide) ?_
  exact k_cut
theorem sX7_spells_10 {l : Launch} {X : q_CX} (hl : X.2.1 = l) (hQ : q_QM X) (h : q_OK X yX7_spells cX7_spells 5 (some .boolean) rmX7_spells (Cond.code yX7_spells cX7_spells 5 (some .boolean) :: q_G)) : q_SK X 5 10 (BX7_spells_10) := by
  refine k_iconst (v := 0) h (ddX7_spells (10, .iconst 0, 1) (List.mem_of_getElem? (i := 6) rfl)) (by decide) ?_
  exact k_zret h hQ (ddX7_spells (11, .ireturn, 1) (List.mem_of_getElem? (i := 7) rfl))
theorem sX7_spells_0 {l : Launch} {X : q_CX} (hl : X.2.1 = l) (hQ : q_QM X) (h : q_OK X yX7_spells cX7_spells 5 (some .boolean) rmX7_spells (Cond.code yX7_spells cX7_spells 5 (some .boolean) :: q_G)) : q_SK X 5 0 (BX7_spells_0) := by
  refine k_iload_n (i := 2) h (ddX7_spells (0, .iload_n 2, 1) (List.mem_of_getElem? (i := 0) rfl)) rfl ?_
  refine k_iload_n (i := 1) h (ddX7_spells (1, .iload_n 1, 1) (List.mem_of_getElem? (i := 1) rfl)) rfl ?_
  refine k_isub h (ddX7_spells (2, .isub, 1) (List.mem_of_getElem? (i := 2) rfl)) ?_
  refine k_aload_n (i := 3) h (ddX7_spells (3, .aload_n 3, 1) (List.mem_of_getElem? (i := 3) rfl)) rfl ?_
  refine k_callT h hl (aJ0_length_8abf5 l) ⟨rfl, rfl⟩ (n := 0) (by decide +kernel) (q_gV gw177 gw178 gw179 gw172 gw176) ⟨by decide, by decide⟩ (ddX7_spells (4, .invokevirtual 33, 3) (List.mem_of_getElem? (i := 4) rfl)) ?_
  refine k_iceq h (ddX7_spells (7, .if_icmp .eq 5, 3) (List.mem_of_getElem? (i := 5) rfl)) (tgt := 12) (by decide) ?_ ?_
  · exact sX7_spells_12 hl hQ h
  · exact sX7_spells_10 hl hQ h
theorem sX7_spells_49 {l : Launch} {X : q_CX} (hl : X.2.1 = l) (hQ : q_QM X) (h : q_OK X yX7_spells cX7_spells 5 (some .boolean) rmX7_spells (Cond.code yX7_spells cX7_spells 5 (some .boolean) :: q_G)) : q_SK X 5 49 (BX7_spells_49) := by
  refine k_iconst (v := 1) h (ddX7_spells (49, .iconst 1, 1) (List.mem_of_getElem? (i := 27) rfl)) (by decide) ?_
  exact k_zret h hQ (ddX7_spells (50, .ireturn, 1) (List.mem_of_getElem? (i := 28) rfl))
theorem sX7_spells_43 {l : Launch} {X : q_CX} (hl : X.2.1 = l) (hQ : q_QM X) (h : q_OK X yX7_spells cX7_spells 5 (some .boolean) rmX7_spells (Cond.code yX7_spells cX7_spells 5 (some .boolean) :: q_G)) : q_SK X 5 43 (BX7_spells_43) := by
  refine k_iinc (d := 1) h (ddX7_spells (43, .iinc 4 1, 3) (List.mem_of_getElem? (i := 25) rfl)) (by decide) (by decide) ?_
  refine k_goto h (ddX7_spells (46, .goto (-31), 3) (List.mem_of_getElem? (i := 26) rfl)) (tgt := 15) (by decide) ?_
  exact k_cut
theorem sX7_spells_41 {l : Launch} {X : q_CX} (hl : X.2.1 = l) (hQ : q_QM X) (h : q_OK X yX7_spells cX7_spells 5 (some .boolean) rmX7_spells (Cond.code yX7_spells cX7_spells 5 (some .boolean) :: q_G)) : q_SK X 5 41 (BX7_spells_41) := by
  refine k_iconst (v := 0) h (ddX7_spells (41, .iconst 0, 1) (List.mem_of_getElem? (i := 23) rfl)) (by decide) ?_
  exact k_zret h hQ (ddX7_spells (42, .ireturn, 1) (List.mem_of_getElem? (i := 24) rfl))
theorem sX7_spells_24 {l : Launch} {X : q_CX} (hl : X.2.1 = l) (hQ : q_QM X) (h : q_OK X yX7_spells cX7_spells 5 (some .boolean) rmX7_spells (Cond.code yX7_spells cX7_spells 5 (some .boolean) :: q_G)) : q_SK X 5 24 (BX7_spells_24) := by
  refine k_aload_n (i := 0) h (ddX7_spells (24, .aload_n 0, 1) (List.mem_of_getElem? (i := 14) rfl)) rfl ?_
  refine k_iload_n (i := 1) h (ddX7_spells (25, .iload_n 1, 1) (List.mem_of_getElem? (i := 15) rfl)) rfl ?_
  refine k_iload (i := 4) h (ddX7_spells (26, .iload 4, 2) (List.mem_of_getElem? (i := 16) rfl)) ?_
  refine k_iadd h (ddX7_spells (28, .iadd, 1) (List.mem_of_getElem? (i := 17) rfl)) ?_
  refine k_callV h hl (aX7_byteAt l) (ci := 7) (C := RX7) (T := TX7) (N := 2) rfl ⟨rfl, rfl⟩ (n := 1) (by decide +kernel) (q_gV gw163 gw157 gw158 gw5 gw155) ⟨by decide, by decide⟩ (ddX7_spells (29, .invokevirtual 25, 3) (List.mem_of_getElem? (i := 18) rfl)) ?_
  refine k_aload_n (i := 3) h (ddX7_spells (32, .aload_n 3, 1) (List.mem_of_getElem? (i := 19) rfl)) rfl ?_
  refine k_iload (i := 4) h (ddX7_spells (33, .iload 4, 2) (List.mem_of_getElem? (i := 20) rfl)) ?_
  refine k_callT h hl (aJ0_charAt_5068e l) ⟨rfl, rfl⟩ (n := 1) (by decide +kernel) (q_gV gw197 gw198 gw199 gw172 gw196) ⟨by decide, by decide⟩ (ddX7_spells (35, .invokevirtual 38, 3) (List.mem_of_getElem? (i := 21) rfl)) ?_
  refine k_iceq h (ddX7_spells (38, .if_icmp .eq 5, 3) (List.mem_of_getElem? (i := 22) rfl)) (tgt := 43) (by decide) ?_ ?_
  · exact sX7_spells_43 hl hQ h
  · exact sX7_spells_41 hl hQ h
theorem sX7_spells_15 {l : Launch} {X : q_CX} (hl : X.2.1 = l) (hQ : q_QM X) (h : q_OK X yX7_spells cX7_spells 5 (some .boolean) rmX7_spells (Cond.code yX7_spells cX7_spells 5 (some .boolean) :: q_G)) : q_SK X 5 15 (BX7_spells_15) := by
  refine k_iload (i := 4) h (ddX7_spells (15, .iload 4, 2) (List.mem_of_getElem? (i := 10) rfl)) ?_
  refine k_aload_n (i := 3) h (ddX7_spells (17, .aload_n 3, 1) (List.mem_of_getElem? (i := 11) rfl)) rfl ?_
  refine k_callT h hl (aJ0_length_8abf5 l) ⟨rfl, rfl⟩ (n := 0) (by decide +kernel) (q_gV gw177 gw178 gw179 gw172 gw176) ⟨by decide, by decide⟩ (ddX7_spells (18, .invokevirtual 33, 3) (List.mem_of_getElem? (i := 12) rfl)) ?_
  refine k_icge h (ddX7_spells (21, .if_icmp .ge 28, 3) (List.mem_of_getElem? (i := 13) rfl)) (tgt := 49) (by decide) ?_ ?_
  · exact sX7_spells_49 hl hQ h
  · exact sX7_spells_24 hl hQ h
theorem aX7_spells (l : Launch) (as : List Value) (sh : q_Sh) (m : q_Mm) (R : q_KR) (hw : wX7_spells as sh m R) : q_AM l yX7_spells (Cond.code yX7_spells cX7_spells 5 (some .boolean) :: q_G) rmX7_spells as sh m R := by
  refine q_met (code := TX7_spells) (by decide) (fun X hl hQ _ h pc => ?_) hw.1 hw.2
  unfold TX7_spells
  exact k_at (sX7_spells_0 hl hQ h) (k_at (sX7_spells_15 hl hQ h) (k_no))
/-! TumblingRock$Reader.refuse(II)V -/
abbrev dlX3_refuse : List (Nat × (Instr × Nat)) := [(0, .aload_n 0, 1), (1, .getfield 22, 3), (4, .ifCond .eq 4, 3), (7, .return_, 1), (8, .aload_n 0, 1), (9, .iload_n 1, 1), (10, .putfield 22, 3), (13, .aload_n 0, 1), (14, .iload_n 2, 1), (15, .putfield 15, 3), (18, .return_, 1)]
theorem ddX3_refuse : ∀ q ∈ dlX3_refuse, decode cX3_refuse q.1 = .ok q.2 := by decide +kernel
theorem sX3_refuse_8 {l : Launch} {X : q_CX} (hl : X.2.1 = l) (hQ : q_QM X) (h : q_OK X yX3_refuse cX3_refuse 3 none rmX3_refuse (Cond.code yX3_refuse cX3_refuse 3 none :: q_G)) : q_SK X 3 8 (BX3_refuse_8) := by
  refine k_aload_n (i := 0) h (ddX3_refuse (8, .aload_n 0, 1) (List.mem_of_getElem? (i := 4) rfl)) rfl ?_
  refine k_iload_n (i := 1) h (ddX3_refuse (9, .iload_n 1, 1) (List.mem_of_getElem? (i := 5) rfl)) rfl ?_
  refine k_putf (ci := 3) (j := 2) (C := RX3) (T := TX3) (N := 4) h rfl (fun w hw => List.mem_cons_of_mem _ (q_inX3 w hw)) (by decide) (List.mem_cons_of_mem _ gw152) tyX3 tyX3_ok nmX3 (by decide +kernel) (by decide +kernel) (ddX3_refuse (10, .putfield 22, 3) (List.mem_of_getElem? (i := 6) rfl)) ?_
  refine k_aload_n (i := 0) h (ddX3_refuse (13, .aload_n 0, 1) (List.mem_of_getElem? (i := 7) rfl)) rfl ?_
  refine k_iload_n (i := 2) h (ddX3_refuse (14, .iload_n 2, 1) (List.mem_of_getElem? (i := 8) rfl)) rfl ?_
  refine k_putf (ci := 3) (j := 3) (C := RX3) (T := TX3) (N := 4) h rfl (fun w hw => List.mem_cons_of_mem _ (q_inX3 w hw)) (by decide) (List.mem_cons_of_mem _ gw17) tyX3 tyX3_ok nmX3 (by decide +kernel) (by decide +kernel) (ddX3_refuse (15, .putfield 15, 3) (List.mem_of_getElem? (i := 9) rfl)) ?_
  exact k_vret h hQ (ddX3_refuse (18, .return_, 1) (List.mem_of_getElem? (i := 10) rfl))
theorem sX3_refuse_7 {l : Launch} {X : q_CX} (hl : X.2.1 = l) (hQ : q_QM X) (h : q_OK X yX3_refuse cX3_refuse 3 none rmX3_refuse (Cond.code yX3_refuse cX3_refuse 3 none :: q_G)) : q_SK X 3 7 (BX3_refuse_7) := by
  exact k_vret h hQ (ddX3_refuse (7, .return_, 1) (List.mem_of_getElem? (i := 3) rfl))
theorem sX3_refuse_0 {l : Launch} {X : q_CX} (hl : X.2.1 = l) (hQ : q_QM X) (h : q_OK X yX3_refuse cX3_refuse 3 none rmX3_refuse (Cond.code yX3_refuse cX3_refuse 3 none :: q_G)) : q_SK X 3 0 (BX3_refuse_0) := by
  refine k_aload_n (i := 0) h (ddX3_refuse (0, .aload_n 0, 1) (List.mem_of_getElem? (i := 0) rfl)) rfl ?_
  refine k_getf (ci := 3) (j := 2) (C := RX3) (T := TX3) (N := 4) h rfl (fun w hw => List.mem_cons_of_mem _ (q_inX3 w hw)) (by decide) (List.mem_cons_of_mem _ gw152) (ddX3_refuse (1, .getfield 22, 3) (List.mem_of_getElem? (i := 1) rfl)) ?_
  refine k_ifeq h (ddX3_refuse (4, .ifCond .eq 4, 3) (List.mem_of_getElem? (i := 2) rfl)) (tgt := 8) (by decide) ?_ ?_
  · exact sX3_refuse_8 hl hQ h
  · exact sX3_refuse_7 hl hQ h
theorem aX3_refuse (l : Launch) (as : List Value) (sh : q_Sh) (m : q_Mm) (R : q_KR) (hw : wX3_refuse as sh m R) : q_AM l yX3_refuse (Cond.code yX3_refuse cX3_refuse 3 none :: q_G) rmX3_refuse as sh m R := by
  refine q_met (code := TX3_refuse) (by decide) (fun X hl hQ _ h pc => ?_) hw.1 hw.2
  unfold TX3_refuse
  exact k_at (sX3_refuse_0 hl hQ h) (k_no)
/-! TumblingRock$Reader.hasRoom(III)Z -/
abbrev dlX3_hasRoom : List (Nat × (Instr × Nat)) := [(0, .iload_n 1, 1), (1, .iload_n 2, 1), (2, .if_icmp .lt 9, 3), (5, .aload_n 0, 1), (6, .iconst 3, 1), (7, .iload_n 3, 1), (8, .invokevirtual 90, 3), (11, .iload_n 1, 1), (12, .iload_n 2, 1), (13, .if_icmp .ge 7, 3), (16, .iconst 1, 1), (17, .goto 4, 3), (20, .iconst 0, 1), (21, .ireturn, 1)]
theorem ddX3_hasRoom : ∀ q ∈ dlX3_hasRoom, decode cX3_hasRoom q.1 = .ok q.2 := by decide +kernel
theorem sX3_hasRoom_21 {l : Launch} {X : q_CX} (hl : X.2.1 = l) (hQ : q_QM X) (h : q_OK X yX3_hasRoom cX3_hasRoom 4 (some .boolean) rmX3_hasRoom (Cond.code yX3_hasRoom cX3_hasRoom 4 (some .boolean) :: q_G)) : q_SK X 4 21 (BX3_hasRoom_21) := by
  exact k_zret h hQ (ddX3_hasRoom (21, .ireturn, 1) (List.mem_of_getElem? (i := 13) rfl))
theorem sX3_hasRoom_20 {l : Launch} {X : q_CX} (hl : X.2.1 = l) (hQ : q_QM X) (h : q_OK X yX3_hasRoom cX3_hasRoom 4 (some .boolean) rmX3_hasRoom (Cond.code yX3_hasRoom cX3_hasRoom 4 (some .boolean) :: q_G)) : q_SK X 4 20 (BX3_hasRoom_20) := by
  refine k_iconst (v := 0) h (ddX3_hasRoom (20, .iconst 0, 1) (List.mem_of_getElem? (i := 12) rfl)) (by decide) ?_
  exact sX3_hasRoom_21 hl hQ h
theorem sX3_hasRoom_16 {l : Launch} {X : q_CX} (hl : X.2.1 = l) (hQ : q_QM X) (h : q_OK X yX3_hasRoom cX3_hasRoom 4 (some .boolean) rmX3_hasRoom (Cond.code yX3_hasRoom cX3_hasRoom 4 (some .boolean) :: q_G)) : q_SK X 4 16 (BX3_hasRoom_16) := by
  refine k_iconst (v := 1) h (ddX3_hasRoom (16, .iconst 1, 1) (List.mem_of_getElem? (i := 10) rfl)) (by decide) ?_
  refine k_goto h (ddX3_hasRoom (17, .goto 4, 3) (List.mem_of_getElem? (i := 11) rfl)) (tgt := 21) (by decide) ?_
  exact sX3_hasRoom_21 hl hQ h
theorem sX3_hasRoom_11 {l : Launch} {X : q_CX} (hl : X.2.1 = l) (hQ : q_QM X) (h : q_OK X yX3_hasRoom cX3_hasRoom 4 (some .boolean) rmX3_hasRoom (Cond.code yX3_hasRoom cX3_hasRoom 4 (some .boolean) :: q_G)) : q_SK X 4 11 (BX3_hasRoom_11) := by
  refine k_iload_n (i := 1) h (ddX3_hasRoom (11, .iload_n 1, 1) (List.mem_of_getElem? (i := 7) rfl)) rfl ?_
  refine k_iload_n (i := 2) h (ddX3_hasRoom (12, .iload_n 2, 1) (List.mem_of_getElem? (i := 8) rfl)) rfl ?_
  refine k_icge h (ddX3_hasRoom (13, .if_icmp .ge 7, 3) (List.mem_of_getElem? (i := 9) rfl)) (tgt := 20) (by decide) ?_ ?_
  · exact sX3_hasRoom_20 hl hQ h
  · exact sX3_hasRoom_16 hl hQ h
theorem sX3_hasRoom_5 {l : Launch} {X : q_CX} (hl : X.2.1 = l) (hQ : q_QM X) (h : q_OK X yX3_hasRoom cX3_hasRoom 4 (some .boolean) rmX3_hasRoom (Cond.code yX3_hasRoom cX3_hasRoom 4 (some .boolean) :: q_G)) : q_SK X 4 5 (BX3_hasRoom_5) := by
  refine k_aload_n (i := 0) h (ddX3_hasRoom (5, .aload_n 0, 1) (List.mem_of_getElem? (i := 3) rfl)) rfl ?_
  refine k_iconst (v := 3) h (ddX3_hasRoom (6, .iconst 3, 1) (List.mem_of_getElem? (i := 4) rfl)) (by decide) ?_
  refine k_iload_n (i := 3) h (ddX3_hasRoom (7, .iload_n 3, 1) (List.mem_of_getElem? (i := 5) rfl)) rfl ?_
  refine k_callV h hl (aX3_refuse l) (ci := 3) (C := RX3) (T := TX3) (N := 4) rfl ⟨rfl, rfl⟩ (n := 2) (by decide +kernel) (q_gV gw206 gw207 gw208 gw14 gw205) ⟨by decide, by decide⟩ (ddX3_hasRoom (8, .invokevirtual 90, 3) (List.mem_of_getElem? (i := 6) rfl)) ?_
  exact sX3_hasRoom_11 hl hQ h
theorem sX3_hasRoom_0 {l : Launch} {X : q_CX} (hl : X.2.1 = l) (hQ : q_QM X) (h : q_OK X yX3_hasRoom cX3_hasRoom 4 (some .boolean) rmX3_hasRoom (Cond.code yX3_hasRoom cX3_hasRoom 4 (some .boolean) :: q_G)) : q_SK X 4 0 (BX3_hasRoom_0) := by
  refine k_iload_n (i := 1) h (ddX3_hasRoom (0, .iload_n 1, 1) (List.mem_of_getElem? (i := 0) rfl)) rfl ?_
  refine k_iload_n (i := 2) h (ddX3_hasRoom (1, .iload_n 2, 1) (List.mem_of_getElem? (i := 1) rfl)) rfl ?_
  refine k_iclt h (ddX3_hasRoom (2, .if_icmp .lt 9, 3) (List.mem_of_getElem? (i := 2) rfl)) (tgt := 11) (by decide) ?_ ?_
  · exact sX3_hasRoom_11 hl hQ h
  · exact sX3_hasRoom_5 hl hQ h
theorem aX3_hasRoom (l : Launch) (as : List Value) (sh : q_Sh) (m : q_Mm) (R : q_KR) (hw : wX3_hasRoom as sh m R) : q_AM l yX3_hasRoom (Cond.code yX3_hasRoom cX3_hasRoom 4 (some .boolean) :: q_G) rmX3_hasRoom as sh m R := by
  refine q_met (code := TX3_hasRoom) (by decide) (fun X hl hQ _ h pc => ?_) hw.1 hw.2
  unfold TX3_hasRoom
  exact k_at (sX3_hasRoom_0 hl hQ h) (k_no)
/-! TumblingRock$Rock.addTurning()V -/
abbrev dlX4_addTurning : List (Nat × (Instr × Nat)) := [(0, .aload_n 0, 1), (1, .getfield 9, 3), (4, .aload_n 0, 1), (5, .getfield 42, 3), (8, .iconst 0, 1), (9, .invokestatic 55, 3), (12, .aload_n 0, 1), (13, .dup, 1), (14, .getfield 42, 3), (17, .iconst 1, 1), (18, .iadd, 1), (19, .putfield 42, 3), (22, .return_, 1)]
theorem ddX4_addTurning : ∀ q ∈ dlX4_addTurning, decode cX4_addTurning q.1 = .ok q.2 := by decide +kernel
theorem sX4_addTurning_0 {l : Launch} {X : q_CX} (hl : X.2.1 = l) (hQ : q_QM X) (h : q_OK X yX4_addTurning cX4_addTurning 1 none rmX4_addTurning (Cond.code yX4_addTurning cX4_addTurning 1 none :: q_G)) : q_SK X 1 0 (BX4_addTurning_0) := by
  refine k_aload_n (i := 0) h (ddX4_addTurning (0, .aload_n 0, 1) (List.mem_of_getElem? (i := 0) rfl)) rfl ?_
  refine k_getf (ci := 4) (j := 6) (C := RX4) (T := TX4) (N := 14) h rfl (fun w hw => List.mem_cons_of_mem _ (q_inX4 w hw)) (by decide) (List.mem_cons_of_mem _ gw73) (ddX4_addTurning (1, .getfield 9, 3) (List.mem_of_getElem? (i := 1) rfl)) ?_
  refine k_aload_n (i := 0) h (ddX4_addTurning (4, .aload_n 0, 1) (List.mem_of_getElem? (i := 2) rfl)) rfl ?_
  refine k_getf (ci := 4) (j := 0) (C := RX4) (T := TX4) (N := 14) h rfl (fun w hw => List.mem_cons_of_mem _ (q_inX4 w hw)) (by decide) (List.mem_cons_of_mem _ gw81) (ddX4_addTurning (5, .getfield 42, 3) (List.mem_of_getElem? (i := 3) rfl)) ?_
  refine k_iconst (v := 0) h (ddX4_addTurning (8, .iconst 0, 1) (List.mem_of_getElem? (i := 4) rfl)) (by decide) ?_
  refine k_callN h hl (aX8_put l) ⟨rfl, rfl⟩ (n := 3) (by decide +kernel) (q_gN gw143) (by decide +kernel) (List.mem_cons_of_mem _ gw91) (List.mem_cons_of_mem _ gw144) ⟨by decide, by decide⟩ (ddX4_addTurning (9, .invokestatic 55, 3) (List.mem_of_getElem? (i := 5) rfl)) ?_
  refine k_aload_n (i := 0) h (ddX4_addTurning (12, .aload_n 0, 1) (List.mem_of_getElem? (i := 6) rfl)) rfl ?_
  refine k_dup h (ddX4_addTurning (13, .dup, 1) (List.mem_of_getElem? (i := 7) rfl)) ?_
  refine k_getf (ci := 4) (j := 0) (C := RX4) (T := TX4) (N := 14) h rfl (fun w hw => List.mem_cons_of_mem _ (q_inX4 w hw)) (by decide) (List.mem_cons_of_mem _ gw81) (ddX4_addTurning (14, .getfield 42, 3) (List.mem_of_getElem? (i := 8) rfl)) ?_
  refine k_iconst (v := 1) h (ddX4_addTurning (17, .iconst 1, 1) (List.mem_of_getElem? (i := 9) rfl)) (by decide) ?_
  refine k_iadd h (ddX4_addTurning (18, .iadd, 1) (List.mem_of_getElem? (i := 10) rfl)) ?_
  refine k_putf (ci := 4) (j := 0) (C := RX4) (T := TX4) (N := 14) h rfl (fun w hw => List.mem_cons_of_mem _ (q_inX4 w hw)) (by decide) (List.mem_cons_of_mem _ gw81) tyX4 tyX4_ok nmX4 (by decide +kernel) (by decide +kernel) (ddX4_addTurning (19, .putfield 42, 3) (List.mem_of_getElem? (i := 11) rfl)) ?_
  exact k_vret h hQ (ddX4_addTurning (22, .return_, 1) (List.mem_of_getElem? (i := 12) rfl))
theorem aX4_addTurning (l : Launch) (as : List Value) (sh : q_Sh) (m : q_Mm) (R : q_KR) (hw : wX4_addTurning as sh m R) : q_AM l yX4_addTurning (Cond.code yX4_addTurning cX4_addTurning 1 none :: q_G) rmX4_addTurning as sh m R := by
  refine q_met (code := TX4_addTurning) (by decide) (fun X hl hQ _ h pc => ?_) hw.1 hw.2
  unfold TX4_addTurning
  exact k_at (sX4_addTurning_0 hl hQ h) (k_no)
/-! TumblingRock$Text.isFigure(I)Z -/
abbrev dlX7_isFigure : List (Nat × (Instr × Nat)) := [(0, .aload_n 0, 1), (1, .iload_n 1, 1), (2, .invokevirtual 25, 3), (5, .bipush 48, 2), (7, .bipush 57, 2), (9, .invokestatic 29, 3), (12, .ireturn, 1)]
theorem ddX7_isFigure : ∀ q ∈ dlX7_isFigure, decode cX7_isFigure q.1 = .ok q.2 := by decide +kernel
theorem sX7_isFigure_0 {l : Launch} {X : q_CX} (hl : X.2.1 = l) (hQ : q_QM X) (h : q_OK X yX7_isFigure cX7_isFigure 2 (some .boolean) rmX7_isFigure (Cond.code yX7_isFigure cX7_isFigure 2 (some .boolean) :: q_G)) : q_SK X 2 0 (BX7_isFigure_0) := by
  refine k_aload_n (i := 0) h (ddX7_isFigure (0, .aload_n 0, 1) (List.mem_of_getElem? (i := 0) rfl)) rfl ?_
  refine k_iload_n (i := 1) h (ddX7_isFigure (1, .iload_n 1, 1) (List.mem_of_getElem? (i := 1) rfl)) rfl ?_
  refine k_callV h hl (aX7_byteAt l) (ci := 7) (C := RX7) (T := TX7) (N := 2) rfl ⟨rfl, rfl⟩ (n := 1) (by decide +kernel) (q_gV gw163 gw157 gw158 gw5 gw155) ⟨by decide, by decide⟩ (ddX7_isFigure (2, .invokevirtual 25, 3) (List.mem_of_getElem? (i := 2) rfl)) ?_
  refine k_bipush (v := 48) h (ddX7_isFigure (5, .bipush 48, 2) (List.mem_of_getElem? (i := 3) rfl)) (by decide) ?_
  refine k_bipush (v := 57) h (ddX7_isFigure (7, .bipush 57, 2) (List.mem_of_getElem? (i := 4) rfl)) (by decide) ?_
  refine k_callN h hl (aX8_inside l) ⟨rfl, rfl⟩ (n := 3) (by decide +kernel) (q_gN gw137) (by decide +kernel) (List.mem_cons_of_mem _ gw91) (List.mem_cons_of_mem _ gw138) ⟨by decide, by decide⟩ (ddX7_isFigure (9, .invokestatic 29, 3) (List.mem_of_getElem? (i := 5) rfl)) ?_
  exact k_zret h hQ (ddX7_isFigure (12, .ireturn, 1) (List.mem_of_getElem? (i := 6) rfl))
theorem aX7_isFigure (l : Launch) (as : List Value) (sh : q_Sh) (m : q_Mm) (R : q_KR) (hw : wX7_isFigure as sh m R) : q_AM l yX7_isFigure (Cond.code yX7_isFigure cX7_isFigure 2 (some .boolean) :: q_G) rmX7_isFigure as sh m R := by
  refine q_met (code := TX7_isFigure) (by decide) (fun X hl hQ _ h pc => ?_) hw.1 hw.2
  unfold TX7_isFigure
  exact k_at (sX7_isFigure_0 hl hQ h) (k_no)
/-! TumblingRock$Reader.readNumber(I)I -/
abbrev dlX3_readNumber : List (Nat × (Instr × Nat)) := [(0, .aload_n 0, 1), (1, .invokevirtual 30, 3), (4, .aload_n 0, 1), (5, .getfield 19, 3), (8, .istore_n 2, 1), (9, .iconst 0, 1), (10, .istore_n 3, 1), (11, .aload_n 0, 1), (12, .getfield 19, 3), (15, .aload_n 0, 1), (16, .getfield 9, 3), (19, .getfield 33, 3), (22, .if_icmp .ge 60, 3), (25, .aload_n 0, 1), (26, .getfield 9, 3), (29, .aload_n 0, 1), (30, .getfield 19, 3), (33, .invokevirtual 121, 3), (36, .ifCond .eq 46, 3), (39, .aload_n 0, 1), (40, .getfield 19, 3), (43, .iload_n 2, 1), (44, .isub, 1), (45, .iconst 3, 1), (46, .if_icmp .ge 23, 3), (49, .iload_n 3, 1), (50, .bipush 10, 2), (52, .imul, 1), (53, .aload_n 0, 1), (54, .getfield 9, 3), (57, .aload_n 0, 1), (58, .getfield 19, 3), (61, .invokevirtual 42, 3), (64, .iadd, 1), (65, .bipush 48, 2), (67, .isub, 1), (68, .istore_n 3, 1), (69, .aload_n 0, 1), (70, .dup, 1), (71, .getfield 19, 3), (74, .iconst 1, 1), (75, .iadd, 1), (76, .putfield 19, 3), (79, .goto (-68), 3), (82, .aload_n 0, 1), (83, .getfield 19, 3), (86, .iload_n 2, 1), (87, .if_icmp .ne 12, 3), (90, .aload_n 0, 1), (91, .iconst 1, 1), (92, .iload_n 2, 1), (93, .invokevirtual 90, 3), (96, .goto 24, 3), (99, .aload_n 0, 1), (100, .getfield 19, 3), (103, .iload_n 2, 1), (104, .isub, 1), (105, .iconst 3, 1), (106, .if_icmp .gt 8, 3), (109, .iload_n 3, 1), (110, .iload_n 1, 1), (111, .if_icmp .le 9, 3), (114, .aload_n 0, 1), (115, .iconst 2, 1), (116, .iload_n 2, 1), (117, .invokevirtual 90, 3), (120, .iload_n 3, 1), (121, .ireturn, 1)]
theorem ddX3_readNumber : ∀ q ∈ dlX3_readNumber, decode cX3_readNumber q.1 = .ok q.2 := by decide +kernel
theorem sX3_readNumber_0 {l : Launch} {X : q_CX} (hl : X.2.1 = l) (hQ : q_QM X) (h : q_OK X yX3_readNumber cX3_readNumber 4 (some .int) rmX3_readNumber (Cond.code yX3_readNumber cX3_readNumber 4 (some .int) :: q_G)) : q_SK X 4 0 (BX3_readNumber_0) := by
  refine k_aload_n (i := 0) h (ddX3_readNumber (0, .aload_n 0, 1) (List.mem_of_getElem? (i := 0) rfl)) rfl ?_
  refine k_callV h hl (aX3_passBlanks l) (ci := 3) (C := RX3) (T := TX3) (N := 4) rfl ⟨rfl, rfl⟩ (n := 0) (by decide +kernel) (q_gV gw160 gw161 gw162 gw14 gw159) ⟨by decide, by decide⟩ (ddX3_readNumber (1, .invokevirtual 30, 3) (List.mem_of_getElem? (i := 1) rfl)) ?_
  refine k_aload_n (i := 0) h (ddX3_readNumber (4, .aload_n 0, 1) (List.mem_of_getElem? (i := 2) rfl)) rfl ?_
  refine k_getf (ci := 3) (j := 1) (C := RX3) (T := TX3) (N := 4) h rfl (fun w hw => List.mem_cons_of_mem _ (q_inX3 w hw)) (by decide) (List.mem_cons_of_mem _ gw151) (ddX3_readNumber (5, .getfield 19, 3) (List.mem_of_getElem? (i := 3) rfl)) ?_
  refine k_istore_n (i := 2) h (ddX3_readNumber (8, .istore_n 2, 1) (List.mem_of_getElem? (i := 4) rfl)) rfl (by decide) ?_
  refine k_iconst (v := 0) h (ddX3_readNumber (9, .iconst 0, 1) (List.mem_of_getElem? (i := 5) rfl)) (by decide) ?_
  refine k_istore_n (i := 3) h (ddX3_readNumber (10, .istore_n 3, 1) (List.mem_of_getElem? (i := 6) rfl)) rfl (by decide) ?_
  exact k_cut
theorem sX3_readNumber_69 {l : Launch} {X : q_CX} (hl : X.2.1 = l) (hQ : q_QM X) (h : q_OK X yX3_readNumber cX3_readNumber 4 (some .int) rmX3_readNumber (Cond.code yX3_readNumber cX3_readNumber 4 (some .int) :: q_G)) : q_SK X 4 69 (BX3_readNumber_69) := by
  refine k_aload_n (i := 0) h (ddX3_readNumber (69, .aload_n 0, 1) (List.mem_of_getElem? (i := 37) rfl)) rfl ?_
  refine k_dup h (ddX3_readNumber (70, .dup, 1) (List.mem_of_getElem? (i := 38) rfl)) ?_
  refine k_getf (ci := 3) (j := 1) (C := RX3) (T := TX3) (N := 4) h rfl (fun w hw => List.mem_cons_of_mem _ (q_inX3 w hw)) (by decide) (List.mem_cons_of_mem _ gw151) (ddX3_readNumber (71, .getfield 19, 3) (List.mem_of_getElem? (i := 39) rfl)) ?_
  refine k_iconst (v := 1) h (ddX3_readNumber (74, .iconst 1, 1) (List.mem_of_getElem? (i := 40) rfl)) (by decide) ?_
  refine k_iadd h (ddX3_readNumber (75, .iadd, 1) (List.mem_of_getElem? (i := 41) rfl)) ?_
  refine k_putf (ci := 3) (j := 1) (C := RX3) (T := TX3) (N := 4) h rfl (fun w hw => List.mem_cons_of_mem _ (q_inX3 w hw)) (by decide) (List.mem_cons_of_mem _ gw151) tyX3 tyX3_ok nmX3 (by decide +kernel) (by decide +kernel) (ddX3_readNumber (76, .putfield 19, 3) (List.mem_of_getElem? (i := 42) rfl)) ?_
  refine k_goto h (ddX3_readNumber (79, .goto (-68), 3) (List.mem_of_getElem? (i := 43) rfl)) (tgt := 11) (by decide) ?_
  exact k_cut
theorem sX3_readNumber_49 {l : Launch} {X : q_CX} (hl : X.2.1 = l) (hQ : q_QM X) (h : q_OK X yX3_readNumber cX3_readNumber 4 (some .int) rmX3_readNumber (Cond.code yX3_readNumber cX3_readNumber 4 (some .int) :: q_G)) : q_SK X 4 49 (BX3_readNumber_49) := by
  refine k_iload_n (i := 3) h (ddX3_readNumber (49, .iload_n 3, 1) (List.mem_of_getElem? (i := 25) rfl)) rfl ?_
  refine k_bipush (v := 10) h (ddX3_readNumber (50, .bipush 10, 2) (List.mem_of_getElem? (i := 26) rfl)) (by decide) ?_
  refine k_imul h (ddX3_readNumber (52, .imul, 1) (List.mem_of_getElem? (i := 27) rfl)) ?_
  refine k_aload_n (i := 0) h (ddX3_readNumber (53, .aload_n 0, 1) (List.mem_of_getElem? (i := 28) rfl)) rfl ?_
  refine k_getf (ci := 3) (j := 0) (C := RX3) (T := TX3) (N := 4) h rfl (fun w hw => List.mem_cons_of_mem _ (q_inX3 w hw)) (by decide) (List.mem_cons_of_mem _ gw16) (ddX3_readNumber (54, .getfield 9, 3) (List.mem_of_getElem? (i := 29) rfl)) ?_
  refine k_aload_n (i := 0) h (ddX3_readNumber (57, .aload_n 0, 1) (List.mem_of_getElem? (i := 30) rfl)) rfl ?_
  refine k_getf (ci := 3) (j := 1) (C := RX3) (T := TX3) (N := 4) h rfl (fun w hw => List.mem_cons_of_mem _ (q_inX3 w hw)) (by decide) (List.mem_cons_of_mem _ gw151) (ddX3_readNumber (58, .getfield 19, 3) (List.mem_of_getElem? (i := 31) rfl)) ?_
  refine k_callV h hl (aX7_byteAt l) (ci := 7) (C := RX7) (T := TX7) (N := 2) rfl ⟨rfl, rfl⟩ (n := 1) (by decide +kernel) (q_gV gw156 gw157 gw158 gw5 gw155) ⟨by decide, by decide⟩ (ddX3_readNumber (61, .invokevirtual 42, 3) (List.mem_of_getElem? (i := 32) rfl)) ?_
  refine k_iadd h (ddX3_readNumber (64, .iadd, 1) (List.mem_of_getElem? (i := 33) rfl)) ?_
  refine k_bipush (v := 48) h (ddX3_readNumber (65, .bipush 48, 2) (List.mem_of_getElem? (i := 34) rfl)) (by decide) ?_
  refine k_isub h (ddX3_readNumber (67, .isub, 1) (List.mem_of_getElem? (i := 35) rfl)) ?_
  refine k_istore_n (i := 3) h (ddX3_readNumber (68, .istore_n 3, 1) (List.mem_of_getElem? (i := 36) rfl)) rfl (by decide) ?_
  exact sX3_readNumber_69 hl hQ h
theorem sX3_readNumber_39 {l : Launch} {X : q_CX} (hl : X.2.1 = l) (hQ : q_QM X) (h : q_OK X yX3_readNumber cX3_readNumber 4 (some .int) rmX3_readNumber (Cond.code yX3_readNumber cX3_readNumber 4 (some .int) :: q_G)) : q_SK X 4 39 (BX3_readNumber_39) := by
  refine k_aload_n (i := 0) h (ddX3_readNumber (39, .aload_n 0, 1) (List.mem_of_getElem? (i := 19) rfl)) rfl ?_
  refine k_getf (ci := 3) (j := 1) (C := RX3) (T := TX3) (N := 4) h rfl (fun w hw => List.mem_cons_of_mem _ (q_inX3 w hw)) (by decide) (List.mem_cons_of_mem _ gw151) (ddX3_readNumber (40, .getfield 19, 3) (List.mem_of_getElem? (i := 20) rfl)) ?_
  refine k_iload_n (i := 2) h (ddX3_readNumber (43, .iload_n 2, 1) (List.mem_of_getElem? (i := 21) rfl)) rfl ?_
  refine k_isub h (ddX3_readNumber (44, .isub, 1) (List.mem_of_getElem? (i := 22) rfl)) ?_
  refine k_iconst (v := 3) h (ddX3_readNumber (45, .iconst 3, 1) (List.mem_of_getElem? (i := 23) rfl)) (by decide) ?_
  refine k_icge h (ddX3_readNumber (46, .if_icmp .ge 23, 3) (List.mem_of_getElem? (i := 24) rfl)) (tgt := 69) (by decide) ?_ ?_
  · exact sX3_readNumber_69 hl hQ h
  · exact sX3_readNumber_49 hl hQ h
theorem sX3_readNumber_25 {l : Launch} {X : q_CX} (hl : X.2.1 = l) (hQ : q_QM X) (h : q_OK X yX3_readNumber cX3_readNumber 4 (some .int) rmX3_readNumber (Cond.code yX3_readNumber cX3_readNumber 4 (some .int) :: q_G)) : q_SK X 4 25 (BX3_readNumber_25) := by
  refine k_aload_n (i := 0) h (ddX3_readNumber (25, .aload_n 0, 1) (List.mem_of_getElem? (i := 13) rfl)) rfl ?_
  refine k_getf (ci := 3) (j := 0) (C := RX3) (T := TX3) (N := 4) h rfl (fun w hw => List.mem_cons_of_mem _ (q_inX3 w hw)) (by decide) (List.mem_cons_of_mem _ gw16) (ddX3_readNumber (26, .getfield 9, 3) (List.mem_of_getElem? (i := 14) rfl)) ?_
  refine k_aload_n (i := 0) h (ddX3_readNumber (29, .aload_n 0, 1) (List.mem_of_getElem? (i := 15) rfl)) rfl ?_
  refine k_getf (ci := 3) (j := 1) (C := RX3) (T := TX3) (N := 4) h rfl (fun w hw => List.mem_cons_of_mem _ (q_inX3 w hw)) (by decide) (List.mem_cons_of_mem _ gw151) (ddX3_readNumber (30, .getfield 19, 3) (List.mem_of_getElem? (i := 16) rfl)) ?_
  refine k_callV h hl (aX7_isFigure l) (ci := 7) (C := RX7) (T := TX7) (N := 2) rfl ⟨rfl, rfl⟩ (n := 1) (by decide +kernel) (q_gV gw218 gw219 gw220 gw5 gw217) ⟨by decide, by decide⟩ (ddX3_readNumber (33, .invokevirtual 121, 3) (List.mem_of_getElem? (i := 17) rfl)) ?_
  refine k_ifeq h (ddX3_readNumber (36, .ifCond .eq 46, 3) (List.mem_of_getElem? (i := 18) rfl)) (tgt := 82) (by decide) ?_ ?_
  · exact k_cut
  · exact sX3_readNumber_39 hl hQ h
theorem sX3_readNumber_11 {l : Launch} {X : q_CX} (hl : X.2.1 = l) (hQ : q_QM X) (h : q_OK X yX3_readNumber cX3_readNumber 4 (some .int) rmX3_readNumber (Cond.code yX3_readNumber cX3_readNumber 4 (some .int) :: q_G)) : q_SK X 4 11 (BX3_readNumber_11) := by
  refine k_aload_n (i := 0) h (ddX3_readNumber (11, .aload_n 0, 1) (List.mem_of_getElem? (i := 7) rfl)) rfl ?_
  refine k_getf (ci := 3) (j := 1) (C := RX3) (T := TX3) (N := 4) h rfl (fun w hw => List.mem_cons_of_mem _ (q_inX3 w hw)) (by decide) (List.mem_cons_of_mem _ gw151) (ddX3_readNumber (12, .getfield 19, 3) (List.mem_of_getElem? (i := 8) rfl)) ?_
  refine k_aload_n (i := 0) h (ddX3_readNumber (15, .aload_n 0, 1) (List.mem_of_getElem? (i := 9) rfl)) rfl ?_
  refine k_getf (ci := 3) (j := 0) (C := RX3) (T := TX3) (N := 4) h rfl (fun w hw => List.mem_cons_of_mem _ (q_inX3 w hw)) (by decide) (List.mem_cons_of_mem _ gw16) (ddX3_readNumber (16, .getfield 9, 3) (List.mem_of_getElem? (i := 10) rfl)) ?_
  refine k_getf (ci := 7) (j := 1) (C := RX7) (T := TX7) (N := 2) h rfl (fun w hw => List.mem_cons_of_mem _ (q_inX7 w hw)) (by decide) (List.mem_cons_of_mem _ gw154) (ddX3_readNumber (19, .getfield 33, 3) (List.mem_of_getElem? (i := 11) rfl)) ?_
  refine k_icge h (ddX3_readNumber (22, .if_icmp .ge 60, 3) (List.mem_of_getElem? (i := 12) rfl)) (tgt := 82) (by decide) ?_ ?_
  · exact k_cut
  · exact sX3_readNumber_25 hl hQ h
theorem sX3_readNumber_120 {l : Launch} {X : q_CX} (hl : X.2.1 = l) (hQ : q_QM X) (h : q_OK X yX3_readNumber cX3_readNumber 4 (some .int) rmX3_readNumber (Cond.code yX3_readNumber cX3_readNumber 4 (some .int) :: q_G)) : q_SK X 4 120 (BX3_readNumber_120) := by
  refine k_iload_n (i := 3) h (ddX3_readNumber (120, .iload_n 3, 1) (List.mem_of_getElem? (i := 66) rfl)) rfl ?_
  exact k_iret h hQ (ddX3_readNumber (121, .ireturn, 1) (List.mem_of_getElem? (i := 67) rfl))
theorem sX3_readNumber_114 {l : Launch} {X : q_CX} (hl : X.2.1 = l) (hQ : q_QM X) (h : q_OK X yX3_readNumber cX3_readNumber 4 (some .int) rmX3_readNumber (Cond.code yX3_readNumber cX3_readNumber 4 (some .int) :: q_G)) : q_SK X 4 114 (BX3_readNumber_114) := by
  refine k_aload_n (i := 0) h (ddX3_readNumber (114, .aload_n 0, 1) (List.mem_of_getElem? (i := 62) rfl)) rfl ?_
  refine k_iconst (v := 2) h (ddX3_readNumber (115, .iconst 2, 1) (List.mem_of_getElem? (i := 63) rfl)) (by decide) ?_
  refine k_iload_n (i := 2) h (ddX3_readNumber (116, .iload_n 2, 1) (List.mem_of_getElem? (i := 64) rfl)) rfl ?_
  refine k_callV h hl (aX3_refuse l) (ci := 3) (C := RX3) (T := TX3) (N := 4) rfl ⟨rfl, rfl⟩ (n := 2) (by decide +kernel) (q_gV gw206 gw207 gw208 gw14 gw205) ⟨by decide, by decide⟩ (ddX3_readNumber (117, .invokevirtual 90, 3) (List.mem_of_getElem? (i := 65) rfl)) ?_
  exact sX3_readNumber_120 hl hQ h
theorem sX3_readNumber_109 {l : Launch} {X : q_CX} (hl : X.2.1 = l) (hQ : q_QM X) (h : q_OK X yX3_readNumber cX3_readNumber 4 (some .int) rmX3_readNumber (Cond.code yX3_readNumber cX3_readNumber 4 (some .int) :: q_G)) : q_SK X 4 109 (BX3_readNumber_109) := by
  refine k_iload_n (i := 3) h (ddX3_readNumber (109, .iload_n 3, 1) (List.mem_of_getElem? (i := 59) rfl)) rfl ?_
  refine k_iload_n (i := 1) h (ddX3_readNumber (110, .iload_n 1, 1) (List.mem_of_getElem? (i := 60) rfl)) rfl ?_
  refine k_icle h (ddX3_readNumber (111, .if_icmp .le 9, 3) (List.mem_of_getElem? (i := 61) rfl)) (tgt := 120) (by decide) ?_ ?_
  · exact sX3_readNumber_120 hl hQ h
  · exact sX3_readNumber_114 hl hQ h
theorem sX3_readNumber_99 {l : Launch} {X : q_CX} (hl : X.2.1 = l) (hQ : q_QM X) (h : q_OK X yX3_readNumber cX3_readNumber 4 (some .int) rmX3_readNumber (Cond.code yX3_readNumber cX3_readNumber 4 (some .int) :: q_G)) : q_SK X 4 99 (BX3_readNumber_99) := by
  refine k_aload_n (i := 0) h (ddX3_readNumber (99, .aload_n 0, 1) (List.mem_of_getElem? (i := 53) rfl)) rfl ?_
  refine k_getf (ci := 3) (j := 1) (C := RX3) (T := TX3) (N := 4) h rfl (fun w hw => List.mem_cons_of_mem _ (q_inX3 w hw)) (by decide) (List.mem_cons_of_mem _ gw151) (ddX3_readNumber (100, .getfield 19, 3) (List.mem_of_getElem? (i := 54) rfl)) ?_
  refine k_iload_n (i := 2) h (ddX3_readNumber (103, .iload_n 2, 1) (List.mem_of_getElem? (i := 55) rfl)) rfl ?_
  refine k_isub h (ddX3_readNumber (104, .isub, 1) (List.mem_of_getElem? (i := 56) rfl)) ?_
  refine k_iconst (v := 3) h (ddX3_readNumber (105, .iconst 3, 1) (List.mem_of_getElem? (i := 57) rfl)) (by decide) ?_
  refine k_icgt h (ddX3_readNumber (106, .if_icmp .gt 8, 3) (List.mem_of_getElem? (i := 58) rfl)) (tgt := 114) (by decide) ?_ ?_
  · exact sX3_readNumber_114 hl hQ h
  · exact sX3_readNumber_109 hl hQ h
theorem sX3_readNumber_90 {l : Launch} {X : q_CX} (hl : X.2.1 = l) (hQ : q_QM X) (h : q_OK X yX3_readNumber cX3_readNumber 4 (some .int) rmX3_readNumber (Cond.code yX3_readNumber cX3_readNumber 4 (some .int) :: q_G)) : q_SK X 4 90 (BX3_readNumber_90) := by
  refine k_aload_n (i := 0) h (ddX3_readNumber (90, .aload_n 0, 1) (List.mem_of_getElem? (i := 48) rfl)) rfl ?_
  refine k_iconst (v := 1) h (ddX3_readNumber (91, .iconst 1, 1) (List.mem_of_getElem? (i := 49) rfl)) (by decide) ?_
  refine k_iload_n (i := 2) h (ddX3_readNumber (92, .iload_n 2, 1) (List.mem_of_getElem? (i := 50) rfl)) rfl ?_
  refine k_callV h hl (aX3_refuse l) (ci := 3) (C := RX3) (T := TX3) (N := 4) rfl ⟨rfl, rfl⟩ (n := 2) (by decide +kernel) (q_gV gw206 gw207 gw208 gw14 gw205) ⟨by decide, by decide⟩ (ddX3_readNumber (93, .invokevirtual 90, 3) (List.mem_of_getElem? (i := 51) rfl)) ?_
  refine k_goto h (ddX3_readNumber (96, .goto 24, 3) (List.mem_of_getElem? (i := 52) rfl)) (tgt := 120) (by decide) ?_
  exact sX3_readNumber_120 hl hQ h
theorem sX3_readNumber_82 {l : Launch} {X : q_CX} (hl : X.2.1 = l) (hQ : q_QM X) (h : q_OK X yX3_readNumber cX3_readNumber 4 (some .int) rmX3_readNumber (Cond.code yX3_readNumber cX3_readNumber 4 (some .int) :: q_G)) : q_SK X 4 82 (BX3_readNumber_82) := by
  refine k_aload_n (i := 0) h (ddX3_readNumber (82, .aload_n 0, 1) (List.mem_of_getElem? (i := 44) rfl)) rfl ?_
  refine k_getf (ci := 3) (j := 1) (C := RX3) (T := TX3) (N := 4) h rfl (fun w hw => List.mem_cons_of_mem _ (q_inX3 w hw)) (by decide) (List.mem_cons_of_mem _ gw151) (ddX3_readNumber (83, .getfield 19, 3) (List.mem_of_getElem? (i := 45) rfl)) ?_
  refine k_iload_n (i := 2) h (ddX3_readNumber (86, .iload_n 2, 1) (List.mem_of_getElem? (i := 46) rfl)) rfl ?_
  refine k_icne h (ddX3_readNumber (87, .if_icmp .ne 12, 3) (List.mem_of_getElem? (i := 47) rfl)) (tgt := 99) (by decide) ?_ ?_
  · exact sX3_readNumber_99 hl hQ h
  · exact sX3_readNumber_90 hl hQ h
theorem aX3_readNumber (l : Launch) (as : List Value) (sh : q_Sh) (m : q_Mm) (R : q_KR) (hw : wX3_readNumber as sh m R) : q_AM l yX3_readNumber (Cond.code yX3_readNumber cX3_readNumber 4 (some .int) :: q_G) rmX3_readNumber as sh m R := by
  refine q_met (code := TX3_readNumber) (by decide) (fun X hl hQ _ h pc => ?_) hw.1 hw.2
  unfold TX3_readNumber
  exact k_at (sX3_readNumber_0 hl hQ h) (k_at (sX3_readNumber_11 hl hQ h) (k_at (sX3_readNumber_82 hl hQ h) (k_no)))
/-! TumblingRock$Rock.size(I)I -/
abbrev dlX4_size : List (Nat × (Instr × Nat)) := [(0, .aload_n 0, 1), (1, .getfield 9, 3), (4, .iload_n 1, 1), (5, .invokestatic 90, 3), (8, .ireturn, 1)]
theorem ddX4_size : ∀ q ∈ dlX4_size, decode cX4_size q.1 = .ok q.2 := by decide +kernel
theorem sX4_size_0 {l : Launch} {X : q_CX} (hl : X.2.1 = l) (hQ : q_QM X) (h : q_OK X yX4_size cX4_size 2 (some .int) rmX4_size (Cond.code yX4_size cX4_size 2 (some .int) :: q_G)) : q_SK X 2 0 (BX4_size_0) := by
  refine k_aload_n (i := 0) h (ddX4_size (0, .aload_n 0, 1) (List.mem_of_getElem? (i := 0) rfl)) rfl ?_
  refine k_getf (ci := 4) (j := 6) (C := RX4) (T := TX4) (N := 14) h rfl (fun w hw => List.mem_cons_of_mem _ (q_inX4 w hw)) (by decide) (List.mem_cons_of_mem _ gw73) (ddX4_size (1, .getfield 9, 3) (List.mem_of_getElem? (i := 1) rfl)) ?_
  refine k_iload_n (i := 1) h (ddX4_size (4, .iload_n 1, 1) (List.mem_of_getElem? (i := 2) rfl)) rfl ?_
  refine k_callN h hl (aX8_at l) ⟨rfl, rfl⟩ (n := 2) (by decide +kernel) (q_gN gw98) (by decide +kernel) (List.mem_cons_of_mem _ gw91) (List.mem_cons_of_mem _ gw99) ⟨by decide, by decide⟩ (ddX4_size (5, .invokestatic 90, 3) (List.mem_of_getElem? (i := 3) rfl)) ?_
  exact k_iret h hQ (ddX4_size (8, .ireturn, 1) (List.mem_of_getElem? (i := 4) rfl))
theorem aX4_size (l : Launch) (as : List Value) (sh : q_Sh) (m : q_Mm) (R : q_KR) (hw : wX4_size as sh m R) : q_AM l yX4_size (Cond.code yX4_size cX4_size 2 (some .int) :: q_G) rmX4_size as sh m R := by
  refine q_met (code := TX4_size) (by decide) (fun X hl hQ _ h pc => ?_) hw.1 hw.2
  unfold TX4_size
  exact k_at (sX4_size_0 hl hQ h) (k_no)
/-! TumblingRock$Rock.addPart(I)V -/
abbrev dlX4_addPart : List (Nat × (Instr × Nat)) := [(0, .aload_n 0, 1), (1, .getfield 42, 3), (4, .iconst 1, 1), (5, .isub, 1), (6, .istore_n 2, 1), (7, .aload_n 0, 1), (8, .iload_n 2, 1), (9, .invokevirtual 59, 3), (12, .istore_n 3, 1), (13, .iload_n 3, 1), (14, .bipush 12, 2), (16, .if_icmp .lt 4, 3), (19, .return_, 1), (20, .aload_n 0, 1), (21, .getfield 18, 3), (24, .iload_n 2, 1), (25, .bipush 12, 2), (27, .imul, 1), (28, .iload_n 3, 1), (29, .iadd, 1), (30, .iload_n 1, 1), (31, .invokestatic 55, 3), (34, .aload_n 0, 1), (35, .getfield 9, 3), (38, .iload_n 2, 1), (39, .iload_n 3, 1), (40, .iconst 1, 1), (41, .iadd, 1), (42, .invokestatic 55, 3), (45, .return_, 1)]
theorem ddX4_addPart : ∀ q ∈ dlX4_addPart, decode cX4_addPart q.1 = .ok q.2 := by decide +kernel
theorem sX4_addPart_20 {l : Launch} {X : q_CX} (hl : X.2.1 = l) (hQ : q_QM X) (h : q_OK X yX4_addPart cX4_addPart 4 none rmX4_addPart (Cond.code yX4_addPart cX4_addPart 4 none :: q_G)) : q_SK X 4 20 (BX4_addPart_20) := by
  refine k_aload_n (i := 0) h (ddX4_addPart (20, .aload_n 0, 1) (List.mem_of_getElem? (i := 13) rfl)) rfl ?_
  refine k_getf (ci := 4) (j := 8) (C := RX4) (T := TX4) (N := 14) h rfl (fun w hw => List.mem_cons_of_mem _ (q_inX4 w hw)) (by decide) (List.mem_cons_of_mem _ gw75) (ddX4_addPart (21, .getfield 18, 3) (List.mem_of_getElem? (i := 14) rfl)) ?_
  refine k_iload_n (i := 2) h (ddX4_addPart (24, .iload_n 2, 1) (List.mem_of_getElem? (i := 15) rfl)) rfl ?_
  refine k_bipush (v := 12) h (ddX4_addPart (25, .bipush 12, 2) (List.mem_of_getElem? (i := 16) rfl)) (by decide) ?_
  refine k_imul h (ddX4_addPart (27, .imul, 1) (List.mem_of_getElem? (i := 17) rfl)) ?_
  refine k_iload_n (i := 3) h (ddX4_addPart (28, .iload_n 3, 1) (List.mem_of_getElem? (i := 18) rfl)) rfl ?_
  refine k_iadd h (ddX4_addPart (29, .iadd, 1) (List.mem_of_getElem? (i := 19) rfl)) ?_
  refine k_iload_n (i := 1) h (ddX4_addPart (30, .iload_n 1, 1) (List.mem_of_getElem? (i := 20) rfl)) rfl ?_
  refine k_callN h hl (aX8_put l) ⟨rfl, rfl⟩ (n := 3) (by decide +kernel) (q_gN gw143) (by decide +kernel) (List.mem_cons_of_mem _ gw91) (List.mem_cons_of_mem _ gw144) ⟨by decide, by decide⟩ (ddX4_addPart (31, .invokestatic 55, 3) (List.mem_of_getElem? (i := 21) rfl)) ?_
  refine k_aload_n (i := 0) h (ddX4_addPart (34, .aload_n 0, 1) (List.mem_of_getElem? (i := 22) rfl)) rfl ?_
  refine k_getf (ci := 4) (j := 6) (C := RX4) (T := TX4) (N := 14) h rfl (fun w hw => List.mem_cons_of_mem _ (q_inX4 w hw)) (by decide) (List.mem_cons_of_mem _ gw73) (ddX4_addPart (35, .getfield 9, 3) (List.mem_of_getElem? (i := 23) rfl)) ?_
  refine k_iload_n (i := 2) h (ddX4_addPart (38, .iload_n 2, 1) (List.mem_of_getElem? (i := 24) rfl)) rfl ?_
  refine k_iload_n (i := 3) h (ddX4_addPart (39, .iload_n 3, 1) (List.mem_of_getElem? (i := 25) rfl)) rfl ?_
  refine k_iconst (v := 1) h (ddX4_addPart (40, .iconst 1, 1) (List.mem_of_getElem? (i := 26) rfl)) (by decide) ?_
  refine k_iadd h (ddX4_addPart (41, .iadd, 1) (List.mem_of_getElem? (i := 27) rfl)) ?_
  refine k_callN h hl (aX8_put l) ⟨rfl, rfl⟩ (n := 3) (by decide +kernel) (q_gN gw143) (by decide +kernel) (List.mem_cons_of_mem _ gw91) (List.mem_cons_of_mem _ gw144) ⟨by decide, by decide⟩ (ddX4_addPart (42, .invokestatic 55, 3) (List.mem_of_getElem? (i := 28) rfl)) ?_
  exact k_vret h hQ (ddX4_addPart (45, .return_, 1) (List.mem_of_getElem? (i := 29) rfl))
theorem sX4_addPart_19 {l : Launch} {X : q_CX} (hl : X.2.1 = l) (hQ : q_QM X) (h : q_OK X yX4_addPart cX4_addPart 4 none rmX4_addPart (Cond.code yX4_addPart cX4_addPart 4 none :: q_G)) : q_SK X 4 19 (BX4_addPart_19) := by
  exact k_vret h hQ (ddX4_addPart (19, .return_, 1) (List.mem_of_getElem? (i := 12) rfl))
theorem sX4_addPart_0 {l : Launch} {X : q_CX} (hl : X.2.1 = l) (hQ : q_QM X) (h : q_OK X yX4_addPart cX4_addPart 4 none rmX4_addPart (Cond.code yX4_addPart cX4_addPart 4 none :: q_G)) : q_SK X 4 0 (BX4_addPart_0) := by
  refine k_aload_n (i := 0) h (ddX4_addPart (0, .aload_n 0, 1) (List.mem_of_getElem? (i := 0) rfl)) rfl ?_
  refine k_getf (ci := 4) (j := 0) (C := RX4) (T := TX4) (N := 14) h rfl (fun w hw => List.mem_cons_of_mem _ (q_inX4 w hw)) (by decide) (List.mem_cons_of_mem _ gw81) (ddX4_addPart (1, .getfield 42, 3) (List.mem_of_getElem? (i := 1) rfl)) ?_
  refine k_iconst (v := 1) h (ddX4_addPart (4, .iconst 1, 1) (List.mem_of_getElem? (i := 2) rfl)) (by decide) ?_
  refine k_isub h (ddX4_addPart (5, .isub, 1) (List.mem_of_getElem? (i := 3) rfl)) ?_
  refine k_istore_n (i := 2) h (ddX4_addPart (6, .istore_n 2, 1) (List.mem_of_getElem? (i := 4) rfl)) rfl (by decide) ?_
  refine k_aload_n (i := 0) h (ddX4_addPart (7, .aload_n 0, 1) (List.mem_of_getElem? (i := 5) rfl)) rfl ?_
  refine k_iload_n (i := 2) h (ddX4_addPart (8, .iload_n 2, 1) (List.mem_of_getElem? (i := 6) rfl)) rfl ?_
  refine k_callV h hl (aX4_size l) (ci := 4) (C := RX4) (T := TX4) (N := 14) rfl ⟨rfl, rfl⟩ (n := 1) (by decide +kernel) (q_gV gw226 gw227 gw228 gw71 gw225) ⟨by decide, by decide⟩ (ddX4_addPart (9, .invokevirtual 59, 3) (List.mem_of_getElem? (i := 7) rfl)) ?_
  refine k_istore_n (i := 3) h (ddX4_addPart (12, .istore_n 3, 1) (List.mem_of_getElem? (i := 8) rfl)) rfl (by decide) ?_
  refine k_iload_n (i := 3) h (ddX4_addPart (13, .iload_n 3, 1) (List.mem_of_getElem? (i := 9) rfl)) rfl ?_
  refine k_bipush (v := 12) h (ddX4_addPart (14, .bipush 12, 2) (List.mem_of_getElem? (i := 10) rfl)) (by decide) ?_
  refine k_iclt h (ddX4_addPart (16, .if_icmp .lt 4, 3) (List.mem_of_getElem? (i := 11) rfl)) (tgt := 20) (by decide) ?_ ?_
  · exact sX4_addPart_20 hl hQ h
  · exact sX4_addPart_19 hl hQ h
theorem aX4_addPart (l : Launch) (as : List Value) (sh : q_Sh) (m : q_Mm) (R : q_KR) (hw : wX4_addPart as sh m R) : q_AM l yX4_addPart (Cond.code yX4_addPart cX4_addPart 4 none :: q_G) rmX4_addPart as sh m R := by
  refine q_met (code := TX4_addPart) (by decide) (fun X hl hQ _ h pc => ?_) hw.1 hw.2
  unfold TX4_addPart
  exact k_at (sX4_addPart_0 hl hQ h) (k_no)
/-! TumblingRock$Reader.readTurning(LTumblingRock$Rock;)V -/
abbrev dlX3_readTurning : List (Nat × (Instr × Nat)) := [(0, .aload_n 1, 1), (1, .invokevirtual 94, 3), (4, .iconst 1, 1), (5, .istore_n 2, 1), (6, .iload_n 2, 1), (7, .bipush 12, 2), (9, .if_icmp .gt 101, 3), (12, .aload_n 0, 1), (13, .getfield 22, 3), (16, .ifCond .ne 94, 3), (19, .aload_n 1, 1), (20, .aload_n 0, 1), (21, .bipush 18, 2), (23, .invokevirtual 97, 3), (26, .bipush 9, 2), (28, .isub, 1), (29, .invokevirtual 100, 3), (32, .aload_n 0, 1), (33, .invokevirtual 30, 3), (36, .aload_n 0, 1), (37, .getfield 9, 3), (40, .aload_n 0, 1), (41, .getfield 19, 3), (44, .invokevirtual 42, 3), (47, .istore_n 3, 1), (48, .iload_n 3, 1), (49, .bipush 59, 2), (51, .if_icmp .ne 19, 3), (54, .iload_n 2, 1), (55, .iconst 1, 1), (56, .if_icmp .le 14, 3), (59, .aload_n 0, 1), (60, .dup, 1), (61, .getfield 19, 3), (64, .iconst 1, 1), (65, .iadd, 1), (66, .putfield 19, 3), (69, .return_, 1), (70, .iload_n 3, 1), (71, .bipush 44, 2), (73, .if_icmp .ne 22, 3), (76, .iload_n 2, 1), (77, .bipush 12, 2), (79, .if_icmp .ge 16, 3), (82, .aload_n 0, 1), (83, .dup, 1), (84, .getfield 19, 3), (87, .iconst 1, 1), (88, .iadd, 1), (89, .putfield 19, 3), (92, .goto 12, 3), (95, .aload_n 0, 1), (96, .iconst 1, 1), (97, .aload_n 0, 1), (98, .getfield 19, 3), (101, .invokevirtual 90, 3), (104, .iinc 2 1, 3), (107, .goto (-101), 3), (110, .return_, 1)]
theorem ddX3_readTurning : ∀ q ∈ dlX3_readTurning, decode cX3_readTurning q.1 = .ok q.2 := by decide +kernel
theorem sX3_readTurning_0 {l : Launch} {X : q_CX} (hl : X.2.1 = l) (hQ : q_QM X) (h : q_OK X yX3_readTurning cX3_readTurning 4 none rmX3_readTurning (Cond.code yX3_readTurning cX3_readTurning 4 none :: q_G)) : q_SK X 4 0 (BX3_readTurning_0) := by
  refine k_aload_n (i := 1) h (ddX3_readTurning (0, .aload_n 1, 1) (List.mem_of_getElem? (i := 0) rfl)) rfl ?_
  refine k_callV h hl (aX4_addTurning l) (ci := 4) (C := RX4) (T := TX4) (N := 14) rfl ⟨rfl, rfl⟩ (n := 0) (by decide +kernel) (q_gV gw214 gw215 gw216 gw71 gw213) ⟨by decide, by decide⟩ (ddX3_readTurning (1, .invokevirtual 94, 3) (List.mem_of_getElem? (i := 1) rfl)) ?_
  refine k_iconst (v := 1) h (ddX3_readTurning (4, .iconst 1, 1) (List.mem_of_getElem? (i := 2) rfl)) (by decide) ?_
  refine k_istore_n (i := 2) h (ddX3_readTurning (5, .istore_n 2, 1) (List.mem_of_getElem? (i := 3) rfl)) rfl (by decide) ?_
  exact k_cut
theorem sX3_readTurning_110 {l : Launch} {X : q_CX} (hl : X.2.1 = l) (hQ : q_QM X) (h : q_OK X yX3_readTurning cX3_readTurning 4 none rmX3_readTurning (Cond.code yX3_readTurning cX3_readTurning 4 none :: q_G)) : q_SK X 4 110 (BX3_readTurning_110) := by
  exact k_vret h hQ (ddX3_readTurning (110, .return_, 1) (List.mem_of_getElem? (i := 58) rfl))
theorem sX3_readTurning_59 {l : Launch} {X : q_CX} (hl : X.2.1 = l) (hQ : q_QM X) (h : q_OK X yX3_readTurning cX3_readTurning 4 none rmX3_readTurning (Cond.code yX3_readTurning cX3_readTurning 4 none :: q_G)) : q_SK X 4 59 (BX3_readTurning_59) := by
  refine k_aload_n (i := 0) h (ddX3_readTurning (59, .aload_n 0, 1) (List.mem_of_getElem? (i := 31) rfl)) rfl ?_
  refine k_dup h (ddX3_readTurning (60, .dup, 1) (List.mem_of_getElem? (i := 32) rfl)) ?_
  refine k_getf (ci := 3) (j := 1) (C := RX3) (T := TX3) (N := 4) h rfl (fun w hw => List.mem_cons_of_mem _ (q_inX3 w hw)) (by decide) (List.mem_cons_of_mem _ gw151) (ddX3_readTurning (61, .getfield 19, 3) (List.mem_of_getElem? (i := 33) rfl)) ?_
  refine k_iconst (v := 1) h (ddX3_readTurning (64, .iconst 1, 1) (List.mem_of_getElem? (i := 34) rfl)) (by decide) ?_
  refine k_iadd h (ddX3_readTurning (65, .iadd, 1) (List.mem_of_getElem? (i := 35) rfl)) ?_
  refine k_putf (ci := 3) (j := 1) (C := RX3) (T := TX3) (N := 4) h rfl (fun w hw => List.mem_cons_of_mem _ (q_inX3 w hw)) (by decide) (List.mem_cons_of_mem _ gw151) tyX3 tyX3_ok nmX3 (by decide +kernel) (by decide +kernel) (ddX3_readTurning (66, .putfield 19, 3) (List.mem_of_getElem? (i := 36) rfl)) ?_
  exact k_vret h hQ (ddX3_readTurning (69, .return_, 1) (List.mem_of_getElem? (i := 37) rfl))
theorem sX3_readTurning_54 {l : Launch} {X : q_CX} (hl : X.2.1 = l) (hQ : q_QM X) (h : q_OK X yX3_readTurning cX3_readTurning 4 none rmX3_readTurning (Cond.code yX3_readTurning cX3_readTurning 4 none :: q_G)) : q_SK X 4 54 (BX3_readTurning_54) := by
  refine k_iload_n (i := 2) h (ddX3_readTurning (54, .iload_n 2, 1) (List.mem_of_getElem? (i := 28) rfl)) rfl ?_
  refine k_iconst (v := 1) h (ddX3_readTurning (55, .iconst 1, 1) (List.mem_of_getElem? (i := 29) rfl)) (by decide) ?_
  refine k_icle h (ddX3_readTurning (56, .if_icmp .le 14, 3) (List.mem_of_getElem? (i := 30) rfl)) (tgt := 70) (by decide) ?_ ?_
  · exact k_cut
  · exact sX3_readTurning_59 hl hQ h
theorem sX3_readTurning_19 {l : Launch} {X : q_CX} (hl : X.2.1 = l) (hQ : q_QM X) (h : q_OK X yX3_readTurning cX3_readTurning 4 none rmX3_readTurning (Cond.code yX3_readTurning cX3_readTurning 4 none :: q_G)) : q_SK X 4 19 (BX3_readTurning_19) := by
  refine k_aload_n (i := 1) h (ddX3_readTurning (19, .aload_n 1, 1) (List.mem_of_getElem? (i := 10) rfl)) rfl ?_
  refine k_aload_n (i := 0) h (ddX3_readTurning (20, .aload_n 0, 1) (List.mem_of_getElem? (i := 11) rfl)) rfl ?_
  refine k_bipush (v := 18) h (ddX3_readTurning (21, .bipush 18, 2) (List.mem_of_getElem? (i := 12) rfl)) (by decide) ?_
  refine k_callV h hl (aX3_readNumber l) (ci := 3) (C := RX3) (T := TX3) (N := 4) rfl ⟨rfl, rfl⟩ (n := 1) (by decide +kernel) (q_gV gw222 gw223 gw224 gw14 gw221) ⟨by decide, by decide⟩ (ddX3_readTurning (23, .invokevirtual 97, 3) (List.mem_of_getElem? (i := 13) rfl)) ?_
  refine k_bipush (v := 9) h (ddX3_readTurning (26, .bipush 9, 2) (List.mem_of_getElem? (i := 14) rfl)) (by decide) ?_
  refine k_isub h (ddX3_readTurning (28, .isub, 1) (List.mem_of_getElem? (i := 15) rfl)) ?_
  refine k_callV h hl (aX4_addPart l) (ci := 4) (C := RX4) (T := TX4) (N := 14) rfl ⟨rfl, rfl⟩ (n := 1) (by decide +kernel) (q_gV gw230 gw231 gw232 gw71 gw229) ⟨by decide, by decide⟩ (ddX3_readTurning (29, .invokevirtual 100, 3) (List.mem_of_getElem? (i := 16) rfl)) ?_
  refine k_aload_n (i := 0) h (ddX3_readTurning (32, .aload_n 0, 1) (List.mem_of_getElem? (i := 17) rfl)) rfl ?_
  refine k_callV h hl (aX3_passBlanks l) (ci := 3) (C := RX3) (T := TX3) (N := 4) rfl ⟨rfl, rfl⟩ (n := 0) (by decide +kernel) (q_gV gw160 gw161 gw162 gw14 gw159) ⟨by decide, by decide⟩ (ddX3_readTurning (33, .invokevirtual 30, 3) (List.mem_of_getElem? (i := 18) rfl)) ?_
  refine k_aload_n (i := 0) h (ddX3_readTurning (36, .aload_n 0, 1) (List.mem_of_getElem? (i := 19) rfl)) rfl ?_
  refine k_getf (ci := 3) (j := 0) (C := RX3) (T := TX3) (N := 4) h rfl (fun w hw => List.mem_cons_of_mem _ (q_inX3 w hw)) (by decide) (List.mem_cons_of_mem _ gw16) (ddX3_readTurning (37, .getfield 9, 3) (List.mem_of_getElem? (i := 20) rfl)) ?_
  refine k_aload_n (i := 0) h (ddX3_readTurning (40, .aload_n 0, 1) (List.mem_of_getElem? (i := 21) rfl)) rfl ?_
  refine k_getf (ci := 3) (j := 1) (C := RX3) (T := TX3) (N := 4) h rfl (fun w hw => List.mem_cons_of_mem _ (q_inX3 w hw)) (by decide) (List.mem_cons_of_mem _ gw151) (ddX3_readTurning (41, .getfield 19, 3) (List.mem_of_getElem? (i := 22) rfl)) ?_
  refine k_callV h hl (aX7_byteAt l) (ci := 7) (C := RX7) (T := TX7) (N := 2) rfl ⟨rfl, rfl⟩ (n := 1) (by decide +kernel) (q_gV gw156 gw157 gw158 gw5 gw155) ⟨by decide, by decide⟩ (ddX3_readTurning (44, .invokevirtual 42, 3) (List.mem_of_getElem? (i := 23) rfl)) ?_
  refine k_istore_n (i := 3) h (ddX3_readTurning (47, .istore_n 3, 1) (List.mem_of_getElem? (i := 24) rfl)) rfl (by decide) ?_
  refine k_iload_n (i := 3) h (ddX3_readTurning (48, .iload_n 3, 1) (List.mem_of_getElem? (i := 25) rfl)) rfl ?_
  refine k_bipush (v := 59) h (ddX3_readTurning (49, .bipush 59, 2) (List.mem_of_getElem? (i := 26) rfl)) (by decide) ?_
  refine k_icne h (ddX3_readTurning (51, .if_icmp .ne 19, 3) (List.mem_of_getElem? (i := 27) rfl)) (tgt := 70) (by decide) ?_ ?_
  · exact k_cut
  · exact sX3_readTurning_54 hl hQ h
theorem sX3_readTurning_12 {l : Launch} {X : q_CX} (hl : X.2.1 = l) (hQ : q_QM X) (h : q_OK X yX3_readTurning cX3_readTurning 4 none rmX3_readTurning (Cond.code yX3_readTurning cX3_readTurning 4 none :: q_G)) : q_SK X 4 12 (BX3_readTurning_12) := by
  refine k_aload_n (i := 0) h (ddX3_readTurning (12, .aload_n 0, 1) (List.mem_of_getElem? (i := 7) rfl)) rfl ?_
  refine k_getf (ci := 3) (j := 2) (C := RX3) (T := TX3) (N := 4) h rfl (fun w hw => List.mem_cons_of_mem _ (q_inX3 w hw)) (by decide) (List.mem_cons_of_mem _ gw152) (ddX3_readTurning (13, .getfield 22, 3) (List.mem_of_getElem? (i := 8) rfl)) ?_
  refine k_ifne h (ddX3_readTurning (16, .ifCond .ne 94, 3) (List.mem_of_getElem? (i := 9) rfl)) (tgt := 110) (by decide) ?_ ?_
  · exact sX3_readTurning_110 hl hQ h
  · exact sX3_readTurning_19 hl hQ h
theorem sX3_readTurning_6 {l : Launch} {X : q_CX} (hl : X.2.1 = l) (hQ : q_QM X) (h : q_OK X yX3_readTurning cX3_readTurning 4 none rmX3_readTurning (Cond.code yX3_readTurning cX3_readTurning 4 none :: q_G)) : q_SK X 4 6 (BX3_readTurning_6) := by
  refine k_iload_n (i := 2) h (ddX3_readTurning (6, .iload_n 2, 1) (List.mem_of_getElem? (i := 4) rfl)) rfl ?_
  refine k_bipush (v := 12) h (ddX3_readTurning (7, .bipush 12, 2) (List.mem_of_getElem? (i := 5) rfl)) (by decide) ?_
  refine k_icgt h (ddX3_readTurning (9, .if_icmp .gt 101, 3) (List.mem_of_getElem? (i := 6) rfl)) (tgt := 110) (by decide) ?_ ?_
  · exact sX3_readTurning_110 hl hQ h
  · exact sX3_readTurning_12 hl hQ h
theorem sX3_readTurning_104 {l : Launch} {X : q_CX} (hl : X.2.1 = l) (hQ : q_QM X) (h : q_OK X yX3_readTurning cX3_readTurning 4 none rmX3_readTurning (Cond.code yX3_readTurning cX3_readTurning 4 none :: q_G)) : q_SK X 4 104 (BX3_readTurning_104) := by
  refine k_iinc (d := 1) h (ddX3_readTurning (104, .iinc 2 1, 3) (List.mem_of_getElem? (i := 56) rfl)) (by decide) (by decide) ?_
  refine k_goto h (ddX3_readTurning (107, .goto (-101), 3) (List.mem_of_getElem? (i := 57) rfl)) (tgt := 6) (by decide) ?_
  exact k_cut
theorem sX3_readTurning_95 {l : Launch} {X : q_CX} (hl : X.2.1 = l) (hQ : q_QM X) (h : q_OK X yX3_readTurning cX3_readTurning 4 none rmX3_readTurning (Cond.code yX3_readTurning cX3_readTurning 4 none :: q_G)) : q_SK X 4 95 (BX3_readTurning_95) := by
  refine k_aload_n (i := 0) h (ddX3_readTurning (95, .aload_n 0, 1) (List.mem_of_getElem? (i := 51) rfl)) rfl ?_
  refine k_iconst (v := 1) h (ddX3_readTurning (96, .iconst 1, 1) (List.mem_of_getElem? (i := 52) rfl)) (by decide) ?_
  refine k_aload_n (i := 0) h (ddX3_readTurning (97, .aload_n 0, 1) (List.mem_of_getElem? (i := 53) rfl)) rfl ?_
  refine k_getf (ci := 3) (j := 1) (C := RX3) (T := TX3) (N := 4) h rfl (fun w hw => List.mem_cons_of_mem _ (q_inX3 w hw)) (by decide) (List.mem_cons_of_mem _ gw151) (ddX3_readTurning (98, .getfield 19, 3) (List.mem_of_getElem? (i := 54) rfl)) ?_
  refine k_callV h hl (aX3_refuse l) (ci := 3) (C := RX3) (T := TX3) (N := 4) rfl ⟨rfl, rfl⟩ (n := 2) (by decide +kernel) (q_gV gw206 gw207 gw208 gw14 gw205) ⟨by decide, by decide⟩ (ddX3_readTurning (101, .invokevirtual 90, 3) (List.mem_of_getElem? (i := 55) rfl)) ?_
  exact sX3_readTurning_104 hl hQ h
theorem sX3_readTurning_82 {l : Launch} {X : q_CX} (hl : X.2.1 = l) (hQ : q_QM X) (h : q_OK X yX3_readTurning cX3_readTurning 4 none rmX3_readTurning (Cond.code yX3_readTurning cX3_readTurning 4 none :: q_G)) : q_SK X 4 82 (BX3_readTurning_82) := by
  refine k_aload_n (i := 0) h (ddX3_readTurning (82, .aload_n 0, 1) (List.mem_of_getElem? (i := 44) rfl)) rfl ?_
  refine k_dup h (ddX3_readTurning (83, .dup, 1) (List.mem_of_getElem? (i := 45) rfl)) ?_
  refine k_getf (ci := 3) (j := 1) (C := RX3) (T := TX3) (N := 4) h rfl (fun w hw => List.mem_cons_of_mem _ (q_inX3 w hw)) (by decide) (List.mem_cons_of_mem _ gw151) (ddX3_readTurning (84, .getfield 19, 3) (List.mem_of_getElem? (i := 46) rfl)) ?_
  refine k_iconst (v := 1) h (ddX3_readTurning (87, .iconst 1, 1) (List.mem_of_getElem? (i := 47) rfl)) (by decide) ?_
  refine k_iadd h (ddX3_readTurning (88, .iadd, 1) (List.mem_of_getElem? (i := 48) rfl)) ?_
  refine k_putf (ci := 3) (j := 1) (C := RX3) (T := TX3) (N := 4) h rfl (fun w hw => List.mem_cons_of_mem _ (q_inX3 w hw)) (by decide) (List.mem_cons_of_mem _ gw151) tyX3 tyX3_ok nmX3 (by decide +kernel) (by decide +kernel) (ddX3_readTurning (89, .putfield 19, 3) (List.mem_of_getElem? (i := 49) rfl)) ?_
  refine k_goto h (ddX3_readTurning (92, .goto 12, 3) (List.mem_of_getElem? (i := 50) rfl)) (tgt := 104) (by decide) ?_
  exact sX3_readTurning_104 hl hQ h
theorem sX3_readTurning_76 {l : Launch} {X : q_CX} (hl : X.2.1 = l) (hQ : q_QM X) (h : q_OK X yX3_readTurning cX3_readTurning 4 none rmX3_readTurning (Cond.code yX3_readTurning cX3_readTurning 4 none :: q_G)) : q_SK X 4 76 (BX3_readTurning_76) := by
  refine k_iload_n (i := 2) h (ddX3_readTurning (76, .iload_n 2, 1) (List.mem_of_getElem? (i := 41) rfl)) rfl ?_
  refine k_bipush (v := 12) h (ddX3_readTurning (77, .bipush 12, 2) (List.mem_of_getElem? (i := 42) rfl)) (by decide) ?_
  refine k_icge h (ddX3_readTurning (79, .if_icmp .ge 16, 3) (List.mem_of_getElem? (i := 43) rfl)) (tgt := 95) (by decide) ?_ ?_
  · exact sX3_readTurning_95 hl hQ h
  · exact sX3_readTurning_82 hl hQ h
theorem sX3_readTurning_70 {l : Launch} {X : q_CX} (hl : X.2.1 = l) (hQ : q_QM X) (h : q_OK X yX3_readTurning cX3_readTurning 4 none rmX3_readTurning (Cond.code yX3_readTurning cX3_readTurning 4 none :: q_G)) : q_SK X 4 70 (BX3_readTurning_70) := by
  refine k_iload_n (i := 3) h (ddX3_readTurning (70, .iload_n 3, 1) (List.mem_of_getElem? (i := 38) rfl)) rfl ?_
  refine k_bipush (v := 44) h (ddX3_readTurning (71, .bipush 44, 2) (List.mem_of_getElem? (i := 39) rfl)) (by decide) ?_
  refine k_icne h (ddX3_readTurning (73, .if_icmp .ne 22, 3) (List.mem_of_getElem? (i := 40) rfl)) (tgt := 95) (by decide) ?_ ?_
  · exact sX3_readTurning_95 hl hQ h
  · exact sX3_readTurning_76 hl hQ h
theorem aX3_readTurning (l : Launch) (as : List Value) (sh : q_Sh) (m : q_Mm) (R : q_KR) (hw : wX3_readTurning as sh m R) : q_AM l yX3_readTurning (Cond.code yX3_readTurning cX3_readTurning 4 none :: q_G) rmX3_readTurning as sh m R := by
  refine q_met (code := TX3_readTurning) (by decide) (fun X hl hQ _ h pc => ?_) hw.1 hw.2
  unfold TX3_readTurning
  exact k_at (sX3_readTurning_0 hl hQ h) (k_at (sX3_readTurning_6 hl hQ h) (k_at (sX3_readTurning_70 hl hQ h) (k_no)))
/-! TumblingRock$Reader.readEnd()V -/
abbrev dlX3_readEnd : List (Nat × (Instr × Nat)) := [(0, .aload_n 0, 1), (1, .invokevirtual 30, 3), (4, .aload_n 0, 1), (5, .getfield 9, 3), (8, .aload_n 0, 1), (9, .getfield 19, 3), (12, .invokevirtual 42, 3), (15, .bipush 59, 2), (17, .if_icmp .ne 16, 3), (20, .aload_n 0, 1), (21, .dup, 1), (22, .getfield 19, 3), (25, .iconst 1, 1), (26, .iadd, 1), (27, .putfield 19, 3), (30, .goto 12, 3), (33, .aload_n 0, 1), (34, .iconst 1, 1), (35, .aload_n 0, 1), (36, .getfield 19, 3), (39, .invokevirtual 90, 3), (42, .return_, 1)]
theorem ddX3_readEnd : ∀ q ∈ dlX3_readEnd, decode cX3_readEnd q.1 = .ok q.2 := by decide +kernel
theorem sX3_readEnd_42 {l : Launch} {X : q_CX} (hl : X.2.1 = l) (hQ : q_QM X) (h : q_OK X yX3_readEnd cX3_readEnd 1 none rmX3_readEnd (Cond.code yX3_readEnd cX3_readEnd 1 none :: q_G)) : q_SK X 1 42 (BX3_readEnd_42) := by
  exact k_vret h hQ (ddX3_readEnd (42, .return_, 1) (List.mem_of_getElem? (i := 21) rfl))
theorem sX3_readEnd_33 {l : Launch} {X : q_CX} (hl : X.2.1 = l) (hQ : q_QM X) (h : q_OK X yX3_readEnd cX3_readEnd 1 none rmX3_readEnd (Cond.code yX3_readEnd cX3_readEnd 1 none :: q_G)) : q_SK X 1 33 (BX3_readEnd_33) := by
  refine k_aload_n (i := 0) h (ddX3_readEnd (33, .aload_n 0, 1) (List.mem_of_getElem? (i := 16) rfl)) rfl ?_
  refine k_iconst (v := 1) h (ddX3_readEnd (34, .iconst 1, 1) (List.mem_of_getElem? (i := 17) rfl)) (by decide) ?_
  refine k_aload_n (i := 0) h (ddX3_readEnd (35, .aload_n 0, 1) (List.mem_of_getElem? (i := 18) rfl)) rfl ?_
  refine k_getf (ci := 3) (j := 1) (C := RX3) (T := TX3) (N := 4) h rfl (fun w hw => List.mem_cons_of_mem _ (q_inX3 w hw)) (by decide) (List.mem_cons_of_mem _ gw151) (ddX3_readEnd (36, .getfield 19, 3) (List.mem_of_getElem? (i := 19) rfl)) ?_
  refine k_callV h hl (aX3_refuse l) (ci := 3) (C := RX3) (T := TX3) (N := 4) rfl ⟨rfl, rfl⟩ (n := 2) (by decide +kernel) (q_gV gw206 gw207 gw208 gw14 gw205) ⟨by decide, by decide⟩ (ddX3_readEnd (39, .invokevirtual 90, 3) (List.mem_of_getElem? (i := 20) rfl)) ?_
  exact sX3_readEnd_42 hl hQ h
theorem sX3_readEnd_20 {l : Launch} {X : q_CX} (hl : X.2.1 = l) (hQ : q_QM X) (h : q_OK X yX3_readEnd cX3_readEnd 1 none rmX3_readEnd (Cond.code yX3_readEnd cX3_readEnd 1 none :: q_G)) : q_SK X 1 20 (BX3_readEnd_20) := by
  refine k_aload_n (i := 0) h (ddX3_readEnd (20, .aload_n 0, 1) (List.mem_of_getElem? (i := 9) rfl)) rfl ?_
  refine k_dup h (ddX3_readEnd (21, .dup, 1) (List.mem_of_getElem? (i := 10) rfl)) ?_
  refine k_getf (ci := 3) (j := 1) (C := RX3) (T := TX3) (N := 4) h rfl (fun w hw => List.mem_cons_of_mem _ (q_inX3 w hw)) (by decide) (List.mem_cons_of_mem _ gw151) (ddX3_readEnd (22, .getfield 19, 3) (List.mem_of_getElem? (i := 11) rfl)) ?_
  refine k_iconst (v := 1) h (ddX3_readEnd (25, .iconst 1, 1) (List.mem_of_getElem? (i := 12) rfl)) (by decide) ?_
  refine k_iadd h (ddX3_readEnd (26, .iadd, 1) (List.mem_of_getElem? (i := 13) rfl)) ?_
  refine k_putf (ci := 3) (j := 1) (C := RX3) (T := TX3) (N := 4) h rfl (fun w hw => List.mem_cons_of_mem _ (q_inX3 w hw)) (by decide) (List.mem_cons_of_mem _ gw151) tyX3 tyX3_ok nmX3 (by decide +kernel) (by decide +kernel) (ddX3_readEnd (27, .putfield 19, 3) (List.mem_of_getElem? (i := 14) rfl)) ?_
  refine k_goto h (ddX3_readEnd (30, .goto 12, 3) (List.mem_of_getElem? (i := 15) rfl)) (tgt := 42) (by decide) ?_
  exact sX3_readEnd_42 hl hQ h
theorem sX3_readEnd_0 {l : Launch} {X : q_CX} (hl : X.2.1 = l) (hQ : q_QM X) (h : q_OK X yX3_readEnd cX3_readEnd 1 none rmX3_readEnd (Cond.code yX3_readEnd cX3_readEnd 1 none :: q_G)) : q_SK X 1 0 (BX3_readEnd_0) := by
  refine k_aload_n (i := 0) h (ddX3_readEnd (0, .aload_n 0, 1) (List.mem_of_getElem? (i := 0) rfl)) rfl ?_
  refine k_callV h hl (aX3_passBlanks l) (ci := 3) (C := RX3) (T := TX3) (N := 4) rfl ⟨rfl, rfl⟩ (n := 0) (by decide +kernel) (q_gV gw160 gw161 gw162 gw14 gw159) ⟨by decide, by decide⟩ (ddX3_readEnd (1, .invokevirtual 30, 3) (List.mem_of_getElem? (i := 1) rfl)) ?_
  refine k_aload_n (i := 0) h (ddX3_readEnd (4, .aload_n 0, 1) (List.mem_of_getElem? (i := 2) rfl)) rfl ?_
  refine k_getf (ci := 3) (j := 0) (C := RX3) (T := TX3) (N := 4) h rfl (fun w hw => List.mem_cons_of_mem _ (q_inX3 w hw)) (by decide) (List.mem_cons_of_mem _ gw16) (ddX3_readEnd (5, .getfield 9, 3) (List.mem_of_getElem? (i := 3) rfl)) ?_
  refine k_aload_n (i := 0) h (ddX3_readEnd (8, .aload_n 0, 1) (List.mem_of_getElem? (i := 4) rfl)) rfl ?_
  refine k_getf (ci := 3) (j := 1) (C := RX3) (T := TX3) (N := 4) h rfl (fun w hw => List.mem_cons_of_mem _ (q_inX3 w hw)) (by decide) (List.mem_cons_of_mem _ gw151) (ddX3_readEnd (9, .getfield 19, 3) (List.mem_of_getElem? (i := 5) rfl)) ?_
  refine k_callV h hl (aX7_byteAt l) (ci := 7) (C := RX7) (T := TX7) (N := 2) rfl ⟨rfl, rfl⟩ (n := 1) (by decide +kernel) (q_gV gw156 gw157 gw158 gw5 gw155) ⟨by decide, by decide⟩ (ddX3_readEnd (12, .invokevirtual 42, 3) (List.mem_of_getElem? (i := 6) rfl)) ?_
  refine k_bipush (v := 59) h (ddX3_readEnd (15, .bipush 59, 2) (List.mem_of_getElem? (i := 7) rfl)) (by decide) ?_
  refine k_icne h (ddX3_readEnd (17, .if_icmp .ne 16, 3) (List.mem_of_getElem? (i := 8) rfl)) (tgt := 33) (by decide) ?_ ?_
  · exact sX3_readEnd_33 hl hQ h
  · exact sX3_readEnd_20 hl hQ h
theorem aX3_readEnd (l : Launch) (as : List Value) (sh : q_Sh) (m : q_Mm) (R : q_KR) (hw : wX3_readEnd as sh m R) : q_AM l yX3_readEnd (Cond.code yX3_readEnd cX3_readEnd 1 none :: q_G) rmX3_readEnd as sh m R := by
  refine q_met (code := TX3_readEnd) (by decide) (fun X hl hQ _ h pc => ?_) hw.1 hw.2
  unfold TX3_readEnd
  exact k_at (sX3_readEnd_0 hl hQ h) (k_no)
/-! TumblingRock$Rock.addPlace(III)V -/
abbrev dlX4_addPlace : List (Nat × (Instr × Nat)) := [(0, .aload_n 0, 1), (1, .getfield 21, 3), (4, .aload_n 0, 1), (5, .getfield 46, 3), (8, .iconst 3, 1), (9, .imul, 1), (10, .iload_n 1, 1), (11, .invokestatic 55, 3), (14, .aload_n 0, 1), (15, .getfield 21, 3), (18, .aload_n 0, 1), (19, .getfield 46, 3), (22, .iconst 3, 1), (23, .imul, 1), (24, .iconst 1, 1), (25, .iadd, 1), (26, .iload_n 2, 1), (27, .invokestatic 55, 3), (30, .aload_n 0, 1), (31, .getfield 21, 3), (34, .aload_n 0, 1), (35, .getfield 46, 3), (38, .iconst 3, 1), (39, .imul, 1), (40, .iconst 2, 1), (41, .iadd, 1), (42, .iload_n 3, 1), (43, .invokestatic 55, 3), (46, .aload_n 0, 1), (47, .dup, 1), (48, .getfield 46, 3), (51, .iconst 1, 1), (52, .iadd, 1), (53, .putfield 46, 3), (56, .return_, 1)]
theorem ddX4_addPlace : ∀ q ∈ dlX4_addPlace, decode cX4_addPlace q.1 = .ok q.2 := by decide +kernel
theorem sX4_addPlace_0 {l : Launch} {X : q_CX} (hl : X.2.1 = l) (hQ : q_QM X) (h : q_OK X yX4_addPlace cX4_addPlace 4 none rmX4_addPlace (Cond.code yX4_addPlace cX4_addPlace 4 none :: q_G)) : q_SK X 4 0 (BX4_addPlace_0) := by
  refine k_aload_n (i := 0) h (ddX4_addPlace (0, .aload_n 0, 1) (List.mem_of_getElem? (i := 0) rfl)) rfl ?_
  refine k_getf (ci := 4) (j := 9) (C := RX4) (T := TX4) (N := 14) h rfl (fun w hw => List.mem_cons_of_mem _ (q_inX4 w hw)) (by decide) (List.mem_cons_of_mem _ gw76) (ddX4_addPlace (1, .getfield 21, 3) (List.mem_of_getElem? (i := 1) rfl)) ?_
  refine k_aload_n (i := 0) h (ddX4_addPlace (4, .aload_n 0, 1) (List.mem_of_getElem? (i := 2) rfl)) rfl ?_
  refine k_getf (ci := 4) (j := 1) (C := RX4) (T := TX4) (N := 14) h rfl (fun w hw => List.mem_cons_of_mem _ (q_inX4 w hw)) (by decide) (List.mem_cons_of_mem _ gw82) (ddX4_addPlace (5, .getfield 46, 3) (List.mem_of_getElem? (i := 3) rfl)) ?_
  refine k_iconst (v := 3) h (ddX4_addPlace (8, .iconst 3, 1) (List.mem_of_getElem? (i := 4) rfl)) (by decide) ?_
  refine k_imul h (ddX4_addPlace (9, .imul, 1) (List.mem_of_getElem? (i := 5) rfl)) ?_
  refine k_iload_n (i := 1) h (ddX4_addPlace (10, .iload_n 1, 1) (List.mem_of_getElem? (i := 6) rfl)) rfl ?_
  refine k_callN h hl (aX8_put l) ⟨rfl, rfl⟩ (n := 3) (by decide +kernel) (q_gN gw143) (by decide +kernel) (List.mem_cons_of_mem _ gw91) (List.mem_cons_of_mem _ gw144) ⟨by decide, by decide⟩ (ddX4_addPlace (11, .invokestatic 55, 3) (List.mem_of_getElem? (i := 7) rfl)) ?_
  refine k_aload_n (i := 0) h (ddX4_addPlace (14, .aload_n 0, 1) (List.mem_of_getElem? (i := 8) rfl)) rfl ?_
  refine k_getf (ci := 4) (j := 9) (C := RX4) (T := TX4) (N := 14) h rfl (fun w hw => List.mem_cons_of_mem _ (q_inX4 w hw)) (by decide) (List.mem_cons_of_mem _ gw76) (ddX4_addPlace (15, .getfield 21, 3) (List.mem_of_getElem? (i := 9) rfl)) ?_
  refine k_aload_n (i := 0) h (ddX4_addPlace (18, .aload_n 0, 1) (List.mem_of_getElem? (i := 10) rfl)) rfl ?_
  refine k_getf (ci := 4) (j := 1) (C := RX4) (T := TX4) (N := 14) h rfl (fun w hw => List.mem_cons_of_mem _ (q_inX4 w hw)) (by decide) (List.mem_cons_of_mem _ gw82) (ddX4_addPlace (19, .getfield 46, 3) (List.mem_of_getElem? (i := 11) rfl)) ?_
  refine k_iconst (v := 3) h (ddX4_addPlace (22, .iconst 3, 1) (List.mem_of_getElem? (i := 12) rfl)) (by decide) ?_
  refine k_imul h (ddX4_addPlace (23, .imul, 1) (List.mem_of_getElem? (i := 13) rfl)) ?_
  refine k_iconst (v := 1) h (ddX4_addPlace (24, .iconst 1, 1) (List.mem_of_getElem? (i := 14) rfl)) (by decide) ?_
  refine k_iadd h (ddX4_addPlace (25, .iadd, 1) (List.mem_of_getElem? (i := 15) rfl)) ?_
  refine k_iload_n (i := 2) h (ddX4_addPlace (26, .iload_n 2, 1) (List.mem_of_getElem? (i := 16) rfl)) rfl ?_
  refine k_callN h hl (aX8_put l) ⟨rfl, rfl⟩ (n := 3) (by decide +kernel) (q_gN gw143) (by decide +kernel) (List.mem_cons_of_mem _ gw91) (List.mem_cons_of_mem _ gw144) ⟨by decide, by decide⟩ (ddX4_addPlace (27, .invokestatic 55, 3) (List.mem_of_getElem? (i := 17) rfl)) ?_
  refine k_aload_n (i := 0) h (ddX4_addPlace (30, .aload_n 0, 1) (List.mem_of_getElem? (i := 18) rfl)) rfl ?_
  refine k_getf (ci := 4) (j := 9) (C := RX4) (T := TX4) (N := 14) h rfl (fun w hw => List.mem_cons_of_mem _ (q_inX4 w hw)) (by decide) (List.mem_cons_of_mem _ gw76) (ddX4_addPlace (31, .getfield 21, 3) (List.mem_of_getElem? (i := 19) rfl)) ?_
  refine k_aload_n (i := 0) h (ddX4_addPlace (34, .aload_n 0, 1) (List.mem_of_getElem? (i := 20) rfl)) rfl ?_
  refine k_getf (ci := 4) (j := 1) (C := RX4) (T := TX4) (N := 14) h rfl (fun w hw => List.mem_cons_of_mem _ (q_inX4 w hw)) (by decide) (List.mem_cons_of_mem _ gw82) (ddX4_addPlace (35, .getfield 46, 3) (List.mem_of_getElem? (i := 21) rfl)) ?_
  refine k_iconst (v := 3) h (ddX4_addPlace (38, .iconst 3, 1) (List.mem_of_getElem? (i := 22) rfl)) (by decide) ?_
  refine k_imul h (ddX4_addPlace (39, .imul, 1) (List.mem_of_getElem? (i := 23) rfl)) ?_
  refine k_iconst (v := 2) h (ddX4_addPlace (40, .iconst 2, 1) (List.mem_of_getElem? (i := 24) rfl)) (by decide) ?_
  refine k_iadd h (ddX4_addPlace (41, .iadd, 1) (List.mem_of_getElem? (i := 25) rfl)) ?_
  refine k_iload_n (i := 3) h (ddX4_addPlace (42, .iload_n 3, 1) (List.mem_of_getElem? (i := 26) rfl)) rfl ?_
  refine k_callN h hl (aX8_put l) ⟨rfl, rfl⟩ (n := 3) (by decide +kernel) (q_gN gw143) (by decide +kernel) (List.mem_cons_of_mem _ gw91) (List.mem_cons_of_mem _ gw144) ⟨by decide, by decide⟩ (ddX4_addPlace (43, .invokestatic 55, 3) (List.mem_of_getElem? (i := 27) rfl)) ?_
  refine k_aload_n (i := 0) h (ddX4_addPlace (46, .aload_n 0, 1) (List.mem_of_getElem? (i := 28) rfl)) rfl ?_
  refine k_dup h (ddX4_addPlace (47, .dup, 1) (List.mem_of_getElem? (i := 29) rfl)) ?_
  refine k_getf (ci := 4) (j := 1) (C := RX4) (T := TX4) (N := 14) h rfl (fun w hw => List.mem_cons_of_mem _ (q_inX4 w hw)) (by decide) (List.mem_cons_of_mem _ gw82) (ddX4_addPlace (48, .getfield 46, 3) (List.mem_of_getElem? (i := 30) rfl)) ?_
  refine k_iconst (v := 1) h (ddX4_addPlace (51, .iconst 1, 1) (List.mem_of_getElem? (i := 31) rfl)) (by decide) ?_
  refine k_iadd h (ddX4_addPlace (52, .iadd, 1) (List.mem_of_getElem? (i := 32) rfl)) ?_
  refine k_putf (ci := 4) (j := 1) (C := RX4) (T := TX4) (N := 14) h rfl (fun w hw => List.mem_cons_of_mem _ (q_inX4 w hw)) (by decide) (List.mem_cons_of_mem _ gw82) tyX4 tyX4_ok nmX4 (by decide +kernel) (by decide +kernel) (ddX4_addPlace (53, .putfield 46, 3) (List.mem_of_getElem? (i := 33) rfl)) ?_
  exact k_vret h hQ (ddX4_addPlace (56, .return_, 1) (List.mem_of_getElem? (i := 34) rfl))
theorem aX4_addPlace (l : Launch) (as : List Value) (sh : q_Sh) (m : q_Mm) (R : q_KR) (hw : wX4_addPlace as sh m R) : q_AM l yX4_addPlace (Cond.code yX4_addPlace cX4_addPlace 4 none :: q_G) rmX4_addPlace as sh m R := by
  refine q_met (code := TX4_addPlace) (by decide) (fun X hl hQ _ h pc => ?_) hw.1 hw.2
  unfold TX4_addPlace
  exact k_at (sX4_addPlace_0 hl hQ h) (k_no)
/-! TumblingRock$Reader.readPlace(LTumblingRock$Rock;)V -/
abbrev dlX3_readPlace : List (Nat × (Instr × Nat)) := [(0, .aload_n 0, 1), (1, .bipush 18, 2), (3, .invokevirtual 97, 3), (6, .istore_n 2, 1), (7, .aload_n 0, 1), (8, .bipush 18, 2), (10, .invokevirtual 97, 3), (13, .istore_n 3, 1), (14, .aload_n 0, 1), (15, .bipush 18, 2), (17, .invokevirtual 97, 3), (20, .istore 4, 2), (22, .aload_n 0, 1), (23, .invokevirtual 104, 3), (26, .aload_n 0, 1), (27, .getfield 22, 3), (30, .ifCond .ne 20, 3), (33, .aload_n 1, 1), (34, .iload_n 2, 1), (35, .bipush 9, 2), (37, .isub, 1), (38, .iload_n 3, 1), (39, .bipush 9, 2), (41, .isub, 1), (42, .iload 4, 2), (44, .bipush 9, 2), (46, .isub, 1), (47, .invokevirtual 107, 3), (50, .return_, 1)]
theorem ddX3_readPlace : ∀ q ∈ dlX3_readPlace, decode cX3_readPlace q.1 = .ok q.2 := by decide +kernel
theorem sX3_readPlace_50 {l : Launch} {X : q_CX} (hl : X.2.1 = l) (hQ : q_QM X) (h : q_OK X yX3_readPlace cX3_readPlace 5 none rmX3_readPlace (Cond.code yX3_readPlace cX3_readPlace 5 none :: q_G)) : q_SK X 5 50 (BX3_readPlace_50) := by
  exact k_vret h hQ (ddX3_readPlace (50, .return_, 1) (List.mem_of_getElem? (i := 28) rfl))
theorem sX3_readPlace_33 {l : Launch} {X : q_CX} (hl : X.2.1 = l) (hQ : q_QM X) (h : q_OK X yX3_readPlace cX3_readPlace 5 none rmX3_readPlace (Cond.code yX3_readPlace cX3_readPlace 5 none :: q_G)) : q_SK X 5 33 (BX3_readPlace_33) := by
  refine k_aload_n (i := 1) h (ddX3_readPlace (33, .aload_n 1, 1) (List.mem_of_getElem? (i := 17) rfl)) rfl ?_
  refine k_iload_n (i := 2) h (ddX3_readPlace (34, .iload_n 2, 1) (List.mem_of_getElem? (i := 18) rfl)) rfl ?_
  refine k_bipush (v := 9) h (ddX3_readPlace (35, .bipush 9, 2) (List.mem_of_getElem? (i := 19) rfl)) (by decide) ?_
  refine k_isub h (ddX3_readPlace (37, .isub, 1) (List.mem_of_getElem? (i := 20) rfl)) ?_
  refine k_iload_n (i := 3) h (ddX3_readPlace (38, .iload_n 3, 1) (List.mem_of_getElem? (i := 21) rfl)) rfl ?_
  refine k_bipush (v := 9) h (ddX3_readPlace (39, .bipush 9, 2) (List.mem_of_getElem? (i := 22) rfl)) (by decide) ?_
  refine k_isub h (ddX3_readPlace (41, .isub, 1) (List.mem_of_getElem? (i := 23) rfl)) ?_
  refine k_iload (i := 4) h (ddX3_readPlace (42, .iload 4, 2) (List.mem_of_getElem? (i := 24) rfl)) ?_
  refine k_bipush (v := 9) h (ddX3_readPlace (44, .bipush 9, 2) (List.mem_of_getElem? (i := 25) rfl)) (by decide) ?_
  refine k_isub h (ddX3_readPlace (46, .isub, 1) (List.mem_of_getElem? (i := 26) rfl)) ?_
  refine k_callV h hl (aX4_addPlace l) (ci := 4) (C := RX4) (T := TX4) (N := 14) rfl ⟨rfl, rfl⟩ (n := 3) (by decide +kernel) (q_gV gw243 gw244 gw245 gw71 gw242) ⟨by decide, by decide⟩ (ddX3_readPlace (47, .invokevirtual 107, 3) (List.mem_of_getElem? (i := 27) rfl)) ?_
  exact sX3_readPlace_50 hl hQ h
theorem sX3_readPlace_0 {l : Launch} {X : q_CX} (hl : X.2.1 = l) (hQ : q_QM X) (h : q_OK X yX3_readPlace cX3_readPlace 5 none rmX3_readPlace (Cond.code yX3_readPlace cX3_readPlace 5 none :: q_G)) : q_SK X 5 0 (BX3_readPlace_0) := by
  refine k_aload_n (i := 0) h (ddX3_readPlace (0, .aload_n 0, 1) (List.mem_of_getElem? (i := 0) rfl)) rfl ?_
  refine k_bipush (v := 18) h (ddX3_readPlace (1, .bipush 18, 2) (List.mem_of_getElem? (i := 1) rfl)) (by decide) ?_
  refine k_callV h hl (aX3_readNumber l) (ci := 3) (C := RX3) (T := TX3) (N := 4) rfl ⟨rfl, rfl⟩ (n := 1) (by decide +kernel) (q_gV gw222 gw223 gw224 gw14 gw221) ⟨by decide, by decide⟩ (ddX3_readPlace (3, .invokevirtual 97, 3) (List.mem_of_getElem? (i := 2) rfl)) ?_
  refine k_istore_n (i := 2) h (ddX3_readPlace (6, .istore_n 2, 1) (List.mem_of_getElem? (i := 3) rfl)) rfl (by decide) ?_
  refine k_aload_n (i := 0) h (ddX3_readPlace (7, .aload_n 0, 1) (List.mem_of_getElem? (i := 4) rfl)) rfl ?_
  refine k_bipush (v := 18) h (ddX3_readPlace (8, .bipush 18, 2) (List.mem_of_getElem? (i := 5) rfl)) (by decide) ?_
  refine k_callV h hl (aX3_readNumber l) (ci := 3) (C := RX3) (T := TX3) (N := 4) rfl ⟨rfl, rfl⟩ (n := 1) (by decide +kernel) (q_gV gw222 gw223 gw224 gw14 gw221) ⟨by decide, by decide⟩ (ddX3_readPlace (10, .invokevirtual 97, 3) (List.mem_of_getElem? (i := 6) rfl)) ?_
  refine k_istore_n (i := 3) h (ddX3_readPlace (13, .istore_n 3, 1) (List.mem_of_getElem? (i := 7) rfl)) rfl (by decide) ?_
  refine k_aload_n (i := 0) h (ddX3_readPlace (14, .aload_n 0, 1) (List.mem_of_getElem? (i := 8) rfl)) rfl ?_
  refine k_bipush (v := 18) h (ddX3_readPlace (15, .bipush 18, 2) (List.mem_of_getElem? (i := 9) rfl)) (by decide) ?_
  refine k_callV h hl (aX3_readNumber l) (ci := 3) (C := RX3) (T := TX3) (N := 4) rfl ⟨rfl, rfl⟩ (n := 1) (by decide +kernel) (q_gV gw222 gw223 gw224 gw14 gw221) ⟨by decide, by decide⟩ (ddX3_readPlace (17, .invokevirtual 97, 3) (List.mem_of_getElem? (i := 10) rfl)) ?_
  refine k_istore (i := 4) h (ddX3_readPlace (20, .istore 4, 2) (List.mem_of_getElem? (i := 11) rfl)) (by decide) ?_
  refine k_aload_n (i := 0) h (ddX3_readPlace (22, .aload_n 0, 1) (List.mem_of_getElem? (i := 12) rfl)) rfl ?_
  refine k_callV h hl (aX3_readEnd l) (ci := 3) (C := RX3) (T := TX3) (N := 4) rfl ⟨rfl, rfl⟩ (n := 0) (by decide +kernel) (q_gV gw239 gw240 gw241 gw14 gw238) ⟨by decide, by decide⟩ (ddX3_readPlace (23, .invokevirtual 104, 3) (List.mem_of_getElem? (i := 13) rfl)) ?_
  refine k_aload_n (i := 0) h (ddX3_readPlace (26, .aload_n 0, 1) (List.mem_of_getElem? (i := 14) rfl)) rfl ?_
  refine k_getf (ci := 3) (j := 2) (C := RX3) (T := TX3) (N := 4) h rfl (fun w hw => List.mem_cons_of_mem _ (q_inX3 w hw)) (by decide) (List.mem_cons_of_mem _ gw152) (ddX3_readPlace (27, .getfield 22, 3) (List.mem_of_getElem? (i := 15) rfl)) ?_
  refine k_ifne h (ddX3_readPlace (30, .ifCond .ne 20, 3) (List.mem_of_getElem? (i := 16) rfl)) (tgt := 50) (by decide) ?_ ?_
  · exact sX3_readPlace_50 hl hQ h
  · exact sX3_readPlace_33 hl hQ h
theorem aX3_readPlace (l : Launch) (as : List Value) (sh : q_Sh) (m : q_Mm) (R : q_KR) (hw : wX3_readPlace as sh m R) : q_AM l yX3_readPlace (Cond.code yX3_readPlace cX3_readPlace 5 none :: q_G) rmX3_readPlace as sh m R := by
  refine q_met (code := TX3_readPlace) (by decide) (fun X hl hQ _ h pc => ?_) hw.1 hw.2
  unfold TX3_readPlace
  exact k_at (sX3_readPlace_0 hl hQ h) (k_no)
/-! TumblingRock$Rock.road(I)I -/
abbrev dlX4_road : List (Nat × (Instr × Nat)) := [(0, .aload_n 0, 1), (1, .getfield 24, 3), (4, .iload_n 1, 1), (5, .invokestatic 90, 3), (8, .ireturn, 1)]
theorem ddX4_road : ∀ q ∈ dlX4_road, decode cX4_road q.1 = .ok q.2 := by decide +kernel
theorem sX4_road_0 {l : Launch} {X : q_CX} (hl : X.2.1 = l) (hQ : q_QM X) (h : q_OK X yX4_road cX4_road 2 (some .int) rmX4_road (Cond.code yX4_road cX4_road 2 (some .int) :: q_G)) : q_SK X 2 0 (BX4_road_0) := by
  refine k_aload_n (i := 0) h (ddX4_road (0, .aload_n 0, 1) (List.mem_of_getElem? (i := 0) rfl)) rfl ?_
  refine k_getf (ci := 4) (j := 10) (C := RX4) (T := TX4) (N := 14) h rfl (fun w hw => List.mem_cons_of_mem _ (q_inX4 w hw)) (by decide) (List.mem_cons_of_mem _ gw77) (ddX4_road (1, .getfield 24, 3) (List.mem_of_getElem? (i := 1) rfl)) ?_
  refine k_iload_n (i := 1) h (ddX4_road (4, .iload_n 1, 1) (List.mem_of_getElem? (i := 2) rfl)) rfl ?_
  refine k_callN h hl (aX8_at l) ⟨rfl, rfl⟩ (n := 2) (by decide +kernel) (q_gN gw98) (by decide +kernel) (List.mem_cons_of_mem _ gw91) (List.mem_cons_of_mem _ gw99) ⟨by decide, by decide⟩ (ddX4_road (5, .invokestatic 90, 3) (List.mem_of_getElem? (i := 3) rfl)) ?_
  exact k_iret h hQ (ddX4_road (8, .ireturn, 1) (List.mem_of_getElem? (i := 4) rfl))
theorem aX4_road (l : Launch) (as : List Value) (sh : q_Sh) (m : q_Mm) (R : q_KR) (hw : wX4_road as sh m R) : q_AM l yX4_road (Cond.code yX4_road cX4_road 2 (some .int) :: q_G) rmX4_road as sh m R := by
  refine q_met (code := TX4_road) (by decide) (fun X hl hQ _ h pc => ?_) hw.1 hw.2
  unfold TX4_road
  exact k_at (sX4_road_0 hl hQ h) (k_no)
/-! TumblingRock.bit(II)I -/
abbrev dlX8_bit : List (Nat × (Instr × Nat)) := [(0, .iload_n 0, 1), (1, .iload_n 1, 1), (2, .ishr, 1), (3, .iconst 1, 1), (4, .iand, 1), (5, .ireturn, 1)]
theorem ddX8_bit : ∀ q ∈ dlX8_bit, decode cX8_bit q.1 = .ok q.2 := by decide +kernel
theorem sX8_bit_0 {l : Launch} {X : q_CX} (hl : X.2.1 = l) (hQ : q_QM X) (h : q_OK X yX8_bit cX8_bit 2 (some .int) rmX8_bit (Cond.code yX8_bit cX8_bit 2 (some .int) :: q_G)) : q_SK X 2 0 (BX8_bit_0) := by
  refine k_iload_n (i := 0) h (ddX8_bit (0, .iload_n 0, 1) (List.mem_of_getElem? (i := 0) rfl)) rfl ?_
  refine k_iload_n (i := 1) h (ddX8_bit (1, .iload_n 1, 1) (List.mem_of_getElem? (i := 1) rfl)) rfl ?_
  refine k_ishr h (ddX8_bit (2, .ishr, 1) (List.mem_of_getElem? (i := 2) rfl)) ?_
  refine k_iconst (v := 1) h (ddX8_bit (3, .iconst 1, 1) (List.mem_of_getElem? (i := 3) rfl)) (by decide) ?_
  refine k_iand h (ddX8_bit (4, .iand, 1) (List.mem_of_getElem? (i := 4) rfl)) ?_
  exact k_iret h hQ (ddX8_bit (5, .ireturn, 1) (List.mem_of_getElem? (i := 5) rfl))
theorem aX8_bit (l : Launch) (as : List Value) (sh : q_Sh) (m : q_Mm) (R : q_KR) (hw : wX8_bit as sh m R) : q_AM l yX8_bit (Cond.code yX8_bit cX8_bit 2 (some .int) :: q_G) rmX8_bit as sh m R := by
  refine q_met (code := TX8_bit) (by decide) (fun X hl hQ _ h pc => ?_) hw.1 hw.2
  unfold TX8_bit
  exact k_at (sX8_bit_0 hl hQ h) (k_no)
/-! TumblingRock$Rock.leads(II)Z -/
abbrev dlX4_leads : List (Nat × (Instr × Nat)) := [(0, .aload_n 0, 1), (1, .iload_n 1, 1), (2, .invokevirtual 63, 3), (5, .iload_n 2, 1), (6, .invokestatic 94, 3), (9, .iconst 1, 1), (10, .if_icmp .ne 7, 3), (13, .iconst 1, 1), (14, .goto 4, 3), (17, .iconst 0, 1), (18, .ireturn, 1)]
theorem ddX4_leads : ∀ q ∈ dlX4_leads, decode cX4_leads q.1 = .ok q.2 := by decide +kernel
theorem sX4_leads_18 {l : Launch} {X : q_CX} (hl : X.2.1 = l) (hQ : q_QM X) (h : q_OK X yX4_leads cX4_leads 3 (some .boolean) rmX4_leads (Cond.code yX4_leads cX4_leads 3 (some .boolean) :: q_G)) : q_SK X 3 18 (BX4_leads_18) := by
  exact k_zret h hQ (ddX4_leads (18, .ireturn, 1) (List.mem_of_getElem? (i := 10) rfl))
theorem sX4_leads_17 {l : Launch} {X : q_CX} (hl : X.2.1 = l) (hQ : q_QM X) (h : q_OK X yX4_leads cX4_leads 3 (some .boolean) rmX4_leads (Cond.code yX4_leads cX4_leads 3 (some .boolean) :: q_G)) : q_SK X 3 17 (BX4_leads_17) := by
  refine k_iconst (v := 0) h (ddX4_leads (17, .iconst 0, 1) (List.mem_of_getElem? (i := 9) rfl)) (by decide) ?_
  exact sX4_leads_18 hl hQ h
theorem sX4_leads_13 {l : Launch} {X : q_CX} (hl : X.2.1 = l) (hQ : q_QM X) (h : q_OK X yX4_leads cX4_leads 3 (some .boolean) rmX4_leads (Cond.code yX4_leads cX4_leads 3 (some .boolean) :: q_G)) : q_SK X 3 13 (BX4_leads_13) := by
  refine k_iconst (v := 1) h (ddX4_leads (13, .iconst 1, 1) (List.mem_of_getElem? (i := 7) rfl)) (by decide) ?_
  refine k_goto h (ddX4_leads (14, .goto 4, 3) (List.mem_of_getElem? (i := 8) rfl)) (tgt := 18) (by decide) ?_
  exact sX4_leads_18 hl hQ h
theorem sX4_leads_0 {l : Launch} {X : q_CX} (hl : X.2.1 = l) (hQ : q_QM X) (h : q_OK X yX4_leads cX4_leads 3 (some .boolean) rmX4_leads (Cond.code yX4_leads cX4_leads 3 (some .boolean) :: q_G)) : q_SK X 3 0 (BX4_leads_0) := by
  refine k_aload_n (i := 0) h (ddX4_leads (0, .aload_n 0, 1) (List.mem_of_getElem? (i := 0) rfl)) rfl ?_
  refine k_iload_n (i := 1) h (ddX4_leads (1, .iload_n 1, 1) (List.mem_of_getElem? (i := 1) rfl)) rfl ?_
  refine k_callV h hl (aX4_road l) (ci := 4) (C := RX4) (T := TX4) (N := 14) rfl ⟨rfl, rfl⟩ (n := 1) (by decide +kernel) (q_gV gw252 gw253 gw254 gw71 gw251) ⟨by decide, by decide⟩ (ddX4_leads (2, .invokevirtual 63, 3) (List.mem_of_getElem? (i := 2) rfl)) ?_
  refine k_iload_n (i := 2) h (ddX4_leads (5, .iload_n 2, 1) (List.mem_of_getElem? (i := 3) rfl)) rfl ?_
  refine k_callN h hl (aX8_bit l) ⟨rfl, rfl⟩ (n := 2) (by decide +kernel) (q_gN gw255) (by decide +kernel) (List.mem_cons_of_mem _ gw91) (List.mem_cons_of_mem _ gw256) ⟨by decide, by decide⟩ (ddX4_leads (6, .invokestatic 94, 3) (List.mem_of_getElem? (i := 4) rfl)) ?_
  refine k_iconst (v := 1) h (ddX4_leads (9, .iconst 1, 1) (List.mem_of_getElem? (i := 5) rfl)) (by decide) ?_
  refine k_icne h (ddX4_leads (10, .if_icmp .ne 7, 3) (List.mem_of_getElem? (i := 6) rfl)) (tgt := 17) (by decide) ?_ ?_
  · exact sX4_leads_17 hl hQ h
  · exact sX4_leads_13 hl hQ h
theorem aX4_leads (l : Launch) (as : List Value) (sh : q_Sh) (m : q_Mm) (R : q_KR) (hw : wX4_leads as sh m R) : q_AM l yX4_leads (Cond.code yX4_leads cX4_leads 3 (some .boolean) :: q_G) rmX4_leads as sh m R := by
  refine q_met (code := TX4_leads) (by decide) (fun X hl hQ _ h pc => ?_) hw.1 hw.2
  unfold TX4_leads
  exact k_at (sX4_leads_0 hl hQ h) (k_no)
/-! TumblingRock$Rock.addWay(II)V -/
abbrev dlX4_addWay : List (Nat × (Instr × Nat)) := [(0, .aload_n 0, 1), (1, .getfield 24, 3), (4, .iload_n 1, 1), (5, .aload_n 0, 1), (6, .iload_n 1, 1), (7, .invokevirtual 63, 3), (10, .iconst 1, 1), (11, .iload_n 2, 1), (12, .ishl, 1), (13, .ior, 1), (14, .invokestatic 55, 3), (17, .aload_n 0, 1), (18, .getfield 24, 3), (21, .iload_n 2, 1), (22, .aload_n 0, 1), (23, .iload_n 2, 1), (24, .invokevirtual 63, 3), (27, .iconst 1, 1), (28, .iload_n 1, 1), (29, .ishl, 1), (30, .ior, 1), (31, .invokestatic 55, 3), (34, .aload_n 0, 1), (35, .dup, 1), (36, .getfield 49, 3), (39, .iconst 1, 1), (40, .iadd, 1), (41, .putfield 49, 3), (44, .return_, 1)]
theorem ddX4_addWay : ∀ q ∈ dlX4_addWay, decode cX4_addWay q.1 = .ok q.2 := by decide +kernel
theorem sX4_addWay_0 {l : Launch} {X : q_CX} (hl : X.2.1 = l) (hQ : q_QM X) (h : q_OK X yX4_addWay cX4_addWay 3 none rmX4_addWay (Cond.code yX4_addWay cX4_addWay 3 none :: q_G)) : q_SK X 3 0 (BX4_addWay_0) := by
  refine k_aload_n (i := 0) h (ddX4_addWay (0, .aload_n 0, 1) (List.mem_of_getElem? (i := 0) rfl)) rfl ?_
  refine k_getf (ci := 4) (j := 10) (C := RX4) (T := TX4) (N := 14) h rfl (fun w hw => List.mem_cons_of_mem _ (q_inX4 w hw)) (by decide) (List.mem_cons_of_mem _ gw77) (ddX4_addWay (1, .getfield 24, 3) (List.mem_of_getElem? (i := 1) rfl)) ?_
  refine k_iload_n (i := 1) h (ddX4_addWay (4, .iload_n 1, 1) (List.mem_of_getElem? (i := 2) rfl)) rfl ?_
  refine k_aload_n (i := 0) h (ddX4_addWay (5, .aload_n 0, 1) (List.mem_of_getElem? (i := 3) rfl)) rfl ?_
  refine k_iload_n (i := 1) h (ddX4_addWay (6, .iload_n 1, 1) (List.mem_of_getElem? (i := 4) rfl)) rfl ?_
  refine k_callV h hl (aX4_road l) (ci := 4) (C := RX4) (T := TX4) (N := 14) rfl ⟨rfl, rfl⟩ (n := 1) (by decide +kernel) (q_gV gw252 gw253 gw254 gw71 gw251) ⟨by decide, by decide⟩ (ddX4_addWay (7, .invokevirtual 63, 3) (List.mem_of_getElem? (i := 5) rfl)) ?_
  refine k_iconst (v := 1) h (ddX4_addWay (10, .iconst 1, 1) (List.mem_of_getElem? (i := 6) rfl)) (by decide) ?_
  refine k_iload_n (i := 2) h (ddX4_addWay (11, .iload_n 2, 1) (List.mem_of_getElem? (i := 7) rfl)) rfl ?_
  refine k_ishl h (ddX4_addWay (12, .ishl, 1) (List.mem_of_getElem? (i := 8) rfl)) ?_
  refine k_ior h (ddX4_addWay (13, .ior, 1) (List.mem_of_getElem? (i := 9) rfl)) ?_
  refine k_callN h hl (aX8_put l) ⟨rfl, rfl⟩ (n := 3) (by decide +kernel) (q_gN gw143) (by decide +kernel) (List.mem_cons_of_mem _ gw91) (List.mem_cons_of_mem _ gw144) ⟨by decide, by decide⟩ (ddX4_addWay (14, .invokestatic 55, 3) (List.mem_of_getElem? (i := 10) rfl)) ?_
  refine k_aload_n (i := 0) h (ddX4_addWay (17, .aload_n 0, 1) (List.mem_of_getElem? (i := 11) rfl)) rfl ?_
  refine k_getf (ci := 4) (j := 10) (C := RX4) (T := TX4) (N := 14) h rfl (fun w hw => List.mem_cons_of_mem _ (q_inX4 w hw)) (by decide) (List.mem_cons_of_mem _ gw77) (ddX4_addWay (18, .getfield 24, 3) (List.mem_of_getElem? (i := 12) rfl)) ?_
  refine k_iload_n (i := 2) h (ddX4_addWay (21, .iload_n 2, 1) (List.mem_of_getElem? (i := 13) rfl)) rfl ?_
  refine k_aload_n (i := 0) h (ddX4_addWay (22, .aload_n 0, 1) (List.mem_of_getElem? (i := 14) rfl)) rfl ?_
  refine k_iload_n (i := 2) h (ddX4_addWay (23, .iload_n 2, 1) (List.mem_of_getElem? (i := 15) rfl)) rfl ?_
  refine k_callV h hl (aX4_road l) (ci := 4) (C := RX4) (T := TX4) (N := 14) rfl ⟨rfl, rfl⟩ (n := 1) (by decide +kernel) (q_gV gw252 gw253 gw254 gw71 gw251) ⟨by decide, by decide⟩ (ddX4_addWay (24, .invokevirtual 63, 3) (List.mem_of_getElem? (i := 16) rfl)) ?_
  refine k_iconst (v := 1) h (ddX4_addWay (27, .iconst 1, 1) (List.mem_of_getElem? (i := 17) rfl)) (by decide) ?_
  refine k_iload_n (i := 1) h (ddX4_addWay (28, .iload_n 1, 1) (List.mem_of_getElem? (i := 18) rfl)) rfl ?_
  refine k_ishl h (ddX4_addWay (29, .ishl, 1) (List.mem_of_getElem? (i := 19) rfl)) ?_
  refine k_ior h (ddX4_addWay (30, .ior, 1) (List.mem_of_getElem? (i := 20) rfl)) ?_
  refine k_callN h hl (aX8_put l) ⟨rfl, rfl⟩ (n := 3) (by decide +kernel) (q_gN gw143) (by decide +kernel) (List.mem_cons_of_mem _ gw91) (List.mem_cons_of_mem _ gw144) ⟨by decide, by decide⟩ (ddX4_addWay (31, .invokestatic 55, 3) (List.mem_of_getElem? (i := 21) rfl)) ?_
  refine k_aload_n (i := 0) h (ddX4_addWay (34, .aload_n 0, 1) (List.mem_of_getElem? (i := 22) rfl)) rfl ?_
  refine k_dup h (ddX4_addWay (35, .dup, 1) (List.mem_of_getElem? (i := 23) rfl)) ?_
  refine k_getf (ci := 4) (j := 2) (C := RX4) (T := TX4) (N := 14) h rfl (fun w hw => List.mem_cons_of_mem _ (q_inX4 w hw)) (by decide) (List.mem_cons_of_mem _ gw83) (ddX4_addWay (36, .getfield 49, 3) (List.mem_of_getElem? (i := 24) rfl)) ?_
  refine k_iconst (v := 1) h (ddX4_addWay (39, .iconst 1, 1) (List.mem_of_getElem? (i := 25) rfl)) (by decide) ?_
  refine k_iadd h (ddX4_addWay (40, .iadd, 1) (List.mem_of_getElem? (i := 26) rfl)) ?_
  refine k_putf (ci := 4) (j := 2) (C := RX4) (T := TX4) (N := 14) h rfl (fun w hw => List.mem_cons_of_mem _ (q_inX4 w hw)) (by decide) (List.mem_cons_of_mem _ gw83) tyX4 tyX4_ok nmX4 (by decide +kernel) (by decide +kernel) (ddX4_addWay (41, .putfield 49, 3) (List.mem_of_getElem? (i := 27) rfl)) ?_
  exact k_vret h hQ (ddX4_addWay (44, .return_, 1) (List.mem_of_getElem? (i := 28) rfl))
theorem aX4_addWay (l : Launch) (as : List Value) (sh : q_Sh) (m : q_Mm) (R : q_KR) (hw : wX4_addWay as sh m R) : q_AM l yX4_addWay (Cond.code yX4_addWay cX4_addWay 3 none :: q_G) rmX4_addWay as sh m R := by
  refine q_met (code := TX4_addWay) (by decide) (fun X hl hQ _ h pc => ?_) hw.1 hw.2
  unfold TX4_addWay
  exact k_at (sX4_addWay_0 hl hQ h) (k_no)
