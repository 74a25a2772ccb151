/-! Contracts, leaves first; written by wip/whole/gen.py. -/
/-! TumblingRockModel.takeWord()V -/
abbrev dlX9_takeWord : List (Nat × (Instr × Nat)) := [(0, .aload_n 0, 1), (1, .invokevirtual 85, 3), (4, .istore_n 1, 1), (5, .aload_n 0, 1), (6, .aload_n 0, 1), (7, .getfield 79, 3), (10, .putfield 89, 3), (13, .aload_n 0, 1), (14, .getfield 79, 3), (17, .aload_n 0, 1), (18, .getfield 73, 3), (21, .if_icmp .ge 38, 3), (24, .aload_n 0, 1), (25, .getfield 32, 3), (28, .aload_n 0, 1), (29, .getfield 79, 3), (32, .iaload, 1), (33, .i2l, 1), (34, .ldc2_w 92, 3), (37, .ldc2_w 94, 3), (40, .invokestatic 68, 3), (43, .ifCond .eq 16, 3), (46, .aload_n 0, 1), (47, .dup, 1), (48, .getfield 79, 3), (51, .iconst 1, 1), (52, .iadd, 1), (53, .putfield 79, 3), (56, .goto (-43), 3), (59, .aload_n 0, 1), (60, .aload_n 0, 1), (61, .getfield 79, 3), (64, .aload_n 0, 1), (65, .getfield 89, 3), (68, .isub, 1), (69, .putfield 96, 3), (72, .return_, 1)]
theorem ddX9_takeWord : ∀ q ∈ dlX9_takeWord, decode cX9_takeWord q.1 = .ok q.2 := by decide +kernel
theorem sX9_takeWord_0 {l : Launch} {X : q_CX} (hl : X.2.1 = l) (hQ : q_QM X) (h : q_OK X yX9_takeWord cX9_takeWord 2 none rmX9_takeWord (Cond.code yX9_takeWord cX9_takeWord 2 none :: q_G)) : q_SK X 2 0 (BX9_takeWord_0) := by
  refine k_aload_n (i := 0) h (ddX9_takeWord (0, .aload_n 0, 1) (List.mem_of_getElem? (i := 0) rfl)) rfl ?_
  refine k_callV h hl (aX9_here l) (ci := 9) (C := RX9) (T := TX9) (N := 33) rfl ⟨rfl, rfl⟩ (n := 0) (by decide +kernel) (q_gV gw616 gw617 gw618 gw606 gw615) ⟨by decide, by decide⟩ (ddX9_takeWord (1, .invokevirtual 85, 3) (List.mem_of_getElem? (i := 1) rfl)) ?_
  refine k_istore_n (i := 1) h (ddX9_takeWord (4, .istore_n 1, 1) (List.mem_of_getElem? (i := 2) rfl)) rfl (by decide) ?_
  refine k_aload_n (i := 0) h (ddX9_takeWord (5, .aload_n 0, 1) (List.mem_of_getElem? (i := 3) rfl)) rfl ?_
  refine k_aload_n (i := 0) h (ddX9_takeWord (6, .aload_n 0, 1) (List.mem_of_getElem? (i := 4) rfl)) rfl ?_
  refine k_getf (ci := 9) (j := 17) (C := RX9) (T := TX9) (N := 33) h rfl (fun w hw => List.mem_cons_of_mem _ (q_inX9 w hw)) (by decide) (List.mem_cons_of_mem _ gw613) (ddX9_takeWord (7, .getfield 79, 3) (List.mem_of_getElem? (i := 5) rfl)) ?_
  refine k_putf (ci := 9) (j := 18) (C := RX9) (T := TX9) (N := 33) h rfl (fun w hw => List.mem_cons_of_mem _ (q_inX9 w hw)) (by decide) (List.mem_cons_of_mem _ gw619) tyX9 tyX9_ok nmX9 (by decide +kernel) (by decide +kernel) (ddX9_takeWord (10, .putfield 89, 3) (List.mem_of_getElem? (i := 6) rfl)) ?_
  exact k_cut
theorem sX9_takeWord_59 {l : Launch} {X : q_CX} (hl : X.2.1 = l) (hQ : q_QM X) (h : q_OK X yX9_takeWord cX9_takeWord 2 none rmX9_takeWord (Cond.code yX9_takeWord cX9_takeWord 2 none :: q_G)) : q_SK X 2 59 (BX9_takeWord_59) := by
  refine k_aload_n (i := 0) h (ddX9_takeWord (59, .aload_n 0, 1) (List.mem_of_getElem? (i := 29) rfl)) rfl ?_
  refine k_aload_n (i := 0) h (ddX9_takeWord (60, .aload_n 0, 1) (List.mem_of_getElem? (i := 30) rfl)) rfl ?_
  refine k_getf (ci := 9) (j := 17) (C := RX9) (T := TX9) (N := 33) h rfl (fun w hw => List.mem_cons_of_mem _ (q_inX9 w hw)) (by decide) (List.mem_cons_of_mem _ gw613) (ddX9_takeWord (61, .getfield 79, 3) (List.mem_of_getElem? (i := 31) rfl)) ?_
  refine k_aload_n (i := 0) h (ddX9_takeWord (64, .aload_n 0, 1) (List.mem_of_getElem? (i := 32) rfl)) rfl ?_
  refine k_getf (ci := 9) (j := 18) (C := RX9) (T := TX9) (N := 33) h rfl (fun w hw => List.mem_cons_of_mem _ (q_inX9 w hw)) (by decide) (List.mem_cons_of_mem _ gw619) (ddX9_takeWord (65, .getfield 89, 3) (List.mem_of_getElem? (i := 33) rfl)) ?_
  refine k_isub h (ddX9_takeWord (68, .isub, 1) (List.mem_of_getElem? (i := 34) rfl)) ?_
  refine k_putf (ci := 9) (j := 19) (C := RX9) (T := TX9) (N := 33) h rfl (fun w hw => List.mem_cons_of_mem _ (q_inX9 w hw)) (by decide) (List.mem_cons_of_mem _ gw622) tyX9 tyX9_ok nmX9 (by decide +kernel) (by decide +kernel) (ddX9_takeWord (69, .putfield 96, 3) (List.mem_of_getElem? (i := 35) rfl)) ?_
  exact k_vret h hQ (ddX9_takeWord (72, .return_, 1) (List.mem_of_getElem? (i := 36) rfl))
theorem sX9_takeWord_46 {l : Launch} {X : q_CX} (hl : X.2.1 = l) (hQ : q_QM X) (h : q_OK X yX9_takeWord cX9_takeWord 2 none rmX9_takeWord (Cond.code yX9_takeWord cX9_takeWord 2 none :: q_G)) : q_SK X 2 46 (BX9_takeWord_46) := by
  refine k_aload_n (i := 0) h (ddX9_takeWord (46, .aload_n 0, 1) (List.mem_of_getElem? (i := 22) rfl)) rfl ?_
  refine k_dup h (ddX9_takeWord (47, .dup, 1) (List.mem_of_getElem? (i := 23) rfl)) ?_
  refine k_getf (ci := 9) (j := 17) (C := RX9) (T := TX9) (N := 33) h rfl (fun w hw => List.mem_cons_of_mem _ (q_inX9 w hw)) (by decide) (List.mem_cons_of_mem _ gw613) (ddX9_takeWord (48, .getfield 79, 3) (List.mem_of_getElem? (i := 24) rfl)) ?_
  refine k_iconst (v := 1) h (ddX9_takeWord (51, .iconst 1, 1) (List.mem_of_getElem? (i := 25) rfl)) (by decide) ?_
  refine k_iadd h (ddX9_takeWord (52, .iadd, 1) (List.mem_of_getElem? (i := 26) rfl)) ?_
  refine k_putf (ci := 9) (j := 17) (C := RX9) (T := TX9) (N := 33) h rfl (fun w hw => List.mem_cons_of_mem _ (q_inX9 w hw)) (by decide) (List.mem_cons_of_mem _ gw613) tyX9 tyX9_ok nmX9 (by decide +kernel) (by decide +kernel) (ddX9_takeWord (53, .putfield 79, 3) (List.mem_of_getElem? (i := 27) rfl)) ?_
  refine k_goto h (ddX9_takeWord (56, .goto (-43), 3) (List.mem_of_getElem? (i := 28) rfl)) (tgt := 13) (by decide) ?_
  exact k_cut
theorem sX9_takeWord_24 {l : Launch} {X : q_CX} (hl : X.2.1 = l) (hQ : q_QM X) (h : q_OK X yX9_takeWord cX9_takeWord 2 none rmX9_takeWord (Cond.code yX9_takeWord cX9_takeWord 2 none :: q_G)) : q_SK X 2 24 (BX9_takeWord_24) := by
  refine k_aload_n (i := 0) h (ddX9_takeWord (24, .aload_n 0, 1) (List.mem_of_getElem? (i := 12) rfl)) rfl ?_
  refine k_getf (ci := 9) (j := 15) (C := RX9) (T := TX9) (N := 33) h rfl (fun w hw => List.mem_cons_of_mem _ (q_inX9 w hw)) (by decide) (List.mem_cons_of_mem _ gw593) (ddX9_takeWord (25, .getfield 32, 3) (List.mem_of_getElem? (i := 13) rfl)) ?_
  refine k_aload_n (i := 0) h (ddX9_takeWord (28, .aload_n 0, 1) (List.mem_of_getElem? (i := 14) rfl)) rfl ?_
  refine k_getf (ci := 9) (j := 17) (C := RX9) (T := TX9) (N := 33) h rfl (fun w hw => List.mem_cons_of_mem _ (q_inX9 w hw)) (by decide) (List.mem_cons_of_mem _ gw613) (ddX9_takeWord (29, .getfield 79, 3) (List.mem_of_getElem? (i := 15) rfl)) ?_
  refine k_iald h (ddX9_takeWord (32, .iaload, 1) (List.mem_of_getElem? (i := 16) rfl)) ?_
  refine k_i2l h (ddX9_takeWord (33, .i2l, 1) (List.mem_of_getElem? (i := 17) rfl)) ?_
  refine k_ldc2 (v := 97) h (ddX9_takeWord (34, .ldc2_w 92, 3) (List.mem_of_getElem? (i := 18) rfl)) (List.mem_cons_of_mem _ gw620) ?_
  refine k_ldc2 (v := 122) h (ddX9_takeWord (37, .ldc2_w 94, 3) (List.mem_of_getElem? (i := 19) rfl)) (List.mem_cons_of_mem _ gw621) ?_
  refine k_callS h hl (aX9_in l) ⟨rfl, rfl⟩ (n := 3) (by decide +kernel) (q_gS gw608 gw607 gw606 gw605) ⟨by decide, by decide⟩ (ddX9_takeWord (40, .invokestatic 68, 3) (List.mem_of_getElem? (i := 20) rfl)) ?_
  refine k_ifeq h (ddX9_takeWord (43, .ifCond .eq 16, 3) (List.mem_of_getElem? (i := 21) rfl)) (tgt := 59) (by decide) ?_ ?_
  · exact sX9_takeWord_59 hl hQ h
  · exact sX9_takeWord_46 hl hQ h
theorem sX9_takeWord_13 {l : Launch} {X : q_CX} (hl : X.2.1 = l) (hQ : q_QM X) (h : q_OK X yX9_takeWord cX9_takeWord 2 none rmX9_takeWord (Cond.code yX9_takeWord cX9_takeWord 2 none :: q_G)) : q_SK X 2 13 (BX9_takeWord_13) := by
  refine k_aload_n (i := 0) h (ddX9_takeWord (13, .aload_n 0, 1) (List.mem_of_getElem? (i := 7) rfl)) rfl ?_
  refine k_getf (ci := 9) (j := 17) (C := RX9) (T := TX9) (N := 33) h rfl (fun w hw => List.mem_cons_of_mem _ (q_inX9 w hw)) (by decide) (List.mem_cons_of_mem _ gw613) (ddX9_takeWord (14, .getfield 79, 3) (List.mem_of_getElem? (i := 8) rfl)) ?_
  refine k_aload_n (i := 0) h (ddX9_takeWord (17, .aload_n 0, 1) (List.mem_of_getElem? (i := 9) rfl)) rfl ?_
  refine k_getf (ci := 9) (j := 16) (C := RX9) (T := TX9) (N := 33) h rfl (fun w hw => List.mem_cons_of_mem _ (q_inX9 w hw)) (by decide) (List.mem_cons_of_mem _ gw610) (ddX9_takeWord (18, .getfield 73, 3) (List.mem_of_getElem? (i := 10) rfl)) ?_
  refine k_icge h (ddX9_takeWord (21, .if_icmp .ge 38, 3) (List.mem_of_getElem? (i := 11) rfl)) (tgt := 59) (by decide) ?_ ?_
  · exact sX9_takeWord_59 hl hQ h
  · exact sX9_takeWord_24 hl hQ h
theorem aX9_takeWord (l : Launch) (as : List Value) (sh : q_Sh) (m : q_Mm) (R : q_KR) (hw : wX9_takeWord as sh m R) : q_AM l yX9_takeWord (Cond.code yX9_takeWord cX9_takeWord 2 none :: q_G) rmX9_takeWord as sh m R := by
  refine q_met (code := TX9_takeWord) (by decide) (fun X hl hQ _ h pc => ?_) hw.1 hw.2
  unfold TX9_takeWord
  exact k_at (sX9_takeWord_0 hl hQ h) (k_at (sX9_takeWord_13 hl hQ h) (k_no))
/-! TumblingRockModel.isWord(IIIIII)Z -/
abbrev dlX9_isWord : List (Nat × (Instr × Nat)) := [(0, .aload_n 0, 1), (1, .getfield 96, 3), (4, .iload_n 1, 1), (5, .if_icmp .ne 7, 3), (8, .iconst 1, 1), (9, .goto 4, 3), (12, .iconst 0, 1), (13, .istore 7, 2), (15, .iconst 0, 1), (16, .istore 8, 2), (18, .iload 8, 2), (20, .iload_n 1, 1), (21, .if_icmp .ge 79, 3), (24, .iload 7, 2), (26, .ifCond .eq 74, 3), (29, .aload_n 0, 1), (30, .getfield 32, 3), (33, .aload_n 0, 1), (34, .getfield 89, 3), (37, .iload 8, 2), (39, .iadd, 1), (40, .iaload, 1), (41, .iload 8, 2), (43, .ifCond .ne 7, 3), (46, .iload_n 2, 1), (47, .goto 37, 3), (50, .iload 8, 2), (52, .iconst 1, 1), (53, .if_icmp .ne 7, 3), (56, .iload_n 3, 1), (57, .goto 27, 3), (60, .iload 8, 2), (62, .iconst 2, 1), (63, .if_icmp .ne 8, 3), (66, .iload 4, 2), (68, .goto 16, 3), (71, .iload 8, 2), (73, .iconst 3, 1), (74, .if_icmp .ne 8, 3), (77, .iload 5, 2), (79, .goto 5, 3), (82, .iload 6, 2), (84, .if_icmp .ne 7, 3), (87, .iconst 1, 1), (88, .goto 4, 3), (91, .iconst 0, 1), (92, .istore 7, 2), (94, .iinc 8 1, 3), (97, .goto (-79), 3), (100, .iload 7, 2), (102, .ireturn, 1)]
theorem ddX9_isWord : ∀ q ∈ dlX9_isWord, decode cX9_isWord q.1 = .ok q.2 := by decide +kernel
theorem sX9_isWord_13 {l : Launch} {X : q_CX} (hl : X.2.1 = l) (hQ : q_QM X) (h : q_OK X yX9_isWord cX9_isWord 9 (some .boolean) rmX9_isWord (Cond.code yX9_isWord cX9_isWord 9 (some .boolean) :: q_G)) : q_SK X 9 13 (BX9_isWord_13) := by
  refine k_istore (i := 7) h (ddX9_isWord (13, .istore 7, 2) (List.mem_of_getElem? (i := 7) rfl)) (by decide) ?_
  refine k_iconst (v := 0) h (ddX9_isWord (15, .iconst 0, 1) (List.mem_of_getElem? (i := 8) rfl)) (by decide) ?_
  refine k_istore (i := 8) h (ddX9_isWord (16, .istore 8, 2) (List.mem_of_getElem? (i := 9) rfl)) (by decide) ?_
  exact k_cut
theorem sX9_isWord_12 {l : Launch} {X : q_CX} (hl : X.2.1 = l) (hQ : q_QM X) (h : q_OK X yX9_isWord cX9_isWord 9 (some .boolean) rmX9_isWord (Cond.code yX9_isWord cX9_isWord 9 (some .boolean) :: q_G)) : q_SK X 9 12 (BX9_isWord_12) := by
  refine k_iconst (v := 0) h (ddX9_isWord (12, .iconst 0, 1) (List.mem_of_getElem? (i := 6) rfl)) (by decide) ?_
  exact sX9_isWord_13 hl hQ h
theorem sX9_isWord_8 {l : Launch} {X : q_CX} (hl : X.2.1 = l) (hQ : q_QM X) (h : q_OK X yX9_isWord cX9_isWord 9 (some .boolean) rmX9_isWord (Cond.code yX9_isWord cX9_isWord 9 (some .boolean) :: q_G)) : q_SK X 9 8 (BX9_isWord_8) := by
  refine k_iconst (v := 1) h (ddX9_isWord (8, .iconst 1, 1) (List.mem_of_getElem? (i := 4) rfl)) (by decide) ?_
  refine k_goto h (ddX9_isWord (9, .goto 4, 3) (List.mem_of_getElem? (i := 5) rfl)) (tgt := 13) (by decide) ?_
  exact sX9_isWord_13 hl hQ h
theorem sX9_isWord_0 {l : Launch} {X : q_CX} (hl : X.2.1 = l) (hQ : q_QM X) (h : q_OK X yX9_isWord cX9_isWord 9 (some .boolean) rmX9_isWord (Cond.code yX9_isWord cX9_isWord 9 (some .boolean) :: q_G)) : q_SK X 9 0 (BX9_isWord_0) := by
  refine k_aload_n (i := 0) h (ddX9_isWord (0, .aload_n 0, 1) (List.mem_of_getElem? (i := 0) rfl)) rfl ?_
  refine k_getf (ci := 9) (j := 19) (C := RX9) (T := TX9) (N := 33) h rfl (fun w hw => List.mem_cons_of_mem _ (q_inX9 w hw)) (by decide) (List.mem_cons_of_mem _ gw622) (ddX9_isWord (1, .getfield 96, 3) (List.mem_of_getElem? (i := 1) rfl)) ?_
  refine k_iload_n (i := 1) h (ddX9_isWord (4, .iload_n 1, 1) (List.mem_of_getElem? (i := 2) rfl)) rfl ?_
  refine k_icne h (ddX9_isWord (5, .if_icmp .ne 7, 3) (List.mem_of_getElem? (i := 3) rfl)) (tgt := 12) (by decide) ?_ ?_
  · exact sX9_isWord_12 hl hQ h
  · exact sX9_isWord_8 hl hQ h
theorem sX9_isWord_100 {l : Launch} {X : q_CX} (hl : X.2.1 = l) (hQ : q_QM X) (h : q_OK X yX9_isWord cX9_isWord 9 (some .boolean) rmX9_isWord (Cond.code yX9_isWord cX9_isWord 9 (some .boolean) :: q_G)) : q_SK X 9 100 (BX9_isWord_100) := by
  refine k_iload (i := 7) h (ddX9_isWord (100, .iload 7, 2) (List.mem_of_getElem? (i := 49) rfl)) ?_
  exact k_zret h hQ (ddX9_isWord (102, .ireturn, 1) (List.mem_of_getElem? (i := 50) rfl))
theorem sX9_isWord_92 {l : Launch} {X : q_CX} (hl : X.2.1 = l) (hQ : q_QM X) (h : q_OK X yX9_isWord cX9_isWord 9 (some .boolean) rmX9_isWord (Cond.code yX9_isWord cX9_isWord 9 (some .boolean) :: q_G)) : q_SK X 9 92 (BX9_isWord_92) := by
  refine k_istore (i := 7) h (ddX9_isWord (92, .istore 7, 2) (List.mem_of_getElem? (i := 46) rfl)) (by decide) ?_
  refine k_iinc (d := 1) h (ddX9_isWord (94, .iinc 8 1, 3) (List.mem_of_getElem? (i := 47) rfl)) (by decide) (by decide) ?_
  refine k_goto h (ddX9_isWord (97, .goto (-79), 3) (List.mem_of_getElem? (i := 48) rfl)) (tgt := 18) (by decide) ?_
  exact k_cut
theorem sX9_isWord_91 {l : Launch} {X : q_CX} (hl : X.2.1 = l) (hQ : q_QM X) (h : q_OK X yX9_isWord cX9_isWord 9 (some .boolean) rmX9_isWord (Cond.code yX9_isWord cX9_isWord 9 (some .boolean) :: q_G)) : q_SK X 9 91 (BX9_isWord_91) := by
  refine k_iconst (v := 0) h (ddX9_isWord (91, .iconst 0, 1) (List.mem_of_getElem? (i := 45) rfl)) (by decide) ?_
  exact sX9_isWord_92 hl hQ h
theorem sX9_isWord_87 {l : Launch} {X : q_CX} (hl : X.2.1 = l) (hQ : q_QM X) (h : q_OK X yX9_isWord cX9_isWord 9 (some .boolean) rmX9_isWord (Cond.code yX9_isWord cX9_isWord 9 (some .boolean) :: q_G)) : q_SK X 9 87 (BX9_isWord_87) := by
  refine k_iconst (v := 1) h (ddX9_isWord (87, .iconst 1, 1) (List.mem_of_getElem? (i := 43) rfl)) (by decide) ?_
  refine k_goto h (ddX9_isWord (88, .goto 4, 3) (List.mem_of_getElem? (i := 44) rfl)) (tgt := 92) (by decide) ?_
  exact sX9_isWord_92 hl hQ h
theorem sX9_isWord_84 {l : Launch} {X : q_CX} (hl : X.2.1 = l) (hQ : q_QM X) (h : q_OK X yX9_isWord cX9_isWord 9 (some .boolean) rmX9_isWord (Cond.code yX9_isWord cX9_isWord 9 (some .boolean) :: q_G)) : q_SK X 9 84 (BX9_isWord_84) := by
  refine k_icne h (ddX9_isWord (84, .if_icmp .ne 7, 3) (List.mem_of_getElem? (i := 42) rfl)) (tgt := 91) (by decide) ?_ ?_
  · exact sX9_isWord_91 hl hQ h
  · exact sX9_isWord_87 hl hQ h
theorem sX9_isWord_82 {l : Launch} {X : q_CX} (hl : X.2.1 = l) (hQ : q_QM X) (h : q_OK X yX9_isWord cX9_isWord 9 (some .boolean) rmX9_isWord (Cond.code yX9_isWord cX9_isWord 9 (some .boolean) :: q_G)) : q_SK X 9 82 (BX9_isWord_82) := by
  refine k_iload (i := 6) h (ddX9_isWord (82, .iload 6, 2) (List.mem_of_getElem? (i := 41) rfl)) ?_
  exact sX9_isWord_84 hl hQ h
theorem sX9_isWord_77 {l : Launch} {X : q_CX} (hl : X.2.1 = l) (hQ : q_QM X) (h : q_OK X yX9_isWord cX9_isWord 9 (some .boolean) rmX9_isWord (Cond.code yX9_isWord cX9_isWord 9 (some .boolean) :: q_G)) : q_SK X 9 77 (BX9_isWord_77) := by
  refine k_iload (i := 5) h (ddX9_isWord (77, .iload 5, 2) (List.mem_of_getElem? (i := 39) rfl)) ?_
  refine k_goto h (ddX9_isWord (79, .goto 5, 3) (List.mem_of_getElem? (i := 40) rfl)) (tgt := 84) (by decide) ?_
  exact sX9_isWord_84 hl hQ h
theorem sX9_isWord_71 {l : Launch} {X : q_CX} (hl : X.2.1 = l) (hQ : q_QM X) (h : q_OK X yX9_isWord cX9_isWord 9 (some .boolean) rmX9_isWord (Cond.code yX9_isWord cX9_isWord 9 (some .boolean) :: q_G)) : q_SK X 9 71 (BX9_isWord_71) := by
  refine k_iload (i := 8) h (ddX9_isWord (71, .iload 8, 2) (List.mem_of_getElem? (i := 36) rfl)) ?_
  refine k_iconst (v := 3) h (ddX9_isWord (73, .iconst 3, 1) (List.mem_of_getElem? (i := 37) rfl)) (by decide) ?_
  refine k_icne h (ddX9_isWord (74, .if_icmp .ne 8, 3) (List.mem_of_getElem? (i := 38) rfl)) (tgt := 82) (by decide) ?_ ?_
  · exact sX9_isWord_82 hl hQ h
  · exact sX9_isWord_77 hl hQ h
theorem sX9_isWord_66 {l : Launch} {X : q_CX} (hl : X.2.1 = l) (hQ : q_QM X) (h : q_OK X yX9_isWord cX9_isWord 9 (some .boolean) rmX9_isWord (Cond.code yX9_isWord cX9_isWord 9 (some .boolean) :: q_G)) : q_SK X 9 66 (BX9_isWord_66) := by
  refine k_iload (i := 4) h (ddX9_isWord (66, .iload 4, 2) (List.mem_of_getElem? (i := 34) rfl)) ?_
  refine k_goto h (ddX9_isWord (68, .goto 16, 3) (List.mem_of_getElem? (i := 35) rfl)) (tgt := 84) (by decide) ?_
  exact sX9_isWord_84 hl hQ h
theorem sX9_isWord_60 {l : Launch} {X : q_CX} (hl : X.2.1 = l) (hQ : q_QM X) (h : q_OK X yX9_isWord cX9_isWord 9 (some .boolean) rmX9_isWord (Cond.code yX9_isWord cX9_isWord 9 (some .boolean) :: q_G)) : q_SK X 9 60 (BX9_isWord_60) := by
  refine k_iload (i := 8) h (ddX9_isWord (60, .iload 8, 2) (List.mem_of_getElem? (i := 31) rfl)) ?_
  refine k_iconst (v := 2) h (ddX9_isWord (62, .iconst 2, 1) (List.mem_of_getElem? (i := 32) rfl)) (by decide) ?_
  refine k_icne h (ddX9_isWord (63, .if_icmp .ne 8, 3) (List.mem_of_getElem? (i := 33) rfl)) (tgt := 71) (by decide) ?_ ?_
  · exact sX9_isWord_71 hl hQ h
  · exact sX9_isWord_66 hl hQ h
theorem sX9_isWord_56 {l : Launch} {X : q_CX} (hl : X.2.1 = l) (hQ : q_QM X) (h : q_OK X yX9_isWord cX9_isWord 9 (some .boolean) rmX9_isWord (Cond.code yX9_isWord cX9_isWord 9 (some .boolean) :: q_G)) : q_SK X 9 56 (BX9_isWord_56) := by
  refine k_iload_n (i := 3) h (ddX9_isWord (56, .iload_n 3, 1) (List.mem_of_getElem? (i := 29) rfl)) rfl ?_
  refine k_goto h (ddX9_isWord (57, .goto 27, 3) (List.mem_of_getElem? (i := 30) rfl)) (tgt := 84) (by decide) ?_
  exact sX9_isWord_84 hl hQ h
theorem sX9_isWord_50 {l : Launch} {X : q_CX} (hl : X.2.1 = l) (hQ : q_QM X) (h : q_OK X yX9_isWord cX9_isWord 9 (some .boolean) rmX9_isWord (Cond.code yX9_isWord cX9_isWord 9 (some .boolean) :: q_G)) : q_SK X 9 50 (BX9_isWord_50) := by
  refine k_iload (i := 8) h (ddX9_isWord (50, .iload 8, 2) (List.mem_of_getElem? (i := 26) rfl)) ?_
  refine k_iconst (v := 1) h (ddX9_isWord (52, .iconst 1, 1) (List.mem_of_getElem? (i := 27) rfl)) (by decide) ?_
  refine k_icne h (ddX9_isWord (53, .if_icmp .ne 7, 3) (List.mem_of_getElem? (i := 28) rfl)) (tgt := 60) (by decide) ?_ ?_
  · exact sX9_isWord_60 hl hQ h
  · exact sX9_isWord_56 hl hQ h
theorem sX9_isWord_46 {l : Launch} {X : q_CX} (hl : X.2.1 = l) (hQ : q_QM X) (h : q_OK X yX9_isWord cX9_isWord 9 (some .boolean) rmX9_isWord (Cond.code yX9_isWord cX9_isWord 9 (some .boolean) :: q_G)) : q_SK X 9 46 (BX9_isWord_46) := by
  refine k_iload_n (i := 2) h (ddX9_isWord (46, .iload_n 2, 1) (List.mem_of_getElem? (i := 24) rfl)) rfl ?_
  refine k_goto h (ddX9_isWord (47, .goto 37, 3) (List.mem_of_getElem? (i := 25) rfl)) (tgt := 84) (by decide) ?_
  exact sX9_isWord_84 hl hQ h
theorem sX9_isWord_29 {l : Launch} {X : q_CX} (hl : X.2.1 = l) (hQ : q_QM X) (h : q_OK X yX9_isWord cX9_isWord 9 (some .boolean) rmX9_isWord (Cond.code yX9_isWord cX9_isWord 9 (some .boolean) :: q_G)) : q_SK X 9 29 (BX9_isWord_29) := by
  refine k_aload_n (i := 0) h (ddX9_isWord (29, .aload_n 0, 1) (List.mem_of_getElem? (i := 15) rfl)) rfl ?_
  refine k_getf (ci := 9) (j := 15) (C := RX9) (T := TX9) (N := 33) h rfl (fun w hw => List.mem_cons_of_mem _ (q_inX9 w hw)) (by decide) (List.mem_cons_of_mem _ gw593) (ddX9_isWord (30, .getfield 32, 3) (List.mem_of_getElem? (i := 16) rfl)) ?_
  refine k_aload_n (i := 0) h (ddX9_isWord (33, .aload_n 0, 1) (List.mem_of_getElem? (i := 17) rfl)) rfl ?_
  refine k_getf (ci := 9) (j := 18) (C := RX9) (T := TX9) (N := 33) h rfl (fun w hw => List.mem_cons_of_mem _ (q_inX9 w hw)) (by decide) (List.mem_cons_of_mem _ gw619) (ddX9_isWord (34, .getfield 89, 3) (List.mem_of_getElem? (i := 18) rfl)) ?_
  refine k_iload (i := 8) h (ddX9_isWord (37, .iload 8, 2) (List.mem_of_getElem? (i := 19) rfl)) ?_
  refine k_iadd h (ddX9_isWord (39, .iadd, 1) (List.mem_of_getElem? (i := 20) rfl)) ?_
  refine k_iald h (ddX9_isWord (40, .iaload, 1) (List.mem_of_getElem? (i := 21) rfl)) ?_
  refine k_iload (i := 8) h (ddX9_isWord (41, .iload 8, 2) (List.mem_of_getElem? (i := 22) rfl)) ?_
  refine k_ifne h (ddX9_isWord (43, .ifCond .ne 7, 3) (List.mem_of_getElem? (i := 23) rfl)) (tgt := 50) (by decide) ?_ ?_
  · exact sX9_isWord_50 hl hQ h
  · exact sX9_isWord_46 hl hQ h
theorem sX9_isWord_24 {l : Launch} {X : q_CX} (hl : X.2.1 = l) (hQ : q_QM X) (h : q_OK X yX9_isWord cX9_isWord 9 (some .boolean) rmX9_isWord (Cond.code yX9_isWord cX9_isWord 9 (some .boolean) :: q_G)) : q_SK X 9 24 (BX9_isWord_24) := by
  refine k_iload (i := 7) h (ddX9_isWord (24, .iload 7, 2) (List.mem_of_getElem? (i := 13) rfl)) ?_
  refine k_ifeq h (ddX9_isWord (26, .ifCond .eq 74, 3) (List.mem_of_getElem? (i := 14) rfl)) (tgt := 100) (by decide) ?_ ?_
  · exact sX9_isWord_100 hl hQ h
  · exact sX9_isWord_29 hl hQ h
theorem sX9_isWord_18 {l : Launch} {X : q_CX} (hl : X.2.1 = l) (hQ : q_QM X) (h : q_OK X yX9_isWord cX9_isWord 9 (some .boolean) rmX9_isWord (Cond.code yX9_isWord cX9_isWord 9 (some .boolean) :: q_G)) : q_SK X 9 18 (BX9_isWord_18) := by
  refine k_iload (i := 8) h (ddX9_isWord (18, .iload 8, 2) (List.mem_of_getElem? (i := 10) rfl)) ?_
  refine k_iload_n (i := 1) h (ddX9_isWord (20, .iload_n 1, 1) (List.mem_of_getElem? (i := 11) rfl)) rfl ?_
  refine k_icge h (ddX9_isWord (21, .if_icmp .ge 79, 3) (List.mem_of_getElem? (i := 12) rfl)) (tgt := 100) (by decide) ?_ ?_
  · exact sX9_isWord_100 hl hQ h
  · exact sX9_isWord_24 hl hQ h
theorem aX9_isWord (l : Launch) (as : List Value) (sh : q_Sh) (m : q_Mm) (R : q_KR) (hw : wX9_isWord as sh m R) : q_AM l yX9_isWord (Cond.code yX9_isWord cX9_isWord 9 (some .boolean) :: q_G) rmX9_isWord as sh m R := by
  refine q_met (code := TX9_isWord) (by decide) (fun X hl hQ _ h pc => ?_) hw.1 hw.2
  unfold TX9_isWord
  exact k_at (sX9_isWord_0 hl hQ h) (k_at (sX9_isWord_18 hl hQ h) (k_no))
/-! TumblingRockModel.takeNumber(II)I -/
abbrev dlX9_takeNumber : List (Nat × (Instr × Nat)) := [(0, .aload_n 0, 1), (1, .getfield 82, 3), (4, .ifCond .le 5, 3), (7, .iconst 0, 1), (8, .ireturn, 1), (9, .aload_n 0, 1), (10, .invokevirtual 85, 3), (13, .istore_n 3, 1), (14, .aload_n 0, 1), (15, .aload_n 0, 1), (16, .getfield 79, 3), (19, .putfield 89, 3), (22, .aload_n 0, 1), (23, .iload_n 3, 1), (24, .i2l, 1), (25, .ldc2_w 99, 3), (28, .ldc2_w 101, 3), (31, .invokestatic 68, 3), (34, .iconst 1, 1), (35, .aload_n 0, 1), (36, .getfield 79, 3), (39, .invokevirtual 103, 3), (42, .ifCond .ne 5, 3), (45, .iconst 0, 1), (46, .ireturn, 1), (47, .iconst 0, 1), (48, .istore 4, 2), (50, .aload_n 0, 1), (51, .getfield 79, 3), (54, .aload_n 0, 1), (55, .getfield 73, 3), (58, .if_icmp .ge 70, 3), (61, .aload_n 0, 1), (62, .getfield 32, 3), (65, .aload_n 0, 1), (66, .getfield 79, 3), (69, .iaload, 1), (70, .i2l, 1), (71, .ldc2_w 99, 3), (74, .ldc2_w 101, 3), (77, .invokestatic 68, 3), (80, .ifCond .eq 48, 3), (83, .iload 4, 2), (85, .ldc 107, 2), (87, .if_icmp .le 8, 3), (90, .iload 4, 2), (92, .goto 21, 3), (95, .bipush 10, 2), (97, .iload 4, 2), (99, .imul, 1), (100, .aload_n 0, 1), (101, .getfield 32, 3), (104, .aload_n 0, 1), (105, .getfield 79, 3), (108, .iaload, 1), (109, .iadd, 1), (110, .bipush 48, 2), (112, .isub, 1), (113, .istore 4, 2), (115, .aload_n 0, 1), (116, .dup, 1), (117, .getfield 79, 3), (120, .iconst 1, 1), (121, .iadd, 1), (122, .putfield 79, 3), (125, .goto (-75), 3), (128, .aload_n 0, 1), (129, .aload_n 0, 1), (130, .getfield 79, 3), (133, .aload_n 0, 1), (134, .getfield 89, 3), (137, .isub, 1), (138, .iconst 4, 1), (139, .if_icmp .ge 20, 3), (142, .iload 4, 2), (144, .i2l, 1), (145, .iload_n 1, 1), (146, .i2l, 1), (147, .iload_n 2, 1), (148, .i2l, 1), (149, .invokestatic 68, 3), (152, .ifCond .eq 7, 3), (155, .iconst 1, 1), (156, .goto 4, 3), (159, .iconst 0, 1), (160, .iconst 2, 1), (161, .aload_n 0, 1), (162, .getfield 89, 3), (165, .invokevirtual 103, 3), (168, .istore 5, 2), (170, .iload 4, 2), (172, .ireturn, 1)]
theorem ddX9_takeNumber : ∀ q ∈ dlX9_takeNumber, decode cX9_takeNumber q.1 = .ok q.2 := by decide +kernel
theorem sX9_takeNumber_47 {l : Launch} {X : q_CX} (hl : X.2.1 = l) (hQ : q_QM X) (h : q_OK X yX9_takeNumber cX9_takeNumber 6 (some .int) rmX9_takeNumber (Cond.code yX9_takeNumber cX9_takeNumber 6 (some .int) :: q_G)) : q_SK X 6 47 (BX9_takeNumber_47) := by
  refine k_iconst (v := 0) h (ddX9_takeNumber (47, .iconst 0, 1) (List.mem_of_getElem? (i := 25) rfl)) (by decide) ?_
  refine k_istore (i := 4) h (ddX9_takeNumber (48, .istore 4, 2) (List.mem_of_getElem? (i := 26) rfl)) (by decide) ?_
  exact k_cut
theorem sX9_takeNumber_45 {l : Launch} {X : q_CX} (hl : X.2.1 = l) (hQ : q_QM X) (h : q_OK X yX9_takeNumber cX9_takeNumber 6 (some .int) rmX9_takeNumber (Cond.code yX9_takeNumber cX9_takeNumber 6 (some .int) :: q_G)) : q_SK X 6 45 (BX9_takeNumber_45) := by
  refine k_iconst (v := 0) h (ddX9_takeNumber (45, .iconst 0, 1) (List.mem_of_getElem? (i := 23) rfl)) (by decide) ?_
  exact k_iret h hQ (ddX9_takeNumber (46, .ireturn, 1) (List.mem_of_getElem? (i := 24) rfl))
theorem sX9_takeNumber_9 {l : Launch} {X : q_CX} (hl : X.2.1 = l) (hQ : q_QM X) (h : q_OK X yX9_takeNumber cX9_takeNumber 6 (some .int) rmX9_takeNumber (Cond.code yX9_takeNumber cX9_takeNumber 6 (some .int) :: q_G)) : q_SK X 6 9 (BX9_takeNumber_9) := by
  refine k_aload_n (i := 0) h (ddX9_takeNumber (9, .aload_n 0, 1) (List.mem_of_getElem? (i := 5) rfl)) rfl ?_
  refine k_callV h hl (aX9_here l) (ci := 9) (C := RX9) (T := TX9) (N := 33) rfl ⟨rfl, rfl⟩ (n := 0) (by decide +kernel) (q_gV gw616 gw617 gw618 gw606 gw615) ⟨by decide, by decide⟩ (ddX9_takeNumber (10, .invokevirtual 85, 3) (List.mem_of_getElem? (i := 6) rfl)) ?_
  refine k_istore_n (i := 3) h (ddX9_takeNumber (13, .istore_n 3, 1) (List.mem_of_getElem? (i := 7) rfl)) rfl (by decide) ?_
  refine k_aload_n (i := 0) h (ddX9_takeNumber (14, .aload_n 0, 1) (List.mem_of_getElem? (i := 8) rfl)) rfl ?_
  refine k_aload_n (i := 0) h (ddX9_takeNumber (15, .aload_n 0, 1) (List.mem_of_getElem? (i := 9) rfl)) rfl ?_
  refine k_getf (ci := 9) (j := 17) (C := RX9) (T := TX9) (N := 33) h rfl (fun w hw => List.mem_cons_of_mem _ (q_inX9 w hw)) (by decide) (List.mem_cons_of_mem _ gw613) (ddX9_takeNumber (16, .getfield 79, 3) (List.mem_of_getElem? (i := 10) rfl)) ?_
  refine k_putf (ci := 9) (j := 18) (C := RX9) (T := TX9) (N := 33) h rfl (fun w hw => List.mem_cons_of_mem _ (q_inX9 w hw)) (by decide) (List.mem_cons_of_mem _ gw619) tyX9 tyX9_ok nmX9 (by decide +kernel) (by decide +kernel) (ddX9_takeNumber (19, .putfield 89, 3) (List.mem_of_getElem? (i := 11) rfl)) ?_
  refine k_aload_n (i := 0) h (ddX9_takeNumber (22, .aload_n 0, 1) (List.mem_of_getElem? (i := 12) rfl)) rfl ?_
  refine k_iload_n (i := 3) h (ddX9_takeNumber (23, .iload_n 3, 1) (List.mem_of_getElem? (i := 13) rfl)) rfl ?_
  refine k_i2l h (ddX9_takeNumber (24, .i2l, 1) (List.mem_of_getElem? (i := 14) rfl)) ?_
  refine k_ldc2 (v := 48) h (ddX9_takeNumber (25, .ldc2_w 99, 3) (List.mem_of_getElem? (i := 15) rfl)) (List.mem_cons_of_mem _ gw623) ?_
  refine k_ldc2 (v := 57) h (ddX9_takeNumber (28, .ldc2_w 101, 3) (List.mem_of_getElem? (i := 16) rfl)) (List.mem_cons_of_mem _ gw624) ?_
  refine k_callS h hl (aX9_in l) ⟨rfl, rfl⟩ (n := 3) (by decide +kernel) (q_gS gw608 gw607 gw606 gw605) ⟨by decide, by decide⟩ (ddX9_takeNumber (31, .invokestatic 68, 3) (List.mem_of_getElem? (i := 17) rfl)) ?_
  refine k_iconst (v := 1) h (ddX9_takeNumber (34, .iconst 1, 1) (List.mem_of_getElem? (i := 18) rfl)) (by decide) ?_
  refine k_aload_n (i := 0) h (ddX9_takeNumber (35, .aload_n 0, 1) (List.mem_of_getElem? (i := 19) rfl)) rfl ?_
  refine k_getf (ci := 9) (j := 17) (C := RX9) (T := TX9) (N := 33) h rfl (fun w hw => List.mem_cons_of_mem _ (q_inX9 w hw)) (by decide) (List.mem_cons_of_mem _ gw613) (ddX9_takeNumber (36, .getfield 79, 3) (List.mem_of_getElem? (i := 20) rfl)) ?_
  refine k_callV h hl (aX9_want l) (ci := 9) (C := RX9) (T := TX9) (N := 33) rfl ⟨rfl, rfl⟩ (n := 3) (by decide +kernel) (q_gV gw626 gw627 gw628 gw606 gw625) ⟨by decide, by decide⟩ (ddX9_takeNumber (39, .invokevirtual 103, 3) (List.mem_of_getElem? (i := 21) rfl)) ?_
  refine k_ifne h (ddX9_takeNumber (42, .ifCond .ne 5, 3) (List.mem_of_getElem? (i := 22) rfl)) (tgt := 47) (by decide) ?_ ?_
  · exact sX9_takeNumber_47 hl hQ h
  · exact sX9_takeNumber_45 hl hQ h
theorem sX9_takeNumber_7 {l : Launch} {X : q_CX} (hl : X.2.1 = l) (hQ : q_QM X) (h : q_OK X yX9_takeNumber cX9_takeNumber 6 (some .int) rmX9_takeNumber (Cond.code yX9_takeNumber cX9_takeNumber 6 (some .int) :: q_G)) : q_SK X 6 7 (BX9_takeNumber_7) := by
  refine k_iconst (v := 0) h (ddX9_takeNumber (7, .iconst 0, 1) (List.mem_of_getElem? (i := 3) rfl)) (by decide) ?_
  exact k_iret h hQ (ddX9_takeNumber (8, .ireturn, 1) (List.mem_of_getElem? (i := 4) rfl))
theorem sX9_takeNumber_0 {l : Launch} {X : q_CX} (hl : X.2.1 = l) (hQ : q_QM X) (h : q_OK X yX9_takeNumber cX9_takeNumber 6 (some .int) rmX9_takeNumber (Cond.code yX9_takeNumber cX9_takeNumber 6 (some .int) :: q_G)) : q_SK X 6 0 (BX9_takeNumber_0) := by
  refine k_aload_n (i := 0) h (ddX9_takeNumber (0, .aload_n 0, 1) (List.mem_of_getElem? (i := 0) rfl)) rfl ?_
  refine k_getf (ci := 9) (j := 20) (C := RX9) (T := TX9) (N := 33) h rfl (fun w hw => List.mem_cons_of_mem _ (q_inX9 w hw)) (by decide) (List.mem_cons_of_mem _ gw614) (ddX9_takeNumber (1, .getfield 82, 3) (List.mem_of_getElem? (i := 1) rfl)) ?_
  refine k_ifle h (ddX9_takeNumber (4, .ifCond .le 5, 3) (List.mem_of_getElem? (i := 2) rfl)) (tgt := 9) (by decide) ?_ ?_
  · exact sX9_takeNumber_9 hl hQ h
  · exact sX9_takeNumber_7 hl hQ h
theorem sX9_takeNumber_113 {l : Launch} {X : q_CX} (hl : X.2.1 = l) (hQ : q_QM X) (h : q_OK X yX9_takeNumber cX9_takeNumber 6 (some .int) rmX9_takeNumber (Cond.code yX9_takeNumber cX9_takeNumber 6 (some .int) :: q_G)) : q_SK X 6 113 (BX9_takeNumber_113) := by
  refine k_istore (i := 4) h (ddX9_takeNumber (113, .istore 4, 2) (List.mem_of_getElem? (i := 58) rfl)) (by decide) ?_
  refine k_aload_n (i := 0) h (ddX9_takeNumber (115, .aload_n 0, 1) (List.mem_of_getElem? (i := 59) rfl)) rfl ?_
  refine k_dup h (ddX9_takeNumber (116, .dup, 1) (List.mem_of_getElem? (i := 60) rfl)) ?_
  refine k_getf (ci := 9) (j := 17) (C := RX9) (T := TX9) (N := 33) h rfl (fun w hw => List.mem_cons_of_mem _ (q_inX9 w hw)) (by decide) (List.mem_cons_of_mem _ gw613) (ddX9_takeNumber (117, .getfield 79, 3) (List.mem_of_getElem? (i := 61) rfl)) ?_
  refine k_iconst (v := 1) h (ddX9_takeNumber (120, .iconst 1, 1) (List.mem_of_getElem? (i := 62) rfl)) (by decide) ?_
  refine k_iadd h (ddX9_takeNumber (121, .iadd, 1) (List.mem_of_getElem? (i := 63) rfl)) ?_
  refine k_putf (ci := 9) (j := 17) (C := RX9) (T := TX9) (N := 33) h rfl (fun w hw => List.mem_cons_of_mem _ (q_inX9 w hw)) (by decide) (List.mem_cons_of_mem _ gw613) tyX9 tyX9_ok nmX9 (by decide +kernel) (by decide +kernel) (ddX9_takeNumber (122, .putfield 79, 3) (List.mem_of_getElem? (i := 64) rfl)) ?_
  refine k_goto h (ddX9_takeNumber (125, .goto (-75), 3) (List.mem_of_getElem? (i := 65) rfl)) (tgt := 50) (by decide) ?_
  exact k_cut
theorem sX9_takeNumber_95 {l : Launch} {X : q_CX} (hl : X.2.1 = l) (hQ : q_QM X) (h : q_OK X yX9_takeNumber cX9_takeNumber 6 (some .int) rmX9_takeNumber (Cond.code yX9_takeNumber cX9_takeNumber 6 (some .int) :: q_G)) : q_SK X 6 95 (BX9_takeNumber_95) := by
  refine k_bipush (v := 10) h (ddX9_takeNumber (95, .bipush 10, 2) (List.mem_of_getElem? (i := 47) rfl)) (by decide) ?_
  refine k_iload (i := 4) h (ddX9_takeNumber (97, .iload 4, 2) (List.mem_of_getElem? (i := 48) rfl)) ?_
  refine k_imul h (ddX9_takeNumber (99, .imul, 1) (List.mem_of_getElem? (i := 49) rfl)) ?_
  refine k_aload_n (i := 0) h (ddX9_takeNumber (100, .aload_n 0, 1) (List.mem_of_getElem? (i := 50) rfl)) rfl ?_
  refine k_getf (ci := 9) (j := 15) (C := RX9) (T := TX9) (N := 33) h rfl (fun w hw => List.mem_cons_of_mem _ (q_inX9 w hw)) (by decide) (List.mem_cons_of_mem _ gw593) (ddX9_takeNumber (101, .getfield 32, 3) (List.mem_of_getElem? (i := 51) rfl)) ?_
  refine k_aload_n (i := 0) h (ddX9_takeNumber (104, .aload_n 0, 1) (List.mem_of_getElem? (i := 52) rfl)) rfl ?_
  refine k_getf (ci := 9) (j := 17) (C := RX9) (T := TX9) (N := 33) h rfl (fun w hw => List.mem_cons_of_mem _ (q_inX9 w hw)) (by decide) (List.mem_cons_of_mem _ gw613) (ddX9_takeNumber (105, .getfield 79, 3) (List.mem_of_getElem? (i := 53) rfl)) ?_
  refine k_iald h (ddX9_takeNumber (108, .iaload, 1) (List.mem_of_getElem? (i := 54) rfl)) ?_
  refine k_iadd h (ddX9_takeNumber (109, .iadd, 1) (List.mem_of_getElem? (i := 55) rfl)) ?_
  refine k_bipush (v := 48) h (ddX9_takeNumber (110, .bipush 48, 2) (List.mem_of_getElem? (i := 56) rfl)) (by decide) ?_
  refine k_isub h (ddX9_takeNumber (112, .isub, 1) (List.mem_of_getElem? (i := 57) rfl)) ?_
  exact sX9_takeNumber_113 hl hQ h
theorem sX9_takeNumber_90 {l : Launch} {X : q_CX} (hl : X.2.1 = l) (hQ : q_QM X) (h : q_OK X yX9_takeNumber cX9_takeNumber 6 (some .int) rmX9_takeNumber (Cond.code yX9_takeNumber cX9_takeNumber 6 (some .int) :: q_G)) : q_SK X 6 90 (BX9_takeNumber_90) := by
  refine k_iload (i := 4) h (ddX9_takeNumber (90, .iload 4, 2) (List.mem_of_getElem? (i := 45) rfl)) ?_
  refine k_goto h (ddX9_takeNumber (92, .goto 21, 3) (List.mem_of_getElem? (i := 46) rfl)) (tgt := 113) (by decide) ?_
  exact sX9_takeNumber_113 hl hQ h
theorem sX9_takeNumber_83 {l : Launch} {X : q_CX} (hl : X.2.1 = l) (hQ : q_QM X) (h : q_OK X yX9_takeNumber cX9_takeNumber 6 (some .int) rmX9_takeNumber (Cond.code yX9_takeNumber cX9_takeNumber 6 (some .int) :: q_G)) : q_SK X 6 83 (BX9_takeNumber_83) := by
  refine k_iload (i := 4) h (ddX9_takeNumber (83, .iload 4, 2) (List.mem_of_getElem? (i := 42) rfl)) ?_
  refine k_ldc (v := 99999) h (ddX9_takeNumber (85, .ldc 107, 2) (List.mem_of_getElem? (i := 43) rfl)) (List.mem_cons_of_mem _ gw629) ?_
  refine k_icle h (ddX9_takeNumber (87, .if_icmp .le 8, 3) (List.mem_of_getElem? (i := 44) rfl)) (tgt := 95) (by decide) ?_ ?_
  · exact sX9_takeNumber_95 hl hQ h
  · exact sX9_takeNumber_90 hl hQ h
theorem sX9_takeNumber_61 {l : Launch} {X : q_CX} (hl : X.2.1 = l) (hQ : q_QM X) (h : q_OK X yX9_takeNumber cX9_takeNumber 6 (some .int) rmX9_takeNumber (Cond.code yX9_takeNumber cX9_takeNumber 6 (some .int) :: q_G)) : q_SK X 6 61 (BX9_takeNumber_61) := by
  refine k_aload_n (i := 0) h (ddX9_takeNumber (61, .aload_n 0, 1) (List.mem_of_getElem? (i := 32) rfl)) rfl ?_
  refine k_getf (ci := 9) (j := 15) (C := RX9) (T := TX9) (N := 33) h rfl (fun w hw => List.mem_cons_of_mem _ (q_inX9 w hw)) (by decide) (List.mem_cons_of_mem _ gw593) (ddX9_takeNumber (62, .getfield 32, 3) (List.mem_of_getElem? (i := 33) rfl)) ?_
  refine k_aload_n (i := 0) h (ddX9_takeNumber (65, .aload_n 0, 1) (List.mem_of_getElem? (i := 34) rfl)) rfl ?_
  refine k_getf (ci := 9) (j := 17) (C := RX9) (T := TX9) (N := 33) h rfl (fun w hw => List.mem_cons_of_mem _ (q_inX9 w hw)) (by decide) (List.mem_cons_of_mem _ gw613) (ddX9_takeNumber (66, .getfield 79, 3) (List.mem_of_getElem? (i := 35) rfl)) ?_
  refine k_iald h (ddX9_takeNumber (69, .iaload, 1) (List.mem_of_getElem? (i := 36) rfl)) ?_
  refine k_i2l h (ddX9_takeNumber (70, .i2l, 1) (List.mem_of_getElem? (i := 37) rfl)) ?_
  refine k_ldc2 (v := 48) h (ddX9_takeNumber (71, .ldc2_w 99, 3) (List.mem_of_getElem? (i := 38) rfl)) (List.mem_cons_of_mem _ gw623) ?_
  refine k_ldc2 (v := 57) h (ddX9_takeNumber (74, .ldc2_w 101, 3) (List.mem_of_getElem? (i := 39) rfl)) (List.mem_cons_of_mem _ gw624) ?_
  refine k_callS h hl (aX9_in l) ⟨rfl, rfl⟩ (n := 3) (by decide +kernel) (q_gS gw608 gw607 gw606 gw605) ⟨by decide, by decide⟩ (ddX9_takeNumber (77, .invokestatic 68, 3) (List.mem_of_getElem? (i := 40) rfl)) ?_
  refine k_ifeq h (ddX9_takeNumber (80, .ifCond .eq 48, 3) (List.mem_of_getElem? (i := 41) rfl)) (tgt := 128) (by decide) ?_ ?_
  · exact k_cut
  · exact sX9_takeNumber_83 hl hQ h
theorem sX9_takeNumber_50 {l : Launch} {X : q_CX} (hl : X.2.1 = l) (hQ : q_QM X) (h : q_OK X yX9_takeNumber cX9_takeNumber 6 (some .int) rmX9_takeNumber (Cond.code yX9_takeNumber cX9_takeNumber 6 (some .int) :: q_G)) : q_SK X 6 50 (BX9_takeNumber_50) := by
  refine k_aload_n (i := 0) h (ddX9_takeNumber (50, .aload_n 0, 1) (List.mem_of_getElem? (i := 27) rfl)) rfl ?_
  refine k_getf (ci := 9) (j := 17) (C := RX9) (T := TX9) (N := 33) h rfl (fun w hw => List.mem_cons_of_mem _ (q_inX9 w hw)) (by decide) (List.mem_cons_of_mem _ gw613) (ddX9_takeNumber (51, .getfield 79, 3) (List.mem_of_getElem? (i := 28) rfl)) ?_
  refine k_aload_n (i := 0) h (ddX9_takeNumber (54, .aload_n 0, 1) (List.mem_of_getElem? (i := 29) rfl)) rfl ?_
  refine k_getf (ci := 9) (j := 16) (C := RX9) (T := TX9) (N := 33) h rfl (fun w hw => List.mem_cons_of_mem _ (q_inX9 w hw)) (by decide) (List.mem_cons_of_mem _ gw610) (ddX9_takeNumber (55, .getfield 73, 3) (List.mem_of_getElem? (i := 30) rfl)) ?_
  refine k_icge h (ddX9_takeNumber (58, .if_icmp .ge 70, 3) (List.mem_of_getElem? (i := 31) rfl)) (tgt := 128) (by decide) ?_ ?_
  · exact k_cut
  · exact sX9_takeNumber_61 hl hQ h
theorem sX9_takeNumber_160 {l : Launch} {X : q_CX} (hl : X.2.1 = l) (hQ : q_QM X) (h : q_OK X yX9_takeNumber cX9_takeNumber 6 (some .int) rmX9_takeNumber (Cond.code yX9_takeNumber cX9_takeNumber 6 (some .int) :: q_G)) : q_SK X 6 160 (BX9_takeNumber_160) := by
  refine k_iconst (v := 2) h (ddX9_takeNumber (160, .iconst 2, 1) (List.mem_of_getElem? (i := 85) rfl)) (by decide) ?_
  refine k_aload_n (i := 0) h (ddX9_takeNumber (161, .aload_n 0, 1) (List.mem_of_getElem? (i := 86) rfl)) rfl ?_
  refine k_getf (ci := 9) (j := 18) (C := RX9) (T := TX9) (N := 33) h rfl (fun w hw => List.mem_cons_of_mem _ (q_inX9 w hw)) (by decide) (List.mem_cons_of_mem _ gw619) (ddX9_takeNumber (162, .getfield 89, 3) (List.mem_of_getElem? (i := 87) rfl)) ?_
  refine k_callV h hl (aX9_want l) (ci := 9) (C := RX9) (T := TX9) (N := 33) rfl ⟨rfl, rfl⟩ (n := 3) (by decide +kernel) (q_gV gw626 gw627 gw628 gw606 gw625) ⟨by decide, by decide⟩ (ddX9_takeNumber (165, .invokevirtual 103, 3) (List.mem_of_getElem? (i := 88) rfl)) ?_
  refine k_istore (i := 5) h (ddX9_takeNumber (168, .istore 5, 2) (List.mem_of_getElem? (i := 89) rfl)) (by decide) ?_
  refine k_iload (i := 4) h (ddX9_takeNumber (170, .iload 4, 2) (List.mem_of_getElem? (i := 90) rfl)) ?_
  exact k_iret h hQ (ddX9_takeNumber (172, .ireturn, 1) (List.mem_of_getElem? (i := 91) rfl))
theorem sX9_takeNumber_159 {l : Launch} {X : q_CX} (hl : X.2.1 = l) (hQ : q_QM X) (h : q_OK X yX9_takeNumber cX9_takeNumber 6 (some .int) rmX9_takeNumber (Cond.code yX9_takeNumber cX9_takeNumber 6 (some .int) :: q_G)) : q_SK X 6 159 (BX9_takeNumber_159) := by
  refine k_iconst (v := 0) h (ddX9_takeNumber (159, .iconst 0, 1) (List.mem_of_getElem? (i := 84) rfl)) (by decide) ?_
  exact sX9_takeNumber_160 hl hQ h
theorem sX9_takeNumber_155 {l : Launch} {X : q_CX} (hl : X.2.1 = l) (hQ : q_QM X) (h : q_OK X yX9_takeNumber cX9_takeNumber 6 (some .int) rmX9_takeNumber (Cond.code yX9_takeNumber cX9_takeNumber 6 (some .int) :: q_G)) : q_SK X 6 155 (BX9_takeNumber_155) := by
  refine k_iconst (v := 1) h (ddX9_takeNumber (155, .iconst 1, 1) (List.mem_of_getElem? (i := 82) rfl)) (by decide) ?_
  refine k_goto h (ddX9_takeNumber (156, .goto 4, 3) (List.mem_of_getElem? (i := 83) rfl)) (tgt := 160) (by decide) ?_
  exact sX9_takeNumber_160 hl hQ h
theorem sX9_takeNumber_142 {l : Launch} {X : q_CX} (hl : X.2.1 = l) (hQ : q_QM X) (h : q_OK X yX9_takeNumber cX9_takeNumber 6 (some .int) rmX9_takeNumber (Cond.code yX9_takeNumber cX9_takeNumber 6 (some .int) :: q_G)) : q_SK X 6 142 (BX9_takeNumber_142) := by
  refine k_iload (i := 4) h (ddX9_takeNumber (142, .iload 4, 2) (List.mem_of_getElem? (i := 74) rfl)) ?_
  refine k_i2l h (ddX9_takeNumber (144, .i2l, 1) (List.mem_of_getElem? (i := 75) rfl)) ?_
  refine k_iload_n (i := 1) h (ddX9_takeNumber (145, .iload_n 1, 1) (List.mem_of_getElem? (i := 76) rfl)) rfl ?_
  refine k_i2l h (ddX9_takeNumber (146, .i2l, 1) (List.mem_of_getElem? (i := 77) rfl)) ?_
  refine k_iload_n (i := 2) h (ddX9_takeNumber (147, .iload_n 2, 1) (List.mem_of_getElem? (i := 78) rfl)) rfl ?_
  refine k_i2l h (ddX9_takeNumber (148, .i2l, 1) (List.mem_of_getElem? (i := 79) rfl)) ?_
  refine k_callS h hl (aX9_in l) ⟨rfl, rfl⟩ (n := 3) (by decide +kernel) (q_gS gw608 gw607 gw606 gw605) ⟨by decide, by decide⟩ (ddX9_takeNumber (149, .invokestatic 68, 3) (List.mem_of_getElem? (i := 80) rfl)) ?_
  refine k_ifeq h (ddX9_takeNumber (152, .ifCond .eq 7, 3) (List.mem_of_getElem? (i := 81) rfl)) (tgt := 159) (by decide) ?_ ?_
  · exact sX9_takeNumber_159 hl hQ h
  · exact sX9_takeNumber_155 hl hQ h
theorem sX9_takeNumber_128 {l : Launch} {X : q_CX} (hl : X.2.1 = l) (hQ : q_QM X) (h : q_OK X yX9_takeNumber cX9_takeNumber 6 (some .int) rmX9_takeNumber (Cond.code yX9_takeNumber cX9_takeNumber 6 (some .int) :: q_G)) : q_SK X 6 128 (BX9_takeNumber_128) := by
  refine k_aload_n (i := 0) h (ddX9_takeNumber (128, .aload_n 0, 1) (List.mem_of_getElem? (i := 66) rfl)) rfl ?_
  refine k_aload_n (i := 0) h (ddX9_takeNumber (129, .aload_n 0, 1) (List.mem_of_getElem? (i := 67) rfl)) rfl ?_
  refine k_getf (ci := 9) (j := 17) (C := RX9) (T := TX9) (N := 33) h rfl (fun w hw => List.mem_cons_of_mem _ (q_inX9 w hw)) (by decide) (List.mem_cons_of_mem _ gw613) (ddX9_takeNumber (130, .getfield 79, 3) (List.mem_of_getElem? (i := 68) rfl)) ?_
  refine k_aload_n (i := 0) h (ddX9_takeNumber (133, .aload_n 0, 1) (List.mem_of_getElem? (i := 69) rfl)) rfl ?_
  refine k_getf (ci := 9) (j := 18) (C := RX9) (T := TX9) (N := 33) h rfl (fun w hw => List.mem_cons_of_mem _ (q_inX9 w hw)) (by decide) (List.mem_cons_of_mem _ gw619) (ddX9_takeNumber (134, .getfield 89, 3) (List.mem_of_getElem? (i := 70) rfl)) ?_
  refine k_isub h (ddX9_takeNumber (137, .isub, 1) (List.mem_of_getElem? (i := 71) rfl)) ?_
  refine k_iconst (v := 4) h (ddX9_takeNumber (138, .iconst 4, 1) (List.mem_of_getElem? (i := 72) rfl)) (by decide) ?_
  refine k_icge h (ddX9_takeNumber (139, .if_icmp .ge 20, 3) (List.mem_of_getElem? (i := 73) rfl)) (tgt := 159) (by decide) ?_ ?_
  · exact sX9_takeNumber_159 hl hQ h
  · exact sX9_takeNumber_142 hl hQ h
theorem aX9_takeNumber (l : Launch) (as : List Value) (sh : q_Sh) (m : q_Mm) (R : q_KR) (hw : wX9_takeNumber as sh m R) : q_AM l yX9_takeNumber (Cond.code yX9_takeNumber cX9_takeNumber 6 (some .int) :: q_G) rmX9_takeNumber as sh m R := by
  refine q_met (code := TX9_takeNumber) (by decide) (fun X hl hQ _ h pc => ?_) hw.1 hw.2
  unfold TX9_takeNumber
  exact k_at (sX9_takeNumber_0 hl hQ h) (k_at (sX9_takeNumber_50 hl hQ h) (k_at (sX9_takeNumber_128 hl hQ h) (k_no)))
/-! TumblingRockModel.takeTurn()V -/
abbrev dlX9_takeTurn : List (Nat × (Instr × Nat)) := [(0, .iconst 3, 1), (1, .aload_n 0, 1), (2, .getfield 108, 3), (5, .iadd, 1), (6, .istore_n 1, 1), (7, .aload_n 0, 1), (8, .getfield 20, 3), (11, .iload_n 1, 1), (12, .iconst 0, 1), (13, .iastore, 1), (14, .iconst 1, 1), (15, .istore_n 2, 1), (16, .iload_n 2, 1), (17, .ifCond .eq 104, 3), (20, .aload_n 0, 1), (21, .getfield 17, 3), (24, .bipush 12, 2), (26, .iload_n 1, 1), (27, .imul, 1), (28, .aload_n 0, 1), (29, .getfield 20, 3), (32, .iload_n 1, 1), (33, .iaload, 1), (34, .iadd, 1), (35, .aload_n 0, 1), (36, .iconst 0, 1), (37, .bipush 18, 2), (39, .invokevirtual 111, 3), (42, .bipush 9, 2), (44, .isub, 1), (45, .iastore, 1), (46, .aload_n 0, 1), (47, .getfield 20, 3), (50, .iload_n 1, 1), (51, .dup2, 1), (52, .iaload, 1), (53, .iconst 1, 1), (54, .iadd, 1), (55, .iastore, 1), (56, .aload_n 0, 1), (57, .getfield 82, 3), (60, .ifCond .ne 16, 3), (63, .aload_n 0, 1), (64, .invokevirtual 85, 3), (67, .bipush 44, 2), (69, .if_icmp .ne 7, 3), (72, .iconst 1, 1), (73, .goto 4, 3), (76, .iconst 0, 1), (77, .istore_n 2, 1), (78, .iload_n 2, 1), (79, .ifCond .eq (-63), 3), (82, .aload_n 0, 1), (83, .aload_n 0, 1), (84, .getfield 20, 3), (87, .iload_n 1, 1), (88, .iaload, 1), (89, .bipush 12, 2), (91, .if_icmp .ge 7, 3), (94, .iconst 1, 1), (95, .goto 4, 3), (98, .iconst 0, 1), (99, .iconst 1, 1), (100, .aload_n 0, 1), (101, .getfield 79, 3), (104, .invokevirtual 103, 3), (107, .istore_n 2, 1), (108, .aload_n 0, 1), (109, .dup, 1), (110, .getfield 79, 3), (113, .iconst 1, 1), (114, .iadd, 1), (115, .putfield 79, 3), (118, .goto (-102), 3), (121, .aload_n 0, 1), (122, .getfield 82, 3), (125, .ifCond .ne 29, 3), (128, .aload_n 0, 1), (129, .getfield 20, 3), (132, .iload_n 1, 1), (133, .iaload, 1), (134, .iconst 1, 1), (135, .if_icmp .ne 19, 3), (138, .aload_n 0, 1), (139, .invokevirtual 85, 3), (142, .istore_n 3, 1), (143, .aload_n 0, 1), (144, .iconst 0, 1), (145, .iconst 1, 1), (146, .aload_n 0, 1), (147, .getfield 79, 3), (150, .invokevirtual 103, 3), (153, .istore_n 2, 1), (154, .aload_n 0, 1), (155, .dup, 1), (156, .getfield 108, 3), (159, .iconst 1, 1), (160, .iadd, 1), (161, .putfield 108, 3), (164, .return_, 1)]
theorem ddX9_takeTurn : ∀ q ∈ dlX9_takeTurn, decode cX9_takeTurn q.1 = .ok q.2 := by decide +kernel
theorem sX9_takeTurn_0 {l : Launch} {X : q_CX} (hl : X.2.1 = l) (hQ : q_QM X) (h : q_OK X yX9_takeTurn cX9_takeTurn 4 none rmX9_takeTurn (Cond.code yX9_takeTurn cX9_takeTurn 4 none :: q_G)) : q_SK X 4 0 (BX9_takeTurn_0) := by
  refine k_iconst (v := 3) h (ddX9_takeTurn (0, .iconst 3, 1) (List.mem_of_getElem? (i := 0) rfl)) (by decide) ?_
  refine k_aload_n (i := 0) h (ddX9_takeTurn (1, .aload_n 0, 1) (List.mem_of_getElem? (i := 1) rfl)) rfl ?_
  refine k_getf (ci := 9) (j := 11) (C := RX9) (T := TX9) (N := 33) h rfl (fun w hw => List.mem_cons_of_mem _ (q_inX9 w hw)) (by decide) (List.mem_cons_of_mem _ gw630) (ddX9_takeTurn (2, .getfield 108, 3) (List.mem_of_getElem? (i := 2) rfl)) ?_
  refine k_iadd h (ddX9_takeTurn (5, .iadd, 1) (List.mem_of_getElem? (i := 3) rfl)) ?_
  refine k_istore_n (i := 1) h (ddX9_takeTurn (6, .istore_n 1, 1) (List.mem_of_getElem? (i := 4) rfl)) rfl (by decide) ?_
  refine k_aload_n (i := 0) h (ddX9_takeTurn (7, .aload_n 0, 1) (List.mem_of_getElem? (i := 5) rfl)) rfl ?_
  refine k_getf (ci := 9) (j := 3) (C := RX9) (T := TX9) (N := 33) h rfl (fun w hw => List.mem_cons_of_mem _ (q_inX9 w hw)) (by decide) (List.mem_cons_of_mem _ gw589) (ddX9_takeTurn (8, .getfield 20, 3) (List.mem_of_getElem? (i := 6) rfl)) ?_
  refine k_iload_n (i := 1) h (ddX9_takeTurn (11, .iload_n 1, 1) (List.mem_of_getElem? (i := 7) rfl)) rfl ?_
  refine k_iconst (v := 0) h (ddX9_takeTurn (12, .iconst 0, 1) (List.mem_of_getElem? (i := 8) rfl)) (by decide) ?_
  refine k_iast h (ddX9_takeTurn (13, .iastore, 1) (List.mem_of_getElem? (i := 9) rfl)) ?_
  refine k_iconst (v := 1) h (ddX9_takeTurn (14, .iconst 1, 1) (List.mem_of_getElem? (i := 10) rfl)) (by decide) ?_
  refine k_istore_n (i := 2) h (ddX9_takeTurn (15, .istore_n 2, 1) (List.mem_of_getElem? (i := 11) rfl)) rfl (by decide) ?_
  exact k_cut
theorem sX9_takeTurn_154 {l : Launch} {X : q_CX} (hl : X.2.1 = l) (hQ : q_QM X) (h : q_OK X yX9_takeTurn cX9_takeTurn 4 none rmX9_takeTurn (Cond.code yX9_takeTurn cX9_takeTurn 4 none :: q_G)) : q_SK X 4 154 (BX9_takeTurn_154) := by
  refine k_aload_n (i := 0) h (ddX9_takeTurn (154, .aload_n 0, 1) (List.mem_of_getElem? (i := 93) rfl)) rfl ?_
  refine k_dup h (ddX9_takeTurn (155, .dup, 1) (List.mem_of_getElem? (i := 94) rfl)) ?_
  refine k_getf (ci := 9) (j := 11) (C := RX9) (T := TX9) (N := 33) h rfl (fun w hw => List.mem_cons_of_mem _ (q_inX9 w hw)) (by decide) (List.mem_cons_of_mem _ gw630) (ddX9_takeTurn (156, .getfield 108, 3) (List.mem_of_getElem? (i := 95) rfl)) ?_
  refine k_iconst (v := 1) h (ddX9_takeTurn (159, .iconst 1, 1) (List.mem_of_getElem? (i := 96) rfl)) (by decide) ?_
  refine k_iadd h (ddX9_takeTurn (160, .iadd, 1) (List.mem_of_getElem? (i := 97) rfl)) ?_
  refine k_putf (ci := 9) (j := 11) (C := RX9) (T := TX9) (N := 33) h rfl (fun w hw => List.mem_cons_of_mem _ (q_inX9 w hw)) (by decide) (List.mem_cons_of_mem _ gw630) tyX9 tyX9_ok nmX9 (by decide +kernel) (by decide +kernel) (ddX9_takeTurn (161, .putfield 108, 3) (List.mem_of_getElem? (i := 98) rfl)) ?_
  exact k_vret h hQ (ddX9_takeTurn (164, .return_, 1) (List.mem_of_getElem? (i := 99) rfl))
theorem sX9_takeTurn_138 {l : Launch} {X : q_CX} (hl : X.2.1 = l) (hQ : q_QM X) (h : q_OK X yX9_takeTurn cX9_takeTurn 4 none rmX9_takeTurn (Cond.code yX9_takeTurn cX9_takeTurn 4 none :: q_G)) : q_SK X 4 138 (BX9_takeTurn_138) := by
  refine k_aload_n (i := 0) h (ddX9_takeTurn (138, .aload_n 0, 1) (List.mem_of_getElem? (i := 83) rfl)) rfl ?_
  refine k_callV h hl (aX9_here l) (ci := 9) (C := RX9) (T := TX9) (N := 33) rfl ⟨rfl, rfl⟩ (n := 0) (by decide +kernel) (q_gV gw616 gw617 gw618 gw606 gw615) ⟨by decide, by decide⟩ (ddX9_takeTurn (139, .invokevirtual 85, 3) (List.mem_of_getElem? (i := 84) rfl)) ?_
  refine k_istore_n (i := 3) h (ddX9_takeTurn (142, .istore_n 3, 1) (List.mem_of_getElem? (i := 85) rfl)) rfl (by decide) ?_
  refine k_aload_n (i := 0) h (ddX9_takeTurn (143, .aload_n 0, 1) (List.mem_of_getElem? (i := 86) rfl)) rfl ?_
  refine k_iconst (v := 0) h (ddX9_takeTurn (144, .iconst 0, 1) (List.mem_of_getElem? (i := 87) rfl)) (by decide) ?_
  refine k_iconst (v := 1) h (ddX9_takeTurn (145, .iconst 1, 1) (List.mem_of_getElem? (i := 88) rfl)) (by decide) ?_
  refine k_aload_n (i := 0) h (ddX9_takeTurn (146, .aload_n 0, 1) (List.mem_of_getElem? (i := 89) rfl)) rfl ?_
  refine k_getf (ci := 9) (j := 17) (C := RX9) (T := TX9) (N := 33) h rfl (fun w hw => List.mem_cons_of_mem _ (q_inX9 w hw)) (by decide) (List.mem_cons_of_mem _ gw613) (ddX9_takeTurn (147, .getfield 79, 3) (List.mem_of_getElem? (i := 90) rfl)) ?_
  refine k_callV h hl (aX9_want l) (ci := 9) (C := RX9) (T := TX9) (N := 33) rfl ⟨rfl, rfl⟩ (n := 3) (by decide +kernel) (q_gV gw626 gw627 gw628 gw606 gw625) ⟨by decide, by decide⟩ (ddX9_takeTurn (150, .invokevirtual 103, 3) (List.mem_of_getElem? (i := 91) rfl)) ?_
  refine k_istore_n (i := 2) h (ddX9_takeTurn (153, .istore_n 2, 1) (List.mem_of_getElem? (i := 92) rfl)) rfl (by decide) ?_
  exact sX9_takeTurn_154 hl hQ h
theorem sX9_takeTurn_128 {l : Launch} {X : q_CX} (hl : X.2.1 = l) (hQ : q_QM X) (h : q_OK X yX9_takeTurn cX9_takeTurn 4 none rmX9_takeTurn (Cond.code yX9_takeTurn cX9_takeTurn 4 none :: q_G)) : q_SK X 4 128 (BX9_takeTurn_128) := by
  refine k_aload_n (i := 0) h (ddX9_takeTurn (128, .aload_n 0, 1) (List.mem_of_getElem? (i := 77) rfl)) rfl ?_
  refine k_getf (ci := 9) (j := 3) (C := RX9) (T := TX9) (N := 33) h rfl (fun w hw => List.mem_cons_of_mem _ (q_inX9 w hw)) (by decide) (List.mem_cons_of_mem _ gw589) (ddX9_takeTurn (129, .getfield 20, 3) (List.mem_of_getElem? (i := 78) rfl)) ?_
  refine k_iload_n (i := 1) h (ddX9_takeTurn (132, .iload_n 1, 1) (List.mem_of_getElem? (i := 79) rfl)) rfl ?_
  refine k_iald h (ddX9_takeTurn (133, .iaload, 1) (List.mem_of_getElem? (i := 80) rfl)) ?_
  refine k_iconst (v := 1) h (ddX9_takeTurn (134, .iconst 1, 1) (List.mem_of_getElem? (i := 81) rfl)) (by decide) ?_
  refine k_icne h (ddX9_takeTurn (135, .if_icmp .ne 19, 3) (List.mem_of_getElem? (i := 82) rfl)) (tgt := 154) (by decide) ?_ ?_
  · exact sX9_takeTurn_154 hl hQ h
  · exact sX9_takeTurn_138 hl hQ h
theorem sX9_takeTurn_121 {l : Launch} {X : q_CX} (hl : X.2.1 = l) (hQ : q_QM X) (h : q_OK X yX9_takeTurn cX9_takeTurn 4 none rmX9_takeTurn (Cond.code yX9_takeTurn cX9_takeTurn 4 none :: q_G)) : q_SK X 4 121 (BX9_takeTurn_121) := by
  refine k_aload_n (i := 0) h (ddX9_takeTurn (121, .aload_n 0, 1) (List.mem_of_getElem? (i := 74) rfl)) rfl ?_
  refine k_getf (ci := 9) (j := 20) (C := RX9) (T := TX9) (N := 33) h rfl (fun w hw => List.mem_cons_of_mem _ (q_inX9 w hw)) (by decide) (List.mem_cons_of_mem _ gw614) (ddX9_takeTurn (122, .getfield 82, 3) (List.mem_of_getElem? (i := 75) rfl)) ?_
  refine k_ifne h (ddX9_takeTurn (125, .ifCond .ne 29, 3) (List.mem_of_getElem? (i := 76) rfl)) (tgt := 154) (by decide) ?_ ?_
  · exact sX9_takeTurn_154 hl hQ h
  · exact sX9_takeTurn_128 hl hQ h
theorem sX9_takeTurn_76 {l : Launch} {X : q_CX} (hl : X.2.1 = l) (hQ : q_QM X) (h : q_OK X yX9_takeTurn cX9_takeTurn 4 none rmX9_takeTurn (Cond.code yX9_takeTurn cX9_takeTurn 4 none :: q_G)) : q_SK X 4 76 (BX9_takeTurn_76) := by
  refine k_iconst (v := 0) h (ddX9_takeTurn (76, .iconst 0, 1) (List.mem_of_getElem? (i := 48) rfl)) (by decide) ?_
  exact k_cut
theorem sX9_takeTurn_72 {l : Launch} {X : q_CX} (hl : X.2.1 = l) (hQ : q_QM X) (h : q_OK X yX9_takeTurn cX9_takeTurn 4 none rmX9_takeTurn (Cond.code yX9_takeTurn cX9_takeTurn 4 none :: q_G)) : q_SK X 4 72 (BX9_takeTurn_72) := by
  refine k_iconst (v := 1) h (ddX9_takeTurn (72, .iconst 1, 1) (List.mem_of_getElem? (i := 46) rfl)) (by decide) ?_
  refine k_goto h (ddX9_takeTurn (73, .goto 4, 3) (List.mem_of_getElem? (i := 47) rfl)) (tgt := 77) (by decide) ?_
  exact k_cut
theorem sX9_takeTurn_63 {l : Launch} {X : q_CX} (hl : X.2.1 = l) (hQ : q_QM X) (h : q_OK X yX9_takeTurn cX9_takeTurn 4 none rmX9_takeTurn (Cond.code yX9_takeTurn cX9_takeTurn 4 none :: q_G)) : q_SK X 4 63 (BX9_takeTurn_63) := by
  refine k_aload_n (i := 0) h (ddX9_takeTurn (63, .aload_n 0, 1) (List.mem_of_getElem? (i := 42) rfl)) rfl ?_
  refine k_callV h hl (aX9_here l) (ci := 9) (C := RX9) (T := TX9) (N := 33) rfl ⟨rfl, rfl⟩ (n := 0) (by decide +kernel) (q_gV gw616 gw617 gw618 gw606 gw615) ⟨by decide, by decide⟩ (ddX9_takeTurn (64, .invokevirtual 85, 3) (List.mem_of_getElem? (i := 43) rfl)) ?_
  refine k_bipush (v := 44) h (ddX9_takeTurn (67, .bipush 44, 2) (List.mem_of_getElem? (i := 44) rfl)) (by decide) ?_
  refine k_icne h (ddX9_takeTurn (69, .if_icmp .ne 7, 3) (List.mem_of_getElem? (i := 45) rfl)) (tgt := 76) (by decide) ?_ ?_
  · exact sX9_takeTurn_76 hl hQ h
  · exact sX9_takeTurn_72 hl hQ h
theorem sX9_takeTurn_20 {l : Launch} {X : q_CX} (hl : X.2.1 = l) (hQ : q_QM X) (h : q_OK X yX9_takeTurn cX9_takeTurn 4 none rmX9_takeTurn (Cond.code yX9_takeTurn cX9_takeTurn 4 none :: q_G)) : q_SK X 4 20 (BX9_takeTurn_20) := by
  refine k_aload_n (i := 0) h (ddX9_takeTurn (20, .aload_n 0, 1) (List.mem_of_getElem? (i := 14) rfl)) rfl ?_
  refine k_getf (ci := 9) (j := 2) (C := RX9) (T := TX9) (N := 33) h rfl (fun w hw => List.mem_cons_of_mem _ (q_inX9 w hw)) (by decide) (List.mem_cons_of_mem _ gw588) (ddX9_takeTurn (21, .getfield 17, 3) (List.mem_of_getElem? (i := 15) rfl)) ?_
  refine k_bipush (v := 12) h (ddX9_takeTurn (24, .bipush 12, 2) (List.mem_of_getElem? (i := 16) rfl)) (by decide) ?_
  refine k_iload_n (i := 1) h (ddX9_takeTurn (26, .iload_n 1, 1) (List.mem_of_getElem? (i := 17) rfl)) rfl ?_
  refine k_imul h (ddX9_takeTurn (27, .imul, 1) (List.mem_of_getElem? (i := 18) rfl)) ?_
  refine k_aload_n (i := 0) h (ddX9_takeTurn (28, .aload_n 0, 1) (List.mem_of_getElem? (i := 19) rfl)) rfl ?_
  refine k_getf (ci := 9) (j := 3) (C := RX9) (T := TX9) (N := 33) h rfl (fun w hw => List.mem_cons_of_mem _ (q_inX9 w hw)) (by decide) (List.mem_cons_of_mem _ gw589) (ddX9_takeTurn (29, .getfield 20, 3) (List.mem_of_getElem? (i := 20) rfl)) ?_
  refine k_iload_n (i := 1) h (ddX9_takeTurn (32, .iload_n 1, 1) (List.mem_of_getElem? (i := 21) rfl)) rfl ?_
  refine k_iald h (ddX9_takeTurn (33, .iaload, 1) (List.mem_of_getElem? (i := 22) rfl)) ?_
  refine k_iadd h (ddX9_takeTurn (34, .iadd, 1) (List.mem_of_getElem? (i := 23) rfl)) ?_
  refine k_aload_n (i := 0) h (ddX9_takeTurn (35, .aload_n 0, 1) (List.mem_of_getElem? (i := 24) rfl)) rfl ?_
  refine k_iconst (v := 0) h (ddX9_takeTurn (36, .iconst 0, 1) (List.mem_of_getElem? (i := 25) rfl)) (by decide) ?_
  refine k_bipush (v := 18) h (ddX9_takeTurn (37, .bipush 18, 2) (List.mem_of_getElem? (i := 26) rfl)) (by decide) ?_
  refine k_callV h hl (aX9_takeNumber l) (ci := 9) (C := RX9) (T := TX9) (N := 33) rfl ⟨rfl, rfl⟩ (n := 2) (by decide +kernel) (q_gV gw632 gw633 gw634 gw606 gw631) ⟨by decide, by decide⟩ (ddX9_takeTurn (39, .invokevirtual 111, 3) (List.mem_of_getElem? (i := 27) rfl)) ?_
  refine k_bipush (v := 9) h (ddX9_takeTurn (42, .bipush 9, 2) (List.mem_of_getElem? (i := 28) rfl)) (by decide) ?_
  refine k_isub h (ddX9_takeTurn (44, .isub, 1) (List.mem_of_getElem? (i := 29) rfl)) ?_
  refine k_iast h (ddX9_takeTurn (45, .iastore, 1) (List.mem_of_getElem? (i := 30) rfl)) ?_
  refine k_aload_n (i := 0) h (ddX9_takeTurn (46, .aload_n 0, 1) (List.mem_of_getElem? (i := 31) rfl)) rfl ?_
  refine k_getf (ci := 9) (j := 3) (C := RX9) (T := TX9) (N := 33) h rfl (fun w hw => List.mem_cons_of_mem _ (q_inX9 w hw)) (by decide) (List.mem_cons_of_mem _ gw589) (ddX9_takeTurn (47, .getfield 20, 3) (List.mem_of_getElem? (i := 32) rfl)) ?_
  refine k_iload_n (i := 1) h (ddX9_takeTurn (50, .iload_n 1, 1) (List.mem_of_getElem? (i := 33) rfl)) rfl ?_
  refine k_dup2 h (ddX9_takeTurn (51, .dup2, 1) (List.mem_of_getElem? (i := 34) rfl)) ?_
  refine k_iald h (ddX9_takeTurn (52, .iaload, 1) (List.mem_of_getElem? (i := 35) rfl)) ?_
  refine k_iconst (v := 1) h (ddX9_takeTurn (53, .iconst 1, 1) (List.mem_of_getElem? (i := 36) rfl)) (by decide) ?_
  refine k_iadd h (ddX9_takeTurn (54, .iadd, 1) (List.mem_of_getElem? (i := 37) rfl)) ?_
  refine k_iast h (ddX9_takeTurn (55, .iastore, 1) (List.mem_of_getElem? (i := 38) rfl)) ?_
  refine k_aload_n (i := 0) h (ddX9_takeTurn (56, .aload_n 0, 1) (List.mem_of_getElem? (i := 39) rfl)) rfl ?_
  refine k_getf (ci := 9) (j := 20) (C := RX9) (T := TX9) (N := 33) h rfl (fun w hw => List.mem_cons_of_mem _ (q_inX9 w hw)) (by decide) (List.mem_cons_of_mem _ gw614) (ddX9_takeTurn (57, .getfield 82, 3) (List.mem_of_getElem? (i := 40) rfl)) ?_
  refine k_ifne h (ddX9_takeTurn (60, .ifCond .ne 16, 3) (List.mem_of_getElem? (i := 41) rfl)) (tgt := 76) (by decide) ?_ ?_
  · exact sX9_takeTurn_76 hl hQ h
  · exact sX9_takeTurn_63 hl hQ h
theorem sX9_takeTurn_16 {l : Launch} {X : q_CX} (hl : X.2.1 = l) (hQ : q_QM X) (h : q_OK X yX9_takeTurn cX9_takeTurn 4 none rmX9_takeTurn (Cond.code yX9_takeTurn cX9_takeTurn 4 none :: q_G)) : q_SK X 4 16 (BX9_takeTurn_16) := by
  refine k_iload_n (i := 2) h (ddX9_takeTurn (16, .iload_n 2, 1) (List.mem_of_getElem? (i := 12) rfl)) rfl ?_
  refine k_ifeq h (ddX9_takeTurn (17, .ifCond .eq 104, 3) (List.mem_of_getElem? (i := 13) rfl)) (tgt := 121) (by decide) ?_ ?_
  · exact sX9_takeTurn_121 hl hQ h
  · exact sX9_takeTurn_20 hl hQ h
theorem sX9_takeTurn_99 {l : Launch} {X : q_CX} (hl : X.2.1 = l) (hQ : q_QM X) (h : q_OK X yX9_takeTurn cX9_takeTurn 4 none rmX9_takeTurn (Cond.code yX9_takeTurn cX9_takeTurn 4 none :: q_G)) : q_SK X 4 99 (BX9_takeTurn_99) := by
  refine k_iconst (v := 1) h (ddX9_takeTurn (99, .iconst 1, 1) (List.mem_of_getElem? (i := 62) rfl)) (by decide) ?_
  refine k_aload_n (i := 0) h (ddX9_takeTurn (100, .aload_n 0, 1) (List.mem_of_getElem? (i := 63) rfl)) rfl ?_
  refine k_getf (ci := 9) (j := 17) (C := RX9) (T := TX9) (N := 33) h rfl (fun w hw => List.mem_cons_of_mem _ (q_inX9 w hw)) (by decide) (List.mem_cons_of_mem _ gw613) (ddX9_takeTurn (101, .getfield 79, 3) (List.mem_of_getElem? (i := 64) rfl)) ?_
  refine k_callV h hl (aX9_want l) (ci := 9) (C := RX9) (T := TX9) (N := 33) rfl ⟨rfl, rfl⟩ (n := 3) (by decide +kernel) (q_gV gw626 gw627 gw628 gw606 gw625) ⟨by decide, by decide⟩ (ddX9_takeTurn (104, .invokevirtual 103, 3) (List.mem_of_getElem? (i := 65) rfl)) ?_
  refine k_istore_n (i := 2) h (ddX9_takeTurn (107, .istore_n 2, 1) (List.mem_of_getElem? (i := 66) rfl)) rfl (by decide) ?_
  refine k_aload_n (i := 0) h (ddX9_takeTurn (108, .aload_n 0, 1) (List.mem_of_getElem? (i := 67) rfl)) rfl ?_
  refine k_dup h (ddX9_takeTurn (109, .dup, 1) (List.mem_of_getElem? (i := 68) rfl)) ?_
  refine k_getf (ci := 9) (j := 17) (C := RX9) (T := TX9) (N := 33) h rfl (fun w hw => List.mem_cons_of_mem _ (q_inX9 w hw)) (by decide) (List.mem_cons_of_mem _ gw613) (ddX9_takeTurn (110, .getfield 79, 3) (List.mem_of_getElem? (i := 69) rfl)) ?_
  refine k_iconst (v := 1) h (ddX9_takeTurn (113, .iconst 1, 1) (List.mem_of_getElem? (i := 70) rfl)) (by decide) ?_
  refine k_iadd h (ddX9_takeTurn (114, .iadd, 1) (List.mem_of_getElem? (i := 71) rfl)) ?_
  refine k_putf (ci := 9) (j := 17) (C := RX9) (T := TX9) (N := 33) h rfl (fun w hw => List.mem_cons_of_mem _ (q_inX9 w hw)) (by decide) (List.mem_cons_of_mem _ gw613) tyX9 tyX9_ok nmX9 (by decide +kernel) (by decide +kernel) (ddX9_takeTurn (115, .putfield 79, 3) (List.mem_of_getElem? (i := 72) rfl)) ?_
  refine k_goto h (ddX9_takeTurn (118, .goto (-102), 3) (List.mem_of_getElem? (i := 73) rfl)) (tgt := 16) (by decide) ?_
  exact k_cut
theorem sX9_takeTurn_98 {l : Launch} {X : q_CX} (hl : X.2.1 = l) (hQ : q_QM X) (h : q_OK X yX9_takeTurn cX9_takeTurn 4 none rmX9_takeTurn (Cond.code yX9_takeTurn cX9_takeTurn 4 none :: q_G)) : q_SK X 4 98 (BX9_takeTurn_98) := by
  refine k_iconst (v := 0) h (ddX9_takeTurn (98, .iconst 0, 1) (List.mem_of_getElem? (i := 61) rfl)) (by decide) ?_
  exact sX9_takeTurn_99 hl hQ h
theorem sX9_takeTurn_94 {l : Launch} {X : q_CX} (hl : X.2.1 = l) (hQ : q_QM X) (h : q_OK X yX9_takeTurn cX9_takeTurn 4 none rmX9_takeTurn (Cond.code yX9_takeTurn cX9_takeTurn 4 none :: q_G)) : q_SK X 4 94 (BX9_takeTurn_94) := by
  refine k_iconst (v := 1) h (ddX9_takeTurn (94, .iconst 1, 1) (List.mem_of_getElem? (i := 59) rfl)) (by decide) ?_
  refine k_goto h (ddX9_takeTurn (95, .goto 4, 3) (List.mem_of_getElem? (i := 60) rfl)) (tgt := 99) (by decide) ?_
  exact sX9_takeTurn_99 hl hQ h
theorem sX9_takeTurn_82 {l : Launch} {X : q_CX} (hl : X.2.1 = l) (hQ : q_QM X) (h : q_OK X yX9_takeTurn cX9_takeTurn 4 none rmX9_takeTurn (Cond.code yX9_takeTurn cX9_takeTurn 4 none :: q_G)) : q_SK X 4 82 (BX9_takeTurn_82) := by
  refine k_aload_n (i := 0) h (ddX9_takeTurn (82, .aload_n 0, 1) (List.mem_of_getElem? (i := 52) rfl)) rfl ?_
  refine k_aload_n (i := 0) h (ddX9_takeTurn (83, .aload_n 0, 1) (List.mem_of_getElem? (i := 53) rfl)) rfl ?_
  refine k_getf (ci := 9) (j := 3) (C := RX9) (T := TX9) (N := 33) h rfl (fun w hw => List.mem_cons_of_mem _ (q_inX9 w hw)) (by decide) (List.mem_cons_of_mem _ gw589) (ddX9_takeTurn (84, .getfield 20, 3) (List.mem_of_getElem? (i := 54) rfl)) ?_
  refine k_iload_n (i := 1) h (ddX9_takeTurn (87, .iload_n 1, 1) (List.mem_of_getElem? (i := 55) rfl)) rfl ?_
  refine k_iald h (ddX9_takeTurn (88, .iaload, 1) (List.mem_of_getElem? (i := 56) rfl)) ?_
  refine k_bipush (v := 12) h (ddX9_takeTurn (89, .bipush 12, 2) (List.mem_of_getElem? (i := 57) rfl)) (by decide) ?_
  refine k_icge h (ddX9_takeTurn (91, .if_icmp .ge 7, 3) (List.mem_of_getElem? (i := 58) rfl)) (tgt := 98) (by decide) ?_ ?_
  · exact sX9_takeTurn_98 hl hQ h
  · exact sX9_takeTurn_94 hl hQ h
theorem sX9_takeTurn_77 {l : Launch} {X : q_CX} (hl : X.2.1 = l) (hQ : q_QM X) (h : q_OK X yX9_takeTurn cX9_takeTurn 4 none rmX9_takeTurn (Cond.code yX9_takeTurn cX9_takeTurn 4 none :: q_G)) : q_SK X 4 77 (BX9_takeTurn_77) := by
  refine k_istore_n (i := 2) h (ddX9_takeTurn (77, .istore_n 2, 1) (List.mem_of_getElem? (i := 49) rfl)) rfl (by decide) ?_
  refine k_iload_n (i := 2) h (ddX9_takeTurn (78, .iload_n 2, 1) (List.mem_of_getElem? (i := 50) rfl)) rfl ?_
  refine k_ifeq h (ddX9_takeTurn (79, .ifCond .eq (-63), 3) (List.mem_of_getElem? (i := 51) rfl)) (tgt := 16) (by decide) ?_ ?_
  · exact k_cut
  · exact sX9_takeTurn_82 hl hQ h
theorem aX9_takeTurn (l : Launch) (as : List Value) (sh : q_Sh) (m : q_Mm) (R : q_KR) (hw : wX9_takeTurn as sh m R) : q_AM l yX9_takeTurn (Cond.code yX9_takeTurn cX9_takeTurn 4 none :: q_G) rmX9_takeTurn as sh m R := by
  refine q_met (code := TX9_takeTurn) (by decide) (fun X hl hQ _ h pc => ?_) hw.1 hw.2
  unfold TX9_takeTurn
  exact k_at (sX9_takeTurn_0 hl hQ h) (k_at (sX9_takeTurn_16 hl hQ h) (k_at (sX9_takeTurn_77 hl hQ h) (k_no)))
/-! TumblingRockModel.takePlace()V -/
abbrev dlX9_takePlace : List (Nat × (Instr × Nat)) := [(0, .bipush 8, 2), (2, .aload_n 0, 1), (3, .getfield 115, 3), (6, .iadd, 1), (7, .istore_n 1, 1), (8, .iconst 0, 1), (9, .istore_n 2, 1), (10, .iload_n 2, 1), (11, .iconst 3, 1), (12, .if_icmp .ge 29, 3), (15, .aload_n 0, 1), (16, .getfield 23, 3), (19, .iconst 3, 1), (20, .iload_n 1, 1), (21, .imul, 1), (22, .iload_n 2, 1), (23, .iadd, 1), (24, .aload_n 0, 1), (25, .iconst 0, 1), (26, .bipush 18, 2), (28, .invokevirtual 111, 3), (31, .bipush 9, 2), (33, .isub, 1), (34, .iastore, 1), (35, .iinc 2 1, 3), (38, .goto (-28), 3), (41, .aload_n 0, 1), (42, .getfield 26, 3), (45, .iload_n 1, 1), (46, .iconst 0, 1), (47, .iastore, 1), (48, .aload_n 0, 1), (49, .dup, 1), (50, .getfield 115, 3), (53, .iconst 1, 1), (54, .iadd, 1), (55, .putfield 115, 3), (58, .return_, 1)]
theorem ddX9_takePlace : ∀ q ∈ dlX9_takePlace, decode cX9_takePlace q.1 = .ok q.2 := by decide +kernel
theorem sX9_takePlace_0 {l : Launch} {X : q_CX} (hl : X.2.1 = l) (hQ : q_QM X) (h : q_OK X yX9_takePlace cX9_takePlace 3 none rmX9_takePlace (Cond.code yX9_takePlace cX9_takePlace 3 none :: q_G)) : q_SK X 3 0 (BX9_takePlace_0) := by
  refine k_bipush (v := 8) h (ddX9_takePlace (0, .bipush 8, 2) (List.mem_of_getElem? (i := 0) rfl)) (by decide) ?_
  refine k_aload_n (i := 0) h (ddX9_takePlace (2, .aload_n 0, 1) (List.mem_of_getElem? (i := 1) rfl)) rfl ?_
  refine k_getf (ci := 9) (j := 12) (C := RX9) (T := TX9) (N := 33) h rfl (fun w hw => List.mem_cons_of_mem _ (q_inX9 w hw)) (by decide) (List.mem_cons_of_mem _ gw635) (ddX9_takePlace (3, .getfield 115, 3) (List.mem_of_getElem? (i := 2) rfl)) ?_
  refine k_iadd h (ddX9_takePlace (6, .iadd, 1) (List.mem_of_getElem? (i := 3) rfl)) ?_
  refine k_istore_n (i := 1) h (ddX9_takePlace (7, .istore_n 1, 1) (List.mem_of_getElem? (i := 4) rfl)) rfl (by decide) ?_
  refine k_iconst (v := 0) h (ddX9_takePlace (8, .iconst 0, 1) (List.mem_of_getElem? (i := 5) rfl)) (by decide) ?_
  refine k_istore_n (i := 2) h (ddX9_takePlace (9, .istore_n 2, 1) (List.mem_of_getElem? (i := 6) rfl)) rfl (by decide) ?_
  exact k_cut
theorem sX9_takePlace_41 {l : Launch} {X : q_CX} (hl : X.2.1 = l) (hQ : q_QM X) (h : q_OK X yX9_takePlace cX9_takePlace 3 none rmX9_takePlace (Cond.code yX9_takePlace cX9_takePlace 3 none :: q_G)) : q_SK X 3 41 (BX9_takePlace_41) := by
  refine k_aload_n (i := 0) h (ddX9_takePlace (41, .aload_n 0, 1) (List.mem_of_getElem? (i := 26) rfl)) rfl ?_
  refine k_getf (ci := 9) (j := 5) (C := RX9) (T := TX9) (N := 33) h rfl (fun w hw => List.mem_cons_of_mem _ (q_inX9 w hw)) (by decide) (List.mem_cons_of_mem _ gw591) (ddX9_takePlace (42, .getfield 26, 3) (List.mem_of_getElem? (i := 27) rfl)) ?_
  refine k_iload_n (i := 1) h (ddX9_takePlace (45, .iload_n 1, 1) (List.mem_of_getElem? (i := 28) rfl)) rfl ?_
  refine k_iconst (v := 0) h (ddX9_takePlace (46, .iconst 0, 1) (List.mem_of_getElem? (i := 29) rfl)) (by decide) ?_
  refine k_iast h (ddX9_takePlace (47, .iastore, 1) (List.mem_of_getElem? (i := 30) rfl)) ?_
  refine k_aload_n (i := 0) h (ddX9_takePlace (48, .aload_n 0, 1) (List.mem_of_getElem? (i := 31) rfl)) rfl ?_
  refine k_dup h (ddX9_takePlace (49, .dup, 1) (List.mem_of_getElem? (i := 32) rfl)) ?_
  refine k_getf (ci := 9) (j := 12) (C := RX9) (T := TX9) (N := 33) h rfl (fun w hw => List.mem_cons_of_mem _ (q_inX9 w hw)) (by decide) (List.mem_cons_of_mem _ gw635) (ddX9_takePlace (50, .getfield 115, 3) (List.mem_of_getElem? (i := 33) rfl)) ?_
  refine k_iconst (v := 1) h (ddX9_takePlace (53, .iconst 1, 1) (List.mem_of_getElem? (i := 34) rfl)) (by decide) ?_
  refine k_iadd h (ddX9_takePlace (54, .iadd, 1) (List.mem_of_getElem? (i := 35) rfl)) ?_
  refine k_putf (ci := 9) (j := 12) (C := RX9) (T := TX9) (N := 33) h rfl (fun w hw => List.mem_cons_of_mem _ (q_inX9 w hw)) (by decide) (List.mem_cons_of_mem _ gw635) tyX9 tyX9_ok nmX9 (by decide +kernel) (by decide +kernel) (ddX9_takePlace (55, .putfield 115, 3) (List.mem_of_getElem? (i := 36) rfl)) ?_
  exact k_vret h hQ (ddX9_takePlace (58, .return_, 1) (List.mem_of_getElem? (i := 37) rfl))
theorem sX9_takePlace_15 {l : Launch} {X : q_CX} (hl : X.2.1 = l) (hQ : q_QM X) (h : q_OK X yX9_takePlace cX9_takePlace 3 none rmX9_takePlace (Cond.code yX9_takePlace cX9_takePlace 3 none :: q_G)) : q_SK X 3 15 (BX9_takePlace_15) := by
  refine k_aload_n (i := 0) h (ddX9_takePlace (15, .aload_n 0, 1) (List.mem_of_getElem? (i := 10) rfl)) rfl ?_
  refine k_getf (ci := 9) (j := 4) (C := RX9) (T := TX9) (N := 33) h rfl (fun w hw => List.mem_cons_of_mem _ (q_inX9 w hw)) (by decide) (List.mem_cons_of_mem _ gw590) (ddX9_takePlace (16, .getfield 23, 3) (List.mem_of_getElem? (i := 11) rfl)) ?_
  refine k_iconst (v := 3) h (ddX9_takePlace (19, .iconst 3, 1) (List.mem_of_getElem? (i := 12) rfl)) (by decide) ?_
  refine k_iload_n (i := 1) h (ddX9_takePlace (20, .iload_n 1, 1) (List.mem_of_getElem? (i := 13) rfl)) rfl ?_
  refine k_imul h (ddX9_takePlace (21, .imul, 1) (List.mem_of_getElem? (i := 14) rfl)) ?_
  refine k_iload_n (i := 2) h (ddX9_takePlace (22, .iload_n 2, 1) (List.mem_of_getElem? (i := 15) rfl)) rfl ?_
  refine k_iadd h (ddX9_takePlace (23, .iadd, 1) (List.mem_of_getElem? (i := 16) rfl)) ?_
  refine k_aload_n (i := 0) h (ddX9_takePlace (24, .aload_n 0, 1) (List.mem_of_getElem? (i := 17) rfl)) rfl ?_
  refine k_iconst (v := 0) h (ddX9_takePlace (25, .iconst 0, 1) (List.mem_of_getElem? (i := 18) rfl)) (by decide) ?_
  refine k_bipush (v := 18) h (ddX9_takePlace (26, .bipush 18, 2) (List.mem_of_getElem? (i := 19) rfl)) (by decide) ?_
  refine k_callV h hl (aX9_takeNumber l) (ci := 9) (C := RX9) (T := TX9) (N := 33) rfl ⟨rfl, rfl⟩ (n := 2) (by decide +kernel) (q_gV gw632 gw633 gw634 gw606 gw631) ⟨by decide, by decide⟩ (ddX9_takePlace (28, .invokevirtual 111, 3) (List.mem_of_getElem? (i := 20) rfl)) ?_
  refine k_bipush (v := 9) h (ddX9_takePlace (31, .bipush 9, 2) (List.mem_of_getElem? (i := 21) rfl)) (by decide) ?_
  refine k_isub h (ddX9_takePlace (33, .isub, 1) (List.mem_of_getElem? (i := 22) rfl)) ?_
  refine k_iast h (ddX9_takePlace (34, .iastore, 1) (List.mem_of_getElem? (i := 23) rfl)) ?_
  refine k_iinc (d := 1) h (ddX9_takePlace (35, .iinc 2 1, 3) (List.mem_of_getElem? (i := 24) rfl)) (by decide) (by decide) ?_
  refine k_goto h (ddX9_takePlace (38, .goto (-28), 3) (List.mem_of_getElem? (i := 25) rfl)) (tgt := 10) (by decide) ?_
  exact k_cut
theorem sX9_takePlace_10 {l : Launch} {X : q_CX} (hl : X.2.1 = l) (hQ : q_QM X) (h : q_OK X yX9_takePlace cX9_takePlace 3 none rmX9_takePlace (Cond.code yX9_takePlace cX9_takePlace 3 none :: q_G)) : q_SK X 3 10 (BX9_takePlace_10) := by
  refine k_iload_n (i := 2) h (ddX9_takePlace (10, .iload_n 2, 1) (List.mem_of_getElem? (i := 7) rfl)) rfl ?_
  refine k_iconst (v := 3) h (ddX9_takePlace (11, .iconst 3, 1) (List.mem_of_getElem? (i := 8) rfl)) (by decide) ?_
  refine k_icge h (ddX9_takePlace (12, .if_icmp .ge 29, 3) (List.mem_of_getElem? (i := 9) rfl)) (tgt := 41) (by decide) ?_ ?_
  · exact sX9_takePlace_41 hl hQ h
  · exact sX9_takePlace_15 hl hQ h
theorem aX9_takePlace (l : Launch) (as : List Value) (sh : q_Sh) (m : q_Mm) (R : q_KR) (hw : wX9_takePlace as sh m R) : q_AM l yX9_takePlace (Cond.code yX9_takePlace cX9_takePlace 3 none :: q_G) rmX9_takePlace as sh m R := by
  refine q_met (code := TX9_takePlace) (by decide) (fun X hl hQ _ h pc => ?_) hw.1 hw.2
  unfold TX9_takePlace
  exact k_at (sX9_takePlace_0 hl hQ h) (k_at (sX9_takePlace_10 hl hQ h) (k_no))
/-! TumblingRockModel.takeWay()V -/
abbrev dlX9_takeWay : List (Nat × (Instr × Nat)) := [(0, .aload_n 0, 1), (1, .iconst 0, 1), (2, .aload_n 0, 1), (3, .getfield 115, 3), (6, .iconst 1, 1), (7, .isub, 1), (8, .invokevirtual 111, 3), (11, .istore_n 1, 1), (12, .aload_n 0, 1), (13, .iconst 0, 1), (14, .aload_n 0, 1), (15, .getfield 115, 3), (18, .iconst 1, 1), (19, .isub, 1), (20, .invokevirtual 111, 3), (23, .istore_n 2, 1), (24, .aload_n 0, 1), (25, .getfield 82, 3), (28, .ifCond .ne 81, 3), (31, .aload_n 0, 1), (32, .iload_n 1, 1), (33, .iload_n 2, 1), (34, .if_icmp .eq 23, 3), (37, .aload_n 0, 1), (38, .getfield 26, 3), (41, .bipush 8, 2), (43, .iload_n 1, 1), (44, .iadd, 1), (45, .iaload, 1), (46, .iload_n 2, 1), (47, .invokestatic 118, 3), (50, .ifCond .ne 7, 3), (53, .iconst 1, 1), (54, .goto 4, 3), (57, .iconst 0, 1), (58, .iconst 4, 1), (59, .aload_n 0, 1), (60, .getfield 89, 3), (63, .invokevirtual 103, 3), (66, .ifCond .eq 43, 3), (69, .aload_n 0, 1), (70, .getfield 26, 3), (73, .bipush 8, 2), (75, .iload_n 1, 1), (76, .iadd, 1), (77, .dup2, 1), (78, .iaload, 1), (79, .iconst 1, 1), (80, .iload_n 2, 1), (81, .ishl, 1), (82, .ior, 1), (83, .iastore, 1), (84, .aload_n 0, 1), (85, .getfield 26, 3), (88, .bipush 8, 2), (90, .iload_n 2, 1), (91, .iadd, 1), (92, .dup2, 1), (93, .iaload, 1), (94, .iconst 1, 1), (95, .iload_n 1, 1), (96, .ishl, 1), (97, .ior, 1), (98, .iastore, 1), (99, .aload_n 0, 1), (100, .dup, 1), (101, .getfield 122, 3), (104, .iconst 1, 1), (105, .iadd, 1), (106, .putfield 122, 3), (109, .return_, 1)]
theorem ddX9_takeWay : ∀ q ∈ dlX9_takeWay, decode cX9_takeWay q.1 = .ok q.2 := by decide +kernel
theorem sX9_takeWay_109 {l : Launch} {X : q_CX} (hl : X.2.1 = l) (hQ : q_QM X) (h : q_OK X yX9_takeWay cX9_takeWay 3 none rmX9_takeWay (Cond.code yX9_takeWay cX9_takeWay 3 none :: q_G)) : q_SK X 3 109 (BX9_takeWay_109) := by
  exact k_vret h hQ (ddX9_takeWay (109, .return_, 1) (List.mem_of_getElem? (i := 70) rfl))
theorem sX9_takeWay_57 {l : Launch} {X : q_CX} (hl : X.2.1 = l) (hQ : q_QM X) (h : q_OK X yX9_takeWay cX9_takeWay 3 none rmX9_takeWay (Cond.code yX9_takeWay cX9_takeWay 3 none :: q_G)) : q_SK X 3 57 (BX9_takeWay_57) := by
  refine k_iconst (v := 0) h (ddX9_takeWay (57, .iconst 0, 1) (List.mem_of_getElem? (i := 34) rfl)) (by decide) ?_
  exact k_cut
theorem sX9_takeWay_53 {l : Launch} {X : q_CX} (hl : X.2.1 = l) (hQ : q_QM X) (h : q_OK X yX9_takeWay cX9_takeWay 3 none rmX9_takeWay (Cond.code yX9_takeWay cX9_takeWay 3 none :: q_G)) : q_SK X 3 53 (BX9_takeWay_53) := by
  refine k_iconst (v := 1) h (ddX9_takeWay (53, .iconst 1, 1) (List.mem_of_getElem? (i := 32) rfl)) (by decide) ?_
  refine k_goto h (ddX9_takeWay (54, .goto 4, 3) (List.mem_of_getElem? (i := 33) rfl)) (tgt := 58) (by decide) ?_
  exact k_cut
theorem sX9_takeWay_37 {l : Launch} {X : q_CX} (hl : X.2.1 = l) (hQ : q_QM X) (h : q_OK X yX9_takeWay cX9_takeWay 3 none rmX9_takeWay (Cond.code yX9_takeWay cX9_takeWay 3 none :: q_G)) : q_SK X 3 37 (BX9_takeWay_37) := by
  refine k_aload_n (i := 0) h (ddX9_takeWay (37, .aload_n 0, 1) (List.mem_of_getElem? (i := 23) rfl)) rfl ?_
  refine k_getf (ci := 9) (j := 5) (C := RX9) (T := TX9) (N := 33) h rfl (fun w hw => List.mem_cons_of_mem _ (q_inX9 w hw)) (by decide) (List.mem_cons_of_mem _ gw591) (ddX9_takeWay (38, .getfield 26, 3) (List.mem_of_getElem? (i := 24) rfl)) ?_
  refine k_bipush (v := 8) h (ddX9_takeWay (41, .bipush 8, 2) (List.mem_of_getElem? (i := 25) rfl)) (by decide) ?_
  refine k_iload_n (i := 1) h (ddX9_takeWay (43, .iload_n 1, 1) (List.mem_of_getElem? (i := 26) rfl)) rfl ?_
  refine k_iadd h (ddX9_takeWay (44, .iadd, 1) (List.mem_of_getElem? (i := 27) rfl)) ?_
  refine k_iald h (ddX9_takeWay (45, .iaload, 1) (List.mem_of_getElem? (i := 28) rfl)) ?_
  refine k_iload_n (i := 2) h (ddX9_takeWay (46, .iload_n 2, 1) (List.mem_of_getElem? (i := 29) rfl)) rfl ?_
  refine k_callS h hl (aX9_has l) ⟨rfl, rfl⟩ (n := 2) (by decide +kernel) (q_gS gw638 gw637 gw606 gw636) ⟨by decide, by decide⟩ (ddX9_takeWay (47, .invokestatic 118, 3) (List.mem_of_getElem? (i := 30) rfl)) ?_
  refine k_ifne h (ddX9_takeWay (50, .ifCond .ne 7, 3) (List.mem_of_getElem? (i := 31) rfl)) (tgt := 57) (by decide) ?_ ?_
  · exact sX9_takeWay_57 hl hQ h
  · exact sX9_takeWay_53 hl hQ h
theorem sX9_takeWay_31 {l : Launch} {X : q_CX} (hl : X.2.1 = l) (hQ : q_QM X) (h : q_OK X yX9_takeWay cX9_takeWay 3 none rmX9_takeWay (Cond.code yX9_takeWay cX9_takeWay 3 none :: q_G)) : q_SK X 3 31 (BX9_takeWay_31) := by
  refine k_aload_n (i := 0) h (ddX9_takeWay (31, .aload_n 0, 1) (List.mem_of_getElem? (i := 19) rfl)) rfl ?_
  refine k_iload_n (i := 1) h (ddX9_takeWay (32, .iload_n 1, 1) (List.mem_of_getElem? (i := 20) rfl)) rfl ?_
  refine k_iload_n (i := 2) h (ddX9_takeWay (33, .iload_n 2, 1) (List.mem_of_getElem? (i := 21) rfl)) rfl ?_
  refine k_iceq h (ddX9_takeWay (34, .if_icmp .eq 23, 3) (List.mem_of_getElem? (i := 22) rfl)) (tgt := 57) (by decide) ?_ ?_
  · exact sX9_takeWay_57 hl hQ h
  · exact sX9_takeWay_37 hl hQ h
theorem sX9_takeWay_0 {l : Launch} {X : q_CX} (hl : X.2.1 = l) (hQ : q_QM X) (h : q_OK X yX9_takeWay cX9_takeWay 3 none rmX9_takeWay (Cond.code yX9_takeWay cX9_takeWay 3 none :: q_G)) : q_SK X 3 0 (BX9_takeWay_0) := by
  refine k_aload_n (i := 0) h (ddX9_takeWay (0, .aload_n 0, 1) (List.mem_of_getElem? (i := 0) rfl)) rfl ?_
  refine k_iconst (v := 0) h (ddX9_takeWay (1, .iconst 0, 1) (List.mem_of_getElem? (i := 1) rfl)) (by decide) ?_
  refine k_aload_n (i := 0) h (ddX9_takeWay (2, .aload_n 0, 1) (List.mem_of_getElem? (i := 2) rfl)) rfl ?_
  refine k_getf (ci := 9) (j := 12) (C := RX9) (T := TX9) (N := 33) h rfl (fun w hw => List.mem_cons_of_mem _ (q_inX9 w hw)) (by decide) (List.mem_cons_of_mem _ gw635) (ddX9_takeWay (3, .getfield 115, 3) (List.mem_of_getElem? (i := 3) rfl)) ?_
  refine k_iconst (v := 1) h (ddX9_takeWay (6, .iconst 1, 1) (List.mem_of_getElem? (i := 4) rfl)) (by decide) ?_
  refine k_isub h (ddX9_takeWay (7, .isub, 1) (List.mem_of_getElem? (i := 5) rfl)) ?_
  refine k_callV h hl (aX9_takeNumber l) (ci := 9) (C := RX9) (T := TX9) (N := 33) rfl ⟨rfl, rfl⟩ (n := 2) (by decide +kernel) (q_gV gw632 gw633 gw634 gw606 gw631) ⟨by decide, by decide⟩ (ddX9_takeWay (8, .invokevirtual 111, 3) (List.mem_of_getElem? (i := 6) rfl)) ?_
  refine k_istore_n (i := 1) h (ddX9_takeWay (11, .istore_n 1, 1) (List.mem_of_getElem? (i := 7) rfl)) rfl (by decide) ?_
  refine k_aload_n (i := 0) h (ddX9_takeWay (12, .aload_n 0, 1) (List.mem_of_getElem? (i := 8) rfl)) rfl ?_
  refine k_iconst (v := 0) h (ddX9_takeWay (13, .iconst 0, 1) (List.mem_of_getElem? (i := 9) rfl)) (by decide) ?_
  refine k_aload_n (i := 0) h (ddX9_takeWay (14, .aload_n 0, 1) (List.mem_of_getElem? (i := 10) rfl)) rfl ?_
  refine k_getf (ci := 9) (j := 12) (C := RX9) (T := TX9) (N := 33) h rfl (fun w hw => List.mem_cons_of_mem _ (q_inX9 w hw)) (by decide) (List.mem_cons_of_mem _ gw635) (ddX9_takeWay (15, .getfield 115, 3) (List.mem_of_getElem? (i := 11) rfl)) ?_
  refine k_iconst (v := 1) h (ddX9_takeWay (18, .iconst 1, 1) (List.mem_of_getElem? (i := 12) rfl)) (by decide) ?_
  refine k_isub h (ddX9_takeWay (19, .isub, 1) (List.mem_of_getElem? (i := 13) rfl)) ?_
  refine k_callV h hl (aX9_takeNumber l) (ci := 9) (C := RX9) (T := TX9) (N := 33) rfl ⟨rfl, rfl⟩ (n := 2) (by decide +kernel) (q_gV gw632 gw633 gw634 gw606 gw631) ⟨by decide, by decide⟩ (ddX9_takeWay (20, .invokevirtual 111, 3) (List.mem_of_getElem? (i := 14) rfl)) ?_
  refine k_istore_n (i := 2) h (ddX9_takeWay (23, .istore_n 2, 1) (List.mem_of_getElem? (i := 15) rfl)) rfl (by decide) ?_
  refine k_aload_n (i := 0) h (ddX9_takeWay (24, .aload_n 0, 1) (List.mem_of_getElem? (i := 16) rfl)) rfl ?_
  refine k_getf (ci := 9) (j := 20) (C := RX9) (T := TX9) (N := 33) h rfl (fun w hw => List.mem_cons_of_mem _ (q_inX9 w hw)) (by decide) (List.mem_cons_of_mem _ gw614) (ddX9_takeWay (25, .getfield 82, 3) (List.mem_of_getElem? (i := 17) rfl)) ?_
  refine k_ifne h (ddX9_takeWay (28, .ifCond .ne 81, 3) (List.mem_of_getElem? (i := 18) rfl)) (tgt := 109) (by decide) ?_ ?_
  · exact sX9_takeWay_109 hl hQ h
  · exact sX9_takeWay_31 hl hQ h
theorem sX9_takeWay_69 {l : Launch} {X : q_CX} (hl : X.2.1 = l) (hQ : q_QM X) (h : q_OK X yX9_takeWay cX9_takeWay 3 none rmX9_takeWay (Cond.code yX9_takeWay cX9_takeWay 3 none :: q_G)) : q_SK X 3 69 (BX9_takeWay_69) := by
  refine k_aload_n (i := 0) h (ddX9_takeWay (69, .aload_n 0, 1) (List.mem_of_getElem? (i := 40) rfl)) rfl ?_
  refine k_getf (ci := 9) (j := 5) (C := RX9) (T := TX9) (N := 33) h rfl (fun w hw => List.mem_cons_of_mem _ (q_inX9 w hw)) (by decide) (List.mem_cons_of_mem _ gw591) (ddX9_takeWay (70, .getfield 26, 3) (List.mem_of_getElem? (i := 41) rfl)) ?_
  refine k_bipush (v := 8) h (ddX9_takeWay (73, .bipush 8, 2) (List.mem_of_getElem? (i := 42) rfl)) (by decide) ?_
  refine k_iload_n (i := 1) h (ddX9_takeWay (75, .iload_n 1, 1) (List.mem_of_getElem? (i := 43) rfl)) rfl ?_
  refine k_iadd h (ddX9_takeWay (76, .iadd, 1) (List.mem_of_getElem? (i := 44) rfl)) ?_
  refine k_dup2 h (ddX9_takeWay (77, .dup2, 1) (List.mem_of_getElem? (i := 45) rfl)) ?_
  refine k_iald h (ddX9_takeWay (78, .iaload, 1) (List.mem_of_getElem? (i := 46) rfl)) ?_
  refine k_iconst (v := 1) h (ddX9_takeWay (79, .iconst 1, 1) (List.mem_of_getElem? (i := 47) rfl)) (by decide) ?_
  refine k_iload_n (i := 2) h (ddX9_takeWay (80, .iload_n 2, 1) (List.mem_of_getElem? (i := 48) rfl)) rfl ?_
  refine k_ishl h (ddX9_takeWay (81, .ishl, 1) (List.mem_of_getElem? (i := 49) rfl)) ?_
  refine k_ior h (ddX9_takeWay (82, .ior, 1) (List.mem_of_getElem? (i := 50) rfl)) ?_
  refine k_iast h (ddX9_takeWay (83, .iastore, 1) (List.mem_of_getElem? (i := 51) rfl)) ?_
  refine k_aload_n (i := 0) h (ddX9_takeWay (84, .aload_n 0, 1) (List.mem_of_getElem? (i := 52) rfl)) rfl ?_
  refine k_getf (ci := 9) (j := 5) (C := RX9) (T := TX9) (N := 33) h rfl (fun w hw => List.mem_cons_of_mem _ (q_inX9 w hw)) (by decide) (List.mem_cons_of_mem _ gw591) (ddX9_takeWay (85, .getfield 26, 3) (List.mem_of_getElem? (i := 53) rfl)) ?_
  refine k_bipush (v := 8) h (ddX9_takeWay (88, .bipush 8, 2) (List.mem_of_getElem? (i := 54) rfl)) (by decide) ?_
  refine k_iload_n (i := 2) h (ddX9_takeWay (90, .iload_n 2, 1) (List.mem_of_getElem? (i := 55) rfl)) rfl ?_
  refine k_iadd h (ddX9_takeWay (91, .iadd, 1) (List.mem_of_getElem? (i := 56) rfl)) ?_
  refine k_dup2 h (ddX9_takeWay (92, .dup2, 1) (List.mem_of_getElem? (i := 57) rfl)) ?_
  refine k_iald h (ddX9_takeWay (93, .iaload, 1) (List.mem_of_getElem? (i := 58) rfl)) ?_
  refine k_iconst (v := 1) h (ddX9_takeWay (94, .iconst 1, 1) (List.mem_of_getElem? (i := 59) rfl)) (by decide) ?_
  refine k_iload_n (i := 1) h (ddX9_takeWay (95, .iload_n 1, 1) (List.mem_of_getElem? (i := 60) rfl)) rfl ?_
  refine k_ishl h (ddX9_takeWay (96, .ishl, 1) (List.mem_of_getElem? (i := 61) rfl)) ?_
  refine k_ior h (ddX9_takeWay (97, .ior, 1) (List.mem_of_getElem? (i := 62) rfl)) ?_
  refine k_iast h (ddX9_takeWay (98, .iastore, 1) (List.mem_of_getElem? (i := 63) rfl)) ?_
  refine k_aload_n (i := 0) h (ddX9_takeWay (99, .aload_n 0, 1) (List.mem_of_getElem? (i := 64) rfl)) rfl ?_
  refine k_dup h (ddX9_takeWay (100, .dup, 1) (List.mem_of_getElem? (i := 65) rfl)) ?_
  refine k_getf (ci := 9) (j := 13) (C := RX9) (T := TX9) (N := 33) h rfl (fun w hw => List.mem_cons_of_mem _ (q_inX9 w hw)) (by decide) (List.mem_cons_of_mem _ gw639) (ddX9_takeWay (101, .getfield 122, 3) (List.mem_of_getElem? (i := 66) rfl)) ?_
  refine k_iconst (v := 1) h (ddX9_takeWay (104, .iconst 1, 1) (List.mem_of_getElem? (i := 67) rfl)) (by decide) ?_
  refine k_iadd h (ddX9_takeWay (105, .iadd, 1) (List.mem_of_getElem? (i := 68) rfl)) ?_
  refine k_putf (ci := 9) (j := 13) (C := RX9) (T := TX9) (N := 33) h rfl (fun w hw => List.mem_cons_of_mem _ (q_inX9 w hw)) (by decide) (List.mem_cons_of_mem _ gw639) tyX9 tyX9_ok nmX9 (by decide +kernel) (by decide +kernel) (ddX9_takeWay (106, .putfield 122, 3) (List.mem_of_getElem? (i := 69) rfl)) ?_
  exact sX9_takeWay_109 hl hQ h
theorem sX9_takeWay_58 {l : Launch} {X : q_CX} (hl : X.2.1 = l) (hQ : q_QM X) (h : q_OK X yX9_takeWay cX9_takeWay 3 none rmX9_takeWay (Cond.code yX9_takeWay cX9_takeWay 3 none :: q_G)) : q_SK X 3 58 (BX9_takeWay_58) := by
  refine k_iconst (v := 4) h (ddX9_takeWay (58, .iconst 4, 1) (List.mem_of_getElem? (i := 35) rfl)) (by decide) ?_
  refine k_aload_n (i := 0) h (ddX9_takeWay (59, .aload_n 0, 1) (List.mem_of_getElem? (i := 36) rfl)) rfl ?_
  refine k_getf (ci := 9) (j := 18) (C := RX9) (T := TX9) (N := 33) h rfl (fun w hw => List.mem_cons_of_mem _ (q_inX9 w hw)) (by decide) (List.mem_cons_of_mem _ gw619) (ddX9_takeWay (60, .getfield 89, 3) (List.mem_of_getElem? (i := 37) rfl)) ?_
  refine k_callV h hl (aX9_want l) (ci := 9) (C := RX9) (T := TX9) (N := 33) rfl ⟨rfl, rfl⟩ (n := 3) (by decide +kernel) (q_gV gw626 gw627 gw628 gw606 gw625) ⟨by decide, by decide⟩ (ddX9_takeWay (63, .invokevirtual 103, 3) (List.mem_of_getElem? (i := 38) rfl)) ?_
  refine k_ifeq h (ddX9_takeWay (66, .ifCond .eq 43, 3) (List.mem_of_getElem? (i := 39) rfl)) (tgt := 109) (by decide) ?_ ?_
  · exact sX9_takeWay_109 hl hQ h
  · exact sX9_takeWay_69 hl hQ h
theorem aX9_takeWay (l : Launch) (as : List Value) (sh : q_Sh) (m : q_Mm) (R : q_KR) (hw : wX9_takeWay as sh m R) : q_AM l yX9_takeWay (Cond.code yX9_takeWay cX9_takeWay 3 none :: q_G) rmX9_takeWay as sh m R := by
  refine q_met (code := TX9_takeWay) (by decide) (fun X hl hQ _ h pc => ?_) hw.1 hw.2
  unfold TX9_takeWay
  exact k_at (sX9_takeWay_0 hl hQ h) (k_at (sX9_takeWay_58 hl hQ h) (k_no))
/-! TumblingRockModel.takePush()V -/
abbrev dlX9_takePush : List (Nat × (Instr × Nat)) := [(0, .iconst 0, 1), (1, .istore_n 1, 1), (2, .iload_n 1, 1), (3, .iconst 3, 1), (4, .if_icmp .ge 31, 3), (7, .aload_n 0, 1), (8, .getfield 29, 3), (11, .iconst 3, 1), (12, .iconst 4, 1), (13, .aload_n 0, 1), (14, .getfield 125, 3), (17, .iadd, 1), (18, .imul, 1), (19, .iload_n 1, 1), (20, .iadd, 1), (21, .aload_n 0, 1), (22, .iconst 0, 1), (23, .bipush 11, 2), (25, .invokevirtual 111, 3), (28, .iastore, 1), (29, .iinc 1 1, 3), (32, .goto (-30), 3), (35, .aload_n 0, 1), (36, .dup, 1), (37, .getfield 125, 3), (40, .iconst 1, 1), (41, .iadd, 1), (42, .putfield 125, 3), (45, .return_, 1)]
theorem ddX9_takePush : ∀ q ∈ dlX9_takePush, decode cX9_takePush q.1 = .ok q.2 := by decide +kernel
theorem sX9_takePush_0 {l : Launch} {X : q_CX} (hl : X.2.1 = l) (hQ : q_QM X) (h : q_OK X yX9_takePush cX9_takePush 2 none rmX9_takePush (Cond.code yX9_takePush cX9_takePush 2 none :: q_G)) : q_SK X 2 0 (BX9_takePush_0) := by
  refine k_iconst (v := 0) h (ddX9_takePush (0, .iconst 0, 1) (List.mem_of_getElem? (i := 0) rfl)) (by decide) ?_
  refine k_istore_n (i := 1) h (ddX9_takePush (1, .istore_n 1, 1) (List.mem_of_getElem? (i := 1) rfl)) rfl (by decide) ?_
  exact k_cut
theorem sX9_takePush_35 {l : Launch} {X : q_CX} (hl : X.2.1 = l) (hQ : q_QM X) (h : q_OK X yX9_takePush cX9_takePush 2 none rmX9_takePush (Cond.code yX9_takePush cX9_takePush 2 none :: q_G)) : q_SK X 2 35 (BX9_takePush_35) := by
  refine k_aload_n (i := 0) h (ddX9_takePush (35, .aload_n 0, 1) (List.mem_of_getElem? (i := 22) rfl)) rfl ?_
  refine k_dup h (ddX9_takePush (36, .dup, 1) (List.mem_of_getElem? (i := 23) rfl)) ?_
  refine k_getf (ci := 9) (j := 14) (C := RX9) (T := TX9) (N := 33) h rfl (fun w hw => List.mem_cons_of_mem _ (q_inX9 w hw)) (by decide) (List.mem_cons_of_mem _ gw640) (ddX9_takePush (37, .getfield 125, 3) (List.mem_of_getElem? (i := 24) rfl)) ?_
  refine k_iconst (v := 1) h (ddX9_takePush (40, .iconst 1, 1) (List.mem_of_getElem? (i := 25) rfl)) (by decide) ?_
  refine k_iadd h (ddX9_takePush (41, .iadd, 1) (List.mem_of_getElem? (i := 26) rfl)) ?_
  refine k_putf (ci := 9) (j := 14) (C := RX9) (T := TX9) (N := 33) h rfl (fun w hw => List.mem_cons_of_mem _ (q_inX9 w hw)) (by decide) (List.mem_cons_of_mem _ gw640) tyX9 tyX9_ok nmX9 (by decide +kernel) (by decide +kernel) (ddX9_takePush (42, .putfield 125, 3) (List.mem_of_getElem? (i := 27) rfl)) ?_
  exact k_vret h hQ (ddX9_takePush (45, .return_, 1) (List.mem_of_getElem? (i := 28) rfl))
theorem sX9_takePush_7 {l : Launch} {X : q_CX} (hl : X.2.1 = l) (hQ : q_QM X) (h : q_OK X yX9_takePush cX9_takePush 2 none rmX9_takePush (Cond.code yX9_takePush cX9_takePush 2 none :: q_G)) : q_SK X 2 7 (BX9_takePush_7) := by
  refine k_aload_n (i := 0) h (ddX9_takePush (7, .aload_n 0, 1) (List.mem_of_getElem? (i := 5) rfl)) rfl ?_
  refine k_getf (ci := 9) (j := 6) (C := RX9) (T := TX9) (N := 33) h rfl (fun w hw => List.mem_cons_of_mem _ (q_inX9 w hw)) (by decide) (List.mem_cons_of_mem _ gw592) (ddX9_takePush (8, .getfield 29, 3) (List.mem_of_getElem? (i := 6) rfl)) ?_
  refine k_iconst (v := 3) h (ddX9_takePush (11, .iconst 3, 1) (List.mem_of_getElem? (i := 7) rfl)) (by decide) ?_
  refine k_iconst (v := 4) h (ddX9_takePush (12, .iconst 4, 1) (List.mem_of_getElem? (i := 8) rfl)) (by decide) ?_
  refine k_aload_n (i := 0) h (ddX9_takePush (13, .aload_n 0, 1) (List.mem_of_getElem? (i := 9) rfl)) rfl ?_
  refine k_getf (ci := 9) (j := 14) (C := RX9) (T := TX9) (N := 33) h rfl (fun w hw => List.mem_cons_of_mem _ (q_inX9 w hw)) (by decide) (List.mem_cons_of_mem _ gw640) (ddX9_takePush (14, .getfield 125, 3) (List.mem_of_getElem? (i := 10) rfl)) ?_
  refine k_iadd h (ddX9_takePush (17, .iadd, 1) (List.mem_of_getElem? (i := 11) rfl)) ?_
  refine k_imul h (ddX9_takePush (18, .imul, 1) (List.mem_of_getElem? (i := 12) rfl)) ?_
  refine k_iload_n (i := 1) h (ddX9_takePush (19, .iload_n 1, 1) (List.mem_of_getElem? (i := 13) rfl)) rfl ?_
  refine k_iadd h (ddX9_takePush (20, .iadd, 1) (List.mem_of_getElem? (i := 14) rfl)) ?_
  refine k_aload_n (i := 0) h (ddX9_takePush (21, .aload_n 0, 1) (List.mem_of_getElem? (i := 15) rfl)) rfl ?_
  refine k_iconst (v := 0) h (ddX9_takePush (22, .iconst 0, 1) (List.mem_of_getElem? (i := 16) rfl)) (by decide) ?_
  refine k_bipush (v := 11) h (ddX9_takePush (23, .bipush 11, 2) (List.mem_of_getElem? (i := 17) rfl)) (by decide) ?_
  refine k_callV h hl (aX9_takeNumber l) (ci := 9) (C := RX9) (T := TX9) (N := 33) rfl ⟨rfl, rfl⟩ (n := 2) (by decide +kernel) (q_gV gw632 gw633 gw634 gw606 gw631) ⟨by decide, by decide⟩ (ddX9_takePush (25, .invokevirtual 111, 3) (List.mem_of_getElem? (i := 18) rfl)) ?_
  refine k_iast h (ddX9_takePush (28, .iastore, 1) (List.mem_of_getElem? (i := 19) rfl)) ?_
  refine k_iinc (d := 1) h (ddX9_takePush (29, .iinc 1 1, 3) (List.mem_of_getElem? (i := 20) rfl)) (by decide) (by decide) ?_
  refine k_goto h (ddX9_takePush (32, .goto (-30), 3) (List.mem_of_getElem? (i := 21) rfl)) (tgt := 2) (by decide) ?_
  exact k_cut
theorem sX9_takePush_2 {l : Launch} {X : q_CX} (hl : X.2.1 = l) (hQ : q_QM X) (h : q_OK X yX9_takePush cX9_takePush 2 none rmX9_takePush (Cond.code yX9_takePush cX9_takePush 2 none :: q_G)) : q_SK X 2 2 (BX9_takePush_2) := by
  refine k_iload_n (i := 1) h (ddX9_takePush (2, .iload_n 1, 1) (List.mem_of_getElem? (i := 2) rfl)) rfl ?_
  refine k_iconst (v := 3) h (ddX9_takePush (3, .iconst 3, 1) (List.mem_of_getElem? (i := 3) rfl)) (by decide) ?_
  refine k_icge h (ddX9_takePush (4, .if_icmp .ge 31, 3) (List.mem_of_getElem? (i := 4) rfl)) (tgt := 35) (by decide) ?_ ?_
  · exact sX9_takePush_35 hl hQ h
  · exact sX9_takePush_7 hl hQ h
theorem aX9_takePush (l : Launch) (as : List Value) (sh : q_Sh) (m : q_Mm) (R : q_KR) (hw : wX9_takePush as sh m R) : q_AM l yX9_takePush (Cond.code yX9_takePush cX9_takePush 2 none :: q_G) rmX9_takePush as sh m R := by
  refine q_met (code := TX9_takePush) (by decide) (fun X hl hQ _ h pc => ?_) hw.1 hw.2
  unfold TX9_takePush
  exact k_at (sX9_takePush_0 hl hQ h) (k_at (sX9_takePush_2 hl hQ h) (k_no))
/-! TumblingRockModel.takeClause()V -/
abbrev dlX9_takeClause : List (Nat × (Instr × Nat)) := [(0, .aload_n 0, 1), (1, .invokevirtual 128, 3), (4, .aload_n 0, 1), (5, .getfield 89, 3), (8, .istore_n 1, 1), (9, .aload_n 0, 1), (10, .iconst 4, 1), (11, .bipush 116, 2), (13, .bipush 117, 2), (15, .bipush 114, 2), (17, .bipush 110, 2), (19, .iconst 0, 1), (20, .invokevirtual 131, 3), (23, .ifCond .eq 32, 3), (26, .aload_n 0, 1), (27, .aload_n 0, 1), (28, .getfield 108, 3), (31, .iconst 3, 1), (32, .if_icmp .ge 7, 3), (35, .iconst 1, 1), (36, .goto 4, 3), (39, .iconst 0, 1), (40, .iconst 3, 1), (41, .iload_n 1, 1), (42, .invokevirtual 103, 3), (45, .ifCond .eq 153, 3), (48, .aload_n 0, 1), (49, .invokevirtual 135, 3), (52, .goto 146, 3), (55, .aload_n 0, 1), (56, .iconst 5, 1), (57, .bipush 112, 2), (59, .bipush 108, 2), (61, .bipush 97, 2), (63, .bipush 99, 2), (65, .bipush 101, 2), (67, .invokevirtual 131, 3), (70, .ifCond .eq 33, 3), (73, .aload_n 0, 1), (74, .aload_n 0, 1), (75, .getfield 115, 3), (78, .bipush 8, 2), (80, .if_icmp .ge 7, 3), (83, .iconst 1, 1), (84, .goto 4, 3), (87, .iconst 0, 1), (88, .iconst 3, 1), (89, .iload_n 1, 1), (90, .invokevirtual 103, 3), (93, .ifCond .eq 105, 3), (96, .aload_n 0, 1), (97, .invokevirtual 138, 3), (100, .goto 98, 3), (103, .aload_n 0, 1), (104, .iconst 3, 1), (105, .bipush 119, 2), (107, .bipush 97, 2), (109, .bipush 121, 2), (111, .iconst 0, 1), (112, .iconst 0, 1), (113, .invokevirtual 131, 3), (116, .ifCond .eq 33, 3), (119, .aload_n 0, 1), (120, .aload_n 0, 1), (121, .getfield 122, 3), (124, .bipush 12, 2), (126, .if_icmp .ge 7, 3), (129, .iconst 1, 1), (130, .goto 4, 3), (133, .iconst 0, 1), (134, .iconst 3, 1), (135, .iload_n 1, 1), (136, .invokevirtual 103, 3), (139, .ifCond .eq 59, 3), (142, .aload_n 0, 1), (143, .invokevirtual 141, 3), (146, .goto 52, 3), (149, .aload_n 0, 1), (150, .aload_n 0, 1), (151, .iconst 4, 1), (152, .bipush 112, 2), (154, .bipush 117, 2), (156, .bipush 115, 2), (158, .bipush 104, 2), (160, .iconst 0, 1), (161, .invokevirtual 131, 3), (164, .iconst 1, 1), (165, .iload_n 1, 1), (166, .invokevirtual 103, 3), (169, .ifCond .eq 29, 3), (172, .aload_n 0, 1), (173, .aload_n 0, 1), (174, .getfield 125, 3), (177, .iconst 4, 1), (178, .if_icmp .ge 7, 3), (181, .iconst 1, 1), (182, .goto 4, 3), (185, .iconst 0, 1), (186, .iconst 3, 1), (187, .iload_n 1, 1), (188, .invokevirtual 103, 3), (191, .ifCond .eq 7, 3), (194, .aload_n 0, 1), (195, .invokevirtual 144, 3), (198, .return_, 1)]
theorem ddX9_takeClause : ∀ q ∈ dlX9_takeClause, decode cX9_takeClause q.1 = .ok q.2 := by decide +kernel
theorem sX9_takeClause_198 {l : Launch} {X : q_CX} (hl : X.2.1 = l) (hQ : q_QM X) (h : q_OK X yX9_takeClause cX9_takeClause 2 none rmX9_takeClause (Cond.code yX9_takeClause cX9_takeClause 2 none :: q_G)) : q_SK X 2 198 (BX9_takeClause_198) := by
  exact k_vret h hQ (ddX9_takeClause (198, .return_, 1) (List.mem_of_getElem? (i := 104) rfl))
theorem sX9_takeClause_194 {l : Launch} {X : q_CX} (hl : X.2.1 = l) (hQ : q_QM X) (h : q_OK X yX9_takeClause cX9_takeClause 2 none rmX9_takeClause (Cond.code yX9_takeClause cX9_takeClause 2 none :: q_G)) : q_SK X 2 194 (BX9_takeClause_194) := by
  refine k_aload_n (i := 0) h (ddX9_takeClause (194, .aload_n 0, 1) (List.mem_of_getElem? (i := 102) rfl)) rfl ?_
  refine k_callV h hl (aX9_takePush l) (ci := 9) (C := RX9) (T := TX9) (N := 33) rfl ⟨rfl, rfl⟩ (n := 0) (by decide +kernel) (q_gV gw662 gw663 gw664 gw606 gw661) ⟨by decide, by decide⟩ (ddX9_takeClause (195, .invokevirtual 144, 3) (List.mem_of_getElem? (i := 103) rfl)) ?_
  exact sX9_takeClause_198 hl hQ h
theorem sX9_takeClause_186 {l : Launch} {X : q_CX} (hl : X.2.1 = l) (hQ : q_QM X) (h : q_OK X yX9_takeClause cX9_takeClause 2 none rmX9_takeClause (Cond.code yX9_takeClause cX9_takeClause 2 none :: q_G)) : q_SK X 2 186 (BX9_takeClause_186) := by
  refine k_iconst (v := 3) h (ddX9_takeClause (186, .iconst 3, 1) (List.mem_of_getElem? (i := 98) rfl)) (by decide) ?_
  refine k_iload_n (i := 1) h (ddX9_takeClause (187, .iload_n 1, 1) (List.mem_of_getElem? (i := 99) rfl)) rfl ?_
  refine k_callV h hl (aX9_want l) (ci := 9) (C := RX9) (T := TX9) (N := 33) rfl ⟨rfl, rfl⟩ (n := 3) (by decide +kernel) (q_gV gw626 gw627 gw628 gw606 gw625) ⟨by decide, by decide⟩ (ddX9_takeClause (188, .invokevirtual 103, 3) (List.mem_of_getElem? (i := 100) rfl)) ?_
  refine k_ifeq h (ddX9_takeClause (191, .ifCond .eq 7, 3) (List.mem_of_getElem? (i := 101) rfl)) (tgt := 198) (by decide) ?_ ?_
  · exact sX9_takeClause_198 hl hQ h
  · exact sX9_takeClause_194 hl hQ h
theorem sX9_takeClause_185 {l : Launch} {X : q_CX} (hl : X.2.1 = l) (hQ : q_QM X) (h : q_OK X yX9_takeClause cX9_takeClause 2 none rmX9_takeClause (Cond.code yX9_takeClause cX9_takeClause 2 none :: q_G)) : q_SK X 2 185 (BX9_takeClause_185) := by
  refine k_iconst (v := 0) h (ddX9_takeClause (185, .iconst 0, 1) (List.mem_of_getElem? (i := 97) rfl)) (by decide) ?_
  exact sX9_takeClause_186 hl hQ h
theorem sX9_takeClause_181 {l : Launch} {X : q_CX} (hl : X.2.1 = l) (hQ : q_QM X) (h : q_OK X yX9_takeClause cX9_takeClause 2 none rmX9_takeClause (Cond.code yX9_takeClause cX9_takeClause 2 none :: q_G)) : q_SK X 2 181 (BX9_takeClause_181) := by
  refine k_iconst (v := 1) h (ddX9_takeClause (181, .iconst 1, 1) (List.mem_of_getElem? (i := 95) rfl)) (by decide) ?_
  refine k_goto h (ddX9_takeClause (182, .goto 4, 3) (List.mem_of_getElem? (i := 96) rfl)) (tgt := 186) (by decide) ?_
  exact sX9_takeClause_186 hl hQ h
theorem sX9_takeClause_172 {l : Launch} {X : q_CX} (hl : X.2.1 = l) (hQ : q_QM X) (h : q_OK X yX9_takeClause cX9_takeClause 2 none rmX9_takeClause (Cond.code yX9_takeClause cX9_takeClause 2 none :: q_G)) : q_SK X 2 172 (BX9_takeClause_172) := by
  refine k_aload_n (i := 0) h (ddX9_takeClause (172, .aload_n 0, 1) (List.mem_of_getElem? (i := 90) rfl)) rfl ?_
  refine k_aload_n (i := 0) h (ddX9_takeClause (173, .aload_n 0, 1) (List.mem_of_getElem? (i := 91) rfl)) rfl ?_
  refine k_getf (ci := 9) (j := 14) (C := RX9) (T := TX9) (N := 33) h rfl (fun w hw => List.mem_cons_of_mem _ (q_inX9 w hw)) (by decide) (List.mem_cons_of_mem _ gw640) (ddX9_takeClause (174, .getfield 125, 3) (List.mem_of_getElem? (i := 92) rfl)) ?_
  refine k_iconst (v := 4) h (ddX9_takeClause (177, .iconst 4, 1) (List.mem_of_getElem? (i := 93) rfl)) (by decide) ?_
  refine k_icge h (ddX9_takeClause (178, .if_icmp .ge 7, 3) (List.mem_of_getElem? (i := 94) rfl)) (tgt := 185) (by decide) ?_ ?_
  · exact sX9_takeClause_185 hl hQ h
  · exact sX9_takeClause_181 hl hQ h
theorem sX9_takeClause_149 {l : Launch} {X : q_CX} (hl : X.2.1 = l) (hQ : q_QM X) (h : q_OK X yX9_takeClause cX9_takeClause 2 none rmX9_takeClause (Cond.code yX9_takeClause cX9_takeClause 2 none :: q_G)) : q_SK X 2 149 (BX9_takeClause_149) := by
  refine k_aload_n (i := 0) h (ddX9_takeClause (149, .aload_n 0, 1) (List.mem_of_getElem? (i := 77) rfl)) rfl ?_
  refine k_aload_n (i := 0) h (ddX9_takeClause (150, .aload_n 0, 1) (List.mem_of_getElem? (i := 78) rfl)) rfl ?_
  refine k_iconst (v := 4) h (ddX9_takeClause (151, .iconst 4, 1) (List.mem_of_getElem? (i := 79) rfl)) (by decide) ?_
  refine k_bipush (v := 112) h (ddX9_takeClause (152, .bipush 112, 2) (List.mem_of_getElem? (i := 80) rfl)) (by decide) ?_
  refine k_bipush (v := 117) h (ddX9_takeClause (154, .bipush 117, 2) (List.mem_of_getElem? (i := 81) rfl)) (by decide) ?_
  refine k_bipush (v := 115) h (ddX9_takeClause (156, .bipush 115, 2) (List.mem_of_getElem? (i := 82) rfl)) (by decide) ?_
  refine k_bipush (v := 104) h (ddX9_takeClause (158, .bipush 104, 2) (List.mem_of_getElem? (i := 83) rfl)) (by decide) ?_
  refine k_iconst (v := 0) h (ddX9_takeClause (160, .iconst 0, 1) (List.mem_of_getElem? (i := 84) rfl)) (by decide) ?_
  refine k_callV h hl (aX9_isWord l) (ci := 9) (C := RX9) (T := TX9) (N := 33) rfl ⟨rfl, rfl⟩ (n := 6) (by decide +kernel) (q_gV gw646 gw647 gw648 gw606 gw645) ⟨by decide, by decide⟩ (ddX9_takeClause (161, .invokevirtual 131, 3) (List.mem_of_getElem? (i := 85) rfl)) ?_
  refine k_iconst (v := 1) h (ddX9_takeClause (164, .iconst 1, 1) (List.mem_of_getElem? (i := 86) rfl)) (by decide) ?_
  refine k_iload_n (i := 1) h (ddX9_takeClause (165, .iload_n 1, 1) (List.mem_of_getElem? (i := 87) rfl)) rfl ?_
  refine k_callV h hl (aX9_want l) (ci := 9) (C := RX9) (T := TX9) (N := 33) rfl ⟨rfl, rfl⟩ (n := 3) (by decide +kernel) (q_gV gw626 gw627 gw628 gw606 gw625) ⟨by decide, by decide⟩ (ddX9_takeClause (166, .invokevirtual 103, 3) (List.mem_of_getElem? (i := 88) rfl)) ?_
  refine k_ifeq h (ddX9_takeClause (169, .ifCond .eq 29, 3) (List.mem_of_getElem? (i := 89) rfl)) (tgt := 198) (by decide) ?_ ?_
  · exact sX9_takeClause_198 hl hQ h
  · exact sX9_takeClause_172 hl hQ h
theorem sX9_takeClause_142 {l : Launch} {X : q_CX} (hl : X.2.1 = l) (hQ : q_QM X) (h : q_OK X yX9_takeClause cX9_takeClause 2 none rmX9_takeClause (Cond.code yX9_takeClause cX9_takeClause 2 none :: q_G)) : q_SK X 2 142 (BX9_takeClause_142) := by
  refine k_aload_n (i := 0) h (ddX9_takeClause (142, .aload_n 0, 1) (List.mem_of_getElem? (i := 74) rfl)) rfl ?_
  refine k_callV h hl (aX9_takeWay l) (ci := 9) (C := RX9) (T := TX9) (N := 33) rfl ⟨rfl, rfl⟩ (n := 0) (by decide +kernel) (q_gV gw658 gw659 gw660 gw606 gw657) ⟨by decide, by decide⟩ (ddX9_takeClause (143, .invokevirtual 141, 3) (List.mem_of_getElem? (i := 75) rfl)) ?_
  refine k_goto h (ddX9_takeClause (146, .goto 52, 3) (List.mem_of_getElem? (i := 76) rfl)) (tgt := 198) (by decide) ?_
  exact sX9_takeClause_198 hl hQ h
theorem sX9_takeClause_134 {l : Launch} {X : q_CX} (hl : X.2.1 = l) (hQ : q_QM X) (h : q_OK X yX9_takeClause cX9_takeClause 2 none rmX9_takeClause (Cond.code yX9_takeClause cX9_takeClause 2 none :: q_G)) : q_SK X 2 134 (BX9_takeClause_134) := by
  refine k_iconst (v := 3) h (ddX9_takeClause (134, .iconst 3, 1) (List.mem_of_getElem? (i := 70) rfl)) (by decide) ?_
  refine k_iload_n (i := 1) h (ddX9_takeClause (135, .iload_n 1, 1) (List.mem_of_getElem? (i := 71) rfl)) rfl ?_
  refine k_callV h hl (aX9_want l) (ci := 9) (C := RX9) (T := TX9) (N := 33) rfl ⟨rfl, rfl⟩ (n := 3) (by decide +kernel) (q_gV gw626 gw627 gw628 gw606 gw625) ⟨by decide, by decide⟩ (ddX9_takeClause (136, .invokevirtual 103, 3) (List.mem_of_getElem? (i := 72) rfl)) ?_
  refine k_ifeq h (ddX9_takeClause (139, .ifCond .eq 59, 3) (List.mem_of_getElem? (i := 73) rfl)) (tgt := 198) (by decide) ?_ ?_
  · exact sX9_takeClause_198 hl hQ h
  · exact sX9_takeClause_142 hl hQ h
theorem sX9_takeClause_133 {l : Launch} {X : q_CX} (hl : X.2.1 = l) (hQ : q_QM X) (h : q_OK X yX9_takeClause cX9_takeClause 2 none rmX9_takeClause (Cond.code yX9_takeClause cX9_takeClause 2 none :: q_G)) : q_SK X 2 133 (BX9_takeClause_133) := by
  refine k_iconst (v := 0) h (ddX9_takeClause (133, .iconst 0, 1) (List.mem_of_getElem? (i := 69) rfl)) (by decide) ?_
  exact sX9_takeClause_134 hl hQ h
theorem sX9_takeClause_129 {l : Launch} {X : q_CX} (hl : X.2.1 = l) (hQ : q_QM X) (h : q_OK X yX9_takeClause cX9_takeClause 2 none rmX9_takeClause (Cond.code yX9_takeClause cX9_takeClause 2 none :: q_G)) : q_SK X 2 129 (BX9_takeClause_129) := by
  refine k_iconst (v := 1) h (ddX9_takeClause (129, .iconst 1, 1) (List.mem_of_getElem? (i := 67) rfl)) (by decide) ?_
  refine k_goto h (ddX9_takeClause (130, .goto 4, 3) (List.mem_of_getElem? (i := 68) rfl)) (tgt := 134) (by decide) ?_
  exact sX9_takeClause_134 hl hQ h
theorem sX9_takeClause_119 {l : Launch} {X : q_CX} (hl : X.2.1 = l) (hQ : q_QM X) (h : q_OK X yX9_takeClause cX9_takeClause 2 none rmX9_takeClause (Cond.code yX9_takeClause cX9_takeClause 2 none :: q_G)) : q_SK X 2 119 (BX9_takeClause_119) := by
  refine k_aload_n (i := 0) h (ddX9_takeClause (119, .aload_n 0, 1) (List.mem_of_getElem? (i := 62) rfl)) rfl ?_
  refine k_aload_n (i := 0) h (ddX9_takeClause (120, .aload_n 0, 1) (List.mem_of_getElem? (i := 63) rfl)) rfl ?_
  refine k_getf (ci := 9) (j := 13) (C := RX9) (T := TX9) (N := 33) h rfl (fun w hw => List.mem_cons_of_mem _ (q_inX9 w hw)) (by decide) (List.mem_cons_of_mem _ gw639) (ddX9_takeClause (121, .getfield 122, 3) (List.mem_of_getElem? (i := 64) rfl)) ?_
  refine k_bipush (v := 12) h (ddX9_takeClause (124, .bipush 12, 2) (List.mem_of_getElem? (i := 65) rfl)) (by decide) ?_
  refine k_icge h (ddX9_takeClause (126, .if_icmp .ge 7, 3) (List.mem_of_getElem? (i := 66) rfl)) (tgt := 133) (by decide) ?_ ?_
  · exact sX9_takeClause_133 hl hQ h
  · exact sX9_takeClause_129 hl hQ h
theorem sX9_takeClause_103 {l : Launch} {X : q_CX} (hl : X.2.1 = l) (hQ : q_QM X) (h : q_OK X yX9_takeClause cX9_takeClause 2 none rmX9_takeClause (Cond.code yX9_takeClause cX9_takeClause 2 none :: q_G)) : q_SK X 2 103 (BX9_takeClause_103) := by
  refine k_aload_n (i := 0) h (ddX9_takeClause (103, .aload_n 0, 1) (List.mem_of_getElem? (i := 53) rfl)) rfl ?_
  refine k_iconst (v := 3) h (ddX9_takeClause (104, .iconst 3, 1) (List.mem_of_getElem? (i := 54) rfl)) (by decide) ?_
  refine k_bipush (v := 119) h (ddX9_takeClause (105, .bipush 119, 2) (List.mem_of_getElem? (i := 55) rfl)) (by decide) ?_
  refine k_bipush (v := 97) h (ddX9_takeClause (107, .bipush 97, 2) (List.mem_of_getElem? (i := 56) rfl)) (by decide) ?_
  refine k_bipush (v := 121) h (ddX9_takeClause (109, .bipush 121, 2) (List.mem_of_getElem? (i := 57) rfl)) (by decide) ?_
  refine k_iconst (v := 0) h (ddX9_takeClause (111, .iconst 0, 1) (List.mem_of_getElem? (i := 58) rfl)) (by decide) ?_
  refine k_iconst (v := 0) h (ddX9_takeClause (112, .iconst 0, 1) (List.mem_of_getElem? (i := 59) rfl)) (by decide) ?_
  refine k_callV h hl (aX9_isWord l) (ci := 9) (C := RX9) (T := TX9) (N := 33) rfl ⟨rfl, rfl⟩ (n := 6) (by decide +kernel) (q_gV gw646 gw647 gw648 gw606 gw645) ⟨by decide, by decide⟩ (ddX9_takeClause (113, .invokevirtual 131, 3) (List.mem_of_getElem? (i := 60) rfl)) ?_
  refine k_ifeq h (ddX9_takeClause (116, .ifCond .eq 33, 3) (List.mem_of_getElem? (i := 61) rfl)) (tgt := 149) (by decide) ?_ ?_
  · exact sX9_takeClause_149 hl hQ h
  · exact sX9_takeClause_119 hl hQ h
theorem sX9_takeClause_96 {l : Launch} {X : q_CX} (hl : X.2.1 = l) (hQ : q_QM X) (h : q_OK X yX9_takeClause cX9_takeClause 2 none rmX9_takeClause (Cond.code yX9_takeClause cX9_takeClause 2 none :: q_G)) : q_SK X 2 96 (BX9_takeClause_96) := by
  refine k_aload_n (i := 0) h (ddX9_takeClause (96, .aload_n 0, 1) (List.mem_of_getElem? (i := 50) rfl)) rfl ?_
  refine k_callV h hl (aX9_takePlace l) (ci := 9) (C := RX9) (T := TX9) (N := 33) rfl ⟨rfl, rfl⟩ (n := 0) (by decide +kernel) (q_gV gw654 gw655 gw656 gw606 gw653) ⟨by decide, by decide⟩ (ddX9_takeClause (97, .invokevirtual 138, 3) (List.mem_of_getElem? (i := 51) rfl)) ?_
  refine k_goto h (ddX9_takeClause (100, .goto 98, 3) (List.mem_of_getElem? (i := 52) rfl)) (tgt := 198) (by decide) ?_
  exact sX9_takeClause_198 hl hQ h
theorem sX9_takeClause_88 {l : Launch} {X : q_CX} (hl : X.2.1 = l) (hQ : q_QM X) (h : q_OK X yX9_takeClause cX9_takeClause 2 none rmX9_takeClause (Cond.code yX9_takeClause cX9_takeClause 2 none :: q_G)) : q_SK X 2 88 (BX9_takeClause_88) := by
  refine k_iconst (v := 3) h (ddX9_takeClause (88, .iconst 3, 1) (List.mem_of_getElem? (i := 46) rfl)) (by decide) ?_
  refine k_iload_n (i := 1) h (ddX9_takeClause (89, .iload_n 1, 1) (List.mem_of_getElem? (i := 47) rfl)) rfl ?_
  refine k_callV h hl (aX9_want l) (ci := 9) (C := RX9) (T := TX9) (N := 33) rfl ⟨rfl, rfl⟩ (n := 3) (by decide +kernel) (q_gV gw626 gw627 gw628 gw606 gw625) ⟨by decide, by decide⟩ (ddX9_takeClause (90, .invokevirtual 103, 3) (List.mem_of_getElem? (i := 48) rfl)) ?_
  refine k_ifeq h (ddX9_takeClause (93, .ifCond .eq 105, 3) (List.mem_of_getElem? (i := 49) rfl)) (tgt := 198) (by decide) ?_ ?_
  · exact sX9_takeClause_198 hl hQ h
  · exact sX9_takeClause_96 hl hQ h
theorem sX9_takeClause_87 {l : Launch} {X : q_CX} (hl : X.2.1 = l) (hQ : q_QM X) (h : q_OK X yX9_takeClause cX9_takeClause 2 none rmX9_takeClause (Cond.code yX9_takeClause cX9_takeClause 2 none :: q_G)) : q_SK X 2 87 (BX9_takeClause_87) := by
  refine k_iconst (v := 0) h (ddX9_takeClause (87, .iconst 0, 1) (List.mem_of_getElem? (i := 45) rfl)) (by decide) ?_
  exact sX9_takeClause_88 hl hQ h
theorem sX9_takeClause_83 {l : Launch} {X : q_CX} (hl : X.2.1 = l) (hQ : q_QM X) (h : q_OK X yX9_takeClause cX9_takeClause 2 none rmX9_takeClause (Cond.code yX9_takeClause cX9_takeClause 2 none :: q_G)) : q_SK X 2 83 (BX9_takeClause_83) := by
  refine k_iconst (v := 1) h (ddX9_takeClause (83, .iconst 1, 1) (List.mem_of_getElem? (i := 43) rfl)) (by decide) ?_
  refine k_goto h (ddX9_takeClause (84, .goto 4, 3) (List.mem_of_getElem? (i := 44) rfl)) (tgt := 88) (by decide) ?_
  exact sX9_takeClause_88 hl hQ h
theorem sX9_takeClause_73 {l : Launch} {X : q_CX} (hl : X.2.1 = l) (hQ : q_QM X) (h : q_OK X yX9_takeClause cX9_takeClause 2 none rmX9_takeClause (Cond.code yX9_takeClause cX9_takeClause 2 none :: q_G)) : q_SK X 2 73 (BX9_takeClause_73) := by
  refine k_aload_n (i := 0) h (ddX9_takeClause (73, .aload_n 0, 1) (List.mem_of_getElem? (i := 38) rfl)) rfl ?_
  refine k_aload_n (i := 0) h (ddX9_takeClause (74, .aload_n 0, 1) (List.mem_of_getElem? (i := 39) rfl)) rfl ?_
  refine k_getf (ci := 9) (j := 12) (C := RX9) (T := TX9) (N := 33) h rfl (fun w hw => List.mem_cons_of_mem _ (q_inX9 w hw)) (by decide) (List.mem_cons_of_mem _ gw635) (ddX9_takeClause (75, .getfield 115, 3) (List.mem_of_getElem? (i := 40) rfl)) ?_
  refine k_bipush (v := 8) h (ddX9_takeClause (78, .bipush 8, 2) (List.mem_of_getElem? (i := 41) rfl)) (by decide) ?_
  refine k_icge h (ddX9_takeClause (80, .if_icmp .ge 7, 3) (List.mem_of_getElem? (i := 42) rfl)) (tgt := 87) (by decide) ?_ ?_
  · exact sX9_takeClause_87 hl hQ h
  · exact sX9_takeClause_83 hl hQ h
theorem sX9_takeClause_55 {l : Launch} {X : q_CX} (hl : X.2.1 = l) (hQ : q_QM X) (h : q_OK X yX9_takeClause cX9_takeClause 2 none rmX9_takeClause (Cond.code yX9_takeClause cX9_takeClause 2 none :: q_G)) : q_SK X 2 55 (BX9_takeClause_55) := by
  refine k_aload_n (i := 0) h (ddX9_takeClause (55, .aload_n 0, 1) (List.mem_of_getElem? (i := 29) rfl)) rfl ?_
  refine k_iconst (v := 5) h (ddX9_takeClause (56, .iconst 5, 1) (List.mem_of_getElem? (i := 30) rfl)) (by decide) ?_
  refine k_bipush (v := 112) h (ddX9_takeClause (57, .bipush 112, 2) (List.mem_of_getElem? (i := 31) rfl)) (by decide) ?_
  refine k_bipush (v := 108) h (ddX9_takeClause (59, .bipush 108, 2) (List.mem_of_getElem? (i := 32) rfl)) (by decide) ?_
  refine k_bipush (v := 97) h (ddX9_takeClause (61, .bipush 97, 2) (List.mem_of_getElem? (i := 33) rfl)) (by decide) ?_
  refine k_bipush (v := 99) h (ddX9_takeClause (63, .bipush 99, 2) (List.mem_of_getElem? (i := 34) rfl)) (by decide) ?_
  refine k_bipush (v := 101) h (ddX9_takeClause (65, .bipush 101, 2) (List.mem_of_getElem? (i := 35) rfl)) (by decide) ?_
  refine k_callV h hl (aX9_isWord l) (ci := 9) (C := RX9) (T := TX9) (N := 33) rfl ⟨rfl, rfl⟩ (n := 6) (by decide +kernel) (q_gV gw646 gw647 gw648 gw606 gw645) ⟨by decide, by decide⟩ (ddX9_takeClause (67, .invokevirtual 131, 3) (List.mem_of_getElem? (i := 36) rfl)) ?_
  refine k_ifeq h (ddX9_takeClause (70, .ifCond .eq 33, 3) (List.mem_of_getElem? (i := 37) rfl)) (tgt := 103) (by decide) ?_ ?_
  · exact sX9_takeClause_103 hl hQ h
  · exact sX9_takeClause_73 hl hQ h
theorem sX9_takeClause_48 {l : Launch} {X : q_CX} (hl : X.2.1 = l) (hQ : q_QM X) (h : q_OK X yX9_takeClause cX9_takeClause 2 none rmX9_takeClause (Cond.code yX9_takeClause cX9_takeClause 2 none :: q_G)) : q_SK X 2 48 (BX9_takeClause_48) := by
  refine k_aload_n (i := 0) h (ddX9_takeClause (48, .aload_n 0, 1) (List.mem_of_getElem? (i := 26) rfl)) rfl ?_
  refine k_callV h hl (aX9_takeTurn l) (ci := 9) (C := RX9) (T := TX9) (N := 33) rfl ⟨rfl, rfl⟩ (n := 0) (by decide +kernel) (q_gV gw650 gw651 gw652 gw606 gw649) ⟨by decide, by decide⟩ (ddX9_takeClause (49, .invokevirtual 135, 3) (List.mem_of_getElem? (i := 27) rfl)) ?_
  refine k_goto h (ddX9_takeClause (52, .goto 146, 3) (List.mem_of_getElem? (i := 28) rfl)) (tgt := 198) (by decide) ?_
  exact sX9_takeClause_198 hl hQ h
theorem sX9_takeClause_40 {l : Launch} {X : q_CX} (hl : X.2.1 = l) (hQ : q_QM X) (h : q_OK X yX9_takeClause cX9_takeClause 2 none rmX9_takeClause (Cond.code yX9_takeClause cX9_takeClause 2 none :: q_G)) : q_SK X 2 40 (BX9_takeClause_40) := by
  refine k_iconst (v := 3) h (ddX9_takeClause (40, .iconst 3, 1) (List.mem_of_getElem? (i := 22) rfl)) (by decide) ?_
  refine k_iload_n (i := 1) h (ddX9_takeClause (41, .iload_n 1, 1) (List.mem_of_getElem? (i := 23) rfl)) rfl ?_
  refine k_callV h hl (aX9_want l) (ci := 9) (C := RX9) (T := TX9) (N := 33) rfl ⟨rfl, rfl⟩ (n := 3) (by decide +kernel) (q_gV gw626 gw627 gw628 gw606 gw625) ⟨by decide, by decide⟩ (ddX9_takeClause (42, .invokevirtual 103, 3) (List.mem_of_getElem? (i := 24) rfl)) ?_
  refine k_ifeq h (ddX9_takeClause (45, .ifCond .eq 153, 3) (List.mem_of_getElem? (i := 25) rfl)) (tgt := 198) (by decide) ?_ ?_
  · exact sX9_takeClause_198 hl hQ h
  · exact sX9_takeClause_48 hl hQ h
theorem sX9_takeClause_39 {l : Launch} {X : q_CX} (hl : X.2.1 = l) (hQ : q_QM X) (h : q_OK X yX9_takeClause cX9_takeClause 2 none rmX9_takeClause (Cond.code yX9_takeClause cX9_takeClause 2 none :: q_G)) : q_SK X 2 39 (BX9_takeClause_39) := by
  refine k_iconst (v := 0) h (ddX9_takeClause (39, .iconst 0, 1) (List.mem_of_getElem? (i := 21) rfl)) (by decide) ?_
  exact sX9_takeClause_40 hl hQ h
theorem sX9_takeClause_35 {l : Launch} {X : q_CX} (hl : X.2.1 = l) (hQ : q_QM X) (h : q_OK X yX9_takeClause cX9_takeClause 2 none rmX9_takeClause (Cond.code yX9_takeClause cX9_takeClause 2 none :: q_G)) : q_SK X 2 35 (BX9_takeClause_35) := by
  refine k_iconst (v := 1) h (ddX9_takeClause (35, .iconst 1, 1) (List.mem_of_getElem? (i := 19) rfl)) (by decide) ?_
  refine k_goto h (ddX9_takeClause (36, .goto 4, 3) (List.mem_of_getElem? (i := 20) rfl)) (tgt := 40) (by decide) ?_
  exact sX9_takeClause_40 hl hQ h
theorem sX9_takeClause_26 {l : Launch} {X : q_CX} (hl : X.2.1 = l) (hQ : q_QM X) (h : q_OK X yX9_takeClause cX9_takeClause 2 none rmX9_takeClause (Cond.code yX9_takeClause cX9_takeClause 2 none :: q_G)) : q_SK X 2 26 (BX9_takeClause_26) := by
  refine k_aload_n (i := 0) h (ddX9_takeClause (26, .aload_n 0, 1) (List.mem_of_getElem? (i := 14) rfl)) rfl ?_
  refine k_aload_n (i := 0) h (ddX9_takeClause (27, .aload_n 0, 1) (List.mem_of_getElem? (i := 15) rfl)) rfl ?_
  refine k_getf (ci := 9) (j := 11) (C := RX9) (T := TX9) (N := 33) h rfl (fun w hw => List.mem_cons_of_mem _ (q_inX9 w hw)) (by decide) (List.mem_cons_of_mem _ gw630) (ddX9_takeClause (28, .getfield 108, 3) (List.mem_of_getElem? (i := 16) rfl)) ?_
  refine k_iconst (v := 3) h (ddX9_takeClause (31, .iconst 3, 1) (List.mem_of_getElem? (i := 17) rfl)) (by decide) ?_
  refine k_icge h (ddX9_takeClause (32, .if_icmp .ge 7, 3) (List.mem_of_getElem? (i := 18) rfl)) (tgt := 39) (by decide) ?_ ?_
  · exact sX9_takeClause_39 hl hQ h
  · exact sX9_takeClause_35 hl hQ h
theorem sX9_takeClause_0 {l : Launch} {X : q_CX} (hl : X.2.1 = l) (hQ : q_QM X) (h : q_OK X yX9_takeClause cX9_takeClause 2 none rmX9_takeClause (Cond.code yX9_takeClause cX9_takeClause 2 none :: q_G)) : q_SK X 2 0 (BX9_takeClause_0) := by
  refine k_aload_n (i := 0) h (ddX9_takeClause (0, .aload_n 0, 1) (List.mem_of_getElem? (i := 0) rfl)) rfl ?_
  refine k_callV h hl (aX9_takeWord l) (ci := 9) (C := RX9) (T := TX9) (N := 33) rfl ⟨rfl, rfl⟩ (n := 0) (by decide +kernel) (q_gV gw642 gw643 gw644 gw606 gw641) ⟨by decide, by decide⟩ (ddX9_takeClause (1, .invokevirtual 128, 3) (List.mem_of_getElem? (i := 1) rfl)) ?_
  refine k_aload_n (i := 0) h (ddX9_takeClause (4, .aload_n 0, 1) (List.mem_of_getElem? (i := 2) rfl)) rfl ?_
  refine k_getf (ci := 9) (j := 18) (C := RX9) (T := TX9) (N := 33) h rfl (fun w hw => List.mem_cons_of_mem _ (q_inX9 w hw)) (by decide) (List.mem_cons_of_mem _ gw619) (ddX9_takeClause (5, .getfield 89, 3) (List.mem_of_getElem? (i := 3) rfl)) ?_
  refine k_istore_n (i := 1) h (ddX9_takeClause (8, .istore_n 1, 1) (List.mem_of_getElem? (i := 4) rfl)) rfl (by decide) ?_
  refine k_aload_n (i := 0) h (ddX9_takeClause (9, .aload_n 0, 1) (List.mem_of_getElem? (i := 5) rfl)) rfl ?_
  refine k_iconst (v := 4) h (ddX9_takeClause (10, .iconst 4, 1) (List.mem_of_getElem? (i := 6) rfl)) (by decide) ?_
  refine k_bipush (v := 116) h (ddX9_takeClause (11, .bipush 116, 2) (List.mem_of_getElem? (i := 7) rfl)) (by decide) ?_
  refine k_bipush (v := 117) h (ddX9_takeClause (13, .bipush 117, 2) (List.mem_of_getElem? (i := 8) rfl)) (by decide) ?_
  refine k_bipush (v := 114) h (ddX9_takeClause (15, .bipush 114, 2) (List.mem_of_getElem? (i := 9) rfl)) (by decide) ?_
  refine k_bipush (v := 110) h (ddX9_takeClause (17, .bipush 110, 2) (List.mem_of_getElem? (i := 10) rfl)) (by decide) ?_
  refine k_iconst (v := 0) h (ddX9_takeClause (19, .iconst 0, 1) (List.mem_of_getElem? (i := 11) rfl)) (by decide) ?_
  refine k_callV h hl (aX9_isWord l) (ci := 9) (C := RX9) (T := TX9) (N := 33) rfl ⟨rfl, rfl⟩ (n := 6) (by decide +kernel) (q_gV gw646 gw647 gw648 gw606 gw645) ⟨by decide, by decide⟩ (ddX9_takeClause (20, .invokevirtual 131, 3) (List.mem_of_getElem? (i := 12) rfl)) ?_
  refine k_ifeq h (ddX9_takeClause (23, .ifCond .eq 32, 3) (List.mem_of_getElem? (i := 13) rfl)) (tgt := 55) (by decide) ?_ ?_
  · exact sX9_takeClause_55 hl hQ h
  · exact sX9_takeClause_26 hl hQ h
theorem aX9_takeClause (l : Launch) (as : List Value) (sh : q_Sh) (m : q_Mm) (R : q_KR) (hw : wX9_takeClause as sh m R) : q_AM l yX9_takeClause (Cond.code yX9_takeClause cX9_takeClause 2 none :: q_G) rmX9_takeClause as sh m R := by
  refine q_met (code := TX9_takeClause) (by decide) (fun X hl hQ _ h pc => ?_) hw.1 hw.2
  unfold TX9_takeClause
  exact k_at (sX9_takeClause_0 hl hQ h) (k_no)
/-! TumblingRockModel.common(II)I -/
abbrev dlX9_common : List (Nat × (Instr × Nat)) := [(0, .iload_n 0, 1), (1, .istore_n 2, 1), (2, .iload_n 1, 1), (3, .istore_n 3, 1), (4, .iload_n 3, 1), (5, .ifCond .le 16, 3), (8, .iload_n 2, 1), (9, .iload_n 3, 1), (10, .irem, 1), (11, .istore 4, 2), (13, .iload_n 3, 1), (14, .istore_n 2, 1), (15, .iload 4, 2), (17, .istore_n 3, 1), (18, .goto (-14), 3), (21, .iload_n 2, 1), (22, .ireturn, 1)]
theorem ddX9_common : ∀ q ∈ dlX9_common, decode cX9_common q.1 = .ok q.2 := by decide +kernel
theorem sX9_common_0 {l : Launch} {X : q_CX} (hl : X.2.1 = l) (hQ : q_QM X) (h : q_OK X yX9_common cX9_common 5 (some .int) rmX9_common (Cond.code yX9_common cX9_common 5 (some .int) :: q_G)) : q_SK X 5 0 (BX9_common_0) := by
  refine k_iload_n (i := 0) h (ddX9_common (0, .iload_n 0, 1) (List.mem_of_getElem? (i := 0) rfl)) rfl ?_
  refine k_istore_n (i := 2) h (ddX9_common (1, .istore_n 2, 1) (List.mem_of_getElem? (i := 1) rfl)) rfl (by decide) ?_
  refine k_iload_n (i := 1) h (ddX9_common (2, .iload_n 1, 1) (List.mem_of_getElem? (i := 2) rfl)) rfl ?_
  refine k_istore_n (i := 3) h (ddX9_common (3, .istore_n 3, 1) (List.mem_of_getElem? (i := 3) rfl)) rfl (by decide) ?_
  exact k_cut
theorem sX9_common_21 {l : Launch} {X : q_CX} (hl : X.2.1 = l) (hQ : q_QM X) (h : q_OK X yX9_common cX9_common 5 (some .int) rmX9_common (Cond.code yX9_common cX9_common 5 (some .int) :: q_G)) : q_SK X 5 21 (BX9_common_21) := by
  refine k_iload_n (i := 2) h (ddX9_common (21, .iload_n 2, 1) (List.mem_of_getElem? (i := 15) rfl)) rfl ?_
  exact k_iret h hQ (ddX9_common (22, .ireturn, 1) (List.mem_of_getElem? (i := 16) rfl))
theorem sX9_common_8 {l : Launch} {X : q_CX} (hl : X.2.1 = l) (hQ : q_QM X) (h : q_OK X yX9_common cX9_common 5 (some .int) rmX9_common (Cond.code yX9_common cX9_common 5 (some .int) :: q_G)) : q_SK X 5 8 (BX9_common_8) := by
  refine k_iload_n (i := 2) h (ddX9_common (8, .iload_n 2, 1) (List.mem_of_getElem? (i := 6) rfl)) rfl ?_
  refine k_iload_n (i := 3) h (ddX9_common (9, .iload_n 3, 1) (List.mem_of_getElem? (i := 7) rfl)) rfl ?_
  refine k_irem h (ddX9_common (10, .irem, 1) (List.mem_of_getElem? (i := 8) rfl)) ?_
  refine k_istore (i := 4) h (ddX9_common (11, .istore 4, 2) (List.mem_of_getElem? (i := 9) rfl)) (by decide) ?_
  refine k_iload_n (i := 3) h (ddX9_common (13, .iload_n 3, 1) (List.mem_of_getElem? (i := 10) rfl)) rfl ?_
  refine k_istore_n (i := 2) h (ddX9_common (14, .istore_n 2, 1) (List.mem_of_getElem? (i := 11) rfl)) rfl (by decide) ?_
  refine k_iload (i := 4) h (ddX9_common (15, .iload 4, 2) (List.mem_of_getElem? (i := 12) rfl)) ?_
  refine k_istore_n (i := 3) h (ddX9_common (17, .istore_n 3, 1) (List.mem_of_getElem? (i := 13) rfl)) rfl (by decide) ?_
  refine k_goto h (ddX9_common (18, .goto (-14), 3) (List.mem_of_getElem? (i := 14) rfl)) (tgt := 4) (by decide) ?_
  exact k_cut
theorem sX9_common_4 {l : Launch} {X : q_CX} (hl : X.2.1 = l) (hQ : q_QM X) (h : q_OK X yX9_common cX9_common 5 (some .int) rmX9_common (Cond.code yX9_common cX9_common 5 (some .int) :: q_G)) : q_SK X 5 4 (BX9_common_4) := by
  refine k_iload_n (i := 3) h (ddX9_common (4, .iload_n 3, 1) (List.mem_of_getElem? (i := 4) rfl)) rfl ?_
  refine k_ifle h (ddX9_common (5, .ifCond .le 16, 3) (List.mem_of_getElem? (i := 5) rfl)) (tgt := 21) (by decide) ?_ ?_
  · exact sX9_common_21 hl hQ h
  · exact sX9_common_8 hl hQ h
theorem aX9_common (l : Launch) (as : List Value) (sh : q_Sh) (m : q_Mm) (R : q_KR) (hw : wX9_common as sh m R) : q_AM l yX9_common (Cond.code yX9_common cX9_common 5 (some .int) :: q_G) rmX9_common as sh m R := by
  refine q_met (code := TX9_common) (by decide) (fun X hl hQ _ h pc => ?_) hw.1 hw.2
  unfold TX9_common
  exact k_at (sX9_common_0 hl hQ h) (k_at (sX9_common_4 hl hQ h) (k_no))
/-! TumblingRockModel.rock()I -/
abbrev dlX9_rock : List (Nat × (Instr × Nat)) := [(0, .aload_n 0, 1), (1, .iconst 0, 1), (2, .putfield 79, 3), (5, .aload_n 0, 1), (6, .iconst 0, 1), (7, .putfield 82, 3), (10, .aload_n 0, 1), (11, .iconst (-1), 1), (12, .putfield 35, 3), (15, .aload_n 0, 1), (16, .iconst 0, 1), (17, .putfield 108, 3), (20, .aload_n 0, 1), (21, .iconst 0, 1), (22, .putfield 115, 3), (25, .aload_n 0, 1), (26, .iconst 0, 1), (27, .putfield 122, 3), (30, .aload_n 0, 1), (31, .iconst 0, 1), (32, .putfield 125, 3), (35, .aload_n 0, 1), (36, .getfield 82, 3), (39, .ifCond .ne 60, 3), (42, .aload_n 0, 1), (43, .invokevirtual 85, 3), (46, .ifCond .lt 53, 3), (49, .aload_n 0, 1), (50, .invokevirtual 147, 3), (53, .aload_n 0, 1), (54, .getfield 82, 3), (57, .ifCond .ne (-22), 3), (60, .aload_n 0, 1), (61, .aload_n 0, 1), (62, .invokevirtual 85, 3), (65, .bipush 59, 2), (67, .if_icmp .ne 7, 3), (70, .iconst 1, 1), (71, .goto 4, 3), (74, .iconst 0, 1), (75, .iconst 1, 1), (76, .aload_n 0, 1), (77, .getfield 79, 3), (80, .invokevirtual 103, 3), (83, .ifCond .eq (-48), 3), (86, .aload_n 0, 1), (87, .dup, 1), (88, .getfield 79, 3), (91, .iconst 1, 1), (92, .iadd, 1), (93, .putfield 79, 3), (96, .goto (-61), 3), (99, .aload_n 0, 1), (100, .iconst 0, 1), (101, .putfield 73, 3), (104, .aload_n 0, 1), (105, .getfield 82, 3), (108, .ifCond .le 11, 3), (111, .bipush (-10), 2), (113, .aload_n 0, 1), (114, .getfield 82, 3), (117, .isub, 1), (118, .ireturn, 1), (119, .aload_n 0, 1), (120, .aload_n 0, 1), (121, .getfield 108, 3), (124, .putfield 150, 3), (127, .aload_n 0, 1), (128, .aload_n 0, 1), (129, .getfield 115, 3), (132, .putfield 153, 3), (135, .aload_n 0, 1), (136, .aload_n 0, 1), (137, .getfield 122, 3), (140, .putfield 156, 3), (143, .aload_n 0, 1), (144, .aload_n 0, 1), (145, .getfield 125, 3), (148, .putfield 159, 3), (151, .iconst 0, 1), (152, .istore_n 1, 1), (153, .iload_n 1, 1), (154, .bipush 36, 2), (156, .if_icmp .ge 24, 3), (159, .aload_n 0, 1), (160, .getfield 17, 3), (163, .iload_n 1, 1), (164, .aload_n 0, 1), (165, .getfield 17, 3), (168, .bipush 36, 2), (170, .iload_n 1, 1), (171, .iadd, 1), (172, .iaload, 1), (173, .iastore, 1), (174, .iinc 1 1, 3), (177, .goto (-24), 3), (180, .iconst 0, 1), (181, .istore_n 1, 1), (182, .iload_n 1, 1), (183, .bipush 24, 2), (185, .if_icmp .ge 24, 3), (188, .aload_n 0, 1), (189, .getfield 23, 3), (192, .iload_n 1, 1), (193, .aload_n 0, 1), (194, .getfield 23, 3), (197, .bipush 24, 2), (199, .iload_n 1, 1), (200, .iadd, 1), (201, .iaload, 1), (202, .iastore, 1), (203, .iinc 1 1, 3), (206, .goto (-24), 3), (209, .iconst 0, 1), (210, .istore_n 1, 1), (211, .iload_n 1, 1), (212, .bipush 8, 2), (214, .if_icmp .ge 24, 3), (217, .aload_n 0, 1), (218, .getfield 26, 3), (221, .iload_n 1, 1), (222, .aload_n 0, 1), (223, .getfield 26, 3), (226, .bipush 8, 2), (228, .iload_n 1, 1), (229, .iadd, 1), (230, .iaload, 1), (231, .iastore, 1), (232, .iinc 1 1, 3), (235, .goto (-24), 3), (238, .iconst 0, 1), (239, .istore_n 1, 1), (240, .iload_n 1, 1), (241, .bipush 12, 2), (243, .if_icmp .ge 24, 3), (246, .aload_n 0, 1), (247, .getfield 29, 3), (250, .iload_n 1, 1), (251, .aload_n 0, 1), (252, .getfield 29, 3), (255, .bipush 12, 2), (257, .iload_n 1, 1), (258, .iadd, 1), (259, .iaload, 1), (260, .iastore, 1), (261, .iinc 1 1, 3), (264, .goto (-24), 3), (267, .iconst 0, 1), (268, .istore_n 1, 1), (269, .iload_n 1, 1), (270, .iconst 3, 1), (271, .if_icmp .ge 42, 3), (274, .aload_n 0, 1), (275, .getfield 20, 3), (278, .iload_n 1, 1), (279, .iload_n 1, 1), (280, .aload_n 0, 1), (281, .getfield 150, 3), (284, .if_icmp .ge 14, 3), (287, .aload_n 0, 1), (288, .getfield 20, 3), (291, .iconst 3, 1), (292, .iload_n 1, 1), (293, .iadd, 1), (294, .iaload, 1), (295, .goto 4, 3), (298, .iconst 1, 1), (299, .iastore, 1), (300, .aload_n 0, 1), (301, .getfield 7, 3), (304, .iload_n 1, 1), (305, .iconst 0, 1), (306, .iastore, 1), (307, .iinc 1 1, 3), (310, .goto (-41), 3), (313, .aload_n 0, 1), (314, .getfield 7, 3), (317, .iconst 3, 1), (318, .iconst 0, 1), (319, .iastore, 1), (320, .aload_n 0, 1), (321, .getfield 7, 3), (324, .iconst 4, 1), (325, .iconst 0, 1), (326, .iastore, 1), (327, .aload_n 0, 1), (328, .getfield 7, 3), (331, .iconst 5, 1), (332, .iconst 0, 1), (333, .iastore, 1), (334, .aload_n 0, 1), (335, .iconst 0, 1), (336, .putfield 162, 3), (339, .aload_n 0, 1), (340, .iconst 0, 1), (341, .putfield 165, 3), (344, .aload_n 0, 1), (345, .getfield 13, 3), (348, .iconst 0, 1), (349, .iconst 0, 1), (350, .bastore, 1), (351, .aload_n 0, 1), (352, .getfield 13, 3), (355, .iconst 1, 1), (356, .iconst 0, 1), (357, .bastore, 1), (358, .aload_n 0, 1), (359, .iconst 1, 1), (360, .putfield 39, 3), (363, .iconst 0, 1), (364, .istore_n 1, 1), (365, .iload_n 1, 1), (366, .aload_n 0, 1), (367, .getfield 150, 3), (370, .if_icmp .ge 38, 3), (373, .aload_n 0, 1), (374, .aload_n 0, 1), (375, .getfield 39, 3), (378, .aload_n 0, 1), (379, .getfield 39, 3), (382, .aload_n 0, 1), (383, .getfield 20, 3), (386, .iload_n 1, 1), (387, .iaload, 1), (388, .invokestatic 168, 3), (391, .idiv, 1), (392, .aload_n 0, 1), (393, .getfield 20, 3), (396, .iload_n 1, 1), (397, .iaload, 1), (398, .imul, 1), (399, .putfield 39, 3), (402, .iinc 1 1, 3), (405, .goto (-40), 3), (408, .aload_n 0, 1), (409, .getfield 153, 3), (412, .ireturn, 1)]
theorem ddX9_rock : ∀ q ∈ dlX9_rock, decode cX9_rock q.1 = .ok q.2 := by decide +kernel
theorem sX9_rock_0 {l : Launch} {X : q_CX} (hl : X.2.1 = l) (hQ : q_QM X) (h : q_OK X yX9_rock cX9_rock 2 (some .int) rmX9_rock (Cond.code yX9_rock cX9_rock 2 (some .int) :: q_G)) : q_SK X 2 0 (BX9_rock_0) := by
  refine k_aload_n (i := 0) h (ddX9_rock (0, .aload_n 0, 1) (List.mem_of_getElem? (i := 0) rfl)) rfl ?_
  refine k_iconst (v := 0) h (ddX9_rock (1, .iconst 0, 1) (List.mem_of_getElem? (i := 1) rfl)) (by decide) ?_
  refine k_putf (ci := 9) (j := 17) (C := RX9) (T := TX9) (N := 33) h rfl (fun w hw => List.mem_cons_of_mem _ (q_inX9 w hw)) (by decide) (List.mem_cons_of_mem _ gw613) tyX9 tyX9_ok nmX9 (by decide +kernel) (by decide +kernel) (ddX9_rock (2, .putfield 79, 3) (List.mem_of_getElem? (i := 2) rfl)) ?_
  refine k_aload_n (i := 0) h (ddX9_rock (5, .aload_n 0, 1) (List.mem_of_getElem? (i := 3) rfl)) rfl ?_
  refine k_iconst (v := 0) h (ddX9_rock (6, .iconst 0, 1) (List.mem_of_getElem? (i := 4) rfl)) (by decide) ?_
  refine k_putf (ci := 9) (j := 20) (C := RX9) (T := TX9) (N := 33) h rfl (fun w hw => List.mem_cons_of_mem _ (q_inX9 w hw)) (by decide) (List.mem_cons_of_mem _ gw614) tyX9 tyX9_ok nmX9 (by decide +kernel) (by decide +kernel) (ddX9_rock (7, .putfield 82, 3) (List.mem_of_getElem? (i := 5) rfl)) ?_
  refine k_aload_n (i := 0) h (ddX9_rock (10, .aload_n 0, 1) (List.mem_of_getElem? (i := 6) rfl)) rfl ?_
  refine k_iconst (v := (-1)) h (ddX9_rock (11, .iconst (-1), 1) (List.mem_of_getElem? (i := 7) rfl)) (by decide) ?_
  refine k_putf (ci := 9) (j := 21) (C := RX9) (T := TX9) (N := 33) h rfl (fun w hw => List.mem_cons_of_mem _ (q_inX9 w hw)) (by decide) (List.mem_cons_of_mem _ gw594) tyX9 tyX9_ok nmX9 (by decide +kernel) (by decide +kernel) (ddX9_rock (12, .putfield 35, 3) (List.mem_of_getElem? (i := 8) rfl)) ?_
  refine k_aload_n (i := 0) h (ddX9_rock (15, .aload_n 0, 1) (List.mem_of_getElem? (i := 9) rfl)) rfl ?_
  refine k_iconst (v := 0) h (ddX9_rock (16, .iconst 0, 1) (List.mem_of_getElem? (i := 10) rfl)) (by decide) ?_
  refine k_putf (ci := 9) (j := 11) (C := RX9) (T := TX9) (N := 33) h rfl (fun w hw => List.mem_cons_of_mem _ (q_inX9 w hw)) (by decide) (List.mem_cons_of_mem _ gw630) tyX9 tyX9_ok nmX9 (by decide +kernel) (by decide +kernel) (ddX9_rock (17, .putfield 108, 3) (List.mem_of_getElem? (i := 11) rfl)) ?_
  refine k_aload_n (i := 0) h (ddX9_rock (20, .aload_n 0, 1) (List.mem_of_getElem? (i := 12) rfl)) rfl ?_
  refine k_iconst (v := 0) h (ddX9_rock (21, .iconst 0, 1) (List.mem_of_getElem? (i := 13) rfl)) (by decide) ?_
  refine k_putf (ci := 9) (j := 12) (C := RX9) (T := TX9) (N := 33) h rfl (fun w hw => List.mem_cons_of_mem _ (q_inX9 w hw)) (by decide) (List.mem_cons_of_mem _ gw635) tyX9 tyX9_ok nmX9 (by decide +kernel) (by decide +kernel) (ddX9_rock (22, .putfield 115, 3) (List.mem_of_getElem? (i := 14) rfl)) ?_
  refine k_aload_n (i := 0) h (ddX9_rock (25, .aload_n 0, 1) (List.mem_of_getElem? (i := 15) rfl)) rfl ?_
  refine k_iconst (v := 0) h (ddX9_rock (26, .iconst 0, 1) (List.mem_of_getElem? (i := 16) rfl)) (by decide) ?_
  refine k_putf (ci := 9) (j := 13) (C := RX9) (T := TX9) (N := 33) h rfl (fun w hw => List.mem_cons_of_mem _ (q_inX9 w hw)) (by decide) (List.mem_cons_of_mem _ gw639) tyX9 tyX9_ok nmX9 (by decide +kernel) (by decide +kernel) (ddX9_rock (27, .putfield 122, 3) (List.mem_of_getElem? (i := 17) rfl)) ?_
  refine k_aload_n (i := 0) h (ddX9_rock (30, .aload_n 0, 1) (List.mem_of_getElem? (i := 18) rfl)) rfl ?_
  refine k_iconst (v := 0) h (ddX9_rock (31, .iconst 0, 1) (List.mem_of_getElem? (i := 19) rfl)) (by decide) ?_
  refine k_putf (ci := 9) (j := 14) (C := RX9) (T := TX9) (N := 33) h rfl (fun w hw => List.mem_cons_of_mem _ (q_inX9 w hw)) (by decide) (List.mem_cons_of_mem _ gw640) tyX9 tyX9_ok nmX9 (by decide +kernel) (by decide +kernel) (ddX9_rock (32, .putfield 125, 3) (List.mem_of_getElem? (i := 20) rfl)) ?_
  exact k_cut
theorem sX9_rock_86 {l : Launch} {X : q_CX} (hl : X.2.1 = l) (hQ : q_QM X) (h : q_OK X yX9_rock cX9_rock 2 (some .int) rmX9_rock (Cond.code yX9_rock cX9_rock 2 (some .int) :: q_G)) : q_SK X 2 86 (BX9_rock_86) := by
  refine k_aload_n (i := 0) h (ddX9_rock (86, .aload_n 0, 1) (List.mem_of_getElem? (i := 45) rfl)) rfl ?_
  refine k_dup h (ddX9_rock (87, .dup, 1) (List.mem_of_getElem? (i := 46) rfl)) ?_
  refine k_getf (ci := 9) (j := 17) (C := RX9) (T := TX9) (N := 33) h rfl (fun w hw => List.mem_cons_of_mem _ (q_inX9 w hw)) (by decide) (List.mem_cons_of_mem _ gw613) (ddX9_rock (88, .getfield 79, 3) (List.mem_of_getElem? (i := 47) rfl)) ?_
  refine k_iconst (v := 1) h (ddX9_rock (91, .iconst 1, 1) (List.mem_of_getElem? (i := 48) rfl)) (by decide) ?_
  refine k_iadd h (ddX9_rock (92, .iadd, 1) (List.mem_of_getElem? (i := 49) rfl)) ?_
  refine k_putf (ci := 9) (j := 17) (C := RX9) (T := TX9) (N := 33) h rfl (fun w hw => List.mem_cons_of_mem _ (q_inX9 w hw)) (by decide) (List.mem_cons_of_mem _ gw613) tyX9 tyX9_ok nmX9 (by decide +kernel) (by decide +kernel) (ddX9_rock (93, .putfield 79, 3) (List.mem_of_getElem? (i := 50) rfl)) ?_
  refine k_goto h (ddX9_rock (96, .goto (-61), 3) (List.mem_of_getElem? (i := 51) rfl)) (tgt := 35) (by decide) ?_
  exact k_cut
theorem sX9_rock_75 {l : Launch} {X : q_CX} (hl : X.2.1 = l) (hQ : q_QM X) (h : q_OK X yX9_rock cX9_rock 2 (some .int) rmX9_rock (Cond.code yX9_rock cX9_rock 2 (some .int) :: q_G)) : q_SK X 2 75 (BX9_rock_75) := by
  refine k_iconst (v := 1) h (ddX9_rock (75, .iconst 1, 1) (List.mem_of_getElem? (i := 40) rfl)) (by decide) ?_
  refine k_aload_n (i := 0) h (ddX9_rock (76, .aload_n 0, 1) (List.mem_of_getElem? (i := 41) rfl)) rfl ?_
  refine k_getf (ci := 9) (j := 17) (C := RX9) (T := TX9) (N := 33) h rfl (fun w hw => List.mem_cons_of_mem _ (q_inX9 w hw)) (by decide) (List.mem_cons_of_mem _ gw613) (ddX9_rock (77, .getfield 79, 3) (List.mem_of_getElem? (i := 42) rfl)) ?_
  refine k_callV h hl (aX9_want l) (ci := 9) (C := RX9) (T := TX9) (N := 33) rfl ⟨rfl, rfl⟩ (n := 3) (by decide +kernel) (q_gV gw626 gw627 gw628 gw606 gw625) ⟨by decide, by decide⟩ (ddX9_rock (80, .invokevirtual 103, 3) (List.mem_of_getElem? (i := 43) rfl)) ?_
  refine k_ifeq h (ddX9_rock (83, .ifCond .eq (-48), 3) (List.mem_of_getElem? (i := 44) rfl)) (tgt := 35) (by decide) ?_ ?_
  · exact k_cut
  · exact sX9_rock_86 hl hQ h
theorem sX9_rock_74 {l : Launch} {X : q_CX} (hl : X.2.1 = l) (hQ : q_QM X) (h : q_OK X yX9_rock cX9_rock 2 (some .int) rmX9_rock (Cond.code yX9_rock cX9_rock 2 (some .int) :: q_G)) : q_SK X 2 74 (BX9_rock_74) := by
  refine k_iconst (v := 0) h (ddX9_rock (74, .iconst 0, 1) (List.mem_of_getElem? (i := 39) rfl)) (by decide) ?_
  exact sX9_rock_75 hl hQ h
theorem sX9_rock_70 {l : Launch} {X : q_CX} (hl : X.2.1 = l) (hQ : q_QM X) (h : q_OK X yX9_rock cX9_rock 2 (some .int) rmX9_rock (Cond.code yX9_rock cX9_rock 2 (some .int) :: q_G)) : q_SK X 2 70 (BX9_rock_70) := by
  refine k_iconst (v := 1) h (ddX9_rock (70, .iconst 1, 1) (List.mem_of_getElem? (i := 37) rfl)) (by decide) ?_
  refine k_goto h (ddX9_rock (71, .goto 4, 3) (List.mem_of_getElem? (i := 38) rfl)) (tgt := 75) (by decide) ?_
  exact sX9_rock_75 hl hQ h
theorem sX9_rock_60 {l : Launch} {X : q_CX} (hl : X.2.1 = l) (hQ : q_QM X) (h : q_OK X yX9_rock cX9_rock 2 (some .int) rmX9_rock (Cond.code yX9_rock cX9_rock 2 (some .int) :: q_G)) : q_SK X 2 60 (BX9_rock_60) := by
  refine k_aload_n (i := 0) h (ddX9_rock (60, .aload_n 0, 1) (List.mem_of_getElem? (i := 32) rfl)) rfl ?_
  refine k_aload_n (i := 0) h (ddX9_rock (61, .aload_n 0, 1) (List.mem_of_getElem? (i := 33) rfl)) rfl ?_
  refine k_callV h hl (aX9_here l) (ci := 9) (C := RX9) (T := TX9) (N := 33) rfl ⟨rfl, rfl⟩ (n := 0) (by decide +kernel) (q_gV gw616 gw617 gw618 gw606 gw615) ⟨by decide, by decide⟩ (ddX9_rock (62, .invokevirtual 85, 3) (List.mem_of_getElem? (i := 34) rfl)) ?_
  refine k_bipush (v := 59) h (ddX9_rock (65, .bipush 59, 2) (List.mem_of_getElem? (i := 35) rfl)) (by decide) ?_
  refine k_icne h (ddX9_rock (67, .if_icmp .ne 7, 3) (List.mem_of_getElem? (i := 36) rfl)) (tgt := 74) (by decide) ?_ ?_
  · exact sX9_rock_74 hl hQ h
  · exact sX9_rock_70 hl hQ h
theorem sX9_rock_49 {l : Launch} {X : q_CX} (hl : X.2.1 = l) (hQ : q_QM X) (h : q_OK X yX9_rock cX9_rock 2 (some .int) rmX9_rock (Cond.code yX9_rock cX9_rock 2 (some .int) :: q_G)) : q_SK X 2 49 (BX9_rock_49) := by
  refine k_aload_n (i := 0) h (ddX9_rock (49, .aload_n 0, 1) (List.mem_of_getElem? (i := 27) rfl)) rfl ?_
  refine k_callV h hl (aX9_takeClause l) (ci := 9) (C := RX9) (T := TX9) (N := 33) rfl ⟨rfl, rfl⟩ (n := 0) (by decide +kernel) (q_gV gw666 gw667 gw668 gw606 gw665) ⟨by decide, by decide⟩ (ddX9_rock (50, .invokevirtual 147, 3) (List.mem_of_getElem? (i := 28) rfl)) ?_
  refine k_aload_n (i := 0) h (ddX9_rock (53, .aload_n 0, 1) (List.mem_of_getElem? (i := 29) rfl)) rfl ?_
  refine k_getf (ci := 9) (j := 20) (C := RX9) (T := TX9) (N := 33) h rfl (fun w hw => List.mem_cons_of_mem _ (q_inX9 w hw)) (by decide) (List.mem_cons_of_mem _ gw614) (ddX9_rock (54, .getfield 82, 3) (List.mem_of_getElem? (i := 30) rfl)) ?_
  refine k_ifne h (ddX9_rock (57, .ifCond .ne (-22), 3) (List.mem_of_getElem? (i := 31) rfl)) (tgt := 35) (by decide) ?_ ?_
  · exact k_cut
  · exact sX9_rock_60 hl hQ h
theorem sX9_rock_42 {l : Launch} {X : q_CX} (hl : X.2.1 = l) (hQ : q_QM X) (h : q_OK X yX9_rock cX9_rock 2 (some .int) rmX9_rock (Cond.code yX9_rock cX9_rock 2 (some .int) :: q_G)) : q_SK X 2 42 (BX9_rock_42) := by
  refine k_aload_n (i := 0) h (ddX9_rock (42, .aload_n 0, 1) (List.mem_of_getElem? (i := 24) rfl)) rfl ?_
  refine k_callV h hl (aX9_here l) (ci := 9) (C := RX9) (T := TX9) (N := 33) rfl ⟨rfl, rfl⟩ (n := 0) (by decide +kernel) (q_gV gw616 gw617 gw618 gw606 gw615) ⟨by decide, by decide⟩ (ddX9_rock (43, .invokevirtual 85, 3) (List.mem_of_getElem? (i := 25) rfl)) ?_
  refine k_iflt h (ddX9_rock (46, .ifCond .lt 53, 3) (List.mem_of_getElem? (i := 26) rfl)) (tgt := 99) (by decide) ?_ ?_
  · exact k_cut
  · exact sX9_rock_49 hl hQ h
theorem sX9_rock_35 {l : Launch} {X : q_CX} (hl : X.2.1 = l) (hQ : q_QM X) (h : q_OK X yX9_rock cX9_rock 2 (some .int) rmX9_rock (Cond.code yX9_rock cX9_rock 2 (some .int) :: q_G)) : q_SK X 2 35 (BX9_rock_35) := by
  refine k_aload_n (i := 0) h (ddX9_rock (35, .aload_n 0, 1) (List.mem_of_getElem? (i := 21) rfl)) rfl ?_
  refine k_getf (ci := 9) (j := 20) (C := RX9) (T := TX9) (N := 33) h rfl (fun w hw => List.mem_cons_of_mem _ (q_inX9 w hw)) (by decide) (List.mem_cons_of_mem _ gw614) (ddX9_rock (36, .getfield 82, 3) (List.mem_of_getElem? (i := 22) rfl)) ?_
  refine k_ifne h (ddX9_rock (39, .ifCond .ne 60, 3) (List.mem_of_getElem? (i := 23) rfl)) (tgt := 99) (by decide) ?_ ?_
  · exact k_cut
  · exact sX9_rock_42 hl hQ h
theorem sX9_rock_119 {l : Launch} {X : q_CX} (hl : X.2.1 = l) (hQ : q_QM X) (h : q_OK X yX9_rock cX9_rock 2 (some .int) rmX9_rock (Cond.code yX9_rock cX9_rock 2 (some .int) :: q_G)) : q_SK X 2 119 (BX9_rock_119) := by
  refine k_aload_n (i := 0) h (ddX9_rock (119, .aload_n 0, 1) (List.mem_of_getElem? (i := 63) rfl)) rfl ?_
  refine k_aload_n (i := 0) h (ddX9_rock (120, .aload_n 0, 1) (List.mem_of_getElem? (i := 64) rfl)) rfl ?_
  refine k_getf (ci := 9) (j := 11) (C := RX9) (T := TX9) (N := 33) h rfl (fun w hw => List.mem_cons_of_mem _ (q_inX9 w hw)) (by decide) (List.mem_cons_of_mem _ gw630) (ddX9_rock (121, .getfield 108, 3) (List.mem_of_getElem? (i := 65) rfl)) ?_
  refine k_putf (ci := 9) (j := 7) (C := RX9) (T := TX9) (N := 33) h rfl (fun w hw => List.mem_cons_of_mem _ (q_inX9 w hw)) (by decide) (List.mem_cons_of_mem _ gw669) tyX9 tyX9_ok nmX9 (by decide +kernel) (by decide +kernel) (ddX9_rock (124, .putfield 150, 3) (List.mem_of_getElem? (i := 66) rfl)) ?_
  refine k_aload_n (i := 0) h (ddX9_rock (127, .aload_n 0, 1) (List.mem_of_getElem? (i := 67) rfl)) rfl ?_
  refine k_aload_n (i := 0) h (ddX9_rock (128, .aload_n 0, 1) (List.mem_of_getElem? (i := 68) rfl)) rfl ?_
  refine k_getf (ci := 9) (j := 12) (C := RX9) (T := TX9) (N := 33) h rfl (fun w hw => List.mem_cons_of_mem _ (q_inX9 w hw)) (by decide) (List.mem_cons_of_mem _ gw635) (ddX9_rock (129, .getfield 115, 3) (List.mem_of_getElem? (i := 69) rfl)) ?_
  refine k_putf (ci := 9) (j := 8) (C := RX9) (T := TX9) (N := 33) h rfl (fun w hw => List.mem_cons_of_mem _ (q_inX9 w hw)) (by decide) (List.mem_cons_of_mem _ gw670) tyX9 tyX9_ok nmX9 (by decide +kernel) (by decide +kernel) (ddX9_rock (132, .putfield 153, 3) (List.mem_of_getElem? (i := 70) rfl)) ?_
  refine k_aload_n (i := 0) h (ddX9_rock (135, .aload_n 0, 1) (List.mem_of_getElem? (i := 71) rfl)) rfl ?_
  refine k_aload_n (i := 0) h (ddX9_rock (136, .aload_n 0, 1) (List.mem_of_getElem? (i := 72) rfl)) rfl ?_
  refine k_getf (ci := 9) (j := 13) (C := RX9) (T := TX9) (N := 33) h rfl (fun w hw => List.mem_cons_of_mem _ (q_inX9 w hw)) (by decide) (List.mem_cons_of_mem _ gw639) (ddX9_rock (137, .getfield 122, 3) (List.mem_of_getElem? (i := 73) rfl)) ?_
  refine k_putf (ci := 9) (j := 9) (C := RX9) (T := TX9) (N := 33) h rfl (fun w hw => List.mem_cons_of_mem _ (q_inX9 w hw)) (by decide) (List.mem_cons_of_mem _ gw671) tyX9 tyX9_ok nmX9 (by decide +kernel) (by decide +kernel) (ddX9_rock (140, .putfield 156, 3) (List.mem_of_getElem? (i := 74) rfl)) ?_
  refine k_aload_n (i := 0) h (ddX9_rock (143, .aload_n 0, 1) (List.mem_of_getElem? (i := 75) rfl)) rfl ?_
  refine k_aload_n (i := 0) h (ddX9_rock (144, .aload_n 0, 1) (List.mem_of_getElem? (i := 76) rfl)) rfl ?_
  refine k_getf (ci := 9) (j := 14) (C := RX9) (T := TX9) (N := 33) h rfl (fun w hw => List.mem_cons_of_mem _ (q_inX9 w hw)) (by decide) (List.mem_cons_of_mem _ gw640) (ddX9_rock (145, .getfield 125, 3) (List.mem_of_getElem? (i := 77) rfl)) ?_
  refine k_putf (ci := 9) (j := 10) (C := RX9) (T := TX9) (N := 33) h rfl (fun w hw => List.mem_cons_of_mem _ (q_inX9 w hw)) (by decide) (List.mem_cons_of_mem _ gw672) tyX9 tyX9_ok nmX9 (by decide +kernel) (by decide +kernel) (ddX9_rock (148, .putfield 159, 3) (List.mem_of_getElem? (i := 78) rfl)) ?_
  refine k_iconst (v := 0) h (ddX9_rock (151, .iconst 0, 1) (List.mem_of_getElem? (i := 79) rfl)) (by decide) ?_
  refine k_istore_n (i := 1) h (ddX9_rock (152, .istore_n 1, 1) (List.mem_of_getElem? (i := 80) rfl)) rfl (by decide) ?_
  exact k_cut
theorem sX9_rock_111 {l : Launch} {X : q_CX} (hl : X.2.1 = l) (hQ : q_QM X) (h : q_OK X yX9_rock cX9_rock 2 (some .int) rmX9_rock (Cond.code yX9_rock cX9_rock 2 (some .int) :: q_G)) : q_SK X 2 111 (BX9_rock_111) := by
  refine k_bipush (v := (-10)) h (ddX9_rock (111, .bipush (-10), 2) (List.mem_of_getElem? (i := 58) rfl)) (by decide) ?_
  refine k_aload_n (i := 0) h (ddX9_rock (113, .aload_n 0, 1) (List.mem_of_getElem? (i := 59) rfl)) rfl ?_
  refine k_getf (ci := 9) (j := 20) (C := RX9) (T := TX9) (N := 33) h rfl (fun w hw => List.mem_cons_of_mem _ (q_inX9 w hw)) (by decide) (List.mem_cons_of_mem _ gw614) (ddX9_rock (114, .getfield 82, 3) (List.mem_of_getElem? (i := 60) rfl)) ?_
  refine k_isub h (ddX9_rock (117, .isub, 1) (List.mem_of_getElem? (i := 61) rfl)) ?_
  exact k_iret h hQ (ddX9_rock (118, .ireturn, 1) (List.mem_of_getElem? (i := 62) rfl))
theorem sX9_rock_99 {l : Launch} {X : q_CX} (hl : X.2.1 = l) (hQ : q_QM X) (h : q_OK X yX9_rock cX9_rock 2 (some .int) rmX9_rock (Cond.code yX9_rock cX9_rock 2 (some .int) :: q_G)) : q_SK X 2 99 (BX9_rock_99) := by
  refine k_aload_n (i := 0) h (ddX9_rock (99, .aload_n 0, 1) (List.mem_of_getElem? (i := 52) rfl)) rfl ?_
  refine k_iconst (v := 0) h (ddX9_rock (100, .iconst 0, 1) (List.mem_of_getElem? (i := 53) rfl)) (by decide) ?_
  refine k_putf (ci := 9) (j := 16) (C := RX9) (T := TX9) (N := 33) h rfl (fun w hw => List.mem_cons_of_mem _ (q_inX9 w hw)) (by decide) (List.mem_cons_of_mem _ gw610) tyX9 tyX9_ok nmX9 (by decide +kernel) (by decide +kernel) (ddX9_rock (101, .putfield 73, 3) (List.mem_of_getElem? (i := 54) rfl)) ?_
  refine k_aload_n (i := 0) h (ddX9_rock (104, .aload_n 0, 1) (List.mem_of_getElem? (i := 55) rfl)) rfl ?_
  refine k_getf (ci := 9) (j := 20) (C := RX9) (T := TX9) (N := 33) h rfl (fun w hw => List.mem_cons_of_mem _ (q_inX9 w hw)) (by decide) (List.mem_cons_of_mem _ gw614) (ddX9_rock (105, .getfield 82, 3) (List.mem_of_getElem? (i := 56) rfl)) ?_
  refine k_ifle h (ddX9_rock (108, .ifCond .le 11, 3) (List.mem_of_getElem? (i := 57) rfl)) (tgt := 119) (by decide) ?_ ?_
  · exact sX9_rock_119 hl hQ h
  · exact sX9_rock_111 hl hQ h
theorem sX9_rock_180 {l : Launch} {X : q_CX} (hl : X.2.1 = l) (hQ : q_QM X) (h : q_OK X yX9_rock cX9_rock 2 (some .int) rmX9_rock (Cond.code yX9_rock cX9_rock 2 (some .int) :: q_G)) : q_SK X 2 180 (BX9_rock_180) := by
  refine k_iconst (v := 0) h (ddX9_rock (180, .iconst 0, 1) (List.mem_of_getElem? (i := 96) rfl)) (by decide) ?_
  refine k_istore_n (i := 1) h (ddX9_rock (181, .istore_n 1, 1) (List.mem_of_getElem? (i := 97) rfl)) rfl (by decide) ?_
  exact k_cut
theorem sX9_rock_159 {l : Launch} {X : q_CX} (hl : X.2.1 = l) (hQ : q_QM X) (h : q_OK X yX9_rock cX9_rock 2 (some .int) rmX9_rock (Cond.code yX9_rock cX9_rock 2 (some .int) :: q_G)) : q_SK X 2 159 (BX9_rock_159) := by
  refine k_aload_n (i := 0) h (ddX9_rock (159, .aload_n 0, 1) (List.mem_of_getElem? (i := 84) rfl)) rfl ?_
  refine k_getf (ci := 9) (j := 2) (C := RX9) (T := TX9) (N := 33) h rfl (fun w hw => List.mem_cons_of_mem _ (q_inX9 w hw)) (by decide) (List.mem_cons_of_mem _ gw588) (ddX9_rock (160, .getfield 17, 3) (List.mem_of_getElem? (i := 85) rfl)) ?_
  refine k_iload_n (i := 1) h (ddX9_rock (163, .iload_n 1, 1) (List.mem_of_getElem? (i := 86) rfl)) rfl ?_
  refine k_aload_n (i := 0) h (ddX9_rock (164, .aload_n 0, 1) (List.mem_of_getElem? (i := 87) rfl)) rfl ?_
  refine k_getf (ci := 9) (j := 2) (C := RX9) (T := TX9) (N := 33) h rfl (fun w hw => List.mem_cons_of_mem _ (q_inX9 w hw)) (by decide) (List.mem_cons_of_mem _ gw588) (ddX9_rock (165, .getfield 17, 3) (List.mem_of_getElem? (i := 88) rfl)) ?_
  refine k_bipush (v := 36) h (ddX9_rock (168, .bipush 36, 2) (List.mem_of_getElem? (i := 89) rfl)) (by decide) ?_
  refine k_iload_n (i := 1) h (ddX9_rock (170, .iload_n 1, 1) (List.mem_of_getElem? (i := 90) rfl)) rfl ?_
  refine k_iadd h (ddX9_rock (171, .iadd, 1) (List.mem_of_getElem? (i := 91) rfl)) ?_
  refine k_iald h (ddX9_rock (172, .iaload, 1) (List.mem_of_getElem? (i := 92) rfl)) ?_
  refine k_iast h (ddX9_rock (173, .iastore, 1) (List.mem_of_getElem? (i := 93) rfl)) ?_
  refine k_iinc (d := 1) h (ddX9_rock (174, .iinc 1 1, 3) (List.mem_of_getElem? (i := 94) rfl)) (by decide) (by decide) ?_
  refine k_goto h (ddX9_rock (177, .goto (-24), 3) (List.mem_of_getElem? (i := 95) rfl)) (tgt := 153) (by decide) ?_
  exact k_cut
theorem sX9_rock_153 {l : Launch} {X : q_CX} (hl : X.2.1 = l) (hQ : q_QM X) (h : q_OK X yX9_rock cX9_rock 2 (some .int) rmX9_rock (Cond.code yX9_rock cX9_rock 2 (some .int) :: q_G)) : q_SK X 2 153 (BX9_rock_153) := by
  refine k_iload_n (i := 1) h (ddX9_rock (153, .iload_n 1, 1) (List.mem_of_getElem? (i := 81) rfl)) rfl ?_
  refine k_bipush (v := 36) h (ddX9_rock (154, .bipush 36, 2) (List.mem_of_getElem? (i := 82) rfl)) (by decide) ?_
  refine k_icge h (ddX9_rock (156, .if_icmp .ge 24, 3) (List.mem_of_getElem? (i := 83) rfl)) (tgt := 180) (by decide) ?_ ?_
  · exact sX9_rock_180 hl hQ h
  · exact sX9_rock_159 hl hQ h
theorem sX9_rock_209 {l : Launch} {X : q_CX} (hl : X.2.1 = l) (hQ : q_QM X) (h : q_OK X yX9_rock cX9_rock 2 (some .int) rmX9_rock (Cond.code yX9_rock cX9_rock 2 (some .int) :: q_G)) : q_SK X 2 209 (BX9_rock_209) := by
  refine k_iconst (v := 0) h (ddX9_rock (209, .iconst 0, 1) (List.mem_of_getElem? (i := 113) rfl)) (by decide) ?_
  refine k_istore_n (i := 1) h (ddX9_rock (210, .istore_n 1, 1) (List.mem_of_getElem? (i := 114) rfl)) rfl (by decide) ?_
  exact k_cut
theorem sX9_rock_188 {l : Launch} {X : q_CX} (hl : X.2.1 = l) (hQ : q_QM X) (h : q_OK X yX9_rock cX9_rock 2 (some .int) rmX9_rock (Cond.code yX9_rock cX9_rock 2 (some .int) :: q_G)) : q_SK X 2 188 (BX9_rock_188) := by
  refine k_aload_n (i := 0) h (ddX9_rock (188, .aload_n 0, 1) (List.mem_of_getElem? (i := 101) rfl)) rfl ?_
  refine k_getf (ci := 9) (j := 4) (C := RX9) (T := TX9) (N := 33) h rfl (fun w hw => List.mem_cons_of_mem _ (q_inX9 w hw)) (by decide) (List.mem_cons_of_mem _ gw590) (ddX9_rock (189, .getfield 23, 3) (List.mem_of_getElem? (i := 102) rfl)) ?_
  refine k_iload_n (i := 1) h (ddX9_rock (192, .iload_n 1, 1) (List.mem_of_getElem? (i := 103) rfl)) rfl ?_
  refine k_aload_n (i := 0) h (ddX9_rock (193, .aload_n 0, 1) (List.mem_of_getElem? (i := 104) rfl)) rfl ?_
  refine k_getf (ci := 9) (j := 4) (C := RX9) (T := TX9) (N := 33) h rfl (fun w hw => List.mem_cons_of_mem _ (q_inX9 w hw)) (by decide) (List.mem_cons_of_mem _ gw590) (ddX9_rock (194, .getfield 23, 3) (List.mem_of_getElem? (i := 105) rfl)) ?_
  refine k_bipush (v := 24) h (ddX9_rock (197, .bipush 24, 2) (List.mem_of_getElem? (i := 106) rfl)) (by decide) ?_
  refine k_iload_n (i := 1) h (ddX9_rock (199, .iload_n 1, 1) (List.mem_of_getElem? (i := 107) rfl)) rfl ?_
  refine k_iadd h (ddX9_rock (200, .iadd, 1) (List.mem_of_getElem? (i := 108) rfl)) ?_
  refine k_iald h (ddX9_rock (201, .iaload, 1) (List.mem_of_getElem? (i := 109) rfl)) ?_
  refine k_iast h (ddX9_rock (202, .iastore, 1) (List.mem_of_getElem? (i := 110) rfl)) ?_
  refine k_iinc (d := 1) h (ddX9_rock (203, .iinc 1 1, 3) (List.mem_of_getElem? (i := 111) rfl)) (by decide) (by decide) ?_
  refine k_goto h (ddX9_rock (206, .goto (-24), 3) (List.mem_of_getElem? (i := 112) rfl)) (tgt := 182) (by decide) ?_
  exact k_cut
theorem sX9_rock_182 {l : Launch} {X : q_CX} (hl : X.2.1 = l) (hQ : q_QM X) (h : q_OK X yX9_rock cX9_rock 2 (some .int) rmX9_rock (Cond.code yX9_rock cX9_rock 2 (some .int) :: q_G)) : q_SK X 2 182 (BX9_rock_182) := by
  refine k_iload_n (i := 1) h (ddX9_rock (182, .iload_n 1, 1) (List.mem_of_getElem? (i := 98) rfl)) rfl ?_
  refine k_bipush (v := 24) h (ddX9_rock (183, .bipush 24, 2) (List.mem_of_getElem? (i := 99) rfl)) (by decide) ?_
  refine k_icge h (ddX9_rock (185, .if_icmp .ge 24, 3) (List.mem_of_getElem? (i := 100) rfl)) (tgt := 209) (by decide) ?_ ?_
  · exact sX9_rock_209 hl hQ h
  · exact sX9_rock_188 hl hQ h
theorem sX9_rock_238 {l : Launch} {X : q_CX} (hl : X.2.1 = l) (hQ : q_QM X) (h : q_OK X yX9_rock cX9_rock 2 (some .int) rmX9_rock (Cond.code yX9_rock cX9_rock 2 (some .int) :: q_G)) : q_SK X 2 238 (BX9_rock_238) := by
  refine k_iconst (v := 0) h (ddX9_rock (238, .iconst 0, 1) (List.mem_of_getElem? (i := 130) rfl)) (by decide) ?_
  refine k_istore_n (i := 1) h (ddX9_rock (239, .istore_n 1, 1) (List.mem_of_getElem? (i := 131) rfl)) rfl (by decide) ?_
  exact k_cut
theorem sX9_rock_217 {l : Launch} {X : q_CX} (hl : X.2.1 = l) (hQ : q_QM X) (h : q_OK X yX9_rock cX9_rock 2 (some .int) rmX9_rock (Cond.code yX9_rock cX9_rock 2 (some .int) :: q_G)) : q_SK X 2 217 (BX9_rock_217) := by
  refine k_aload_n (i := 0) h (ddX9_rock (217, .aload_n 0, 1) (List.mem_of_getElem? (i := 118) rfl)) rfl ?_
  refine k_getf (ci := 9) (j := 5) (C := RX9) (T := TX9) (N := 33) h rfl (fun w hw => List.mem_cons_of_mem _ (q_inX9 w hw)) (by decide) (List.mem_cons_of_mem _ gw591) (ddX9_rock (218, .getfield 26, 3) (List.mem_of_getElem? (i := 119) rfl)) ?_
  refine k_iload_n (i := 1) h (ddX9_rock (221, .iload_n 1, 1) (List.mem_of_getElem? (i := 120) rfl)) rfl ?_
  refine k_aload_n (i := 0) h (ddX9_rock (222, .aload_n 0, 1) (List.mem_of_getElem? (i := 121) rfl)) rfl ?_
  refine k_getf (ci := 9) (j := 5) (C := RX9) (T := TX9) (N := 33) h rfl (fun w hw => List.mem_cons_of_mem _ (q_inX9 w hw)) (by decide) (List.mem_cons_of_mem _ gw591) (ddX9_rock (223, .getfield 26, 3) (List.mem_of_getElem? (i := 122) rfl)) ?_
  refine k_bipush (v := 8) h (ddX9_rock (226, .bipush 8, 2) (List.mem_of_getElem? (i := 123) rfl)) (by decide) ?_
  refine k_iload_n (i := 1) h (ddX9_rock (228, .iload_n 1, 1) (List.mem_of_getElem? (i := 124) rfl)) rfl ?_
  refine k_iadd h (ddX9_rock (229, .iadd, 1) (List.mem_of_getElem? (i := 125) rfl)) ?_
  refine k_iald h (ddX9_rock (230, .iaload, 1) (List.mem_of_getElem? (i := 126) rfl)) ?_
  refine k_iast h (ddX9_rock (231, .iastore, 1) (List.mem_of_getElem? (i := 127) rfl)) ?_
  refine k_iinc (d := 1) h (ddX9_rock (232, .iinc 1 1, 3) (List.mem_of_getElem? (i := 128) rfl)) (by decide) (by decide) ?_
  refine k_goto h (ddX9_rock (235, .goto (-24), 3) (List.mem_of_getElem? (i := 129) rfl)) (tgt := 211) (by decide) ?_
  exact k_cut
theorem sX9_rock_211 {l : Launch} {X : q_CX} (hl : X.2.1 = l) (hQ : q_QM X) (h : q_OK X yX9_rock cX9_rock 2 (some .int) rmX9_rock (Cond.code yX9_rock cX9_rock 2 (some .int) :: q_G)) : q_SK X 2 211 (BX9_rock_211) := by
  refine k_iload_n (i := 1) h (ddX9_rock (211, .iload_n 1, 1) (List.mem_of_getElem? (i := 115) rfl)) rfl ?_
  refine k_bipush (v := 8) h (ddX9_rock (212, .bipush 8, 2) (List.mem_of_getElem? (i := 116) rfl)) (by decide) ?_
  refine k_icge h (ddX9_rock (214, .if_icmp .ge 24, 3) (List.mem_of_getElem? (i := 117) rfl)) (tgt := 238) (by decide) ?_ ?_
  · exact sX9_rock_238 hl hQ h
  · exact sX9_rock_217 hl hQ h
theorem sX9_rock_267 {l : Launch} {X : q_CX} (hl : X.2.1 = l) (hQ : q_QM X) (h : q_OK X yX9_rock cX9_rock 2 (some .int) rmX9_rock (Cond.code yX9_rock cX9_rock 2 (some .int) :: q_G)) : q_SK X 2 267 (BX9_rock_267) := by
  refine k_iconst (v := 0) h (ddX9_rock (267, .iconst 0, 1) (List.mem_of_getElem? (i := 147) rfl)) (by decide) ?_
  refine k_istore_n (i := 1) h (ddX9_rock (268, .istore_n 1, 1) (List.mem_of_getElem? (i := 148) rfl)) rfl (by decide) ?_
  exact k_cut
theorem sX9_rock_246 {l : Launch} {X : q_CX} (hl : X.2.1 = l) (hQ : q_QM X) (h : q_OK X yX9_rock cX9_rock 2 (some .int) rmX9_rock (Cond.code yX9_rock cX9_rock 2 (some .int) :: q_G)) : q_SK X 2 246 (BX9_rock_246) := by
  refine k_aload_n (i := 0) h (ddX9_rock (246, .aload_n 0, 1) (List.mem_of_getElem? (i := 135) rfl)) rfl ?_
  refine k_getf (ci := 9) (j := 6) (C := RX9) (T := TX9) (N := 33) h rfl (fun w hw => List.mem_cons_of_mem _ (q_inX9 w hw)) (by decide) (List.mem_cons_of_mem _ gw592) (ddX9_rock (247, .getfield 29, 3) (List.mem_of_getElem? (i := 136) rfl)) ?_
  refine k_iload_n (i := 1) h (ddX9_rock (250, .iload_n 1, 1) (List.mem_of_getElem? (i := 137) rfl)) rfl ?_
  refine k_aload_n (i := 0) h (ddX9_rock (251, .aload_n 0, 1) (List.mem_of_getElem? (i := 138) rfl)) rfl ?_
  refine k_getf (ci := 9) (j := 6) (C := RX9) (T := TX9) (N := 33) h rfl (fun w hw => List.mem_cons_of_mem _ (q_inX9 w hw)) (by decide) (List.mem_cons_of_mem _ gw592) (ddX9_rock (252, .getfield 29, 3) (List.mem_of_getElem? (i := 139) rfl)) ?_
  refine k_bipush (v := 12) h (ddX9_rock (255, .bipush 12, 2) (List.mem_of_getElem? (i := 140) rfl)) (by decide) ?_
  refine k_iload_n (i := 1) h (ddX9_rock (257, .iload_n 1, 1) (List.mem_of_getElem? (i := 141) rfl)) rfl ?_
  refine k_iadd h (ddX9_rock (258, .iadd, 1) (List.mem_of_getElem? (i := 142) rfl)) ?_
  refine k_iald h (ddX9_rock (259, .iaload, 1) (List.mem_of_getElem? (i := 143) rfl)) ?_
  refine k_iast h (ddX9_rock (260, .iastore, 1) (List.mem_of_getElem? (i := 144) rfl)) ?_
  refine k_iinc (d := 1) h (ddX9_rock (261, .iinc 1 1, 3) (List.mem_of_getElem? (i := 145) rfl)) (by decide) (by decide) ?_
  refine k_goto h (ddX9_rock (264, .goto (-24), 3) (List.mem_of_getElem? (i := 146) rfl)) (tgt := 240) (by decide) ?_
  exact k_cut
theorem sX9_rock_240 {l : Launch} {X : q_CX} (hl : X.2.1 = l) (hQ : q_QM X) (h : q_OK X yX9_rock cX9_rock 2 (some .int) rmX9_rock (Cond.code yX9_rock cX9_rock 2 (some .int) :: q_G)) : q_SK X 2 240 (BX9_rock_240) := by
  refine k_iload_n (i := 1) h (ddX9_rock (240, .iload_n 1, 1) (List.mem_of_getElem? (i := 132) rfl)) rfl ?_
  refine k_bipush (v := 12) h (ddX9_rock (241, .bipush 12, 2) (List.mem_of_getElem? (i := 133) rfl)) (by decide) ?_
  refine k_icge h (ddX9_rock (243, .if_icmp .ge 24, 3) (List.mem_of_getElem? (i := 134) rfl)) (tgt := 267) (by decide) ?_ ?_
  · exact sX9_rock_267 hl hQ h
  · exact sX9_rock_246 hl hQ h
theorem sX9_rock_313 {l : Launch} {X : q_CX} (hl : X.2.1 = l) (hQ : q_QM X) (h : q_OK X yX9_rock cX9_rock 2 (some .int) rmX9_rock (Cond.code yX9_rock cX9_rock 2 (some .int) :: q_G)) : q_SK X 2 313 (BX9_rock_313) := by
  refine k_aload_n (i := 0) h (ddX9_rock (313, .aload_n 0, 1) (List.mem_of_getElem? (i := 175) rfl)) rfl ?_
  refine k_getf (ci := 9) (j := 0) (C := RX9) (T := TX9) (N := 33) h rfl (fun w hw => List.mem_cons_of_mem _ (q_inX9 w hw)) (by decide) (List.mem_cons_of_mem _ gw586) (ddX9_rock (314, .getfield 7, 3) (List.mem_of_getElem? (i := 176) rfl)) ?_
  refine k_iconst (v := 3) h (ddX9_rock (317, .iconst 3, 1) (List.mem_of_getElem? (i := 177) rfl)) (by decide) ?_
  refine k_iconst (v := 0) h (ddX9_rock (318, .iconst 0, 1) (List.mem_of_getElem? (i := 178) rfl)) (by decide) ?_
  refine k_iast h (ddX9_rock (319, .iastore, 1) (List.mem_of_getElem? (i := 179) rfl)) ?_
  refine k_aload_n (i := 0) h (ddX9_rock (320, .aload_n 0, 1) (List.mem_of_getElem? (i := 180) rfl)) rfl ?_
  refine k_getf (ci := 9) (j := 0) (C := RX9) (T := TX9) (N := 33) h rfl (fun w hw => List.mem_cons_of_mem _ (q_inX9 w hw)) (by decide) (List.mem_cons_of_mem _ gw586) (ddX9_rock (321, .getfield 7, 3) (List.mem_of_getElem? (i := 181) rfl)) ?_
  refine k_iconst (v := 4) h (ddX9_rock (324, .iconst 4, 1) (List.mem_of_getElem? (i := 182) rfl)) (by decide) ?_
  refine k_iconst (v := 0) h (ddX9_rock (325, .iconst 0, 1) (List.mem_of_getElem? (i := 183) rfl)) (by decide) ?_
  refine k_iast h (ddX9_rock (326, .iastore, 1) (List.mem_of_getElem? (i := 184) rfl)) ?_
  refine k_aload_n (i := 0) h (ddX9_rock (327, .aload_n 0, 1) (List.mem_of_getElem? (i := 185) rfl)) rfl ?_
  refine k_getf (ci := 9) (j := 0) (C := RX9) (T := TX9) (N := 33) h rfl (fun w hw => List.mem_cons_of_mem _ (q_inX9 w hw)) (by decide) (List.mem_cons_of_mem _ gw586) (ddX9_rock (328, .getfield 7, 3) (List.mem_of_getElem? (i := 186) rfl)) ?_
  refine k_iconst (v := 5) h (ddX9_rock (331, .iconst 5, 1) (List.mem_of_getElem? (i := 187) rfl)) (by decide) ?_
  refine k_iconst (v := 0) h (ddX9_rock (332, .iconst 0, 1) (List.mem_of_getElem? (i := 188) rfl)) (by decide) ?_
  refine k_iast h (ddX9_rock (333, .iastore, 1) (List.mem_of_getElem? (i := 189) rfl)) ?_
  refine k_aload_n (i := 0) h (ddX9_rock (334, .aload_n 0, 1) (List.mem_of_getElem? (i := 190) rfl)) rfl ?_
  refine k_iconst (v := 0) h (ddX9_rock (335, .iconst 0, 1) (List.mem_of_getElem? (i := 191) rfl)) (by decide) ?_
  refine k_putf (ci := 9) (j := 28) (C := RX9) (T := TX9) (N := 33) h rfl (fun w hw => List.mem_cons_of_mem _ (q_inX9 w hw)) (by decide) (List.mem_cons_of_mem _ gw673) tyX9 tyX9_ok nmX9 (by decide +kernel) (by decide +kernel) (ddX9_rock (336, .putfield 162, 3) (List.mem_of_getElem? (i := 192) rfl)) ?_
  refine k_aload_n (i := 0) h (ddX9_rock (339, .aload_n 0, 1) (List.mem_of_getElem? (i := 193) rfl)) rfl ?_
  refine k_iconst (v := 0) h (ddX9_rock (340, .iconst 0, 1) (List.mem_of_getElem? (i := 194) rfl)) (by decide) ?_
  refine k_putf (ci := 9) (j := 32) (C := RX9) (T := TX9) (N := 33) h rfl (fun w hw => List.mem_cons_of_mem _ (q_inX9 w hw)) (by decide) (List.mem_cons_of_mem _ gw674) tyX9 tyX9_ok nmX9 (by decide +kernel) (by decide +kernel) (ddX9_rock (341, .putfield 165, 3) (List.mem_of_getElem? (i := 195) rfl)) ?_
  refine k_aload_n (i := 0) h (ddX9_rock (344, .aload_n 0, 1) (List.mem_of_getElem? (i := 196) rfl)) rfl ?_
  refine k_getf (ci := 9) (j := 1) (C := RX9) (T := TX9) (N := 33) h rfl (fun w hw => List.mem_cons_of_mem _ (q_inX9 w hw)) (by decide) (List.mem_cons_of_mem _ gw587) (ddX9_rock (345, .getfield 13, 3) (List.mem_of_getElem? (i := 197) rfl)) ?_
  refine k_iconst (v := 0) h (ddX9_rock (348, .iconst 0, 1) (List.mem_of_getElem? (i := 198) rfl)) (by decide) ?_
  refine k_iconst (v := 0) h (ddX9_rock (349, .iconst 0, 1) (List.mem_of_getElem? (i := 199) rfl)) (by decide) ?_
  refine k_zast h (ddX9_rock (350, .bastore, 1) (List.mem_of_getElem? (i := 200) rfl)) ?_
  refine k_aload_n (i := 0) h (ddX9_rock (351, .aload_n 0, 1) (List.mem_of_getElem? (i := 201) rfl)) rfl ?_
  refine k_getf (ci := 9) (j := 1) (C := RX9) (T := TX9) (N := 33) h rfl (fun w hw => List.mem_cons_of_mem _ (q_inX9 w hw)) (by decide) (List.mem_cons_of_mem _ gw587) (ddX9_rock (352, .getfield 13, 3) (List.mem_of_getElem? (i := 202) rfl)) ?_
  refine k_iconst (v := 1) h (ddX9_rock (355, .iconst 1, 1) (List.mem_of_getElem? (i := 203) rfl)) (by decide) ?_
  refine k_iconst (v := 0) h (ddX9_rock (356, .iconst 0, 1) (List.mem_of_getElem? (i := 204) rfl)) (by decide) ?_
  refine k_zast h (ddX9_rock (357, .bastore, 1) (List.mem_of_getElem? (i := 205) rfl)) ?_
  refine k_aload_n (i := 0) h (ddX9_rock (358, .aload_n 0, 1) (List.mem_of_getElem? (i := 206) rfl)) rfl ?_
  refine k_iconst (v := 1) h (ddX9_rock (359, .iconst 1, 1) (List.mem_of_getElem? (i := 207) rfl)) (by decide) ?_
  refine k_putf (ci := 9) (j := 22) (C := RX9) (T := TX9) (N := 33) h rfl (fun w hw => List.mem_cons_of_mem _ (q_inX9 w hw)) (by decide) (List.mem_cons_of_mem _ gw595) tyX9 tyX9_ok nmX9 (by decide +kernel) (by decide +kernel) (ddX9_rock (360, .putfield 39, 3) (List.mem_of_getElem? (i := 208) rfl)) ?_
  refine k_iconst (v := 0) h (ddX9_rock (363, .iconst 0, 1) (List.mem_of_getElem? (i := 209) rfl)) (by decide) ?_
  refine k_istore_n (i := 1) h (ddX9_rock (364, .istore_n 1, 1) (List.mem_of_getElem? (i := 210) rfl)) rfl (by decide) ?_
  exact k_cut
theorem sX9_rock_299 {l : Launch} {X : q_CX} (hl : X.2.1 = l) (hQ : q_QM X) (h : q_OK X yX9_rock cX9_rock 2 (some .int) rmX9_rock (Cond.code yX9_rock cX9_rock 2 (some .int) :: q_G)) : q_SK X 2 299 (BX9_rock_299) := by
  refine k_iast h (ddX9_rock (299, .iastore, 1) (List.mem_of_getElem? (i := 167) rfl)) ?_
  refine k_aload_n (i := 0) h (ddX9_rock (300, .aload_n 0, 1) (List.mem_of_getElem? (i := 168) rfl)) rfl ?_
  refine k_getf (ci := 9) (j := 0) (C := RX9) (T := TX9) (N := 33) h rfl (fun w hw => List.mem_cons_of_mem _ (q_inX9 w hw)) (by decide) (List.mem_cons_of_mem _ gw586) (ddX9_rock (301, .getfield 7, 3) (List.mem_of_getElem? (i := 169) rfl)) ?_
  refine k_iload_n (i := 1) h (ddX9_rock (304, .iload_n 1, 1) (List.mem_of_getElem? (i := 170) rfl)) rfl ?_
  refine k_iconst (v := 0) h (ddX9_rock (305, .iconst 0, 1) (List.mem_of_getElem? (i := 171) rfl)) (by decide) ?_
  refine k_iast h (ddX9_rock (306, .iastore, 1) (List.mem_of_getElem? (i := 172) rfl)) ?_
  refine k_iinc (d := 1) h (ddX9_rock (307, .iinc 1 1, 3) (List.mem_of_getElem? (i := 173) rfl)) (by decide) (by decide) ?_
  refine k_goto h (ddX9_rock (310, .goto (-41), 3) (List.mem_of_getElem? (i := 174) rfl)) (tgt := 269) (by decide) ?_
  exact k_cut
theorem sX9_rock_298 {l : Launch} {X : q_CX} (hl : X.2.1 = l) (hQ : q_QM X) (h : q_OK X yX9_rock cX9_rock 2 (some .int) rmX9_rock (Cond.code yX9_rock cX9_rock 2 (some .int) :: q_G)) : q_SK X 2 298 (BX9_rock_298) := by
  refine k_iconst (v := 1) h (ddX9_rock (298, .iconst 1, 1) (List.mem_of_getElem? (i := 166) rfl)) (by decide) ?_
  exact sX9_rock_299 hl hQ h
theorem sX9_rock_287 {l : Launch} {X : q_CX} (hl : X.2.1 = l) (hQ : q_QM X) (h : q_OK X yX9_rock cX9_rock 2 (some .int) rmX9_rock (Cond.code yX9_rock cX9_rock 2 (some .int) :: q_G)) : q_SK X 2 287 (BX9_rock_287) := by
  refine k_aload_n (i := 0) h (ddX9_rock (287, .aload_n 0, 1) (List.mem_of_getElem? (i := 159) rfl)) rfl ?_
  refine k_getf (ci := 9) (j := 3) (C := RX9) (T := TX9) (N := 33) h rfl (fun w hw => List.mem_cons_of_mem _ (q_inX9 w hw)) (by decide) (List.mem_cons_of_mem _ gw589) (ddX9_rock (288, .getfield 20, 3) (List.mem_of_getElem? (i := 160) rfl)) ?_
  refine k_iconst (v := 3) h (ddX9_rock (291, .iconst 3, 1) (List.mem_of_getElem? (i := 161) rfl)) (by decide) ?_
  refine k_iload_n (i := 1) h (ddX9_rock (292, .iload_n 1, 1) (List.mem_of_getElem? (i := 162) rfl)) rfl ?_
  refine k_iadd h (ddX9_rock (293, .iadd, 1) (List.mem_of_getElem? (i := 163) rfl)) ?_
  refine k_iald h (ddX9_rock (294, .iaload, 1) (List.mem_of_getElem? (i := 164) rfl)) ?_
  refine k_goto h (ddX9_rock (295, .goto 4, 3) (List.mem_of_getElem? (i := 165) rfl)) (tgt := 299) (by decide) ?_
  exact sX9_rock_299 hl hQ h
theorem sX9_rock_274 {l : Launch} {X : q_CX} (hl : X.2.1 = l) (hQ : q_QM X) (h : q_OK X yX9_rock cX9_rock 2 (some .int) rmX9_rock (Cond.code yX9_rock cX9_rock 2 (some .int) :: q_G)) : q_SK X 2 274 (BX9_rock_274) := by
  refine k_aload_n (i := 0) h (ddX9_rock (274, .aload_n 0, 1) (List.mem_of_getElem? (i := 152) rfl)) rfl ?_
  refine k_getf (ci := 9) (j := 3) (C := RX9) (T := TX9) (N := 33) h rfl (fun w hw => List.mem_cons_of_mem _ (q_inX9 w hw)) (by decide) (List.mem_cons_of_mem _ gw589) (ddX9_rock (275, .getfield 20, 3) (List.mem_of_getElem? (i := 153) rfl)) ?_
  refine k_iload_n (i := 1) h (ddX9_rock (278, .iload_n 1, 1) (List.mem_of_getElem? (i := 154) rfl)) rfl ?_
  refine k_iload_n (i := 1) h (ddX9_rock (279, .iload_n 1, 1) (List.mem_of_getElem? (i := 155) rfl)) rfl ?_
  refine k_aload_n (i := 0) h (ddX9_rock (280, .aload_n 0, 1) (List.mem_of_getElem? (i := 156) rfl)) rfl ?_
  refine k_getf (ci := 9) (j := 7) (C := RX9) (T := TX9) (N := 33) h rfl (fun w hw => List.mem_cons_of_mem _ (q_inX9 w hw)) (by decide) (List.mem_cons_of_mem _ gw669) (ddX9_rock (281, .getfield 150, 3) (List.mem_of_getElem? (i := 157) rfl)) ?_
  refine k_icge h (ddX9_rock (284, .if_icmp .ge 14, 3) (List.mem_of_getElem? (i := 158) rfl)) (tgt := 298) (by decide) ?_ ?_
  · exact sX9_rock_298 hl hQ h
  · exact sX9_rock_287 hl hQ h
theorem sX9_rock_269 {l : Launch} {X : q_CX} (hl : X.2.1 = l) (hQ : q_QM X) (h : q_OK X yX9_rock cX9_rock 2 (some .int) rmX9_rock (Cond.code yX9_rock cX9_rock 2 (some .int) :: q_G)) : q_SK X 2 269 (BX9_rock_269) := by
  refine k_iload_n (i := 1) h (ddX9_rock (269, .iload_n 1, 1) (List.mem_of_getElem? (i := 149) rfl)) rfl ?_
  refine k_iconst (v := 3) h (ddX9_rock (270, .iconst 3, 1) (List.mem_of_getElem? (i := 150) rfl)) (by decide) ?_
  refine k_icge h (ddX9_rock (271, .if_icmp .ge 42, 3) (List.mem_of_getElem? (i := 151) rfl)) (tgt := 313) (by decide) ?_ ?_
  · exact sX9_rock_313 hl hQ h
  · exact sX9_rock_274 hl hQ h
theorem sX9_rock_408 {l : Launch} {X : q_CX} (hl : X.2.1 = l) (hQ : q_QM X) (h : q_OK X yX9_rock cX9_rock 2 (some .int) rmX9_rock (Cond.code yX9_rock cX9_rock 2 (some .int) :: q_G)) : q_SK X 2 408 (BX9_rock_408) := by
  refine k_aload_n (i := 0) h (ddX9_rock (408, .aload_n 0, 1) (List.mem_of_getElem? (i := 234) rfl)) rfl ?_
  refine k_getf (ci := 9) (j := 8) (C := RX9) (T := TX9) (N := 33) h rfl (fun w hw => List.mem_cons_of_mem _ (q_inX9 w hw)) (by decide) (List.mem_cons_of_mem _ gw670) (ddX9_rock (409, .getfield 153, 3) (List.mem_of_getElem? (i := 235) rfl)) ?_
  exact k_iret h hQ (ddX9_rock (412, .ireturn, 1) (List.mem_of_getElem? (i := 236) rfl))
theorem sX9_rock_373 {l : Launch} {X : q_CX} (hl : X.2.1 = l) (hQ : q_QM X) (h : q_OK X yX9_rock cX9_rock 2 (some .int) rmX9_rock (Cond.code yX9_rock cX9_rock 2 (some .int) :: q_G)) : q_SK X 2 373 (BX9_rock_373) := by
  refine k_aload_n (i := 0) h (ddX9_rock (373, .aload_n 0, 1) (List.mem_of_getElem? (i := 215) rfl)) rfl ?_
  refine k_aload_n (i := 0) h (ddX9_rock (374, .aload_n 0, 1) (List.mem_of_getElem? (i := 216) rfl)) rfl ?_
  refine k_getf (ci := 9) (j := 22) (C := RX9) (T := TX9) (N := 33) h rfl (fun w hw => List.mem_cons_of_mem _ (q_inX9 w hw)) (by decide) (List.mem_cons_of_mem _ gw595) (ddX9_rock (375, .getfield 39, 3) (List.mem_of_getElem? (i := 217) rfl)) ?_
  refine k_aload_n (i := 0) h (ddX9_rock (378, .aload_n 0, 1) (List.mem_of_getElem? (i := 218) rfl)) rfl ?_
  refine k_getf (ci := 9) (j := 22) (C := RX9) (T := TX9) (N := 33) h rfl (fun w hw => List.mem_cons_of_mem _ (q_inX9 w hw)) (by decide) (List.mem_cons_of_mem _ gw595) (ddX9_rock (379, .getfield 39, 3) (List.mem_of_getElem? (i := 219) rfl)) ?_
  refine k_aload_n (i := 0) h (ddX9_rock (382, .aload_n 0, 1) (List.mem_of_getElem? (i := 220) rfl)) rfl ?_
  refine k_getf (ci := 9) (j := 3) (C := RX9) (T := TX9) (N := 33) h rfl (fun w hw => List.mem_cons_of_mem _ (q_inX9 w hw)) (by decide) (List.mem_cons_of_mem _ gw589) (ddX9_rock (383, .getfield 20, 3) (List.mem_of_getElem? (i := 221) rfl)) ?_
  refine k_iload_n (i := 1) h (ddX9_rock (386, .iload_n 1, 1) (List.mem_of_getElem? (i := 222) rfl)) rfl ?_
  refine k_iald h (ddX9_rock (387, .iaload, 1) (List.mem_of_getElem? (i := 223) rfl)) ?_
  refine k_callS h hl (aX9_common l) ⟨rfl, rfl⟩ (n := 2) (by decide +kernel) (q_gS gw677 gw676 gw606 gw675) ⟨by decide, by decide⟩ (ddX9_rock (388, .invokestatic 168, 3) (List.mem_of_getElem? (i := 224) rfl)) ?_
  refine k_idiv h (ddX9_rock (391, .idiv, 1) (List.mem_of_getElem? (i := 225) rfl)) ?_
  refine k_aload_n (i := 0) h (ddX9_rock (392, .aload_n 0, 1) (List.mem_of_getElem? (i := 226) rfl)) rfl ?_
  refine k_getf (ci := 9) (j := 3) (C := RX9) (T := TX9) (N := 33) h rfl (fun w hw => List.mem_cons_of_mem _ (q_inX9 w hw)) (by decide) (List.mem_cons_of_mem _ gw589) (ddX9_rock (393, .getfield 20, 3) (List.mem_of_getElem? (i := 227) rfl)) ?_
  refine k_iload_n (i := 1) h (ddX9_rock (396, .iload_n 1, 1) (List.mem_of_getElem? (i := 228) rfl)) rfl ?_
  refine k_iald h (ddX9_rock (397, .iaload, 1) (List.mem_of_getElem? (i := 229) rfl)) ?_
  refine k_imul h (ddX9_rock (398, .imul, 1) (List.mem_of_getElem? (i := 230) rfl)) ?_
  refine k_putf (ci := 9) (j := 22) (C := RX9) (T := TX9) (N := 33) h rfl (fun w hw => List.mem_cons_of_mem _ (q_inX9 w hw)) (by decide) (List.mem_cons_of_mem _ gw595) tyX9 tyX9_ok nmX9 (by decide +kernel) (by decide +kernel) (ddX9_rock (399, .putfield 39, 3) (List.mem_of_getElem? (i := 231) rfl)) ?_
  refine k_iinc (d := 1) h (ddX9_rock (402, .iinc 1 1, 3) (List.mem_of_getElem? (i := 232) rfl)) (by decide) (by decide) ?_
  refine k_goto h (ddX9_rock (405, .goto (-40), 3) (List.mem_of_getElem? (i := 233) rfl)) (tgt := 365) (by decide) ?_
  exact k_cut
theorem sX9_rock_365 {l : Launch} {X : q_CX} (hl : X.2.1 = l) (hQ : q_QM X) (h : q_OK X yX9_rock cX9_rock 2 (some .int) rmX9_rock (Cond.code yX9_rock cX9_rock 2 (some .int) :: q_G)) : q_SK X 2 365 (BX9_rock_365) := by
  refine k_iload_n (i := 1) h (ddX9_rock (365, .iload_n 1, 1) (List.mem_of_getElem? (i := 211) rfl)) rfl ?_
  refine k_aload_n (i := 0) h (ddX9_rock (366, .aload_n 0, 1) (List.mem_of_getElem? (i := 212) rfl)) rfl ?_
  refine k_getf (ci := 9) (j := 7) (C := RX9) (T := TX9) (N := 33) h rfl (fun w hw => List.mem_cons_of_mem _ (q_inX9 w hw)) (by decide) (List.mem_cons_of_mem _ gw669) (ddX9_rock (367, .getfield 150, 3) (List.mem_of_getElem? (i := 213) rfl)) ?_
  refine k_icge h (ddX9_rock (370, .if_icmp .ge 38, 3) (List.mem_of_getElem? (i := 214) rfl)) (tgt := 408) (by decide) ?_ ?_
  · exact sX9_rock_408 hl hQ h
  · exact sX9_rock_373 hl hQ h
theorem aX9_rock (l : Launch) (as : List Value) (sh : q_Sh) (m : q_Mm) (R : q_KR) (hw : wX9_rock as sh m R) : q_AM l yX9_rock (Cond.code yX9_rock cX9_rock 2 (some .int) :: q_G) rmX9_rock as sh m R := by
  refine q_met (code := TX9_rock) (by decide) (fun X hl hQ _ h pc => ?_) hw.1 hw.2
  unfold TX9_rock
  exact k_at (sX9_rock_0 hl hQ h) (k_at (sX9_rock_35 hl hQ h) (k_at (sX9_rock_99 hl hQ h) (k_at (sX9_rock_153 hl hQ h) (k_at (sX9_rock_182 hl hQ h) (k_at (sX9_rock_211 hl hQ h) (k_at (sX9_rock_240 hl hQ h) (k_at (sX9_rock_269 hl hQ h) (k_at (sX9_rock_365 hl hQ h) (k_no)))))))))
