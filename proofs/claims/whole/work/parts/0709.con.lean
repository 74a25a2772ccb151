/-! Contracts, leaves first; written by wip/whole/gen.py. -/
/-! TumblingRockModel.fault()I -/
abbrev dlX9_fault : List (Nat × (Instr × Nat)) := [(0, .aload_n 0, 1), (1, .getfield 35, 3), (4, .ireturn, 1)]
theorem ddX9_fault : ∀ q ∈ dlX9_fault, decode cX9_fault q.1 = .ok q.2 := by decide +kernel
theorem sX9_fault_0 {l : Launch} {X : q_CX} (hl : X.2.1 = l) (hQ : q_QM X) (h : q_OK X yX9_fault cX9_fault 1 (some .int) rmX9_fault (Cond.code yX9_fault cX9_fault 1 (some .int) :: q_G)) : q_SK X 1 0 (BX9_fault_0) := by
  refine k_aload_n (i := 0) h (ddX9_fault (0, .aload_n 0, 1) (List.mem_of_getElem? (i := 0) rfl)) rfl ?_
  refine k_getf (ci := 9) (j := 21) (C := RX9) (T := TX9) (N := 33) h rfl (fun w hw => List.mem_cons_of_mem _ (q_inX9 w hw)) (by decide) (List.mem_cons_of_mem _ gw594) (ddX9_fault (1, .getfield 35, 3) (List.mem_of_getElem? (i := 1) rfl)) ?_
  exact k_iret h hQ (ddX9_fault (4, .ireturn, 1) (List.mem_of_getElem? (i := 2) rfl))
theorem aX9_fault (l : Launch) (as : List Value) (sh : q_Sh) (m : q_Mm) (R : q_KR) (hw : wX9_fault as sh m R) : q_AM l yX9_fault (Cond.code yX9_fault cX9_fault 1 (some .int) :: q_G) rmX9_fault as sh m R := by
  refine q_met (code := TX9_fault) (by decide) (fun X hl hQ _ h pc => ?_) hw.1 hw.2
  unfold TX9_fault
  exact k_at (sX9_fault_0 hl hQ h) (k_no)
/-! TumblingRockModel.isPlace(I)Z -/
abbrev dlX9_isPlace : List (Nat × (Instr × Nat)) := [(0, .iload_n 1, 1), (1, .i2l, 1), (2, .lconst 0, 1), (3, .aload_n 0, 1), (4, .getfield 153, 3), (7, .iconst 1, 1), (8, .isub, 1), (9, .i2l, 1), (10, .invokestatic 68, 3), (13, .ireturn, 1)]
theorem ddX9_isPlace : ∀ q ∈ dlX9_isPlace, decode cX9_isPlace q.1 = .ok q.2 := by decide +kernel
theorem sX9_isPlace_0 {l : Launch} {X : q_CX} (hl : X.2.1 = l) (hQ : q_QM X) (h : q_OK X yX9_isPlace cX9_isPlace 2 (some .boolean) rmX9_isPlace (Cond.code yX9_isPlace cX9_isPlace 2 (some .boolean) :: q_G)) : q_SK X 2 0 (BX9_isPlace_0) := by
  refine k_iload_n (i := 1) h (ddX9_isPlace (0, .iload_n 1, 1) (List.mem_of_getElem? (i := 0) rfl)) rfl ?_
  refine k_i2l h (ddX9_isPlace (1, .i2l, 1) (List.mem_of_getElem? (i := 1) rfl)) ?_
  refine k_lconst (v := 0) h (ddX9_isPlace (2, .lconst 0, 1) (List.mem_of_getElem? (i := 2) rfl)) (by decide) ?_
  refine k_aload_n (i := 0) h (ddX9_isPlace (3, .aload_n 0, 1) (List.mem_of_getElem? (i := 3) rfl)) rfl ?_
  refine k_getf (ci := 9) (j := 8) (C := RX9) (T := TX9) (N := 33) h rfl (fun w hw => List.mem_cons_of_mem _ (q_inX9 w hw)) (by decide) (List.mem_cons_of_mem _ gw670) (ddX9_isPlace (4, .getfield 153, 3) (List.mem_of_getElem? (i := 4) rfl)) ?_
  refine k_iconst (v := 1) h (ddX9_isPlace (7, .iconst 1, 1) (List.mem_of_getElem? (i := 5) rfl)) (by decide) ?_
  refine k_isub h (ddX9_isPlace (8, .isub, 1) (List.mem_of_getElem? (i := 6) rfl)) ?_
  refine k_i2l h (ddX9_isPlace (9, .i2l, 1) (List.mem_of_getElem? (i := 7) rfl)) ?_
  refine k_callS h hl (aX9_in l) ⟨rfl, rfl⟩ (n := 3) (by decide +kernel) (q_gS gw608 gw607 gw606 gw605) ⟨by decide, by decide⟩ (ddX9_isPlace (10, .invokestatic 68, 3) (List.mem_of_getElem? (i := 8) rfl)) ?_
  exact k_zret h hQ (ddX9_isPlace (13, .ireturn, 1) (List.mem_of_getElem? (i := 9) rfl))
theorem aX9_isPlace (l : Launch) (as : List Value) (sh : q_Sh) (m : q_Mm) (R : q_KR) (hw : wX9_isPlace as sh m R) : q_AM l yX9_isPlace (Cond.code yX9_isPlace cX9_isPlace 2 (some .boolean) :: q_G) rmX9_isPlace as sh m R := by
  refine q_met (code := TX9_isPlace) (by decide) (fun X hl hQ _ h pc => ?_) hw.1 hw.2
  unfold TX9_isPlace
  exact k_at (sX9_isPlace_0 hl hQ h) (k_no)
/-! TumblingRockModel.isTurning(I)Z -/
abbrev dlX9_isTurning : List (Nat × (Instr × Nat)) := [(0, .iload_n 1, 1), (1, .i2l, 1), (2, .lconst 0, 1), (3, .aload_n 0, 1), (4, .getfield 150, 3), (7, .iconst 1, 1), (8, .isub, 1), (9, .i2l, 1), (10, .invokestatic 68, 3), (13, .ireturn, 1)]
theorem ddX9_isTurning : ∀ q ∈ dlX9_isTurning, decode cX9_isTurning q.1 = .ok q.2 := by decide +kernel
theorem sX9_isTurning_0 {l : Launch} {X : q_CX} (hl : X.2.1 = l) (hQ : q_QM X) (h : q_OK X yX9_isTurning cX9_isTurning 2 (some .boolean) rmX9_isTurning (Cond.code yX9_isTurning cX9_isTurning 2 (some .boolean) :: q_G)) : q_SK X 2 0 (BX9_isTurning_0) := by
  refine k_iload_n (i := 1) h (ddX9_isTurning (0, .iload_n 1, 1) (List.mem_of_getElem? (i := 0) rfl)) rfl ?_
  refine k_i2l h (ddX9_isTurning (1, .i2l, 1) (List.mem_of_getElem? (i := 1) rfl)) ?_
  refine k_lconst (v := 0) h (ddX9_isTurning (2, .lconst 0, 1) (List.mem_of_getElem? (i := 2) rfl)) (by decide) ?_
  refine k_aload_n (i := 0) h (ddX9_isTurning (3, .aload_n 0, 1) (List.mem_of_getElem? (i := 3) rfl)) rfl ?_
  refine k_getf (ci := 9) (j := 7) (C := RX9) (T := TX9) (N := 33) h rfl (fun w hw => List.mem_cons_of_mem _ (q_inX9 w hw)) (by decide) (List.mem_cons_of_mem _ gw669) (ddX9_isTurning (4, .getfield 150, 3) (List.mem_of_getElem? (i := 4) rfl)) ?_
  refine k_iconst (v := 1) h (ddX9_isTurning (7, .iconst 1, 1) (List.mem_of_getElem? (i := 5) rfl)) (by decide) ?_
  refine k_isub h (ddX9_isTurning (8, .isub, 1) (List.mem_of_getElem? (i := 6) rfl)) ?_
  refine k_i2l h (ddX9_isTurning (9, .i2l, 1) (List.mem_of_getElem? (i := 7) rfl)) ?_
  refine k_callS h hl (aX9_in l) ⟨rfl, rfl⟩ (n := 3) (by decide +kernel) (q_gS gw608 gw607 gw606 gw605) ⟨by decide, by decide⟩ (ddX9_isTurning (10, .invokestatic 68, 3) (List.mem_of_getElem? (i := 8) rfl)) ?_
  exact k_zret h hQ (ddX9_isTurning (13, .ireturn, 1) (List.mem_of_getElem? (i := 9) rfl))
theorem aX9_isTurning (l : Launch) (as : List Value) (sh : q_Sh) (m : q_Mm) (R : q_KR) (hw : wX9_isTurning as sh m R) : q_AM l yX9_isTurning (Cond.code yX9_isTurning cX9_isTurning 2 (some .boolean) :: q_G) rmX9_isTurning as sh m R := by
  refine q_met (code := TX9_isTurning) (by decide) (fun X hl hQ _ h pc => ?_) hw.1 hw.2
  unfold TX9_isTurning
  exact k_at (sX9_isTurning_0 hl hQ h) (k_no)
/-! TumblingRockModel.isStep(I)Z -/
abbrev dlX9_isStep : List (Nat × (Instr × Nat)) := [(0, .iload_n 0, 1), (1, .i2l, 1), (2, .lconst 0, 1), (3, .ldc2_w 171, 3), (6, .invokestatic 68, 3), (9, .ireturn, 1)]
theorem ddX9_isStep : ∀ q ∈ dlX9_isStep, decode cX9_isStep q.1 = .ok q.2 := by decide +kernel
theorem sX9_isStep_0 {l : Launch} {X : q_CX} (hl : X.2.1 = l) (hQ : q_QM X) (h : q_OK X yX9_isStep cX9_isStep 1 (some .boolean) rmX9_isStep (Cond.code yX9_isStep cX9_isStep 1 (some .boolean) :: q_G)) : q_SK X 1 0 (BX9_isStep_0) := by
  refine k_iload_n (i := 0) h (ddX9_isStep (0, .iload_n 0, 1) (List.mem_of_getElem? (i := 0) rfl)) rfl ?_
  refine k_i2l h (ddX9_isStep (1, .i2l, 1) (List.mem_of_getElem? (i := 1) rfl)) ?_
  refine k_lconst (v := 0) h (ddX9_isStep (2, .lconst 0, 1) (List.mem_of_getElem? (i := 2) rfl)) (by decide) ?_
  refine k_ldc2 (v := 999999) h (ddX9_isStep (3, .ldc2_w 171, 3) (List.mem_of_getElem? (i := 3) rfl)) (List.mem_cons_of_mem _ gw678) ?_
  refine k_callS h hl (aX9_in l) ⟨rfl, rfl⟩ (n := 3) (by decide +kernel) (q_gS gw608 gw607 gw606 gw605) ⟨by decide, by decide⟩ (ddX9_isStep (6, .invokestatic 68, 3) (List.mem_of_getElem? (i := 4) rfl)) ?_
  exact k_zret h hQ (ddX9_isStep (9, .ireturn, 1) (List.mem_of_getElem? (i := 5) rfl))
theorem aX9_isStep (l : Launch) (as : List Value) (sh : q_Sh) (m : q_Mm) (R : q_KR) (hw : wX9_isStep as sh m R) : q_AM l yX9_isStep (Cond.code yX9_isStep cX9_isStep 1 (some .boolean) :: q_G) rmX9_isStep as sh m R := by
  refine q_met (code := TX9_isStep) (by decide) (fun X hl hQ _ h pc => ?_) hw.1 hw.2
  unfold TX9_isStep
  exact k_at (sX9_isStep_0 hl hQ h) (k_no)
/-! TumblingRockModel.takeShifts()V -/
abbrev dlX9_takeShifts : List (Nat × (Instr × Nat)) := [(0, .aload_n 0, 1), (1, .getfield 42, 3), (4, .iconst 0, 1), (5, .aload_n 0, 1), (6, .getfield 7, 3), (9, .iconst 0, 1), (10, .iaload, 1), (11, .iastore, 1), (12, .aload_n 0, 1), (13, .getfield 42, 3), (16, .iconst 1, 1), (17, .aload_n 0, 1), (18, .getfield 7, 3), (21, .iconst 1, 1), (22, .iaload, 1), (23, .iastore, 1), (24, .aload_n 0, 1), (25, .getfield 42, 3), (28, .iconst 2, 1), (29, .aload_n 0, 1), (30, .getfield 7, 3), (33, .iconst 2, 1), (34, .iaload, 1), (35, .iastore, 1), (36, .return_, 1)]
theorem ddX9_takeShifts : ∀ q ∈ dlX9_takeShifts, decode cX9_takeShifts q.1 = .ok q.2 := by decide +kernel
theorem sX9_takeShifts_0 {l : Launch} {X : q_CX} (hl : X.2.1 = l) (hQ : q_QM X) (h : q_OK X yX9_takeShifts cX9_takeShifts 1 none rmX9_takeShifts (Cond.code yX9_takeShifts cX9_takeShifts 1 none :: q_G)) : q_SK X 1 0 (BX9_takeShifts_0) := by
  refine k_aload_n (i := 0) h (ddX9_takeShifts (0, .aload_n 0, 1) (List.mem_of_getElem? (i := 0) rfl)) rfl ?_
  refine k_getf (ci := 9) (j := 23) (C := RX9) (T := TX9) (N := 33) h rfl (fun w hw => List.mem_cons_of_mem _ (q_inX9 w hw)) (by decide) (List.mem_cons_of_mem _ gw596) (ddX9_takeShifts (1, .getfield 42, 3) (List.mem_of_getElem? (i := 1) rfl)) ?_
  refine k_iconst (v := 0) h (ddX9_takeShifts (4, .iconst 0, 1) (List.mem_of_getElem? (i := 2) rfl)) (by decide) ?_
  refine k_aload_n (i := 0) h (ddX9_takeShifts (5, .aload_n 0, 1) (List.mem_of_getElem? (i := 3) rfl)) rfl ?_
  refine k_getf (ci := 9) (j := 0) (C := RX9) (T := TX9) (N := 33) h rfl (fun w hw => List.mem_cons_of_mem _ (q_inX9 w hw)) (by decide) (List.mem_cons_of_mem _ gw586) (ddX9_takeShifts (6, .getfield 7, 3) (List.mem_of_getElem? (i := 4) rfl)) ?_
  refine k_iconst (v := 0) h (ddX9_takeShifts (9, .iconst 0, 1) (List.mem_of_getElem? (i := 5) rfl)) (by decide) ?_
  refine k_iald h (ddX9_takeShifts (10, .iaload, 1) (List.mem_of_getElem? (i := 6) rfl)) ?_
  refine k_iast h (ddX9_takeShifts (11, .iastore, 1) (List.mem_of_getElem? (i := 7) rfl)) ?_
  refine k_aload_n (i := 0) h (ddX9_takeShifts (12, .aload_n 0, 1) (List.mem_of_getElem? (i := 8) rfl)) rfl ?_
  refine k_getf (ci := 9) (j := 23) (C := RX9) (T := TX9) (N := 33) h rfl (fun w hw => List.mem_cons_of_mem _ (q_inX9 w hw)) (by decide) (List.mem_cons_of_mem _ gw596) (ddX9_takeShifts (13, .getfield 42, 3) (List.mem_of_getElem? (i := 9) rfl)) ?_
  refine k_iconst (v := 1) h (ddX9_takeShifts (16, .iconst 1, 1) (List.mem_of_getElem? (i := 10) rfl)) (by decide) ?_
  refine k_aload_n (i := 0) h (ddX9_takeShifts (17, .aload_n 0, 1) (List.mem_of_getElem? (i := 11) rfl)) rfl ?_
  refine k_getf (ci := 9) (j := 0) (C := RX9) (T := TX9) (N := 33) h rfl (fun w hw => List.mem_cons_of_mem _ (q_inX9 w hw)) (by decide) (List.mem_cons_of_mem _ gw586) (ddX9_takeShifts (18, .getfield 7, 3) (List.mem_of_getElem? (i := 12) rfl)) ?_
  refine k_iconst (v := 1) h (ddX9_takeShifts (21, .iconst 1, 1) (List.mem_of_getElem? (i := 13) rfl)) (by decide) ?_
  refine k_iald h (ddX9_takeShifts (22, .iaload, 1) (List.mem_of_getElem? (i := 14) rfl)) ?_
  refine k_iast h (ddX9_takeShifts (23, .iastore, 1) (List.mem_of_getElem? (i := 15) rfl)) ?_
  refine k_aload_n (i := 0) h (ddX9_takeShifts (24, .aload_n 0, 1) (List.mem_of_getElem? (i := 16) rfl)) rfl ?_
  refine k_getf (ci := 9) (j := 23) (C := RX9) (T := TX9) (N := 33) h rfl (fun w hw => List.mem_cons_of_mem _ (q_inX9 w hw)) (by decide) (List.mem_cons_of_mem _ gw596) (ddX9_takeShifts (25, .getfield 42, 3) (List.mem_of_getElem? (i := 17) rfl)) ?_
  refine k_iconst (v := 2) h (ddX9_takeShifts (28, .iconst 2, 1) (List.mem_of_getElem? (i := 18) rfl)) (by decide) ?_
  refine k_aload_n (i := 0) h (ddX9_takeShifts (29, .aload_n 0, 1) (List.mem_of_getElem? (i := 19) rfl)) rfl ?_
  refine k_getf (ci := 9) (j := 0) (C := RX9) (T := TX9) (N := 33) h rfl (fun w hw => List.mem_cons_of_mem _ (q_inX9 w hw)) (by decide) (List.mem_cons_of_mem _ gw586) (ddX9_takeShifts (30, .getfield 7, 3) (List.mem_of_getElem? (i := 20) rfl)) ?_
  refine k_iconst (v := 2) h (ddX9_takeShifts (33, .iconst 2, 1) (List.mem_of_getElem? (i := 21) rfl)) (by decide) ?_
  refine k_iald h (ddX9_takeShifts (34, .iaload, 1) (List.mem_of_getElem? (i := 22) rfl)) ?_
  refine k_iast h (ddX9_takeShifts (35, .iastore, 1) (List.mem_of_getElem? (i := 23) rfl)) ?_
  exact k_vret h hQ (ddX9_takeShifts (36, .return_, 1) (List.mem_of_getElem? (i := 24) rfl))
theorem aX9_takeShifts (l : Launch) (as : List Value) (sh : q_Sh) (m : q_Mm) (R : q_KR) (hw : wX9_takeShifts as sh m R) : q_AM l yX9_takeShifts (Cond.code yX9_takeShifts cX9_takeShifts 1 none :: q_G) rmX9_takeShifts as sh m R := by
  refine q_met (code := TX9_takeShifts) (by decide) (fun X hl hQ _ h pc => ?_) hw.1 hw.2
  unfold TX9_takeShifts
  exact k_at (sX9_takeShifts_0 hl hQ h) (k_no)
/-! TumblingRockModel.heightBy(II)I -/
abbrev dlX9_heightBy : List (Nat × (Instr × Nat)) := [(0, .iconst 0, 1), (1, .istore_n 3, 1), (2, .iconst 0, 1), (3, .istore 4, 2), (5, .iload 4, 2), (7, .aload_n 0, 1), (8, .getfield 150, 3), (11, .if_icmp .ge 52, 3), (14, .iload_n 3, 1), (15, .aload_n 0, 1), (16, .getfield 23, 3), (19, .iconst 3, 1), (20, .iload_n 1, 1), (21, .imul, 1), (22, .iload 4, 2), (24, .iadd, 1), (25, .iaload, 1), (26, .aload_n 0, 1), (27, .getfield 17, 3), (30, .bipush 12, 2), (32, .iload 4, 2), (34, .imul, 1), (35, .iload_n 2, 1), (36, .aload_n 0, 1), (37, .getfield 42, 3), (40, .iload 4, 2), (42, .iaload, 1), (43, .iadd, 1), (44, .aload_n 0, 1), (45, .getfield 20, 3), (48, .iload 4, 2), (50, .iaload, 1), (51, .irem, 1), (52, .iadd, 1), (53, .iaload, 1), (54, .imul, 1), (55, .iadd, 1), (56, .istore_n 3, 1), (57, .iinc 4 1, 3), (60, .goto (-55), 3), (63, .iload_n 3, 1), (64, .ireturn, 1)]
theorem ddX9_heightBy : ∀ q ∈ dlX9_heightBy, decode cX9_heightBy q.1 = .ok q.2 := by decide +kernel
theorem sX9_heightBy_0 {l : Launch} {X : q_CX} (hl : X.2.1 = l) (hQ : q_QM X) (h : q_OK X yX9_heightBy cX9_heightBy 5 (some .int) rmX9_heightBy (Cond.code yX9_heightBy cX9_heightBy 5 (some .int) :: q_G)) : q_SK X 5 0 (BX9_heightBy_0) := by
  refine k_iconst (v := 0) h (ddX9_heightBy (0, .iconst 0, 1) (List.mem_of_getElem? (i := 0) rfl)) (by decide) ?_
  refine k_istore_n (i := 3) h (ddX9_heightBy (1, .istore_n 3, 1) (List.mem_of_getElem? (i := 1) rfl)) rfl (by decide) ?_
  refine k_iconst (v := 0) h (ddX9_heightBy (2, .iconst 0, 1) (List.mem_of_getElem? (i := 2) rfl)) (by decide) ?_
  refine k_istore (i := 4) h (ddX9_heightBy (3, .istore 4, 2) (List.mem_of_getElem? (i := 3) rfl)) (by decide) ?_
  exact k_cut
theorem sX9_heightBy_63 {l : Launch} {X : q_CX} (hl : X.2.1 = l) (hQ : q_QM X) (h : q_OK X yX9_heightBy cX9_heightBy 5 (some .int) rmX9_heightBy (Cond.code yX9_heightBy cX9_heightBy 5 (some .int) :: q_G)) : q_SK X 5 63 (BX9_heightBy_63) := by
  refine k_iload_n (i := 3) h (ddX9_heightBy (63, .iload_n 3, 1) (List.mem_of_getElem? (i := 40) rfl)) rfl ?_
  exact k_iret h hQ (ddX9_heightBy (64, .ireturn, 1) (List.mem_of_getElem? (i := 41) rfl))
theorem sX9_heightBy_14 {l : Launch} {X : q_CX} (hl : X.2.1 = l) (hQ : q_QM X) (h : q_OK X yX9_heightBy cX9_heightBy 5 (some .int) rmX9_heightBy (Cond.code yX9_heightBy cX9_heightBy 5 (some .int) :: q_G)) : q_SK X 5 14 (BX9_heightBy_14) := by
  refine k_iload_n (i := 3) h (ddX9_heightBy (14, .iload_n 3, 1) (List.mem_of_getElem? (i := 8) rfl)) rfl ?_
  refine k_aload_n (i := 0) h (ddX9_heightBy (15, .aload_n 0, 1) (List.mem_of_getElem? (i := 9) rfl)) rfl ?_
  refine k_getf (ci := 9) (j := 4) (C := RX9) (T := TX9) (N := 33) h rfl (fun w hw => List.mem_cons_of_mem _ (q_inX9 w hw)) (by decide) (List.mem_cons_of_mem _ gw590) (ddX9_heightBy (16, .getfield 23, 3) (List.mem_of_getElem? (i := 10) rfl)) ?_
  refine k_iconst (v := 3) h (ddX9_heightBy (19, .iconst 3, 1) (List.mem_of_getElem? (i := 11) rfl)) (by decide) ?_
  refine k_iload_n (i := 1) h (ddX9_heightBy (20, .iload_n 1, 1) (List.mem_of_getElem? (i := 12) rfl)) rfl ?_
  refine k_imul h (ddX9_heightBy (21, .imul, 1) (List.mem_of_getElem? (i := 13) rfl)) ?_
  refine k_iload (i := 4) h (ddX9_heightBy (22, .iload 4, 2) (List.mem_of_getElem? (i := 14) rfl)) ?_
  refine k_iadd h (ddX9_heightBy (24, .iadd, 1) (List.mem_of_getElem? (i := 15) rfl)) ?_
  refine k_iald h (ddX9_heightBy (25, .iaload, 1) (List.mem_of_getElem? (i := 16) rfl)) ?_
  refine k_aload_n (i := 0) h (ddX9_heightBy (26, .aload_n 0, 1) (List.mem_of_getElem? (i := 17) rfl)) rfl ?_
  refine k_getf (ci := 9) (j := 2) (C := RX9) (T := TX9) (N := 33) h rfl (fun w hw => List.mem_cons_of_mem _ (q_inX9 w hw)) (by decide) (List.mem_cons_of_mem _ gw588) (ddX9_heightBy (27, .getfield 17, 3) (List.mem_of_getElem? (i := 18) rfl)) ?_
  refine k_bipush (v := 12) h (ddX9_heightBy (30, .bipush 12, 2) (List.mem_of_getElem? (i := 19) rfl)) (by decide) ?_
  refine k_iload (i := 4) h (ddX9_heightBy (32, .iload 4, 2) (List.mem_of_getElem? (i := 20) rfl)) ?_
  refine k_imul h (ddX9_heightBy (34, .imul, 1) (List.mem_of_getElem? (i := 21) rfl)) ?_
  refine k_iload_n (i := 2) h (ddX9_heightBy (35, .iload_n 2, 1) (List.mem_of_getElem? (i := 22) rfl)) rfl ?_
  refine k_aload_n (i := 0) h (ddX9_heightBy (36, .aload_n 0, 1) (List.mem_of_getElem? (i := 23) rfl)) rfl ?_
  refine k_getf (ci := 9) (j := 23) (C := RX9) (T := TX9) (N := 33) h rfl (fun w hw => List.mem_cons_of_mem _ (q_inX9 w hw)) (by decide) (List.mem_cons_of_mem _ gw596) (ddX9_heightBy (37, .getfield 42, 3) (List.mem_of_getElem? (i := 24) rfl)) ?_
  refine k_iload (i := 4) h (ddX9_heightBy (40, .iload 4, 2) (List.mem_of_getElem? (i := 25) rfl)) ?_
  refine k_iald h (ddX9_heightBy (42, .iaload, 1) (List.mem_of_getElem? (i := 26) rfl)) ?_
  refine k_iadd h (ddX9_heightBy (43, .iadd, 1) (List.mem_of_getElem? (i := 27) rfl)) ?_
  refine k_aload_n (i := 0) h (ddX9_heightBy (44, .aload_n 0, 1) (List.mem_of_getElem? (i := 28) rfl)) rfl ?_
  refine k_getf (ci := 9) (j := 3) (C := RX9) (T := TX9) (N := 33) h rfl (fun w hw => List.mem_cons_of_mem _ (q_inX9 w hw)) (by decide) (List.mem_cons_of_mem _ gw589) (ddX9_heightBy (45, .getfield 20, 3) (List.mem_of_getElem? (i := 29) rfl)) ?_
  refine k_iload (i := 4) h (ddX9_heightBy (48, .iload 4, 2) (List.mem_of_getElem? (i := 30) rfl)) ?_
  refine k_iald h (ddX9_heightBy (50, .iaload, 1) (List.mem_of_getElem? (i := 31) rfl)) ?_
  refine k_irem h (ddX9_heightBy (51, .irem, 1) (List.mem_of_getElem? (i := 32) rfl)) ?_
  refine k_iadd h (ddX9_heightBy (52, .iadd, 1) (List.mem_of_getElem? (i := 33) rfl)) ?_
  refine k_iald h (ddX9_heightBy (53, .iaload, 1) (List.mem_of_getElem? (i := 34) rfl)) ?_
  refine k_imul h (ddX9_heightBy (54, .imul, 1) (List.mem_of_getElem? (i := 35) rfl)) ?_
  refine k_iadd h (ddX9_heightBy (55, .iadd, 1) (List.mem_of_getElem? (i := 36) rfl)) ?_
  refine k_istore_n (i := 3) h (ddX9_heightBy (56, .istore_n 3, 1) (List.mem_of_getElem? (i := 37) rfl)) rfl (by decide) ?_
  refine k_iinc (d := 1) h (ddX9_heightBy (57, .iinc 4 1, 3) (List.mem_of_getElem? (i := 38) rfl)) (by decide) (by decide) ?_
  refine k_goto h (ddX9_heightBy (60, .goto (-55), 3) (List.mem_of_getElem? (i := 39) rfl)) (tgt := 5) (by decide) ?_
  exact k_cut
theorem sX9_heightBy_5 {l : Launch} {X : q_CX} (hl : X.2.1 = l) (hQ : q_QM X) (h : q_OK X yX9_heightBy cX9_heightBy 5 (some .int) rmX9_heightBy (Cond.code yX9_heightBy cX9_heightBy 5 (some .int) :: q_G)) : q_SK X 5 5 (BX9_heightBy_5) := by
  refine k_iload (i := 4) h (ddX9_heightBy (5, .iload 4, 2) (List.mem_of_getElem? (i := 4) rfl)) ?_
  refine k_aload_n (i := 0) h (ddX9_heightBy (7, .aload_n 0, 1) (List.mem_of_getElem? (i := 5) rfl)) rfl ?_
  refine k_getf (ci := 9) (j := 7) (C := RX9) (T := TX9) (N := 33) h rfl (fun w hw => List.mem_cons_of_mem _ (q_inX9 w hw)) (by decide) (List.mem_cons_of_mem _ gw669) (ddX9_heightBy (8, .getfield 150, 3) (List.mem_of_getElem? (i := 6) rfl)) ?_
  refine k_icge h (ddX9_heightBy (11, .if_icmp .ge 52, 3) (List.mem_of_getElem? (i := 7) rfl)) (tgt := 63) (by decide) ?_ ?_
  · exact sX9_heightBy_63 hl hQ h
  · exact sX9_heightBy_14 hl hQ h
theorem aX9_heightBy (l : Launch) (as : List Value) (sh : q_Sh) (m : q_Mm) (R : q_KR) (hw : wX9_heightBy as sh m R) : q_AM l yX9_heightBy (Cond.code yX9_heightBy cX9_heightBy 5 (some .int) :: q_G) rmX9_heightBy as sh m R := by
  refine q_met (code := TX9_heightBy) (by decide) (fun X hl hQ _ h pc => ?_) hw.1 hw.2
  unfold TX9_heightBy
  exact k_at (sX9_heightBy_0 hl hQ h) (k_at (sX9_heightBy_5 hl hQ h) (k_no))
/-! TumblingRockModel.heightNow(II)I -/
abbrev dlX9_heightNow : List (Nat × (Instr × Nat)) := [(0, .aload_n 0, 1), (1, .invokevirtual 173, 3), (4, .aload_n 0, 1), (5, .iload_n 1, 1), (6, .iload_n 2, 1), (7, .invokevirtual 176, 3), (10, .ireturn, 1)]
theorem ddX9_heightNow : ∀ q ∈ dlX9_heightNow, decode cX9_heightNow q.1 = .ok q.2 := by decide +kernel
theorem sX9_heightNow_0 {l : Launch} {X : q_CX} (hl : X.2.1 = l) (hQ : q_QM X) (h : q_OK X yX9_heightNow cX9_heightNow 3 (some .int) rmX9_heightNow (Cond.code yX9_heightNow cX9_heightNow 3 (some .int) :: q_G)) : q_SK X 3 0 (BX9_heightNow_0) := by
  refine k_aload_n (i := 0) h (ddX9_heightNow (0, .aload_n 0, 1) (List.mem_of_getElem? (i := 0) rfl)) rfl ?_
  refine k_callV h hl (aX9_takeShifts l) (ci := 9) (C := RX9) (T := TX9) (N := 33) rfl ⟨rfl, rfl⟩ (n := 0) (by decide +kernel) (q_gV gw680 gw681 gw682 gw606 gw679) ⟨by decide, by decide⟩ (ddX9_heightNow (1, .invokevirtual 173, 3) (List.mem_of_getElem? (i := 1) rfl)) ?_
  refine k_aload_n (i := 0) h (ddX9_heightNow (4, .aload_n 0, 1) (List.mem_of_getElem? (i := 2) rfl)) rfl ?_
  refine k_iload_n (i := 1) h (ddX9_heightNow (5, .iload_n 1, 1) (List.mem_of_getElem? (i := 3) rfl)) rfl ?_
  refine k_iload_n (i := 2) h (ddX9_heightNow (6, .iload_n 2, 1) (List.mem_of_getElem? (i := 4) rfl)) rfl ?_
  refine k_callV h hl (aX9_heightBy l) (ci := 9) (C := RX9) (T := TX9) (N := 33) rfl ⟨rfl, rfl⟩ (n := 2) (by decide +kernel) (q_gV gw684 gw685 gw686 gw606 gw683) ⟨by decide, by decide⟩ (ddX9_heightNow (7, .invokevirtual 176, 3) (List.mem_of_getElem? (i := 5) rfl)) ?_
  exact k_iret h hQ (ddX9_heightNow (10, .ireturn, 1) (List.mem_of_getElem? (i := 6) rfl))
theorem aX9_heightNow (l : Launch) (as : List Value) (sh : q_Sh) (m : q_Mm) (R : q_KR) (hw : wX9_heightNow as sh m R) : q_AM l yX9_heightNow (Cond.code yX9_heightNow cX9_heightNow 3 (some .int) :: q_G) rmX9_heightNow as sh m R := by
  refine q_met (code := TX9_heightNow) (by decide) (fun X hl hQ _ h pc => ?_) hw.1 hw.2
  unfold TX9_heightNow
  exact k_at (sX9_heightNow_0 hl hQ h) (k_no)
/-! TumblingRockModel.isLit(II)Z -/
abbrev dlX9_isLit : List (Nat × (Instr × Nat)) := [(0, .aload_n 0, 1), (1, .iload_n 1, 1), (2, .iload_n 2, 1), (3, .invokevirtual 179, 3), (6, .ifCond .le 7, 3), (9, .iconst 1, 1), (10, .goto 4, 3), (13, .iconst 0, 1), (14, .ireturn, 1)]
theorem ddX9_isLit : ∀ q ∈ dlX9_isLit, decode cX9_isLit q.1 = .ok q.2 := by decide +kernel
theorem sX9_isLit_14 {l : Launch} {X : q_CX} (hl : X.2.1 = l) (hQ : q_QM X) (h : q_OK X yX9_isLit cX9_isLit 3 (some .boolean) rmX9_isLit (Cond.code yX9_isLit cX9_isLit 3 (some .boolean) :: q_G)) : q_SK X 3 14 (BX9_isLit_14) := by
  exact k_zret h hQ (ddX9_isLit (14, .ireturn, 1) (List.mem_of_getElem? (i := 8) rfl))
theorem sX9_isLit_13 {l : Launch} {X : q_CX} (hl : X.2.1 = l) (hQ : q_QM X) (h : q_OK X yX9_isLit cX9_isLit 3 (some .boolean) rmX9_isLit (Cond.code yX9_isLit cX9_isLit 3 (some .boolean) :: q_G)) : q_SK X 3 13 (BX9_isLit_13) := by
  refine k_iconst (v := 0) h (ddX9_isLit (13, .iconst 0, 1) (List.mem_of_getElem? (i := 7) rfl)) (by decide) ?_
  exact sX9_isLit_14 hl hQ h
theorem sX9_isLit_9 {l : Launch} {X : q_CX} (hl : X.2.1 = l) (hQ : q_QM X) (h : q_OK X yX9_isLit cX9_isLit 3 (some .boolean) rmX9_isLit (Cond.code yX9_isLit cX9_isLit 3 (some .boolean) :: q_G)) : q_SK X 3 9 (BX9_isLit_9) := by
  refine k_iconst (v := 1) h (ddX9_isLit (9, .iconst 1, 1) (List.mem_of_getElem? (i := 5) rfl)) (by decide) ?_
  refine k_goto h (ddX9_isLit (10, .goto 4, 3) (List.mem_of_getElem? (i := 6) rfl)) (tgt := 14) (by decide) ?_
  exact sX9_isLit_14 hl hQ h
theorem sX9_isLit_0 {l : Launch} {X : q_CX} (hl : X.2.1 = l) (hQ : q_QM X) (h : q_OK X yX9_isLit cX9_isLit 3 (some .boolean) rmX9_isLit (Cond.code yX9_isLit cX9_isLit 3 (some .boolean) :: q_G)) : q_SK X 3 0 (BX9_isLit_0) := by
  refine k_aload_n (i := 0) h (ddX9_isLit (0, .aload_n 0, 1) (List.mem_of_getElem? (i := 0) rfl)) rfl ?_
  refine k_iload_n (i := 1) h (ddX9_isLit (1, .iload_n 1, 1) (List.mem_of_getElem? (i := 1) rfl)) rfl ?_
  refine k_iload_n (i := 2) h (ddX9_isLit (2, .iload_n 2, 1) (List.mem_of_getElem? (i := 2) rfl)) rfl ?_
  refine k_callV h hl (aX9_heightNow l) (ci := 9) (C := RX9) (T := TX9) (N := 33) rfl ⟨rfl, rfl⟩ (n := 2) (by decide +kernel) (q_gV gw688 gw689 gw690 gw606 gw687) ⟨by decide, by decide⟩ (ddX9_isLit (3, .invokevirtual 179, 3) (List.mem_of_getElem? (i := 3) rfl)) ?_
  refine k_ifle h (ddX9_isLit (6, .ifCond .le 7, 3) (List.mem_of_getElem? (i := 4) rfl)) (tgt := 13) (by decide) ?_ ?_
  · exact sX9_isLit_13 hl hQ h
  · exact sX9_isLit_9 hl hQ h
theorem aX9_isLit (l : Launch) (as : List Value) (sh : q_Sh) (m : q_Mm) (R : q_KR) (hw : wX9_isLit as sh m R) : q_AM l yX9_isLit (Cond.code yX9_isLit cX9_isLit 3 (some .boolean) :: q_G) rmX9_isLit as sh m R := by
  refine q_met (code := TX9_isLit) (by decide) (fun X hl hQ _ h pc => ?_) hw.1 hw.2
  unfold TX9_isLit
  exact k_at (sX9_isLit_0 hl hQ h) (k_no)
/-! TumblingRockModel.litNow()I -/
abbrev dlX9_litNow : List (Nat × (Instr × Nat)) := [(0, .iconst 0, 1), (1, .istore_n 1, 1), (2, .iconst 0, 1), (3, .istore_n 2, 1), (4, .iload_n 2, 1), (5, .aload_n 0, 1), (6, .getfield 153, 3), (9, .if_icmp .ge 28, 3), (12, .iload_n 1, 1), (13, .aload_n 0, 1), (14, .iload_n 2, 1), (15, .aload_n 0, 1), (16, .getfield 7, 3), (19, .iconst 4, 1), (20, .iaload, 1), (21, .invokevirtual 182, 3), (24, .invokestatic 185, 3), (27, .iload_n 2, 1), (28, .ishl, 1), (29, .ior, 1), (30, .istore_n 1, 1), (31, .iinc 2 1, 3), (34, .goto (-30), 3), (37, .iload_n 1, 1), (38, .ireturn, 1)]
theorem ddX9_litNow : ∀ q ∈ dlX9_litNow, decode cX9_litNow q.1 = .ok q.2 := by decide +kernel
theorem sX9_litNow_0 {l : Launch} {X : q_CX} (hl : X.2.1 = l) (hQ : q_QM X) (h : q_OK X yX9_litNow cX9_litNow 3 (some .int) rmX9_litNow (Cond.code yX9_litNow cX9_litNow 3 (some .int) :: q_G)) : q_SK X 3 0 (BX9_litNow_0) := by
  refine k_iconst (v := 0) h (ddX9_litNow (0, .iconst 0, 1) (List.mem_of_getElem? (i := 0) rfl)) (by decide) ?_
  refine k_istore_n (i := 1) h (ddX9_litNow (1, .istore_n 1, 1) (List.mem_of_getElem? (i := 1) rfl)) rfl (by decide) ?_
  refine k_iconst (v := 0) h (ddX9_litNow (2, .iconst 0, 1) (List.mem_of_getElem? (i := 2) rfl)) (by decide) ?_
  refine k_istore_n (i := 2) h (ddX9_litNow (3, .istore_n 2, 1) (List.mem_of_getElem? (i := 3) rfl)) rfl (by decide) ?_
  exact k_cut
theorem sX9_litNow_37 {l : Launch} {X : q_CX} (hl : X.2.1 = l) (hQ : q_QM X) (h : q_OK X yX9_litNow cX9_litNow 3 (some .int) rmX9_litNow (Cond.code yX9_litNow cX9_litNow 3 (some .int) :: q_G)) : q_SK X 3 37 (BX9_litNow_37) := by
  refine k_iload_n (i := 1) h (ddX9_litNow (37, .iload_n 1, 1) (List.mem_of_getElem? (i := 23) rfl)) rfl ?_
  exact k_iret h hQ (ddX9_litNow (38, .ireturn, 1) (List.mem_of_getElem? (i := 24) rfl))
theorem sX9_litNow_12 {l : Launch} {X : q_CX} (hl : X.2.1 = l) (hQ : q_QM X) (h : q_OK X yX9_litNow cX9_litNow 3 (some .int) rmX9_litNow (Cond.code yX9_litNow cX9_litNow 3 (some .int) :: q_G)) : q_SK X 3 12 (BX9_litNow_12) := by
  refine k_iload_n (i := 1) h (ddX9_litNow (12, .iload_n 1, 1) (List.mem_of_getElem? (i := 8) rfl)) rfl ?_
  refine k_aload_n (i := 0) h (ddX9_litNow (13, .aload_n 0, 1) (List.mem_of_getElem? (i := 9) rfl)) rfl ?_
  refine k_iload_n (i := 2) h (ddX9_litNow (14, .iload_n 2, 1) (List.mem_of_getElem? (i := 10) rfl)) rfl ?_
  refine k_aload_n (i := 0) h (ddX9_litNow (15, .aload_n 0, 1) (List.mem_of_getElem? (i := 11) rfl)) rfl ?_
  refine k_getf (ci := 9) (j := 0) (C := RX9) (T := TX9) (N := 33) h rfl (fun w hw => List.mem_cons_of_mem _ (q_inX9 w hw)) (by decide) (List.mem_cons_of_mem _ gw586) (ddX9_litNow (16, .getfield 7, 3) (List.mem_of_getElem? (i := 12) rfl)) ?_
  refine k_iconst (v := 4) h (ddX9_litNow (19, .iconst 4, 1) (List.mem_of_getElem? (i := 13) rfl)) (by decide) ?_
  refine k_iald h (ddX9_litNow (20, .iaload, 1) (List.mem_of_getElem? (i := 14) rfl)) ?_
  refine k_callV h hl (aX9_isLit l) (ci := 9) (C := RX9) (T := TX9) (N := 33) rfl ⟨rfl, rfl⟩ (n := 2) (by decide +kernel) (q_gV gw692 gw693 gw694 gw606 gw691) ⟨by decide, by decide⟩ (ddX9_litNow (21, .invokevirtual 182, 3) (List.mem_of_getElem? (i := 15) rfl)) ?_
  refine k_callS h hl (aX9_one l) ⟨rfl, rfl⟩ (n := 1) (by decide +kernel) (q_gS gw697 gw696 gw606 gw695) ⟨by decide, by decide⟩ (ddX9_litNow (24, .invokestatic 185, 3) (List.mem_of_getElem? (i := 16) rfl)) ?_
  refine k_iload_n (i := 2) h (ddX9_litNow (27, .iload_n 2, 1) (List.mem_of_getElem? (i := 17) rfl)) rfl ?_
  refine k_ishl h (ddX9_litNow (28, .ishl, 1) (List.mem_of_getElem? (i := 18) rfl)) ?_
  refine k_ior h (ddX9_litNow (29, .ior, 1) (List.mem_of_getElem? (i := 19) rfl)) ?_
  refine k_istore_n (i := 1) h (ddX9_litNow (30, .istore_n 1, 1) (List.mem_of_getElem? (i := 20) rfl)) rfl (by decide) ?_
  refine k_iinc (d := 1) h (ddX9_litNow (31, .iinc 2 1, 3) (List.mem_of_getElem? (i := 21) rfl)) (by decide) (by decide) ?_
  refine k_goto h (ddX9_litNow (34, .goto (-30), 3) (List.mem_of_getElem? (i := 22) rfl)) (tgt := 4) (by decide) ?_
  exact k_cut
theorem sX9_litNow_4 {l : Launch} {X : q_CX} (hl : X.2.1 = l) (hQ : q_QM X) (h : q_OK X yX9_litNow cX9_litNow 3 (some .int) rmX9_litNow (Cond.code yX9_litNow cX9_litNow 3 (some .int) :: q_G)) : q_SK X 3 4 (BX9_litNow_4) := by
  refine k_iload_n (i := 2) h (ddX9_litNow (4, .iload_n 2, 1) (List.mem_of_getElem? (i := 4) rfl)) rfl ?_
  refine k_aload_n (i := 0) h (ddX9_litNow (5, .aload_n 0, 1) (List.mem_of_getElem? (i := 5) rfl)) rfl ?_
  refine k_getf (ci := 9) (j := 8) (C := RX9) (T := TX9) (N := 33) h rfl (fun w hw => List.mem_cons_of_mem _ (q_inX9 w hw)) (by decide) (List.mem_cons_of_mem _ gw670) (ddX9_litNow (6, .getfield 153, 3) (List.mem_of_getElem? (i := 6) rfl)) ?_
  refine k_icge h (ddX9_litNow (9, .if_icmp .ge 28, 3) (List.mem_of_getElem? (i := 7) rfl)) (tgt := 37) (by decide) ?_ ?_
  · exact sX9_litNow_37 hl hQ h
  · exact sX9_litNow_12 hl hQ h
theorem aX9_litNow (l : Launch) (as : List Value) (sh : q_Sh) (m : q_Mm) (R : q_KR) (hw : wX9_litNow as sh m R) : q_AM l yX9_litNow (Cond.code yX9_litNow cX9_litNow 3 (some .int) :: q_G) rmX9_litNow as sh m R := by
  refine q_met (code := TX9_litNow) (by decide) (fun X hl hQ _ h pc => ?_) hw.1 hw.2
  unfold TX9_litNow
  exact k_at (sX9_litNow_0 hl hQ h) (k_at (sX9_litNow_4 hl hQ h) (k_no))
/-! TumblingRockModel.told(I)I -/
abbrev dlX9_told : List (Nat × (Instr × Nat)) := [(0, .iload_n 1, 1), (64, .aload_n 0, 1), (65, .getfield 150, 3), (68, .ireturn, 1), (69, .aload_n 0, 1), (70, .getfield 153, 3), (73, .ireturn, 1), (74, .aload_n 0, 1), (75, .getfield 156, 3), (78, .ireturn, 1), (79, .aload_n 0, 1), (80, .getfield 159, 3), (83, .ireturn, 1), (84, .aload_n 0, 1), (85, .getfield 73, 3), (88, .ireturn, 1), (89, .aload_n 0, 1), (90, .getfield 39, 3), (93, .ireturn, 1), (94, .aload_n 0, 1), (95, .getfield 7, 3), (98, .iconst 4, 1), (99, .iaload, 1), (100, .ireturn, 1), (101, .aload_n 0, 1), (102, .getfield 153, 3), (105, .ifCond .ne 7, 3), (108, .iconst (-1), 1), (109, .goto 9, 3), (112, .aload_n 0, 1), (113, .getfield 7, 3), (116, .iconst 3, 1), (117, .iaload, 1), (118, .ireturn, 1), (119, .aload_n 0, 1), (120, .getfield 7, 3), (123, .iconst 5, 1), (124, .iaload, 1), (125, .ireturn, 1), (126, .aload_n 0, 1), (127, .getfield 162, 3), (130, .ireturn, 1), (131, .aload_n 0, 1), (132, .getfield 165, 3), (135, .ireturn, 1), (136, .aload_n 0, 1), (137, .invokevirtual 189, 3), (140, .ireturn, 1), (141, .ldc 72, 2), (143, .ireturn, 1)]
theorem ddX9_told : ∀ q ∈ dlX9_told, decode cX9_told q.1 = .ok q.2 := by decide +kernel
theorem sX9_told_64 {l : Launch} {X : q_CX} (hl : X.2.1 = l) (hQ : q_QM X) (h : q_OK X yX9_told cX9_told 2 (some .int) rmX9_told (Cond.code yX9_told cX9_told 2 (some .int) :: q_G)) : q_SK X 2 64 (BX9_told_64) := by
  refine k_aload_n (i := 0) h (ddX9_told (64, .aload_n 0, 1) (List.mem_of_getElem? (i := 1) rfl)) rfl ?_
  refine k_getf (ci := 9) (j := 7) (C := RX9) (T := TX9) (N := 33) h rfl (fun w hw => List.mem_cons_of_mem _ (q_inX9 w hw)) (by decide) (List.mem_cons_of_mem _ gw669) (ddX9_told (65, .getfield 150, 3) (List.mem_of_getElem? (i := 2) rfl)) ?_
  exact k_iret h hQ (ddX9_told (68, .ireturn, 1) (List.mem_of_getElem? (i := 3) rfl))
theorem sX9_told_69 {l : Launch} {X : q_CX} (hl : X.2.1 = l) (hQ : q_QM X) (h : q_OK X yX9_told cX9_told 2 (some .int) rmX9_told (Cond.code yX9_told cX9_told 2 (some .int) :: q_G)) : q_SK X 2 69 (BX9_told_69) := by
  refine k_aload_n (i := 0) h (ddX9_told (69, .aload_n 0, 1) (List.mem_of_getElem? (i := 4) rfl)) rfl ?_
  refine k_getf (ci := 9) (j := 8) (C := RX9) (T := TX9) (N := 33) h rfl (fun w hw => List.mem_cons_of_mem _ (q_inX9 w hw)) (by decide) (List.mem_cons_of_mem _ gw670) (ddX9_told (70, .getfield 153, 3) (List.mem_of_getElem? (i := 5) rfl)) ?_
  exact k_iret h hQ (ddX9_told (73, .ireturn, 1) (List.mem_of_getElem? (i := 6) rfl))
theorem sX9_told_74 {l : Launch} {X : q_CX} (hl : X.2.1 = l) (hQ : q_QM X) (h : q_OK X yX9_told cX9_told 2 (some .int) rmX9_told (Cond.code yX9_told cX9_told 2 (some .int) :: q_G)) : q_SK X 2 74 (BX9_told_74) := by
  refine k_aload_n (i := 0) h (ddX9_told (74, .aload_n 0, 1) (List.mem_of_getElem? (i := 7) rfl)) rfl ?_
  refine k_getf (ci := 9) (j := 9) (C := RX9) (T := TX9) (N := 33) h rfl (fun w hw => List.mem_cons_of_mem _ (q_inX9 w hw)) (by decide) (List.mem_cons_of_mem _ gw671) (ddX9_told (75, .getfield 156, 3) (List.mem_of_getElem? (i := 8) rfl)) ?_
  exact k_iret h hQ (ddX9_told (78, .ireturn, 1) (List.mem_of_getElem? (i := 9) rfl))
theorem sX9_told_79 {l : Launch} {X : q_CX} (hl : X.2.1 = l) (hQ : q_QM X) (h : q_OK X yX9_told cX9_told 2 (some .int) rmX9_told (Cond.code yX9_told cX9_told 2 (some .int) :: q_G)) : q_SK X 2 79 (BX9_told_79) := by
  refine k_aload_n (i := 0) h (ddX9_told (79, .aload_n 0, 1) (List.mem_of_getElem? (i := 10) rfl)) rfl ?_
  refine k_getf (ci := 9) (j := 10) (C := RX9) (T := TX9) (N := 33) h rfl (fun w hw => List.mem_cons_of_mem _ (q_inX9 w hw)) (by decide) (List.mem_cons_of_mem _ gw672) (ddX9_told (80, .getfield 159, 3) (List.mem_of_getElem? (i := 11) rfl)) ?_
  exact k_iret h hQ (ddX9_told (83, .ireturn, 1) (List.mem_of_getElem? (i := 12) rfl))
theorem sX9_told_84 {l : Launch} {X : q_CX} (hl : X.2.1 = l) (hQ : q_QM X) (h : q_OK X yX9_told cX9_told 2 (some .int) rmX9_told (Cond.code yX9_told cX9_told 2 (some .int) :: q_G)) : q_SK X 2 84 (BX9_told_84) := by
  refine k_aload_n (i := 0) h (ddX9_told (84, .aload_n 0, 1) (List.mem_of_getElem? (i := 13) rfl)) rfl ?_
  refine k_getf (ci := 9) (j := 16) (C := RX9) (T := TX9) (N := 33) h rfl (fun w hw => List.mem_cons_of_mem _ (q_inX9 w hw)) (by decide) (List.mem_cons_of_mem _ gw610) (ddX9_told (85, .getfield 73, 3) (List.mem_of_getElem? (i := 14) rfl)) ?_
  exact k_iret h hQ (ddX9_told (88, .ireturn, 1) (List.mem_of_getElem? (i := 15) rfl))
theorem sX9_told_89 {l : Launch} {X : q_CX} (hl : X.2.1 = l) (hQ : q_QM X) (h : q_OK X yX9_told cX9_told 2 (some .int) rmX9_told (Cond.code yX9_told cX9_told 2 (some .int) :: q_G)) : q_SK X 2 89 (BX9_told_89) := by
  refine k_aload_n (i := 0) h (ddX9_told (89, .aload_n 0, 1) (List.mem_of_getElem? (i := 16) rfl)) rfl ?_
  refine k_getf (ci := 9) (j := 22) (C := RX9) (T := TX9) (N := 33) h rfl (fun w hw => List.mem_cons_of_mem _ (q_inX9 w hw)) (by decide) (List.mem_cons_of_mem _ gw595) (ddX9_told (90, .getfield 39, 3) (List.mem_of_getElem? (i := 17) rfl)) ?_
  exact k_iret h hQ (ddX9_told (93, .ireturn, 1) (List.mem_of_getElem? (i := 18) rfl))
theorem sX9_told_94 {l : Launch} {X : q_CX} (hl : X.2.1 = l) (hQ : q_QM X) (h : q_OK X yX9_told cX9_told 2 (some .int) rmX9_told (Cond.code yX9_told cX9_told 2 (some .int) :: q_G)) : q_SK X 2 94 (BX9_told_94) := by
  refine k_aload_n (i := 0) h (ddX9_told (94, .aload_n 0, 1) (List.mem_of_getElem? (i := 19) rfl)) rfl ?_
  refine k_getf (ci := 9) (j := 0) (C := RX9) (T := TX9) (N := 33) h rfl (fun w hw => List.mem_cons_of_mem _ (q_inX9 w hw)) (by decide) (List.mem_cons_of_mem _ gw586) (ddX9_told (95, .getfield 7, 3) (List.mem_of_getElem? (i := 20) rfl)) ?_
  refine k_iconst (v := 4) h (ddX9_told (98, .iconst 4, 1) (List.mem_of_getElem? (i := 21) rfl)) (by decide) ?_
  refine k_iald h (ddX9_told (99, .iaload, 1) (List.mem_of_getElem? (i := 22) rfl)) ?_
  exact k_iret h hQ (ddX9_told (100, .ireturn, 1) (List.mem_of_getElem? (i := 23) rfl))
theorem sX9_told_118 {l : Launch} {X : q_CX} (hl : X.2.1 = l) (hQ : q_QM X) (h : q_OK X yX9_told cX9_told 2 (some .int) rmX9_told (Cond.code yX9_told cX9_told 2 (some .int) :: q_G)) : q_SK X 2 118 (BX9_told_118) := by
  exact k_iret h hQ (ddX9_told (118, .ireturn, 1) (List.mem_of_getElem? (i := 33) rfl))
theorem sX9_told_112 {l : Launch} {X : q_CX} (hl : X.2.1 = l) (hQ : q_QM X) (h : q_OK X yX9_told cX9_told 2 (some .int) rmX9_told (Cond.code yX9_told cX9_told 2 (some .int) :: q_G)) : q_SK X 2 112 (BX9_told_112) := by
  refine k_aload_n (i := 0) h (ddX9_told (112, .aload_n 0, 1) (List.mem_of_getElem? (i := 29) rfl)) rfl ?_
  refine k_getf (ci := 9) (j := 0) (C := RX9) (T := TX9) (N := 33) h rfl (fun w hw => List.mem_cons_of_mem _ (q_inX9 w hw)) (by decide) (List.mem_cons_of_mem _ gw586) (ddX9_told (113, .getfield 7, 3) (List.mem_of_getElem? (i := 30) rfl)) ?_
  refine k_iconst (v := 3) h (ddX9_told (116, .iconst 3, 1) (List.mem_of_getElem? (i := 31) rfl)) (by decide) ?_
  refine k_iald h (ddX9_told (117, .iaload, 1) (List.mem_of_getElem? (i := 32) rfl)) ?_
  exact sX9_told_118 hl hQ h
theorem sX9_told_108 {l : Launch} {X : q_CX} (hl : X.2.1 = l) (hQ : q_QM X) (h : q_OK X yX9_told cX9_told 2 (some .int) rmX9_told (Cond.code yX9_told cX9_told 2 (some .int) :: q_G)) : q_SK X 2 108 (BX9_told_108) := by
  refine k_iconst (v := (-1)) h (ddX9_told (108, .iconst (-1), 1) (List.mem_of_getElem? (i := 27) rfl)) (by decide) ?_
  refine k_goto h (ddX9_told (109, .goto 9, 3) (List.mem_of_getElem? (i := 28) rfl)) (tgt := 118) (by decide) ?_
  exact sX9_told_118 hl hQ h
theorem sX9_told_101 {l : Launch} {X : q_CX} (hl : X.2.1 = l) (hQ : q_QM X) (h : q_OK X yX9_told cX9_told 2 (some .int) rmX9_told (Cond.code yX9_told cX9_told 2 (some .int) :: q_G)) : q_SK X 2 101 (BX9_told_101) := by
  refine k_aload_n (i := 0) h (ddX9_told (101, .aload_n 0, 1) (List.mem_of_getElem? (i := 24) rfl)) rfl ?_
  refine k_getf (ci := 9) (j := 8) (C := RX9) (T := TX9) (N := 33) h rfl (fun w hw => List.mem_cons_of_mem _ (q_inX9 w hw)) (by decide) (List.mem_cons_of_mem _ gw670) (ddX9_told (102, .getfield 153, 3) (List.mem_of_getElem? (i := 25) rfl)) ?_
  refine k_ifne h (ddX9_told (105, .ifCond .ne 7, 3) (List.mem_of_getElem? (i := 26) rfl)) (tgt := 112) (by decide) ?_ ?_
  · exact sX9_told_112 hl hQ h
  · exact sX9_told_108 hl hQ h
theorem sX9_told_119 {l : Launch} {X : q_CX} (hl : X.2.1 = l) (hQ : q_QM X) (h : q_OK X yX9_told cX9_told 2 (some .int) rmX9_told (Cond.code yX9_told cX9_told 2 (some .int) :: q_G)) : q_SK X 2 119 (BX9_told_119) := by
  refine k_aload_n (i := 0) h (ddX9_told (119, .aload_n 0, 1) (List.mem_of_getElem? (i := 34) rfl)) rfl ?_
  refine k_getf (ci := 9) (j := 0) (C := RX9) (T := TX9) (N := 33) h rfl (fun w hw => List.mem_cons_of_mem _ (q_inX9 w hw)) (by decide) (List.mem_cons_of_mem _ gw586) (ddX9_told (120, .getfield 7, 3) (List.mem_of_getElem? (i := 35) rfl)) ?_
  refine k_iconst (v := 5) h (ddX9_told (123, .iconst 5, 1) (List.mem_of_getElem? (i := 36) rfl)) (by decide) ?_
  refine k_iald h (ddX9_told (124, .iaload, 1) (List.mem_of_getElem? (i := 37) rfl)) ?_
  exact k_iret h hQ (ddX9_told (125, .ireturn, 1) (List.mem_of_getElem? (i := 38) rfl))
theorem sX9_told_126 {l : Launch} {X : q_CX} (hl : X.2.1 = l) (hQ : q_QM X) (h : q_OK X yX9_told cX9_told 2 (some .int) rmX9_told (Cond.code yX9_told cX9_told 2 (some .int) :: q_G)) : q_SK X 2 126 (BX9_told_126) := by
  refine k_aload_n (i := 0) h (ddX9_told (126, .aload_n 0, 1) (List.mem_of_getElem? (i := 39) rfl)) rfl ?_
  refine k_getf (ci := 9) (j := 28) (C := RX9) (T := TX9) (N := 33) h rfl (fun w hw => List.mem_cons_of_mem _ (q_inX9 w hw)) (by decide) (List.mem_cons_of_mem _ gw673) (ddX9_told (127, .getfield 162, 3) (List.mem_of_getElem? (i := 40) rfl)) ?_
  exact k_iret h hQ (ddX9_told (130, .ireturn, 1) (List.mem_of_getElem? (i := 41) rfl))
theorem sX9_told_131 {l : Launch} {X : q_CX} (hl : X.2.1 = l) (hQ : q_QM X) (h : q_OK X yX9_told cX9_told 2 (some .int) rmX9_told (Cond.code yX9_told cX9_told 2 (some .int) :: q_G)) : q_SK X 2 131 (BX9_told_131) := by
  refine k_aload_n (i := 0) h (ddX9_told (131, .aload_n 0, 1) (List.mem_of_getElem? (i := 42) rfl)) rfl ?_
  refine k_getf (ci := 9) (j := 32) (C := RX9) (T := TX9) (N := 33) h rfl (fun w hw => List.mem_cons_of_mem _ (q_inX9 w hw)) (by decide) (List.mem_cons_of_mem _ gw674) (ddX9_told (132, .getfield 165, 3) (List.mem_of_getElem? (i := 43) rfl)) ?_
  exact k_iret h hQ (ddX9_told (135, .ireturn, 1) (List.mem_of_getElem? (i := 44) rfl))
theorem sX9_told_136 {l : Launch} {X : q_CX} (hl : X.2.1 = l) (hQ : q_QM X) (h : q_OK X yX9_told cX9_told 2 (some .int) rmX9_told (Cond.code yX9_told cX9_told 2 (some .int) :: q_G)) : q_SK X 2 136 (BX9_told_136) := by
  refine k_aload_n (i := 0) h (ddX9_told (136, .aload_n 0, 1) (List.mem_of_getElem? (i := 45) rfl)) rfl ?_
  refine k_callV h hl (aX9_litNow l) (ci := 9) (C := RX9) (T := TX9) (N := 33) rfl ⟨rfl, rfl⟩ (n := 0) (by decide +kernel) (q_gV gw699 gw700 gw701 gw606 gw698) ⟨by decide, by decide⟩ (ddX9_told (137, .invokevirtual 189, 3) (List.mem_of_getElem? (i := 46) rfl)) ?_
  exact k_iret h hQ (ddX9_told (140, .ireturn, 1) (List.mem_of_getElem? (i := 47) rfl))
theorem sX9_told_141 {l : Launch} {X : q_CX} (hl : X.2.1 = l) (hQ : q_QM X) (h : q_OK X yX9_told cX9_told 2 (some .int) rmX9_told (Cond.code yX9_told cX9_told 2 (some .int) :: q_G)) : q_SK X 2 141 (BX9_told_141) := by
  refine k_ldc (v := (-1000000002)) h (ddX9_told (141, .ldc 72, 2) (List.mem_of_getElem? (i := 48) rfl)) (List.mem_cons_of_mem _ gw609) ?_
  exact k_iret h hQ (ddX9_told (143, .ireturn, 1) (List.mem_of_getElem? (i := 49) rfl))
theorem sX9_told_0 {l : Launch} {X : q_CX} (hl : X.2.1 = l) (hQ : q_QM X) (h : q_OK X yX9_told cX9_told 2 (some .int) rmX9_told (Cond.code yX9_told cX9_told 2 (some .int) :: q_G)) : q_SK X 2 0 (BX9_told_0) := by
  refine k_iload_n (i := 1) h (ddX9_told (0, .iload_n 1, 1) (List.mem_of_getElem? (i := 0) rfl)) rfl ?_
  refine k_sw h (dflt := 140) (hi := 11) (offs := #[63, 68, 73, 78, 83, 88, 93, 100, 118, 125, 130, 135]) (len := 63) (tgt := 141) (by decide +kernel) (by decide) (by decide) ⟨⟨63, 64, rfl, by decide, by exact sX9_told_64 hl hQ h⟩, ⟨⟨68, 69, rfl, by decide, by exact sX9_told_69 hl hQ h⟩, ⟨⟨73, 74, rfl, by decide, by exact sX9_told_74 hl hQ h⟩, ⟨⟨78, 79, rfl, by decide, by exact sX9_told_79 hl hQ h⟩, ⟨⟨83, 84, rfl, by decide, by exact sX9_told_84 hl hQ h⟩, ⟨⟨88, 89, rfl, by decide, by exact sX9_told_89 hl hQ h⟩, ⟨⟨93, 94, rfl, by decide, by exact sX9_told_94 hl hQ h⟩, ⟨⟨100, 101, rfl, by decide, by exact sX9_told_101 hl hQ h⟩, ⟨⟨118, 119, rfl, by decide, by exact sX9_told_119 hl hQ h⟩, ⟨⟨125, 126, rfl, by decide, by exact sX9_told_126 hl hQ h⟩, ⟨⟨130, 131, rfl, by decide, by exact sX9_told_131 hl hQ h⟩, ⟨⟨135, 136, rfl, by decide, by exact sX9_told_136 hl hQ h⟩, trivial⟩⟩⟩⟩⟩⟩⟩⟩⟩⟩⟩⟩ (by decide) ?_
  exact sX9_told_141 hl hQ h
theorem aX9_told (l : Launch) (as : List Value) (sh : q_Sh) (m : q_Mm) (R : q_KR) (hw : wX9_told as sh m R) : q_AM l yX9_told (Cond.code yX9_told cX9_told 2 (some .int) :: q_G) rmX9_told as sh m R := by
  refine q_met (code := TX9_told) (by decide) (fun X hl hQ _ h pc => ?_) hw.1 hw.2
  unfold TX9_told
  exact k_at (sX9_told_0 hl hQ h) (k_no)
/-! TumblingRockModel.turning(II)I -/
abbrev dlX9_turning : List (Nat × (Instr × Nat)) := [(0, .aload_n 0, 1), (1, .iload_n 1, 1), (2, .invokevirtual 192, 3), (5, .ifCond .ne 6, 3), (8, .ldc 196, 2), (10, .ireturn, 1), (11, .aload_n 0, 1), (12, .getfield 7, 3), (15, .iconst 4, 1), (16, .iaload, 1), (17, .aload_n 0, 1), (18, .getfield 7, 3), (21, .iload_n 1, 1), (22, .iaload, 1), (23, .iadd, 1), (24, .aload_n 0, 1), (25, .getfield 20, 3), (28, .iload_n 1, 1), (29, .iaload, 1), (30, .irem, 1), (31, .istore_n 3, 1), (32, .iload_n 2, 1), (33, .ifCond .ne 12, 3), (36, .aload_n 0, 1), (37, .getfield 20, 3), (40, .iload_n 1, 1), (41, .iaload, 1), (42, .goto 47, 3), (45, .iload_n 2, 1), (46, .iconst 1, 1), (47, .if_icmp .ne 12, 3), (50, .aload_n 0, 1), (51, .getfield 7, 3), (54, .iload_n 1, 1), (55, .iaload, 1), (56, .goto 33, 3), (59, .iload_n 2, 1), (60, .iconst 2, 1), (61, .if_icmp .ne 7, 3), (64, .iload_n 3, 1), (65, .goto 24, 3), (68, .iload_n 2, 1), (69, .iconst 3, 1), (70, .if_icmp .ne 17, 3), (73, .aload_n 0, 1), (74, .getfield 17, 3), (77, .bipush 12, 2), (79, .iload_n 1, 1), (80, .imul, 1), (81, .iload_n 3, 1), (82, .iadd, 1), (83, .iaload, 1), (84, .goto 5, 3), (87, .ldc 72, 2), (89, .ireturn, 1)]
theorem ddX9_turning : ∀ q ∈ dlX9_turning, decode cX9_turning q.1 = .ok q.2 := by decide +kernel
theorem sX9_turning_89 {l : Launch} {X : q_CX} (hl : X.2.1 = l) (hQ : q_QM X) (h : q_OK X yX9_turning cX9_turning 4 (some .int) rmX9_turning (Cond.code yX9_turning cX9_turning 4 (some .int) :: q_G)) : q_SK X 4 89 (BX9_turning_89) := by
  exact k_iret h hQ (ddX9_turning (89, .ireturn, 1) (List.mem_of_getElem? (i := 54) rfl))
theorem sX9_turning_87 {l : Launch} {X : q_CX} (hl : X.2.1 = l) (hQ : q_QM X) (h : q_OK X yX9_turning cX9_turning 4 (some .int) rmX9_turning (Cond.code yX9_turning cX9_turning 4 (some .int) :: q_G)) : q_SK X 4 87 (BX9_turning_87) := by
  refine k_ldc (v := (-1000000002)) h (ddX9_turning (87, .ldc 72, 2) (List.mem_of_getElem? (i := 53) rfl)) (List.mem_cons_of_mem _ gw609) ?_
  exact sX9_turning_89 hl hQ h
theorem sX9_turning_73 {l : Launch} {X : q_CX} (hl : X.2.1 = l) (hQ : q_QM X) (h : q_OK X yX9_turning cX9_turning 4 (some .int) rmX9_turning (Cond.code yX9_turning cX9_turning 4 (some .int) :: q_G)) : q_SK X 4 73 (BX9_turning_73) := by
  refine k_aload_n (i := 0) h (ddX9_turning (73, .aload_n 0, 1) (List.mem_of_getElem? (i := 44) rfl)) rfl ?_
  refine k_getf (ci := 9) (j := 2) (C := RX9) (T := TX9) (N := 33) h rfl (fun w hw => List.mem_cons_of_mem _ (q_inX9 w hw)) (by decide) (List.mem_cons_of_mem _ gw588) (ddX9_turning (74, .getfield 17, 3) (List.mem_of_getElem? (i := 45) rfl)) ?_
  refine k_bipush (v := 12) h (ddX9_turning (77, .bipush 12, 2) (List.mem_of_getElem? (i := 46) rfl)) (by decide) ?_
  refine k_iload_n (i := 1) h (ddX9_turning (79, .iload_n 1, 1) (List.mem_of_getElem? (i := 47) rfl)) rfl ?_
  refine k_imul h (ddX9_turning (80, .imul, 1) (List.mem_of_getElem? (i := 48) rfl)) ?_
  refine k_iload_n (i := 3) h (ddX9_turning (81, .iload_n 3, 1) (List.mem_of_getElem? (i := 49) rfl)) rfl ?_
  refine k_iadd h (ddX9_turning (82, .iadd, 1) (List.mem_of_getElem? (i := 50) rfl)) ?_
  refine k_iald h (ddX9_turning (83, .iaload, 1) (List.mem_of_getElem? (i := 51) rfl)) ?_
  refine k_goto h (ddX9_turning (84, .goto 5, 3) (List.mem_of_getElem? (i := 52) rfl)) (tgt := 89) (by decide) ?_
  exact sX9_turning_89 hl hQ h
theorem sX9_turning_68 {l : Launch} {X : q_CX} (hl : X.2.1 = l) (hQ : q_QM X) (h : q_OK X yX9_turning cX9_turning 4 (some .int) rmX9_turning (Cond.code yX9_turning cX9_turning 4 (some .int) :: q_G)) : q_SK X 4 68 (BX9_turning_68) := by
  refine k_iload_n (i := 2) h (ddX9_turning (68, .iload_n 2, 1) (List.mem_of_getElem? (i := 41) rfl)) rfl ?_
  refine k_iconst (v := 3) h (ddX9_turning (69, .iconst 3, 1) (List.mem_of_getElem? (i := 42) rfl)) (by decide) ?_
  refine k_icne h (ddX9_turning (70, .if_icmp .ne 17, 3) (List.mem_of_getElem? (i := 43) rfl)) (tgt := 87) (by decide) ?_ ?_
  · exact sX9_turning_87 hl hQ h
  · exact sX9_turning_73 hl hQ h
theorem sX9_turning_64 {l : Launch} {X : q_CX} (hl : X.2.1 = l) (hQ : q_QM X) (h : q_OK X yX9_turning cX9_turning 4 (some .int) rmX9_turning (Cond.code yX9_turning cX9_turning 4 (some .int) :: q_G)) : q_SK X 4 64 (BX9_turning_64) := by
  refine k_iload_n (i := 3) h (ddX9_turning (64, .iload_n 3, 1) (List.mem_of_getElem? (i := 39) rfl)) rfl ?_
  refine k_goto h (ddX9_turning (65, .goto 24, 3) (List.mem_of_getElem? (i := 40) rfl)) (tgt := 89) (by decide) ?_
  exact sX9_turning_89 hl hQ h
theorem sX9_turning_59 {l : Launch} {X : q_CX} (hl : X.2.1 = l) (hQ : q_QM X) (h : q_OK X yX9_turning cX9_turning 4 (some .int) rmX9_turning (Cond.code yX9_turning cX9_turning 4 (some .int) :: q_G)) : q_SK X 4 59 (BX9_turning_59) := by
  refine k_iload_n (i := 2) h (ddX9_turning (59, .iload_n 2, 1) (List.mem_of_getElem? (i := 36) rfl)) rfl ?_
  refine k_iconst (v := 2) h (ddX9_turning (60, .iconst 2, 1) (List.mem_of_getElem? (i := 37) rfl)) (by decide) ?_
  refine k_icne h (ddX9_turning (61, .if_icmp .ne 7, 3) (List.mem_of_getElem? (i := 38) rfl)) (tgt := 68) (by decide) ?_ ?_
  · exact sX9_turning_68 hl hQ h
  · exact sX9_turning_64 hl hQ h
theorem sX9_turning_50 {l : Launch} {X : q_CX} (hl : X.2.1 = l) (hQ : q_QM X) (h : q_OK X yX9_turning cX9_turning 4 (some .int) rmX9_turning (Cond.code yX9_turning cX9_turning 4 (some .int) :: q_G)) : q_SK X 4 50 (BX9_turning_50) := by
  refine k_aload_n (i := 0) h (ddX9_turning (50, .aload_n 0, 1) (List.mem_of_getElem? (i := 31) rfl)) rfl ?_
  refine k_getf (ci := 9) (j := 0) (C := RX9) (T := TX9) (N := 33) h rfl (fun w hw => List.mem_cons_of_mem _ (q_inX9 w hw)) (by decide) (List.mem_cons_of_mem _ gw586) (ddX9_turning (51, .getfield 7, 3) (List.mem_of_getElem? (i := 32) rfl)) ?_
  refine k_iload_n (i := 1) h (ddX9_turning (54, .iload_n 1, 1) (List.mem_of_getElem? (i := 33) rfl)) rfl ?_
  refine k_iald h (ddX9_turning (55, .iaload, 1) (List.mem_of_getElem? (i := 34) rfl)) ?_
  refine k_goto h (ddX9_turning (56, .goto 33, 3) (List.mem_of_getElem? (i := 35) rfl)) (tgt := 89) (by decide) ?_
  exact sX9_turning_89 hl hQ h
theorem sX9_turning_45 {l : Launch} {X : q_CX} (hl : X.2.1 = l) (hQ : q_QM X) (h : q_OK X yX9_turning cX9_turning 4 (some .int) rmX9_turning (Cond.code yX9_turning cX9_turning 4 (some .int) :: q_G)) : q_SK X 4 45 (BX9_turning_45) := by
  refine k_iload_n (i := 2) h (ddX9_turning (45, .iload_n 2, 1) (List.mem_of_getElem? (i := 28) rfl)) rfl ?_
  refine k_iconst (v := 1) h (ddX9_turning (46, .iconst 1, 1) (List.mem_of_getElem? (i := 29) rfl)) (by decide) ?_
  refine k_icne h (ddX9_turning (47, .if_icmp .ne 12, 3) (List.mem_of_getElem? (i := 30) rfl)) (tgt := 59) (by decide) ?_ ?_
  · exact sX9_turning_59 hl hQ h
  · exact sX9_turning_50 hl hQ h
theorem sX9_turning_36 {l : Launch} {X : q_CX} (hl : X.2.1 = l) (hQ : q_QM X) (h : q_OK X yX9_turning cX9_turning 4 (some .int) rmX9_turning (Cond.code yX9_turning cX9_turning 4 (some .int) :: q_G)) : q_SK X 4 36 (BX9_turning_36) := by
  refine k_aload_n (i := 0) h (ddX9_turning (36, .aload_n 0, 1) (List.mem_of_getElem? (i := 23) rfl)) rfl ?_
  refine k_getf (ci := 9) (j := 3) (C := RX9) (T := TX9) (N := 33) h rfl (fun w hw => List.mem_cons_of_mem _ (q_inX9 w hw)) (by decide) (List.mem_cons_of_mem _ gw589) (ddX9_turning (37, .getfield 20, 3) (List.mem_of_getElem? (i := 24) rfl)) ?_
  refine k_iload_n (i := 1) h (ddX9_turning (40, .iload_n 1, 1) (List.mem_of_getElem? (i := 25) rfl)) rfl ?_
  refine k_iald h (ddX9_turning (41, .iaload, 1) (List.mem_of_getElem? (i := 26) rfl)) ?_
  refine k_goto h (ddX9_turning (42, .goto 47, 3) (List.mem_of_getElem? (i := 27) rfl)) (tgt := 89) (by decide) ?_
  exact sX9_turning_89 hl hQ h
theorem sX9_turning_11 {l : Launch} {X : q_CX} (hl : X.2.1 = l) (hQ : q_QM X) (h : q_OK X yX9_turning cX9_turning 4 (some .int) rmX9_turning (Cond.code yX9_turning cX9_turning 4 (some .int) :: q_G)) : q_SK X 4 11 (BX9_turning_11) := by
  refine k_aload_n (i := 0) h (ddX9_turning (11, .aload_n 0, 1) (List.mem_of_getElem? (i := 6) rfl)) rfl ?_
  refine k_getf (ci := 9) (j := 0) (C := RX9) (T := TX9) (N := 33) h rfl (fun w hw => List.mem_cons_of_mem _ (q_inX9 w hw)) (by decide) (List.mem_cons_of_mem _ gw586) (ddX9_turning (12, .getfield 7, 3) (List.mem_of_getElem? (i := 7) rfl)) ?_
  refine k_iconst (v := 4) h (ddX9_turning (15, .iconst 4, 1) (List.mem_of_getElem? (i := 8) rfl)) (by decide) ?_
  refine k_iald h (ddX9_turning (16, .iaload, 1) (List.mem_of_getElem? (i := 9) rfl)) ?_
  refine k_aload_n (i := 0) h (ddX9_turning (17, .aload_n 0, 1) (List.mem_of_getElem? (i := 10) rfl)) rfl ?_
  refine k_getf (ci := 9) (j := 0) (C := RX9) (T := TX9) (N := 33) h rfl (fun w hw => List.mem_cons_of_mem _ (q_inX9 w hw)) (by decide) (List.mem_cons_of_mem _ gw586) (ddX9_turning (18, .getfield 7, 3) (List.mem_of_getElem? (i := 11) rfl)) ?_
  refine k_iload_n (i := 1) h (ddX9_turning (21, .iload_n 1, 1) (List.mem_of_getElem? (i := 12) rfl)) rfl ?_
  refine k_iald h (ddX9_turning (22, .iaload, 1) (List.mem_of_getElem? (i := 13) rfl)) ?_
  refine k_iadd h (ddX9_turning (23, .iadd, 1) (List.mem_of_getElem? (i := 14) rfl)) ?_
  refine k_aload_n (i := 0) h (ddX9_turning (24, .aload_n 0, 1) (List.mem_of_getElem? (i := 15) rfl)) rfl ?_
  refine k_getf (ci := 9) (j := 3) (C := RX9) (T := TX9) (N := 33) h rfl (fun w hw => List.mem_cons_of_mem _ (q_inX9 w hw)) (by decide) (List.mem_cons_of_mem _ gw589) (ddX9_turning (25, .getfield 20, 3) (List.mem_of_getElem? (i := 16) rfl)) ?_
  refine k_iload_n (i := 1) h (ddX9_turning (28, .iload_n 1, 1) (List.mem_of_getElem? (i := 17) rfl)) rfl ?_
  refine k_iald h (ddX9_turning (29, .iaload, 1) (List.mem_of_getElem? (i := 18) rfl)) ?_
  refine k_irem h (ddX9_turning (30, .irem, 1) (List.mem_of_getElem? (i := 19) rfl)) ?_
  refine k_istore_n (i := 3) h (ddX9_turning (31, .istore_n 3, 1) (List.mem_of_getElem? (i := 20) rfl)) rfl (by decide) ?_
  refine k_iload_n (i := 2) h (ddX9_turning (32, .iload_n 2, 1) (List.mem_of_getElem? (i := 21) rfl)) rfl ?_
  refine k_ifne h (ddX9_turning (33, .ifCond .ne 12, 3) (List.mem_of_getElem? (i := 22) rfl)) (tgt := 45) (by decide) ?_ ?_
  · exact sX9_turning_45 hl hQ h
  · exact sX9_turning_36 hl hQ h
theorem sX9_turning_8 {l : Launch} {X : q_CX} (hl : X.2.1 = l) (hQ : q_QM X) (h : q_OK X yX9_turning cX9_turning 4 (some .int) rmX9_turning (Cond.code yX9_turning cX9_turning 4 (some .int) :: q_G)) : q_SK X 4 8 (BX9_turning_8) := by
  refine k_ldc (v := (-1000000001)) h (ddX9_turning (8, .ldc 196, 2) (List.mem_of_getElem? (i := 4) rfl)) (List.mem_cons_of_mem _ gw706) ?_
  exact k_iret h hQ (ddX9_turning (10, .ireturn, 1) (List.mem_of_getElem? (i := 5) rfl))
theorem sX9_turning_0 {l : Launch} {X : q_CX} (hl : X.2.1 = l) (hQ : q_QM X) (h : q_OK X yX9_turning cX9_turning 4 (some .int) rmX9_turning (Cond.code yX9_turning cX9_turning 4 (some .int) :: q_G)) : q_SK X 4 0 (BX9_turning_0) := by
  refine k_aload_n (i := 0) h (ddX9_turning (0, .aload_n 0, 1) (List.mem_of_getElem? (i := 0) rfl)) rfl ?_
  refine k_iload_n (i := 1) h (ddX9_turning (1, .iload_n 1, 1) (List.mem_of_getElem? (i := 1) rfl)) rfl ?_
  refine k_callV h hl (aX9_isTurning l) (ci := 9) (C := RX9) (T := TX9) (N := 33) rfl ⟨rfl, rfl⟩ (n := 1) (by decide +kernel) (q_gV gw703 gw704 gw705 gw606 gw702) ⟨by decide, by decide⟩ (ddX9_turning (2, .invokevirtual 192, 3) (List.mem_of_getElem? (i := 2) rfl)) ?_
  refine k_ifne h (ddX9_turning (5, .ifCond .ne 6, 3) (List.mem_of_getElem? (i := 3) rfl)) (tgt := 11) (by decide) ?_ ?_
  · exact sX9_turning_11 hl hQ h
  · exact sX9_turning_8 hl hQ h
theorem aX9_turning (l : Launch) (as : List Value) (sh : q_Sh) (m : q_Mm) (R : q_KR) (hw : wX9_turning as sh m R) : q_AM l yX9_turning (Cond.code yX9_turning cX9_turning 4 (some .int) :: q_G) rmX9_turning as sh m R := by
  refine q_met (code := TX9_turning) (by decide) (fun X hl hQ _ h pc => ?_) hw.1 hw.2
  unfold TX9_turning
  exact k_at (sX9_turning_0 hl hQ h) (k_no)
/-! TumblingRockModel.litSteps(I)I -/
abbrev dlX9_litSteps : List (Nat × (Instr × Nat)) := [(0, .iconst 0, 1), (1, .istore_n 2, 1), (2, .iconst 0, 1), (3, .istore_n 3, 1), (4, .iload_n 3, 1), (5, .aload_n 0, 1), (6, .getfield 39, 3), (9, .if_icmp .ge 21, 3), (12, .iload_n 2, 1), (13, .aload_n 0, 1), (14, .iload_n 1, 1), (15, .iload_n 3, 1), (16, .invokevirtual 182, 3), (19, .invokestatic 185, 3), (22, .iadd, 1), (23, .istore_n 2, 1), (24, .iinc 3 1, 3), (27, .goto (-23), 3), (30, .iload_n 2, 1), (31, .ireturn, 1)]
theorem ddX9_litSteps : ∀ q ∈ dlX9_litSteps, decode cX9_litSteps q.1 = .ok q.2 := by decide +kernel
theorem sX9_litSteps_0 {l : Launch} {X : q_CX} (hl : X.2.1 = l) (hQ : q_QM X) (h : q_OK X yX9_litSteps cX9_litSteps 4 (some .int) rmX9_litSteps (Cond.code yX9_litSteps cX9_litSteps 4 (some .int) :: q_G)) : q_SK X 4 0 (BX9_litSteps_0) := by
  refine k_iconst (v := 0) h (ddX9_litSteps (0, .iconst 0, 1) (List.mem_of_getElem? (i := 0) rfl)) (by decide) ?_
  refine k_istore_n (i := 2) h (ddX9_litSteps (1, .istore_n 2, 1) (List.mem_of_getElem? (i := 1) rfl)) rfl (by decide) ?_
  refine k_iconst (v := 0) h (ddX9_litSteps (2, .iconst 0, 1) (List.mem_of_getElem? (i := 2) rfl)) (by decide) ?_
  refine k_istore_n (i := 3) h (ddX9_litSteps (3, .istore_n 3, 1) (List.mem_of_getElem? (i := 3) rfl)) rfl (by decide) ?_
  exact k_cut
theorem sX9_litSteps_30 {l : Launch} {X : q_CX} (hl : X.2.1 = l) (hQ : q_QM X) (h : q_OK X yX9_litSteps cX9_litSteps 4 (some .int) rmX9_litSteps (Cond.code yX9_litSteps cX9_litSteps 4 (some .int) :: q_G)) : q_SK X 4 30 (BX9_litSteps_30) := by
  refine k_iload_n (i := 2) h (ddX9_litSteps (30, .iload_n 2, 1) (List.mem_of_getElem? (i := 18) rfl)) rfl ?_
  exact k_iret h hQ (ddX9_litSteps (31, .ireturn, 1) (List.mem_of_getElem? (i := 19) rfl))
theorem sX9_litSteps_12 {l : Launch} {X : q_CX} (hl : X.2.1 = l) (hQ : q_QM X) (h : q_OK X yX9_litSteps cX9_litSteps 4 (some .int) rmX9_litSteps (Cond.code yX9_litSteps cX9_litSteps 4 (some .int) :: q_G)) : q_SK X 4 12 (BX9_litSteps_12) := by
  refine k_iload_n (i := 2) h (ddX9_litSteps (12, .iload_n 2, 1) (List.mem_of_getElem? (i := 8) rfl)) rfl ?_
  refine k_aload_n (i := 0) h (ddX9_litSteps (13, .aload_n 0, 1) (List.mem_of_getElem? (i := 9) rfl)) rfl ?_
  refine k_iload_n (i := 1) h (ddX9_litSteps (14, .iload_n 1, 1) (List.mem_of_getElem? (i := 10) rfl)) rfl ?_
  refine k_iload_n (i := 3) h (ddX9_litSteps (15, .iload_n 3, 1) (List.mem_of_getElem? (i := 11) rfl)) rfl ?_
  refine k_callV h hl (aX9_isLit l) (ci := 9) (C := RX9) (T := TX9) (N := 33) rfl ⟨rfl, rfl⟩ (n := 2) (by decide +kernel) (q_gV gw692 gw693 gw694 gw606 gw691) ⟨by decide, by decide⟩ (ddX9_litSteps (16, .invokevirtual 182, 3) (List.mem_of_getElem? (i := 12) rfl)) ?_
  refine k_callS h hl (aX9_one l) ⟨rfl, rfl⟩ (n := 1) (by decide +kernel) (q_gS gw697 gw696 gw606 gw695) ⟨by decide, by decide⟩ (ddX9_litSteps (19, .invokestatic 185, 3) (List.mem_of_getElem? (i := 13) rfl)) ?_
  refine k_iadd h (ddX9_litSteps (22, .iadd, 1) (List.mem_of_getElem? (i := 14) rfl)) ?_
  refine k_istore_n (i := 2) h (ddX9_litSteps (23, .istore_n 2, 1) (List.mem_of_getElem? (i := 15) rfl)) rfl (by decide) ?_
  refine k_iinc (d := 1) h (ddX9_litSteps (24, .iinc 3 1, 3) (List.mem_of_getElem? (i := 16) rfl)) (by decide) (by decide) ?_
  refine k_goto h (ddX9_litSteps (27, .goto (-23), 3) (List.mem_of_getElem? (i := 17) rfl)) (tgt := 4) (by decide) ?_
  exact k_cut
theorem sX9_litSteps_4 {l : Launch} {X : q_CX} (hl : X.2.1 = l) (hQ : q_QM X) (h : q_OK X yX9_litSteps cX9_litSteps 4 (some .int) rmX9_litSteps (Cond.code yX9_litSteps cX9_litSteps 4 (some .int) :: q_G)) : q_SK X 4 4 (BX9_litSteps_4) := by
  refine k_iload_n (i := 3) h (ddX9_litSteps (4, .iload_n 3, 1) (List.mem_of_getElem? (i := 4) rfl)) rfl ?_
  refine k_aload_n (i := 0) h (ddX9_litSteps (5, .aload_n 0, 1) (List.mem_of_getElem? (i := 5) rfl)) rfl ?_
  refine k_getf (ci := 9) (j := 22) (C := RX9) (T := TX9) (N := 33) h rfl (fun w hw => List.mem_cons_of_mem _ (q_inX9 w hw)) (by decide) (List.mem_cons_of_mem _ gw595) (ddX9_litSteps (6, .getfield 39, 3) (List.mem_of_getElem? (i := 6) rfl)) ?_
  refine k_icge h (ddX9_litSteps (9, .if_icmp .ge 21, 3) (List.mem_of_getElem? (i := 7) rfl)) (tgt := 30) (by decide) ?_ ?_
  · exact sX9_litSteps_30 hl hQ h
  · exact sX9_litSteps_12 hl hQ h
theorem aX9_litSteps (l : Launch) (as : List Value) (sh : q_Sh) (m : q_Mm) (R : q_KR) (hw : wX9_litSteps as sh m R) : q_AM l yX9_litSteps (Cond.code yX9_litSteps cX9_litSteps 4 (some .int) :: q_G) rmX9_litSteps as sh m R := by
  refine q_met (code := TX9_litSteps) (by decide) (fun X hl hQ _ h pc => ?_) hw.1 hw.2
  unfold TX9_litSteps
  exact k_at (sX9_litSteps_0 hl hQ h) (k_at (sX9_litSteps_4 hl hQ h) (k_no))
/-! TumblingRockModel.dark(I)I -/
abbrev dlX9_dark : List (Nat × (Instr × Nat)) := [(0, .iconst 0, 1), (1, .istore_n 2, 1), (2, .iconst 0, 1), (3, .istore_n 3, 1), (4, .iconst 0, 1), (5, .istore 4, 2), (7, .iload 4, 2), (9, .iconst 2, 1), (10, .aload_n 0, 1), (11, .getfield 39, 3), (14, .imul, 1), (15, .if_icmp .ge 38, 3), (18, .aload_n 0, 1), (19, .iload_n 1, 1), (20, .iload 4, 2), (22, .invokevirtual 182, 3), (25, .ifCond .eq 7, 3), (28, .iconst 0, 1), (29, .goto 6, 3), (32, .iload_n 3, 1), (33, .iconst 1, 1), (34, .iadd, 1), (35, .istore_n 3, 1), (36, .iload_n 3, 1), (37, .iload_n 2, 1), (38, .if_icmp .le 7, 3), (41, .iload_n 3, 1), (42, .goto 4, 3), (45, .iload_n 2, 1), (46, .istore_n 2, 1), (47, .iinc 4 1, 3), (50, .goto (-43), 3), (53, .iload_n 2, 1), (54, .aload_n 0, 1), (55, .getfield 39, 3), (58, .if_icmp .le 10, 3), (61, .aload_n 0, 1), (62, .getfield 39, 3), (65, .goto 4, 3), (68, .iload_n 2, 1), (69, .ireturn, 1)]
theorem ddX9_dark : ∀ q ∈ dlX9_dark, decode cX9_dark q.1 = .ok q.2 := by decide +kernel
theorem sX9_dark_0 {l : Launch} {X : q_CX} (hl : X.2.1 = l) (hQ : q_QM X) (h : q_OK X yX9_dark cX9_dark 5 (some .int) rmX9_dark (Cond.code yX9_dark cX9_dark 5 (some .int) :: q_G)) : q_SK X 5 0 (BX9_dark_0) := by
  refine k_iconst (v := 0) h (ddX9_dark (0, .iconst 0, 1) (List.mem_of_getElem? (i := 0) rfl)) (by decide) ?_
  refine k_istore_n (i := 2) h (ddX9_dark (1, .istore_n 2, 1) (List.mem_of_getElem? (i := 1) rfl)) rfl (by decide) ?_
  refine k_iconst (v := 0) h (ddX9_dark (2, .iconst 0, 1) (List.mem_of_getElem? (i := 2) rfl)) (by decide) ?_
  refine k_istore_n (i := 3) h (ddX9_dark (3, .istore_n 3, 1) (List.mem_of_getElem? (i := 3) rfl)) rfl (by decide) ?_
  refine k_iconst (v := 0) h (ddX9_dark (4, .iconst 0, 1) (List.mem_of_getElem? (i := 4) rfl)) (by decide) ?_
  refine k_istore (i := 4) h (ddX9_dark (5, .istore 4, 2) (List.mem_of_getElem? (i := 5) rfl)) (by decide) ?_
  exact k_cut
theorem sX9_dark_69 {l : Launch} {X : q_CX} (hl : X.2.1 = l) (hQ : q_QM X) (h : q_OK X yX9_dark cX9_dark 5 (some .int) rmX9_dark (Cond.code yX9_dark cX9_dark 5 (some .int) :: q_G)) : q_SK X 5 69 (BX9_dark_69) := by
  exact k_iret h hQ (ddX9_dark (69, .ireturn, 1) (List.mem_of_getElem? (i := 40) rfl))
theorem sX9_dark_68 {l : Launch} {X : q_CX} (hl : X.2.1 = l) (hQ : q_QM X) (h : q_OK X yX9_dark cX9_dark 5 (some .int) rmX9_dark (Cond.code yX9_dark cX9_dark 5 (some .int) :: q_G)) : q_SK X 5 68 (BX9_dark_68) := by
  refine k_iload_n (i := 2) h (ddX9_dark (68, .iload_n 2, 1) (List.mem_of_getElem? (i := 39) rfl)) rfl ?_
  exact sX9_dark_69 hl hQ h
theorem sX9_dark_61 {l : Launch} {X : q_CX} (hl : X.2.1 = l) (hQ : q_QM X) (h : q_OK X yX9_dark cX9_dark 5 (some .int) rmX9_dark (Cond.code yX9_dark cX9_dark 5 (some .int) :: q_G)) : q_SK X 5 61 (BX9_dark_61) := by
  refine k_aload_n (i := 0) h (ddX9_dark (61, .aload_n 0, 1) (List.mem_of_getElem? (i := 36) rfl)) rfl ?_
  refine k_getf (ci := 9) (j := 22) (C := RX9) (T := TX9) (N := 33) h rfl (fun w hw => List.mem_cons_of_mem _ (q_inX9 w hw)) (by decide) (List.mem_cons_of_mem _ gw595) (ddX9_dark (62, .getfield 39, 3) (List.mem_of_getElem? (i := 37) rfl)) ?_
  refine k_goto h (ddX9_dark (65, .goto 4, 3) (List.mem_of_getElem? (i := 38) rfl)) (tgt := 69) (by decide) ?_
  exact sX9_dark_69 hl hQ h
theorem sX9_dark_53 {l : Launch} {X : q_CX} (hl : X.2.1 = l) (hQ : q_QM X) (h : q_OK X yX9_dark cX9_dark 5 (some .int) rmX9_dark (Cond.code yX9_dark cX9_dark 5 (some .int) :: q_G)) : q_SK X 5 53 (BX9_dark_53) := by
  refine k_iload_n (i := 2) h (ddX9_dark (53, .iload_n 2, 1) (List.mem_of_getElem? (i := 32) rfl)) rfl ?_
  refine k_aload_n (i := 0) h (ddX9_dark (54, .aload_n 0, 1) (List.mem_of_getElem? (i := 33) rfl)) rfl ?_
  refine k_getf (ci := 9) (j := 22) (C := RX9) (T := TX9) (N := 33) h rfl (fun w hw => List.mem_cons_of_mem _ (q_inX9 w hw)) (by decide) (List.mem_cons_of_mem _ gw595) (ddX9_dark (55, .getfield 39, 3) (List.mem_of_getElem? (i := 34) rfl)) ?_
  refine k_icle h (ddX9_dark (58, .if_icmp .le 10, 3) (List.mem_of_getElem? (i := 35) rfl)) (tgt := 68) (by decide) ?_ ?_
  · exact sX9_dark_68 hl hQ h
  · exact sX9_dark_61 hl hQ h
theorem sX9_dark_46 {l : Launch} {X : q_CX} (hl : X.2.1 = l) (hQ : q_QM X) (h : q_OK X yX9_dark cX9_dark 5 (some .int) rmX9_dark (Cond.code yX9_dark cX9_dark 5 (some .int) :: q_G)) : q_SK X 5 46 (BX9_dark_46) := by
  refine k_istore_n (i := 2) h (ddX9_dark (46, .istore_n 2, 1) (List.mem_of_getElem? (i := 29) rfl)) rfl (by decide) ?_
  refine k_iinc (d := 1) h (ddX9_dark (47, .iinc 4 1, 3) (List.mem_of_getElem? (i := 30) rfl)) (by decide) (by decide) ?_
  refine k_goto h (ddX9_dark (50, .goto (-43), 3) (List.mem_of_getElem? (i := 31) rfl)) (tgt := 7) (by decide) ?_
  exact k_cut
theorem sX9_dark_45 {l : Launch} {X : q_CX} (hl : X.2.1 = l) (hQ : q_QM X) (h : q_OK X yX9_dark cX9_dark 5 (some .int) rmX9_dark (Cond.code yX9_dark cX9_dark 5 (some .int) :: q_G)) : q_SK X 5 45 (BX9_dark_45) := by
  refine k_iload_n (i := 2) h (ddX9_dark (45, .iload_n 2, 1) (List.mem_of_getElem? (i := 28) rfl)) rfl ?_
  exact sX9_dark_46 hl hQ h
theorem sX9_dark_41 {l : Launch} {X : q_CX} (hl : X.2.1 = l) (hQ : q_QM X) (h : q_OK X yX9_dark cX9_dark 5 (some .int) rmX9_dark (Cond.code yX9_dark cX9_dark 5 (some .int) :: q_G)) : q_SK X 5 41 (BX9_dark_41) := by
  refine k_iload_n (i := 3) h (ddX9_dark (41, .iload_n 3, 1) (List.mem_of_getElem? (i := 26) rfl)) rfl ?_
  refine k_goto h (ddX9_dark (42, .goto 4, 3) (List.mem_of_getElem? (i := 27) rfl)) (tgt := 46) (by decide) ?_
  exact sX9_dark_46 hl hQ h
theorem sX9_dark_35 {l : Launch} {X : q_CX} (hl : X.2.1 = l) (hQ : q_QM X) (h : q_OK X yX9_dark cX9_dark 5 (some .int) rmX9_dark (Cond.code yX9_dark cX9_dark 5 (some .int) :: q_G)) : q_SK X 5 35 (BX9_dark_35) := by
  refine k_istore_n (i := 3) h (ddX9_dark (35, .istore_n 3, 1) (List.mem_of_getElem? (i := 22) rfl)) rfl (by decide) ?_
  refine k_iload_n (i := 3) h (ddX9_dark (36, .iload_n 3, 1) (List.mem_of_getElem? (i := 23) rfl)) rfl ?_
  refine k_iload_n (i := 2) h (ddX9_dark (37, .iload_n 2, 1) (List.mem_of_getElem? (i := 24) rfl)) rfl ?_
  refine k_icle h (ddX9_dark (38, .if_icmp .le 7, 3) (List.mem_of_getElem? (i := 25) rfl)) (tgt := 45) (by decide) ?_ ?_
  · exact sX9_dark_45 hl hQ h
  · exact sX9_dark_41 hl hQ h
theorem sX9_dark_32 {l : Launch} {X : q_CX} (hl : X.2.1 = l) (hQ : q_QM X) (h : q_OK X yX9_dark cX9_dark 5 (some .int) rmX9_dark (Cond.code yX9_dark cX9_dark 5 (some .int) :: q_G)) : q_SK X 5 32 (BX9_dark_32) := by
  refine k_iload_n (i := 3) h (ddX9_dark (32, .iload_n 3, 1) (List.mem_of_getElem? (i := 19) rfl)) rfl ?_
  refine k_iconst (v := 1) h (ddX9_dark (33, .iconst 1, 1) (List.mem_of_getElem? (i := 20) rfl)) (by decide) ?_
  refine k_iadd h (ddX9_dark (34, .iadd, 1) (List.mem_of_getElem? (i := 21) rfl)) ?_
  exact sX9_dark_35 hl hQ h
theorem sX9_dark_28 {l : Launch} {X : q_CX} (hl : X.2.1 = l) (hQ : q_QM X) (h : q_OK X yX9_dark cX9_dark 5 (some .int) rmX9_dark (Cond.code yX9_dark cX9_dark 5 (some .int) :: q_G)) : q_SK X 5 28 (BX9_dark_28) := by
  refine k_iconst (v := 0) h (ddX9_dark (28, .iconst 0, 1) (List.mem_of_getElem? (i := 17) rfl)) (by decide) ?_
  refine k_goto h (ddX9_dark (29, .goto 6, 3) (List.mem_of_getElem? (i := 18) rfl)) (tgt := 35) (by decide) ?_
  exact sX9_dark_35 hl hQ h
theorem sX9_dark_18 {l : Launch} {X : q_CX} (hl : X.2.1 = l) (hQ : q_QM X) (h : q_OK X yX9_dark cX9_dark 5 (some .int) rmX9_dark (Cond.code yX9_dark cX9_dark 5 (some .int) :: q_G)) : q_SK X 5 18 (BX9_dark_18) := by
  refine k_aload_n (i := 0) h (ddX9_dark (18, .aload_n 0, 1) (List.mem_of_getElem? (i := 12) rfl)) rfl ?_
  refine k_iload_n (i := 1) h (ddX9_dark (19, .iload_n 1, 1) (List.mem_of_getElem? (i := 13) rfl)) rfl ?_
  refine k_iload (i := 4) h (ddX9_dark (20, .iload 4, 2) (List.mem_of_getElem? (i := 14) rfl)) ?_
  refine k_callV h hl (aX9_isLit l) (ci := 9) (C := RX9) (T := TX9) (N := 33) rfl ⟨rfl, rfl⟩ (n := 2) (by decide +kernel) (q_gV gw692 gw693 gw694 gw606 gw691) ⟨by decide, by decide⟩ (ddX9_dark (22, .invokevirtual 182, 3) (List.mem_of_getElem? (i := 15) rfl)) ?_
  refine k_ifeq h (ddX9_dark (25, .ifCond .eq 7, 3) (List.mem_of_getElem? (i := 16) rfl)) (tgt := 32) (by decide) ?_ ?_
  · exact sX9_dark_32 hl hQ h
  · exact sX9_dark_28 hl hQ h
theorem sX9_dark_7 {l : Launch} {X : q_CX} (hl : X.2.1 = l) (hQ : q_QM X) (h : q_OK X yX9_dark cX9_dark 5 (some .int) rmX9_dark (Cond.code yX9_dark cX9_dark 5 (some .int) :: q_G)) : q_SK X 5 7 (BX9_dark_7) := by
  refine k_iload (i := 4) h (ddX9_dark (7, .iload 4, 2) (List.mem_of_getElem? (i := 6) rfl)) ?_
  refine k_iconst (v := 2) h (ddX9_dark (9, .iconst 2, 1) (List.mem_of_getElem? (i := 7) rfl)) (by decide) ?_
  refine k_aload_n (i := 0) h (ddX9_dark (10, .aload_n 0, 1) (List.mem_of_getElem? (i := 8) rfl)) rfl ?_
  refine k_getf (ci := 9) (j := 22) (C := RX9) (T := TX9) (N := 33) h rfl (fun w hw => List.mem_cons_of_mem _ (q_inX9 w hw)) (by decide) (List.mem_cons_of_mem _ gw595) (ddX9_dark (11, .getfield 39, 3) (List.mem_of_getElem? (i := 9) rfl)) ?_
  refine k_imul h (ddX9_dark (14, .imul, 1) (List.mem_of_getElem? (i := 10) rfl)) ?_
  refine k_icge h (ddX9_dark (15, .if_icmp .ge 38, 3) (List.mem_of_getElem? (i := 11) rfl)) (tgt := 53) (by decide) ?_ ?_
  · exact sX9_dark_53 hl hQ h
  · exact sX9_dark_18 hl hQ h
theorem aX9_dark (l : Launch) (as : List Value) (sh : q_Sh) (m : q_Mm) (R : q_KR) (hw : wX9_dark as sh m R) : q_AM l yX9_dark (Cond.code yX9_dark cX9_dark 5 (some .int) :: q_G) rmX9_dark as sh m R := by
  refine q_met (code := TX9_dark) (by decide) (fun X hl hQ _ h pc => ?_) hw.1 hw.2
  unfold TX9_dark
  exact k_at (sX9_dark_0 hl hQ h) (k_at (sX9_dark_7 hl hQ h) (k_no))
/-! TumblingRockModel.place(II)I -/
abbrev dlX9_place : List (Nat × (Instr × Nat)) := [(0, .aload_n 0, 1), (1, .iload_n 1, 1), (2, .invokevirtual 197, 3), (5, .ifCond .ne 6, 3), (8, .ldc 196, 2), (10, .ireturn, 1), (11, .iload_n 2, 1), (12, .i2l, 1), (13, .lconst 0, 1), (14, .ldc2_w 200, 3), (17, .invokestatic 68, 3), (20, .ifCond .eq 16, 3), (23, .aload_n 0, 1), (24, .getfield 23, 3), (27, .iconst 3, 1), (28, .iload_n 1, 1), (29, .imul, 1), (30, .iload_n 2, 1), (31, .iadd, 1), (32, .iaload, 1), (33, .goto 45, 3), (36, .iload_n 2, 1), (37, .iconst 3, 1), (38, .if_icmp .ne 12, 3), (41, .aload_n 0, 1), (42, .getfield 26, 3), (45, .iload_n 1, 1), (46, .iaload, 1), (47, .goto 31, 3), (50, .iload_n 2, 1), (51, .iconst 4, 1), (52, .if_icmp .ne 11, 3), (55, .aload_n 0, 1), (56, .iload_n 1, 1), (57, .invokevirtual 202, 3), (60, .goto 18, 3), (63, .iload_n 2, 1), (64, .iconst 5, 1), (65, .if_icmp .ne 11, 3), (68, .aload_n 0, 1), (69, .iload_n 1, 1), (70, .invokevirtual 206, 3), (73, .goto 5, 3), (76, .ldc 72, 2), (78, .ireturn, 1)]
theorem ddX9_place : ∀ q ∈ dlX9_place, decode cX9_place q.1 = .ok q.2 := by decide +kernel
theorem sX9_place_78 {l : Launch} {X : q_CX} (hl : X.2.1 = l) (hQ : q_QM X) (h : q_OK X yX9_place cX9_place 3 (some .int) rmX9_place (Cond.code yX9_place cX9_place 3 (some .int) :: q_G)) : q_SK X 3 78 (BX9_place_78) := by
  exact k_iret h hQ (ddX9_place (78, .ireturn, 1) (List.mem_of_getElem? (i := 44) rfl))
theorem sX9_place_76 {l : Launch} {X : q_CX} (hl : X.2.1 = l) (hQ : q_QM X) (h : q_OK X yX9_place cX9_place 3 (some .int) rmX9_place (Cond.code yX9_place cX9_place 3 (some .int) :: q_G)) : q_SK X 3 76 (BX9_place_76) := by
  refine k_ldc (v := (-1000000002)) h (ddX9_place (76, .ldc 72, 2) (List.mem_of_getElem? (i := 43) rfl)) (List.mem_cons_of_mem _ gw609) ?_
  exact sX9_place_78 hl hQ h
theorem sX9_place_68 {l : Launch} {X : q_CX} (hl : X.2.1 = l) (hQ : q_QM X) (h : q_OK X yX9_place cX9_place 3 (some .int) rmX9_place (Cond.code yX9_place cX9_place 3 (some .int) :: q_G)) : q_SK X 3 68 (BX9_place_68) := by
  refine k_aload_n (i := 0) h (ddX9_place (68, .aload_n 0, 1) (List.mem_of_getElem? (i := 39) rfl)) rfl ?_
  refine k_iload_n (i := 1) h (ddX9_place (69, .iload_n 1, 1) (List.mem_of_getElem? (i := 40) rfl)) rfl ?_
  refine k_callV h hl (aX9_litSteps l) (ci := 9) (C := RX9) (T := TX9) (N := 33) rfl ⟨rfl, rfl⟩ (n := 1) (by decide +kernel) (q_gV gw717 gw718 gw719 gw606 gw716) ⟨by decide, by decide⟩ (ddX9_place (70, .invokevirtual 206, 3) (List.mem_of_getElem? (i := 41) rfl)) ?_
  refine k_goto h (ddX9_place (73, .goto 5, 3) (List.mem_of_getElem? (i := 42) rfl)) (tgt := 78) (by decide) ?_
  exact sX9_place_78 hl hQ h
theorem sX9_place_63 {l : Launch} {X : q_CX} (hl : X.2.1 = l) (hQ : q_QM X) (h : q_OK X yX9_place cX9_place 3 (some .int) rmX9_place (Cond.code yX9_place cX9_place 3 (some .int) :: q_G)) : q_SK X 3 63 (BX9_place_63) := by
  refine k_iload_n (i := 2) h (ddX9_place (63, .iload_n 2, 1) (List.mem_of_getElem? (i := 36) rfl)) rfl ?_
  refine k_iconst (v := 5) h (ddX9_place (64, .iconst 5, 1) (List.mem_of_getElem? (i := 37) rfl)) (by decide) ?_
  refine k_icne h (ddX9_place (65, .if_icmp .ne 11, 3) (List.mem_of_getElem? (i := 38) rfl)) (tgt := 76) (by decide) ?_ ?_
  · exact sX9_place_76 hl hQ h
  · exact sX9_place_68 hl hQ h
theorem sX9_place_55 {l : Launch} {X : q_CX} (hl : X.2.1 = l) (hQ : q_QM X) (h : q_OK X yX9_place cX9_place 3 (some .int) rmX9_place (Cond.code yX9_place cX9_place 3 (some .int) :: q_G)) : q_SK X 3 55 (BX9_place_55) := by
  refine k_aload_n (i := 0) h (ddX9_place (55, .aload_n 0, 1) (List.mem_of_getElem? (i := 32) rfl)) rfl ?_
  refine k_iload_n (i := 1) h (ddX9_place (56, .iload_n 1, 1) (List.mem_of_getElem? (i := 33) rfl)) rfl ?_
  refine k_callV h hl (aX9_dark l) (ci := 9) (C := RX9) (T := TX9) (N := 33) rfl ⟨rfl, rfl⟩ (n := 1) (by decide +kernel) (q_gV gw713 gw714 gw715 gw606 gw712) ⟨by decide, by decide⟩ (ddX9_place (57, .invokevirtual 202, 3) (List.mem_of_getElem? (i := 34) rfl)) ?_
  refine k_goto h (ddX9_place (60, .goto 18, 3) (List.mem_of_getElem? (i := 35) rfl)) (tgt := 78) (by decide) ?_
  exact sX9_place_78 hl hQ h
theorem sX9_place_50 {l : Launch} {X : q_CX} (hl : X.2.1 = l) (hQ : q_QM X) (h : q_OK X yX9_place cX9_place 3 (some .int) rmX9_place (Cond.code yX9_place cX9_place 3 (some .int) :: q_G)) : q_SK X 3 50 (BX9_place_50) := by
  refine k_iload_n (i := 2) h (ddX9_place (50, .iload_n 2, 1) (List.mem_of_getElem? (i := 29) rfl)) rfl ?_
  refine k_iconst (v := 4) h (ddX9_place (51, .iconst 4, 1) (List.mem_of_getElem? (i := 30) rfl)) (by decide) ?_
  refine k_icne h (ddX9_place (52, .if_icmp .ne 11, 3) (List.mem_of_getElem? (i := 31) rfl)) (tgt := 63) (by decide) ?_ ?_
  · exact sX9_place_63 hl hQ h
  · exact sX9_place_55 hl hQ h
theorem sX9_place_41 {l : Launch} {X : q_CX} (hl : X.2.1 = l) (hQ : q_QM X) (h : q_OK X yX9_place cX9_place 3 (some .int) rmX9_place (Cond.code yX9_place cX9_place 3 (some .int) :: q_G)) : q_SK X 3 41 (BX9_place_41) := by
  refine k_aload_n (i := 0) h (ddX9_place (41, .aload_n 0, 1) (List.mem_of_getElem? (i := 24) rfl)) rfl ?_
  refine k_getf (ci := 9) (j := 5) (C := RX9) (T := TX9) (N := 33) h rfl (fun w hw => List.mem_cons_of_mem _ (q_inX9 w hw)) (by decide) (List.mem_cons_of_mem _ gw591) (ddX9_place (42, .getfield 26, 3) (List.mem_of_getElem? (i := 25) rfl)) ?_
  refine k_iload_n (i := 1) h (ddX9_place (45, .iload_n 1, 1) (List.mem_of_getElem? (i := 26) rfl)) rfl ?_
  refine k_iald h (ddX9_place (46, .iaload, 1) (List.mem_of_getElem? (i := 27) rfl)) ?_
  refine k_goto h (ddX9_place (47, .goto 31, 3) (List.mem_of_getElem? (i := 28) rfl)) (tgt := 78) (by decide) ?_
  exact sX9_place_78 hl hQ h
theorem sX9_place_36 {l : Launch} {X : q_CX} (hl : X.2.1 = l) (hQ : q_QM X) (h : q_OK X yX9_place cX9_place 3 (some .int) rmX9_place (Cond.code yX9_place cX9_place 3 (some .int) :: q_G)) : q_SK X 3 36 (BX9_place_36) := by
  refine k_iload_n (i := 2) h (ddX9_place (36, .iload_n 2, 1) (List.mem_of_getElem? (i := 21) rfl)) rfl ?_
  refine k_iconst (v := 3) h (ddX9_place (37, .iconst 3, 1) (List.mem_of_getElem? (i := 22) rfl)) (by decide) ?_
  refine k_icne h (ddX9_place (38, .if_icmp .ne 12, 3) (List.mem_of_getElem? (i := 23) rfl)) (tgt := 50) (by decide) ?_ ?_
  · exact sX9_place_50 hl hQ h
  · exact sX9_place_41 hl hQ h
theorem sX9_place_23 {l : Launch} {X : q_CX} (hl : X.2.1 = l) (hQ : q_QM X) (h : q_OK X yX9_place cX9_place 3 (some .int) rmX9_place (Cond.code yX9_place cX9_place 3 (some .int) :: q_G)) : q_SK X 3 23 (BX9_place_23) := by
  refine k_aload_n (i := 0) h (ddX9_place (23, .aload_n 0, 1) (List.mem_of_getElem? (i := 12) rfl)) rfl ?_
  refine k_getf (ci := 9) (j := 4) (C := RX9) (T := TX9) (N := 33) h rfl (fun w hw => List.mem_cons_of_mem _ (q_inX9 w hw)) (by decide) (List.mem_cons_of_mem _ gw590) (ddX9_place (24, .getfield 23, 3) (List.mem_of_getElem? (i := 13) rfl)) ?_
  refine k_iconst (v := 3) h (ddX9_place (27, .iconst 3, 1) (List.mem_of_getElem? (i := 14) rfl)) (by decide) ?_
  refine k_iload_n (i := 1) h (ddX9_place (28, .iload_n 1, 1) (List.mem_of_getElem? (i := 15) rfl)) rfl ?_
  refine k_imul h (ddX9_place (29, .imul, 1) (List.mem_of_getElem? (i := 16) rfl)) ?_
  refine k_iload_n (i := 2) h (ddX9_place (30, .iload_n 2, 1) (List.mem_of_getElem? (i := 17) rfl)) rfl ?_
  refine k_iadd h (ddX9_place (31, .iadd, 1) (List.mem_of_getElem? (i := 18) rfl)) ?_
  refine k_iald h (ddX9_place (32, .iaload, 1) (List.mem_of_getElem? (i := 19) rfl)) ?_
  refine k_goto h (ddX9_place (33, .goto 45, 3) (List.mem_of_getElem? (i := 20) rfl)) (tgt := 78) (by decide) ?_
  exact sX9_place_78 hl hQ h
theorem sX9_place_11 {l : Launch} {X : q_CX} (hl : X.2.1 = l) (hQ : q_QM X) (h : q_OK X yX9_place cX9_place 3 (some .int) rmX9_place (Cond.code yX9_place cX9_place 3 (some .int) :: q_G)) : q_SK X 3 11 (BX9_place_11) := by
  refine k_iload_n (i := 2) h (ddX9_place (11, .iload_n 2, 1) (List.mem_of_getElem? (i := 6) rfl)) rfl ?_
  refine k_i2l h (ddX9_place (12, .i2l, 1) (List.mem_of_getElem? (i := 7) rfl)) ?_
  refine k_lconst (v := 0) h (ddX9_place (13, .lconst 0, 1) (List.mem_of_getElem? (i := 8) rfl)) (by decide) ?_
  refine k_ldc2 (v := 2) h (ddX9_place (14, .ldc2_w 200, 3) (List.mem_of_getElem? (i := 9) rfl)) (List.mem_cons_of_mem _ gw711) ?_
  refine k_callS h hl (aX9_in l) ⟨rfl, rfl⟩ (n := 3) (by decide +kernel) (q_gS gw608 gw607 gw606 gw605) ⟨by decide, by decide⟩ (ddX9_place (17, .invokestatic 68, 3) (List.mem_of_getElem? (i := 10) rfl)) ?_
  refine k_ifeq h (ddX9_place (20, .ifCond .eq 16, 3) (List.mem_of_getElem? (i := 11) rfl)) (tgt := 36) (by decide) ?_ ?_
  · exact sX9_place_36 hl hQ h
  · exact sX9_place_23 hl hQ h
theorem sX9_place_8 {l : Launch} {X : q_CX} (hl : X.2.1 = l) (hQ : q_QM X) (h : q_OK X yX9_place cX9_place 3 (some .int) rmX9_place (Cond.code yX9_place cX9_place 3 (some .int) :: q_G)) : q_SK X 3 8 (BX9_place_8) := by
  refine k_ldc (v := (-1000000001)) h (ddX9_place (8, .ldc 196, 2) (List.mem_of_getElem? (i := 4) rfl)) (List.mem_cons_of_mem _ gw706) ?_
  exact k_iret h hQ (ddX9_place (10, .ireturn, 1) (List.mem_of_getElem? (i := 5) rfl))
theorem sX9_place_0 {l : Launch} {X : q_CX} (hl : X.2.1 = l) (hQ : q_QM X) (h : q_OK X yX9_place cX9_place 3 (some .int) rmX9_place (Cond.code yX9_place cX9_place 3 (some .int) :: q_G)) : q_SK X 3 0 (BX9_place_0) := by
  refine k_aload_n (i := 0) h (ddX9_place (0, .aload_n 0, 1) (List.mem_of_getElem? (i := 0) rfl)) rfl ?_
  refine k_iload_n (i := 1) h (ddX9_place (1, .iload_n 1, 1) (List.mem_of_getElem? (i := 1) rfl)) rfl ?_
  refine k_callV h hl (aX9_isPlace l) (ci := 9) (C := RX9) (T := TX9) (N := 33) rfl ⟨rfl, rfl⟩ (n := 1) (by decide +kernel) (q_gV gw708 gw709 gw710 gw606 gw707) ⟨by decide, by decide⟩ (ddX9_place (2, .invokevirtual 197, 3) (List.mem_of_getElem? (i := 2) rfl)) ?_
  refine k_ifne h (ddX9_place (5, .ifCond .ne 6, 3) (List.mem_of_getElem? (i := 3) rfl)) (tgt := 11) (by decide) ?_ ?_
  · exact sX9_place_11 hl hQ h
  · exact sX9_place_8 hl hQ h
theorem aX9_place (l : Launch) (as : List Value) (sh : q_Sh) (m : q_Mm) (R : q_KR) (hw : wX9_place as sh m R) : q_AM l yX9_place (Cond.code yX9_place cX9_place 3 (some .int) :: q_G) rmX9_place as sh m R := by
  refine q_met (code := TX9_place) (by decide) (fun X hl hQ _ h pc => ?_) hw.1 hw.2
  unfold TX9_place
  exact k_at (sX9_place_0 hl hQ h) (k_no)
/-! TumblingRockModel.height(II)I -/
abbrev dlX9_height : List (Nat × (Instr × Nat)) := [(0, .aload_n 0, 1), (1, .iload_n 1, 1), (2, .invokevirtual 197, 3), (5, .ifCond .ne 8, 3), (8, .ldc 196, 2), (10, .goto 21, 3), (13, .iload_n 2, 1), (14, .invokestatic 209, 3), (17, .ifCond .eq 12, 3), (20, .aload_n 0, 1), (21, .iload_n 1, 1), (22, .iload_n 2, 1), (23, .invokevirtual 179, 3), (26, .goto 5, 3), (29, .ldc 72, 2), (31, .ireturn, 1)]
theorem ddX9_height : ∀ q ∈ dlX9_height, decode cX9_height q.1 = .ok q.2 := by decide +kernel
theorem sX9_height_31 {l : Launch} {X : q_CX} (hl : X.2.1 = l) (hQ : q_QM X) (h : q_OK X yX9_height cX9_height 3 (some .int) rmX9_height (Cond.code yX9_height cX9_height 3 (some .int) :: q_G)) : q_SK X 3 31 (BX9_height_31) := by
  exact k_iret h hQ (ddX9_height (31, .ireturn, 1) (List.mem_of_getElem? (i := 15) rfl))
theorem sX9_height_29 {l : Launch} {X : q_CX} (hl : X.2.1 = l) (hQ : q_QM X) (h : q_OK X yX9_height cX9_height 3 (some .int) rmX9_height (Cond.code yX9_height cX9_height 3 (some .int) :: q_G)) : q_SK X 3 29 (BX9_height_29) := by
  refine k_ldc (v := (-1000000002)) h (ddX9_height (29, .ldc 72, 2) (List.mem_of_getElem? (i := 14) rfl)) (List.mem_cons_of_mem _ gw609) ?_
  exact sX9_height_31 hl hQ h
theorem sX9_height_20 {l : Launch} {X : q_CX} (hl : X.2.1 = l) (hQ : q_QM X) (h : q_OK X yX9_height cX9_height 3 (some .int) rmX9_height (Cond.code yX9_height cX9_height 3 (some .int) :: q_G)) : q_SK X 3 20 (BX9_height_20) := by
  refine k_aload_n (i := 0) h (ddX9_height (20, .aload_n 0, 1) (List.mem_of_getElem? (i := 9) rfl)) rfl ?_
  refine k_iload_n (i := 1) h (ddX9_height (21, .iload_n 1, 1) (List.mem_of_getElem? (i := 10) rfl)) rfl ?_
  refine k_iload_n (i := 2) h (ddX9_height (22, .iload_n 2, 1) (List.mem_of_getElem? (i := 11) rfl)) rfl ?_
  refine k_callV h hl (aX9_heightNow l) (ci := 9) (C := RX9) (T := TX9) (N := 33) rfl ⟨rfl, rfl⟩ (n := 2) (by decide +kernel) (q_gV gw688 gw689 gw690 gw606 gw687) ⟨by decide, by decide⟩ (ddX9_height (23, .invokevirtual 179, 3) (List.mem_of_getElem? (i := 12) rfl)) ?_
  refine k_goto h (ddX9_height (26, .goto 5, 3) (List.mem_of_getElem? (i := 13) rfl)) (tgt := 31) (by decide) ?_
  exact sX9_height_31 hl hQ h
theorem sX9_height_13 {l : Launch} {X : q_CX} (hl : X.2.1 = l) (hQ : q_QM X) (h : q_OK X yX9_height cX9_height 3 (some .int) rmX9_height (Cond.code yX9_height cX9_height 3 (some .int) :: q_G)) : q_SK X 3 13 (BX9_height_13) := by
  refine k_iload_n (i := 2) h (ddX9_height (13, .iload_n 2, 1) (List.mem_of_getElem? (i := 6) rfl)) rfl ?_
  refine k_callS h hl (aX9_isStep l) ⟨rfl, rfl⟩ (n := 1) (by decide +kernel) (q_gS gw722 gw721 gw606 gw720) ⟨by decide, by decide⟩ (ddX9_height (14, .invokestatic 209, 3) (List.mem_of_getElem? (i := 7) rfl)) ?_
  refine k_ifeq h (ddX9_height (17, .ifCond .eq 12, 3) (List.mem_of_getElem? (i := 8) rfl)) (tgt := 29) (by decide) ?_ ?_
  · exact sX9_height_29 hl hQ h
  · exact sX9_height_20 hl hQ h
theorem sX9_height_8 {l : Launch} {X : q_CX} (hl : X.2.1 = l) (hQ : q_QM X) (h : q_OK X yX9_height cX9_height 3 (some .int) rmX9_height (Cond.code yX9_height cX9_height 3 (some .int) :: q_G)) : q_SK X 3 8 (BX9_height_8) := by
  refine k_ldc (v := (-1000000001)) h (ddX9_height (8, .ldc 196, 2) (List.mem_of_getElem? (i := 4) rfl)) (List.mem_cons_of_mem _ gw706) ?_
  refine k_goto h (ddX9_height (10, .goto 21, 3) (List.mem_of_getElem? (i := 5) rfl)) (tgt := 31) (by decide) ?_
  exact sX9_height_31 hl hQ h
theorem sX9_height_0 {l : Launch} {X : q_CX} (hl : X.2.1 = l) (hQ : q_QM X) (h : q_OK X yX9_height cX9_height 3 (some .int) rmX9_height (Cond.code yX9_height cX9_height 3 (some .int) :: q_G)) : q_SK X 3 0 (BX9_height_0) := by
  refine k_aload_n (i := 0) h (ddX9_height (0, .aload_n 0, 1) (List.mem_of_getElem? (i := 0) rfl)) rfl ?_
  refine k_iload_n (i := 1) h (ddX9_height (1, .iload_n 1, 1) (List.mem_of_getElem? (i := 1) rfl)) rfl ?_
  refine k_callV h hl (aX9_isPlace l) (ci := 9) (C := RX9) (T := TX9) (N := 33) rfl ⟨rfl, rfl⟩ (n := 1) (by decide +kernel) (q_gV gw708 gw709 gw710 gw606 gw707) ⟨by decide, by decide⟩ (ddX9_height (2, .invokevirtual 197, 3) (List.mem_of_getElem? (i := 2) rfl)) ?_
  refine k_ifne h (ddX9_height (5, .ifCond .ne 8, 3) (List.mem_of_getElem? (i := 3) rfl)) (tgt := 13) (by decide) ?_ ?_
  · exact sX9_height_13 hl hQ h
  · exact sX9_height_8 hl hQ h
theorem aX9_height (l : Launch) (as : List Value) (sh : q_Sh) (m : q_Mm) (R : q_KR) (hw : wX9_height as sh m R) : q_AM l yX9_height (Cond.code yX9_height cX9_height 3 (some .int) :: q_G) rmX9_height as sh m R := by
  refine q_met (code := TX9_height) (by decide) (fun X hl hQ _ h pc => ?_) hw.1 hw.2
  unfold TX9_height
  exact k_at (sX9_height_0 hl hQ h) (k_no)
/-! TumblingRockModel.pass(I)I -/
abbrev dlX9_pass : List (Nat × (Instr × Nat)) := [(0, .aload_n 0, 1), (1, .getfield 7, 3), (4, .iconst 3, 1), (5, .iload_n 1, 1), (6, .iastore, 1), (7, .aload_n 0, 1), (8, .getfield 7, 3), (11, .iconst 4, 1), (12, .dup2, 1), (13, .iaload, 1), (14, .iconst 1, 1), (15, .iadd, 1), (16, .iastore, 1), (17, .aload_n 0, 1), (18, .iload_n 1, 1), (19, .aload_n 0, 1), (20, .getfield 7, 3), (23, .iconst 4, 1), (24, .iaload, 1), (25, .invokevirtual 182, 3), (28, .invokestatic 185, 3), (31, .istore_n 2, 1), (32, .aload_n 0, 1), (33, .getfield 7, 3), (36, .iconst 5, 1), (37, .dup2, 1), (38, .iaload, 1), (39, .iload_n 2, 1), (40, .iadd, 1), (41, .iastore, 1), (42, .iload_n 2, 1), (43, .ireturn, 1)]
theorem ddX9_pass : ∀ q ∈ dlX9_pass, decode cX9_pass q.1 = .ok q.2 := by decide +kernel
theorem sX9_pass_0 {l : Launch} {X : q_CX} (hl : X.2.1 = l) (hQ : q_QM X) (h : q_OK X yX9_pass cX9_pass 3 (some .int) rmX9_pass (Cond.code yX9_pass cX9_pass 3 (some .int) :: q_G)) : q_SK X 3 0 (BX9_pass_0) := by
  refine k_aload_n (i := 0) h (ddX9_pass (0, .aload_n 0, 1) (List.mem_of_getElem? (i := 0) rfl)) rfl ?_
  refine k_getf (ci := 9) (j := 0) (C := RX9) (T := TX9) (N := 33) h rfl (fun w hw => List.mem_cons_of_mem _ (q_inX9 w hw)) (by decide) (List.mem_cons_of_mem _ gw586) (ddX9_pass (1, .getfield 7, 3) (List.mem_of_getElem? (i := 1) rfl)) ?_
  refine k_iconst (v := 3) h (ddX9_pass (4, .iconst 3, 1) (List.mem_of_getElem? (i := 2) rfl)) (by decide) ?_
  refine k_iload_n (i := 1) h (ddX9_pass (5, .iload_n 1, 1) (List.mem_of_getElem? (i := 3) rfl)) rfl ?_
  refine k_iast h (ddX9_pass (6, .iastore, 1) (List.mem_of_getElem? (i := 4) rfl)) ?_
  refine k_aload_n (i := 0) h (ddX9_pass (7, .aload_n 0, 1) (List.mem_of_getElem? (i := 5) rfl)) rfl ?_
  refine k_getf (ci := 9) (j := 0) (C := RX9) (T := TX9) (N := 33) h rfl (fun w hw => List.mem_cons_of_mem _ (q_inX9 w hw)) (by decide) (List.mem_cons_of_mem _ gw586) (ddX9_pass (8, .getfield 7, 3) (List.mem_of_getElem? (i := 6) rfl)) ?_
  refine k_iconst (v := 4) h (ddX9_pass (11, .iconst 4, 1) (List.mem_of_getElem? (i := 7) rfl)) (by decide) ?_
  refine k_dup2 h (ddX9_pass (12, .dup2, 1) (List.mem_of_getElem? (i := 8) rfl)) ?_
  refine k_iald h (ddX9_pass (13, .iaload, 1) (List.mem_of_getElem? (i := 9) rfl)) ?_
  refine k_iconst (v := 1) h (ddX9_pass (14, .iconst 1, 1) (List.mem_of_getElem? (i := 10) rfl)) (by decide) ?_
  refine k_iadd h (ddX9_pass (15, .iadd, 1) (List.mem_of_getElem? (i := 11) rfl)) ?_
  refine k_iast h (ddX9_pass (16, .iastore, 1) (List.mem_of_getElem? (i := 12) rfl)) ?_
  refine k_aload_n (i := 0) h (ddX9_pass (17, .aload_n 0, 1) (List.mem_of_getElem? (i := 13) rfl)) rfl ?_
  refine k_iload_n (i := 1) h (ddX9_pass (18, .iload_n 1, 1) (List.mem_of_getElem? (i := 14) rfl)) rfl ?_
  refine k_aload_n (i := 0) h (ddX9_pass (19, .aload_n 0, 1) (List.mem_of_getElem? (i := 15) rfl)) rfl ?_
  refine k_getf (ci := 9) (j := 0) (C := RX9) (T := TX9) (N := 33) h rfl (fun w hw => List.mem_cons_of_mem _ (q_inX9 w hw)) (by decide) (List.mem_cons_of_mem _ gw586) (ddX9_pass (20, .getfield 7, 3) (List.mem_of_getElem? (i := 16) rfl)) ?_
  refine k_iconst (v := 4) h (ddX9_pass (23, .iconst 4, 1) (List.mem_of_getElem? (i := 17) rfl)) (by decide) ?_
  refine k_iald h (ddX9_pass (24, .iaload, 1) (List.mem_of_getElem? (i := 18) rfl)) ?_
  refine k_callV h hl (aX9_isLit l) (ci := 9) (C := RX9) (T := TX9) (N := 33) rfl ⟨rfl, rfl⟩ (n := 2) (by decide +kernel) (q_gV gw692 gw693 gw694 gw606 gw691) ⟨by decide, by decide⟩ (ddX9_pass (25, .invokevirtual 182, 3) (List.mem_of_getElem? (i := 19) rfl)) ?_
  refine k_callS h hl (aX9_one l) ⟨rfl, rfl⟩ (n := 1) (by decide +kernel) (q_gS gw697 gw696 gw606 gw695) ⟨by decide, by decide⟩ (ddX9_pass (28, .invokestatic 185, 3) (List.mem_of_getElem? (i := 20) rfl)) ?_
  refine k_istore_n (i := 2) h (ddX9_pass (31, .istore_n 2, 1) (List.mem_of_getElem? (i := 21) rfl)) rfl (by decide) ?_
  refine k_aload_n (i := 0) h (ddX9_pass (32, .aload_n 0, 1) (List.mem_of_getElem? (i := 22) rfl)) rfl ?_
  refine k_getf (ci := 9) (j := 0) (C := RX9) (T := TX9) (N := 33) h rfl (fun w hw => List.mem_cons_of_mem _ (q_inX9 w hw)) (by decide) (List.mem_cons_of_mem _ gw586) (ddX9_pass (33, .getfield 7, 3) (List.mem_of_getElem? (i := 23) rfl)) ?_
  refine k_iconst (v := 5) h (ddX9_pass (36, .iconst 5, 1) (List.mem_of_getElem? (i := 24) rfl)) (by decide) ?_
  refine k_dup2 h (ddX9_pass (37, .dup2, 1) (List.mem_of_getElem? (i := 25) rfl)) ?_
  refine k_iald h (ddX9_pass (38, .iaload, 1) (List.mem_of_getElem? (i := 26) rfl)) ?_
  refine k_iload_n (i := 2) h (ddX9_pass (39, .iload_n 2, 1) (List.mem_of_getElem? (i := 27) rfl)) rfl ?_
  refine k_iadd h (ddX9_pass (40, .iadd, 1) (List.mem_of_getElem? (i := 28) rfl)) ?_
  refine k_iast h (ddX9_pass (41, .iastore, 1) (List.mem_of_getElem? (i := 29) rfl)) ?_
  refine k_iload_n (i := 2) h (ddX9_pass (42, .iload_n 2, 1) (List.mem_of_getElem? (i := 30) rfl)) rfl ?_
  exact k_iret h hQ (ddX9_pass (43, .ireturn, 1) (List.mem_of_getElem? (i := 31) rfl))
theorem aX9_pass (l : Launch) (as : List Value) (sh : q_Sh) (m : q_Mm) (R : q_KR) (hw : wX9_pass as sh m R) : q_AM l yX9_pass (Cond.code yX9_pass cX9_pass 3 (some .int) :: q_G) rmX9_pass as sh m R := by
  refine q_met (code := TX9_pass) (by decide) (fun X hl hQ _ h pc => ?_) hw.1 hw.2
  unfold TX9_pass
  exact k_at (sX9_pass_0 hl hQ h) (k_no)
/-! TumblingRockModel.stay(I)I -/
abbrev dlX9_stay : List (Nat × (Instr × Nat)) := [(0, .iload_n 1, 1), (1, .i2l, 1), (2, .lconst 1, 1), (3, .ldc2_w 212, 3), (6, .invokestatic 68, 3), (9, .ifCond .ne 6, 3), (12, .ldc 72, 2), (14, .ireturn, 1), (15, .aload_n 0, 1), (16, .getfield 153, 3), (19, .ifCond .ne 6, 3), (22, .ldc 214, 2), (24, .ireturn, 1), (25, .iconst 0, 1), (26, .istore_n 2, 1), (27, .iconst 0, 1), (28, .istore_n 3, 1), (29, .iload_n 3, 1), (30, .iload_n 1, 1), (31, .if_icmp .ge 22, 3), (34, .iload_n 2, 1), (35, .aload_n 0, 1), (36, .aload_n 0, 1), (37, .getfield 7, 3), (40, .iconst 3, 1), (41, .iaload, 1), (42, .invokevirtual 215, 3), (45, .iadd, 1), (46, .istore_n 2, 1), (47, .iinc 3 1, 3), (50, .goto (-21), 3), (53, .iload_n 2, 1), (54, .ireturn, 1)]
theorem ddX9_stay : ∀ q ∈ dlX9_stay, decode cX9_stay q.1 = .ok q.2 := by decide +kernel
theorem sX9_stay_25 {l : Launch} {X : q_CX} (hl : X.2.1 = l) (hQ : q_QM X) (h : q_OK X yX9_stay cX9_stay 4 (some .int) rmX9_stay (Cond.code yX9_stay cX9_stay 4 (some .int) :: q_G)) : q_SK X 4 25 (BX9_stay_25) := by
  refine k_iconst (v := 0) h (ddX9_stay (25, .iconst 0, 1) (List.mem_of_getElem? (i := 13) rfl)) (by decide) ?_
  refine k_istore_n (i := 2) h (ddX9_stay (26, .istore_n 2, 1) (List.mem_of_getElem? (i := 14) rfl)) rfl (by decide) ?_
  refine k_iconst (v := 0) h (ddX9_stay (27, .iconst 0, 1) (List.mem_of_getElem? (i := 15) rfl)) (by decide) ?_
  refine k_istore_n (i := 3) h (ddX9_stay (28, .istore_n 3, 1) (List.mem_of_getElem? (i := 16) rfl)) rfl (by decide) ?_
  exact k_cut
theorem sX9_stay_22 {l : Launch} {X : q_CX} (hl : X.2.1 = l) (hQ : q_QM X) (h : q_OK X yX9_stay cX9_stay 4 (some .int) rmX9_stay (Cond.code yX9_stay cX9_stay 4 (some .int) :: q_G)) : q_SK X 4 22 (BX9_stay_22) := by
  refine k_ldc (v := (-1000000003)) h (ddX9_stay (22, .ldc 214, 2) (List.mem_of_getElem? (i := 11) rfl)) (List.mem_cons_of_mem _ gw724) ?_
  exact k_iret h hQ (ddX9_stay (24, .ireturn, 1) (List.mem_of_getElem? (i := 12) rfl))
theorem sX9_stay_15 {l : Launch} {X : q_CX} (hl : X.2.1 = l) (hQ : q_QM X) (h : q_OK X yX9_stay cX9_stay 4 (some .int) rmX9_stay (Cond.code yX9_stay cX9_stay 4 (some .int) :: q_G)) : q_SK X 4 15 (BX9_stay_15) := by
  refine k_aload_n (i := 0) h (ddX9_stay (15, .aload_n 0, 1) (List.mem_of_getElem? (i := 8) rfl)) rfl ?_
  refine k_getf (ci := 9) (j := 8) (C := RX9) (T := TX9) (N := 33) h rfl (fun w hw => List.mem_cons_of_mem _ (q_inX9 w hw)) (by decide) (List.mem_cons_of_mem _ gw670) (ddX9_stay (16, .getfield 153, 3) (List.mem_of_getElem? (i := 9) rfl)) ?_
  refine k_ifne h (ddX9_stay (19, .ifCond .ne 6, 3) (List.mem_of_getElem? (i := 10) rfl)) (tgt := 25) (by decide) ?_ ?_
  · exact sX9_stay_25 hl hQ h
  · exact sX9_stay_22 hl hQ h
theorem sX9_stay_12 {l : Launch} {X : q_CX} (hl : X.2.1 = l) (hQ : q_QM X) (h : q_OK X yX9_stay cX9_stay 4 (some .int) rmX9_stay (Cond.code yX9_stay cX9_stay 4 (some .int) :: q_G)) : q_SK X 4 12 (BX9_stay_12) := by
  refine k_ldc (v := (-1000000002)) h (ddX9_stay (12, .ldc 72, 2) (List.mem_of_getElem? (i := 6) rfl)) (List.mem_cons_of_mem _ gw609) ?_
  exact k_iret h hQ (ddX9_stay (14, .ireturn, 1) (List.mem_of_getElem? (i := 7) rfl))
theorem sX9_stay_0 {l : Launch} {X : q_CX} (hl : X.2.1 = l) (hQ : q_QM X) (h : q_OK X yX9_stay cX9_stay 4 (some .int) rmX9_stay (Cond.code yX9_stay cX9_stay 4 (some .int) :: q_G)) : q_SK X 4 0 (BX9_stay_0) := by
  refine k_iload_n (i := 1) h (ddX9_stay (0, .iload_n 1, 1) (List.mem_of_getElem? (i := 0) rfl)) rfl ?_
  refine k_i2l h (ddX9_stay (1, .i2l, 1) (List.mem_of_getElem? (i := 1) rfl)) ?_
  refine k_lconst (v := 1) h (ddX9_stay (2, .lconst 1, 1) (List.mem_of_getElem? (i := 2) rfl)) (by decide) ?_
  refine k_ldc2 (v := 999) h (ddX9_stay (3, .ldc2_w 212, 3) (List.mem_of_getElem? (i := 3) rfl)) (List.mem_cons_of_mem _ gw723) ?_
  refine k_callS h hl (aX9_in l) ⟨rfl, rfl⟩ (n := 3) (by decide +kernel) (q_gS gw608 gw607 gw606 gw605) ⟨by decide, by decide⟩ (ddX9_stay (6, .invokestatic 68, 3) (List.mem_of_getElem? (i := 4) rfl)) ?_
  refine k_ifne h (ddX9_stay (9, .ifCond .ne 6, 3) (List.mem_of_getElem? (i := 5) rfl)) (tgt := 15) (by decide) ?_ ?_
  · exact sX9_stay_15 hl hQ h
  · exact sX9_stay_12 hl hQ h
theorem sX9_stay_53 {l : Launch} {X : q_CX} (hl : X.2.1 = l) (hQ : q_QM X) (h : q_OK X yX9_stay cX9_stay 4 (some .int) rmX9_stay (Cond.code yX9_stay cX9_stay 4 (some .int) :: q_G)) : q_SK X 4 53 (BX9_stay_53) := by
  refine k_iload_n (i := 2) h (ddX9_stay (53, .iload_n 2, 1) (List.mem_of_getElem? (i := 31) rfl)) rfl ?_
  exact k_iret h hQ (ddX9_stay (54, .ireturn, 1) (List.mem_of_getElem? (i := 32) rfl))
theorem sX9_stay_34 {l : Launch} {X : q_CX} (hl : X.2.1 = l) (hQ : q_QM X) (h : q_OK X yX9_stay cX9_stay 4 (some .int) rmX9_stay (Cond.code yX9_stay cX9_stay 4 (some .int) :: q_G)) : q_SK X 4 34 (BX9_stay_34) := by
  refine k_iload_n (i := 2) h (ddX9_stay (34, .iload_n 2, 1) (List.mem_of_getElem? (i := 20) rfl)) rfl ?_
  refine k_aload_n (i := 0) h (ddX9_stay (35, .aload_n 0, 1) (List.mem_of_getElem? (i := 21) rfl)) rfl ?_
  refine k_aload_n (i := 0) h (ddX9_stay (36, .aload_n 0, 1) (List.mem_of_getElem? (i := 22) rfl)) rfl ?_
  refine k_getf (ci := 9) (j := 0) (C := RX9) (T := TX9) (N := 33) h rfl (fun w hw => List.mem_cons_of_mem _ (q_inX9 w hw)) (by decide) (List.mem_cons_of_mem _ gw586) (ddX9_stay (37, .getfield 7, 3) (List.mem_of_getElem? (i := 23) rfl)) ?_
  refine k_iconst (v := 3) h (ddX9_stay (40, .iconst 3, 1) (List.mem_of_getElem? (i := 24) rfl)) (by decide) ?_
  refine k_iald h (ddX9_stay (41, .iaload, 1) (List.mem_of_getElem? (i := 25) rfl)) ?_
  refine k_callV h hl (aX9_pass l) (ci := 9) (C := RX9) (T := TX9) (N := 33) rfl ⟨rfl, rfl⟩ (n := 1) (by decide +kernel) (q_gV gw726 gw727 gw728 gw606 gw725) ⟨by decide, by decide⟩ (ddX9_stay (42, .invokevirtual 215, 3) (List.mem_of_getElem? (i := 26) rfl)) ?_
  refine k_iadd h (ddX9_stay (45, .iadd, 1) (List.mem_of_getElem? (i := 27) rfl)) ?_
  refine k_istore_n (i := 2) h (ddX9_stay (46, .istore_n 2, 1) (List.mem_of_getElem? (i := 28) rfl)) rfl (by decide) ?_
  refine k_iinc (d := 1) h (ddX9_stay (47, .iinc 3 1, 3) (List.mem_of_getElem? (i := 29) rfl)) (by decide) (by decide) ?_
  refine k_goto h (ddX9_stay (50, .goto (-21), 3) (List.mem_of_getElem? (i := 30) rfl)) (tgt := 29) (by decide) ?_
  exact k_cut
theorem sX9_stay_29 {l : Launch} {X : q_CX} (hl : X.2.1 = l) (hQ : q_QM X) (h : q_OK X yX9_stay cX9_stay 4 (some .int) rmX9_stay (Cond.code yX9_stay cX9_stay 4 (some .int) :: q_G)) : q_SK X 4 29 (BX9_stay_29) := by
  refine k_iload_n (i := 3) h (ddX9_stay (29, .iload_n 3, 1) (List.mem_of_getElem? (i := 17) rfl)) rfl ?_
  refine k_iload_n (i := 1) h (ddX9_stay (30, .iload_n 1, 1) (List.mem_of_getElem? (i := 18) rfl)) rfl ?_
  refine k_icge h (ddX9_stay (31, .if_icmp .ge 22, 3) (List.mem_of_getElem? (i := 19) rfl)) (tgt := 53) (by decide) ?_ ?_
  · exact sX9_stay_53 hl hQ h
  · exact sX9_stay_34 hl hQ h
theorem aX9_stay (l : Launch) (as : List Value) (sh : q_Sh) (m : q_Mm) (R : q_KR) (hw : wX9_stay as sh m R) : q_AM l yX9_stay (Cond.code yX9_stay cX9_stay 4 (some .int) :: q_G) rmX9_stay as sh m R := by
  refine q_met (code := TX9_stay) (by decide) (fun X hl hQ _ h pc => ?_) hw.1 hw.2
  unfold TX9_stay
  exact k_at (sX9_stay_0 hl hQ h) (k_at (sX9_stay_29 hl hQ h) (k_no))
/-! TumblingRockModel.go(I)I -/
abbrev dlX9_go : List (Nat × (Instr × Nat)) := [(0, .aload_n 0, 1), (1, .iload_n 1, 1), (2, .invokevirtual 197, 3), (5, .ifCond .ne 6, 3), (8, .ldc 196, 2), (10, .ireturn, 1), (11, .aload_n 0, 1), (12, .getfield 26, 3), (15, .aload_n 0, 1), (16, .getfield 7, 3), (19, .iconst 3, 1), (20, .iaload, 1), (21, .iaload, 1), (22, .iload_n 1, 1), (23, .invokestatic 118, 3), (26, .ifCond .eq 11, 3), (29, .aload_n 0, 1), (30, .iload_n 1, 1), (31, .invokevirtual 215, 3), (34, .goto 5, 3), (37, .ldc 214, 2), (39, .ireturn, 1)]
theorem ddX9_go : ∀ q ∈ dlX9_go, decode cX9_go q.1 = .ok q.2 := by decide +kernel
theorem sX9_go_39 {l : Launch} {X : q_CX} (hl : X.2.1 = l) (hQ : q_QM X) (h : q_OK X yX9_go cX9_go 2 (some .int) rmX9_go (Cond.code yX9_go cX9_go 2 (some .int) :: q_G)) : q_SK X 2 39 (BX9_go_39) := by
  exact k_iret h hQ (ddX9_go (39, .ireturn, 1) (List.mem_of_getElem? (i := 21) rfl))
theorem sX9_go_37 {l : Launch} {X : q_CX} (hl : X.2.1 = l) (hQ : q_QM X) (h : q_OK X yX9_go cX9_go 2 (some .int) rmX9_go (Cond.code yX9_go cX9_go 2 (some .int) :: q_G)) : q_SK X 2 37 (BX9_go_37) := by
  refine k_ldc (v := (-1000000003)) h (ddX9_go (37, .ldc 214, 2) (List.mem_of_getElem? (i := 20) rfl)) (List.mem_cons_of_mem _ gw724) ?_
  exact sX9_go_39 hl hQ h
theorem sX9_go_29 {l : Launch} {X : q_CX} (hl : X.2.1 = l) (hQ : q_QM X) (h : q_OK X yX9_go cX9_go 2 (some .int) rmX9_go (Cond.code yX9_go cX9_go 2 (some .int) :: q_G)) : q_SK X 2 29 (BX9_go_29) := by
  refine k_aload_n (i := 0) h (ddX9_go (29, .aload_n 0, 1) (List.mem_of_getElem? (i := 16) rfl)) rfl ?_
  refine k_iload_n (i := 1) h (ddX9_go (30, .iload_n 1, 1) (List.mem_of_getElem? (i := 17) rfl)) rfl ?_
  refine k_callV h hl (aX9_pass l) (ci := 9) (C := RX9) (T := TX9) (N := 33) rfl ⟨rfl, rfl⟩ (n := 1) (by decide +kernel) (q_gV gw726 gw727 gw728 gw606 gw725) ⟨by decide, by decide⟩ (ddX9_go (31, .invokevirtual 215, 3) (List.mem_of_getElem? (i := 18) rfl)) ?_
  refine k_goto h (ddX9_go (34, .goto 5, 3) (List.mem_of_getElem? (i := 19) rfl)) (tgt := 39) (by decide) ?_
  exact sX9_go_39 hl hQ h
theorem sX9_go_11 {l : Launch} {X : q_CX} (hl : X.2.1 = l) (hQ : q_QM X) (h : q_OK X yX9_go cX9_go 2 (some .int) rmX9_go (Cond.code yX9_go cX9_go 2 (some .int) :: q_G)) : q_SK X 2 11 (BX9_go_11) := by
  refine k_aload_n (i := 0) h (ddX9_go (11, .aload_n 0, 1) (List.mem_of_getElem? (i := 6) rfl)) rfl ?_
  refine k_getf (ci := 9) (j := 5) (C := RX9) (T := TX9) (N := 33) h rfl (fun w hw => List.mem_cons_of_mem _ (q_inX9 w hw)) (by decide) (List.mem_cons_of_mem _ gw591) (ddX9_go (12, .getfield 26, 3) (List.mem_of_getElem? (i := 7) rfl)) ?_
  refine k_aload_n (i := 0) h (ddX9_go (15, .aload_n 0, 1) (List.mem_of_getElem? (i := 8) rfl)) rfl ?_
  refine k_getf (ci := 9) (j := 0) (C := RX9) (T := TX9) (N := 33) h rfl (fun w hw => List.mem_cons_of_mem _ (q_inX9 w hw)) (by decide) (List.mem_cons_of_mem _ gw586) (ddX9_go (16, .getfield 7, 3) (List.mem_of_getElem? (i := 9) rfl)) ?_
  refine k_iconst (v := 3) h (ddX9_go (19, .iconst 3, 1) (List.mem_of_getElem? (i := 10) rfl)) (by decide) ?_
  refine k_iald h (ddX9_go (20, .iaload, 1) (List.mem_of_getElem? (i := 11) rfl)) ?_
  refine k_iald h (ddX9_go (21, .iaload, 1) (List.mem_of_getElem? (i := 12) rfl)) ?_
  refine k_iload_n (i := 1) h (ddX9_go (22, .iload_n 1, 1) (List.mem_of_getElem? (i := 13) rfl)) rfl ?_
  refine k_callS h hl (aX9_has l) ⟨rfl, rfl⟩ (n := 2) (by decide +kernel) (q_gS gw638 gw637 gw606 gw636) ⟨by decide, by decide⟩ (ddX9_go (23, .invokestatic 118, 3) (List.mem_of_getElem? (i := 14) rfl)) ?_
  refine k_ifeq h (ddX9_go (26, .ifCond .eq 11, 3) (List.mem_of_getElem? (i := 15) rfl)) (tgt := 37) (by decide) ?_ ?_
  · exact sX9_go_37 hl hQ h
  · exact sX9_go_29 hl hQ h
theorem sX9_go_8 {l : Launch} {X : q_CX} (hl : X.2.1 = l) (hQ : q_QM X) (h : q_OK X yX9_go cX9_go 2 (some .int) rmX9_go (Cond.code yX9_go cX9_go 2 (some .int) :: q_G)) : q_SK X 2 8 (BX9_go_8) := by
  refine k_ldc (v := (-1000000001)) h (ddX9_go (8, .ldc 196, 2) (List.mem_of_getElem? (i := 4) rfl)) (List.mem_cons_of_mem _ gw706) ?_
  exact k_iret h hQ (ddX9_go (10, .ireturn, 1) (List.mem_of_getElem? (i := 5) rfl))
theorem sX9_go_0 {l : Launch} {X : q_CX} (hl : X.2.1 = l) (hQ : q_QM X) (h : q_OK X yX9_go cX9_go 2 (some .int) rmX9_go (Cond.code yX9_go cX9_go 2 (some .int) :: q_G)) : q_SK X 2 0 (BX9_go_0) := by
  refine k_aload_n (i := 0) h (ddX9_go (0, .aload_n 0, 1) (List.mem_of_getElem? (i := 0) rfl)) rfl ?_
  refine k_iload_n (i := 1) h (ddX9_go (1, .iload_n 1, 1) (List.mem_of_getElem? (i := 1) rfl)) rfl ?_
  refine k_callV h hl (aX9_isPlace l) (ci := 9) (C := RX9) (T := TX9) (N := 33) rfl ⟨rfl, rfl⟩ (n := 1) (by decide +kernel) (q_gV gw708 gw709 gw710 gw606 gw707) ⟨by decide, by decide⟩ (ddX9_go (2, .invokevirtual 197, 3) (List.mem_of_getElem? (i := 2) rfl)) ?_
  refine k_ifne h (ddX9_go (5, .ifCond .ne 6, 3) (List.mem_of_getElem? (i := 3) rfl)) (tgt := 11) (by decide) ?_ ?_
  · exact sX9_go_11 hl hQ h
  · exact sX9_go_8 hl hQ h
theorem aX9_go (l : Launch) (as : List Value) (sh : q_Sh) (m : q_Mm) (R : q_KR) (hw : wX9_go as sh m R) : q_AM l yX9_go (Cond.code yX9_go cX9_go 2 (some .int) :: q_G) rmX9_go as sh m R := by
  refine q_met (code := TX9_go) (by decide) (fun X hl hQ _ h pc => ?_) hw.1 hw.2
  unfold TX9_go
  exact k_at (sX9_go_0 hl hQ h) (k_no)
/-! TumblingRockModel.knock(II)I -/
abbrev dlX9_knock : List (Nat × (Instr × Nat)) := [(0, .aload_n 0, 1), (1, .iload_n 1, 1), (2, .invokevirtual 192, 3), (5, .ifCond .ne 6, 3), (8, .ldc 196, 2), (10, .ireturn, 1), (11, .iload_n 2, 1), (12, .i2l, 1), (13, .lconst 0, 1), (14, .ldc2_w 218, 3), (17, .invokestatic 68, 3), (20, .ifCond .ne 6, 3), (23, .ldc 72, 2), (25, .ireturn, 1), (26, .aload_n 0, 1), (27, .getfield 7, 3), (30, .iload_n 1, 1), (31, .aload_n 0, 1), (32, .getfield 7, 3), (35, .iload_n 1, 1), (36, .iaload, 1), (37, .iload_n 2, 1), (38, .iadd, 1), (39, .aload_n 0, 1), (40, .getfield 20, 3), (43, .iload_n 1, 1), (44, .iaload, 1), (45, .irem, 1), (46, .iastore, 1), (47, .aload_n 0, 1), (48, .getfield 7, 3), (51, .iload_n 1, 1), (52, .iaload, 1), (53, .ireturn, 1)]
theorem ddX9_knock : ∀ q ∈ dlX9_knock, decode cX9_knock q.1 = .ok q.2 := by decide +kernel
theorem sX9_knock_26 {l : Launch} {X : q_CX} (hl : X.2.1 = l) (hQ : q_QM X) (h : q_OK X yX9_knock cX9_knock 3 (some .int) rmX9_knock (Cond.code yX9_knock cX9_knock 3 (some .int) :: q_G)) : q_SK X 3 26 (BX9_knock_26) := by
  refine k_aload_n (i := 0) h (ddX9_knock (26, .aload_n 0, 1) (List.mem_of_getElem? (i := 14) rfl)) rfl ?_
  refine k_getf (ci := 9) (j := 0) (C := RX9) (T := TX9) (N := 33) h rfl (fun w hw => List.mem_cons_of_mem _ (q_inX9 w hw)) (by decide) (List.mem_cons_of_mem _ gw586) (ddX9_knock (27, .getfield 7, 3) (List.mem_of_getElem? (i := 15) rfl)) ?_
  refine k_iload_n (i := 1) h (ddX9_knock (30, .iload_n 1, 1) (List.mem_of_getElem? (i := 16) rfl)) rfl ?_
  refine k_aload_n (i := 0) h (ddX9_knock (31, .aload_n 0, 1) (List.mem_of_getElem? (i := 17) rfl)) rfl ?_
  refine k_getf (ci := 9) (j := 0) (C := RX9) (T := TX9) (N := 33) h rfl (fun w hw => List.mem_cons_of_mem _ (q_inX9 w hw)) (by decide) (List.mem_cons_of_mem _ gw586) (ddX9_knock (32, .getfield 7, 3) (List.mem_of_getElem? (i := 18) rfl)) ?_
  refine k_iload_n (i := 1) h (ddX9_knock (35, .iload_n 1, 1) (List.mem_of_getElem? (i := 19) rfl)) rfl ?_
  refine k_iald h (ddX9_knock (36, .iaload, 1) (List.mem_of_getElem? (i := 20) rfl)) ?_
  refine k_iload_n (i := 2) h (ddX9_knock (37, .iload_n 2, 1) (List.mem_of_getElem? (i := 21) rfl)) rfl ?_
  refine k_iadd h (ddX9_knock (38, .iadd, 1) (List.mem_of_getElem? (i := 22) rfl)) ?_
  refine k_aload_n (i := 0) h (ddX9_knock (39, .aload_n 0, 1) (List.mem_of_getElem? (i := 23) rfl)) rfl ?_
  refine k_getf (ci := 9) (j := 3) (C := RX9) (T := TX9) (N := 33) h rfl (fun w hw => List.mem_cons_of_mem _ (q_inX9 w hw)) (by decide) (List.mem_cons_of_mem _ gw589) (ddX9_knock (40, .getfield 20, 3) (List.mem_of_getElem? (i := 24) rfl)) ?_
  refine k_iload_n (i := 1) h (ddX9_knock (43, .iload_n 1, 1) (List.mem_of_getElem? (i := 25) rfl)) rfl ?_
  refine k_iald h (ddX9_knock (44, .iaload, 1) (List.mem_of_getElem? (i := 26) rfl)) ?_
  refine k_irem h (ddX9_knock (45, .irem, 1) (List.mem_of_getElem? (i := 27) rfl)) ?_
  refine k_iast h (ddX9_knock (46, .iastore, 1) (List.mem_of_getElem? (i := 28) rfl)) ?_
  refine k_aload_n (i := 0) h (ddX9_knock (47, .aload_n 0, 1) (List.mem_of_getElem? (i := 29) rfl)) rfl ?_
  refine k_getf (ci := 9) (j := 0) (C := RX9) (T := TX9) (N := 33) h rfl (fun w hw => List.mem_cons_of_mem _ (q_inX9 w hw)) (by decide) (List.mem_cons_of_mem _ gw586) (ddX9_knock (48, .getfield 7, 3) (List.mem_of_getElem? (i := 30) rfl)) ?_
  refine k_iload_n (i := 1) h (ddX9_knock (51, .iload_n 1, 1) (List.mem_of_getElem? (i := 31) rfl)) rfl ?_
  refine k_iald h (ddX9_knock (52, .iaload, 1) (List.mem_of_getElem? (i := 32) rfl)) ?_
  exact k_iret h hQ (ddX9_knock (53, .ireturn, 1) (List.mem_of_getElem? (i := 33) rfl))
theorem sX9_knock_23 {l : Launch} {X : q_CX} (hl : X.2.1 = l) (hQ : q_QM X) (h : q_OK X yX9_knock cX9_knock 3 (some .int) rmX9_knock (Cond.code yX9_knock cX9_knock 3 (some .int) :: q_G)) : q_SK X 3 23 (BX9_knock_23) := by
  refine k_ldc (v := (-1000000002)) h (ddX9_knock (23, .ldc 72, 2) (List.mem_of_getElem? (i := 12) rfl)) (List.mem_cons_of_mem _ gw609) ?_
  exact k_iret h hQ (ddX9_knock (25, .ireturn, 1) (List.mem_of_getElem? (i := 13) rfl))
theorem sX9_knock_11 {l : Launch} {X : q_CX} (hl : X.2.1 = l) (hQ : q_QM X) (h : q_OK X yX9_knock cX9_knock 3 (some .int) rmX9_knock (Cond.code yX9_knock cX9_knock 3 (some .int) :: q_G)) : q_SK X 3 11 (BX9_knock_11) := by
  refine k_iload_n (i := 2) h (ddX9_knock (11, .iload_n 2, 1) (List.mem_of_getElem? (i := 6) rfl)) rfl ?_
  refine k_i2l h (ddX9_knock (12, .i2l, 1) (List.mem_of_getElem? (i := 7) rfl)) ?_
  refine k_lconst (v := 0) h (ddX9_knock (13, .lconst 0, 1) (List.mem_of_getElem? (i := 8) rfl)) (by decide) ?_
  refine k_ldc2 (v := 11) h (ddX9_knock (14, .ldc2_w 218, 3) (List.mem_of_getElem? (i := 9) rfl)) (List.mem_cons_of_mem _ gw729) ?_
  refine k_callS h hl (aX9_in l) ⟨rfl, rfl⟩ (n := 3) (by decide +kernel) (q_gS gw608 gw607 gw606 gw605) ⟨by decide, by decide⟩ (ddX9_knock (17, .invokestatic 68, 3) (List.mem_of_getElem? (i := 10) rfl)) ?_
  refine k_ifne h (ddX9_knock (20, .ifCond .ne 6, 3) (List.mem_of_getElem? (i := 11) rfl)) (tgt := 26) (by decide) ?_ ?_
  · exact sX9_knock_26 hl hQ h
  · exact sX9_knock_23 hl hQ h
theorem sX9_knock_8 {l : Launch} {X : q_CX} (hl : X.2.1 = l) (hQ : q_QM X) (h : q_OK X yX9_knock cX9_knock 3 (some .int) rmX9_knock (Cond.code yX9_knock cX9_knock 3 (some .int) :: q_G)) : q_SK X 3 8 (BX9_knock_8) := by
  refine k_ldc (v := (-1000000001)) h (ddX9_knock (8, .ldc 196, 2) (List.mem_of_getElem? (i := 4) rfl)) (List.mem_cons_of_mem _ gw706) ?_
  exact k_iret h hQ (ddX9_knock (10, .ireturn, 1) (List.mem_of_getElem? (i := 5) rfl))
theorem sX9_knock_0 {l : Launch} {X : q_CX} (hl : X.2.1 = l) (hQ : q_QM X) (h : q_OK X yX9_knock cX9_knock 3 (some .int) rmX9_knock (Cond.code yX9_knock cX9_knock 3 (some .int) :: q_G)) : q_SK X 3 0 (BX9_knock_0) := by
  refine k_aload_n (i := 0) h (ddX9_knock (0, .aload_n 0, 1) (List.mem_of_getElem? (i := 0) rfl)) rfl ?_
  refine k_iload_n (i := 1) h (ddX9_knock (1, .iload_n 1, 1) (List.mem_of_getElem? (i := 1) rfl)) rfl ?_
  refine k_callV h hl (aX9_isTurning l) (ci := 9) (C := RX9) (T := TX9) (N := 33) rfl ⟨rfl, rfl⟩ (n := 1) (by decide +kernel) (q_gV gw703 gw704 gw705 gw606 gw702) ⟨by decide, by decide⟩ (ddX9_knock (2, .invokevirtual 192, 3) (List.mem_of_getElem? (i := 2) rfl)) ?_
  refine k_ifne h (ddX9_knock (5, .ifCond .ne 6, 3) (List.mem_of_getElem? (i := 3) rfl)) (tgt := 11) (by decide) ?_ ?_
  · exact sX9_knock_11 hl hQ h
  · exact sX9_knock_8 hl hQ h
theorem aX9_knock (l : Launch) (as : List Value) (sh : q_Sh) (m : q_Mm) (R : q_KR) (hw : wX9_knock as sh m R) : q_AM l yX9_knock (Cond.code yX9_knock cX9_knock 3 (some .int) :: q_G) rmX9_knock as sh m R := by
  refine q_met (code := TX9_knock) (by decide) (fun X hl hQ _ h pc => ?_) hw.1 hw.2
  unfold TX9_knock
  exact k_at (sX9_knock_0 hl hQ h) (k_no)
/-! TumblingRockModel.push(I)I -/
abbrev dlX9_push : List (Nat × (Instr × Nat)) := [(0, .iload_n 1, 1), (1, .i2l, 1), (2, .lconst 0, 1), (3, .aload_n 0, 1), (4, .getfield 159, 3), (7, .iconst 1, 1), (8, .isub, 1), (9, .i2l, 1), (10, .invokestatic 68, 3), (13, .ifCond .ne 6, 3), (16, .ldc 196, 2), (18, .ireturn, 1), (19, .iconst 0, 1), (20, .istore_n 2, 1), (21, .iconst 0, 1), (22, .istore_n 3, 1), (23, .iload_n 3, 1), (24, .aload_n 0, 1), (25, .getfield 150, 3), (28, .if_icmp .ge 66, 3), (31, .aload_n 0, 1), (32, .getfield 29, 3), (35, .iconst 3, 1), (36, .iload_n 1, 1), (37, .imul, 1), (38, .iload_n 3, 1), (39, .iadd, 1), (40, .iaload, 1), (41, .aload_n 0, 1), (42, .getfield 20, 3), (45, .iload_n 3, 1), (46, .iaload, 1), (47, .irem, 1), (48, .istore 4, 2), (50, .iload_n 2, 1), (51, .iload 4, 2), (53, .ifCond .le 7, 3), (56, .iconst 1, 1), (57, .goto 4, 3), (60, .iconst 0, 1), (61, .invokestatic 185, 3), (64, .iadd, 1), (65, .istore_n 2, 1), (66, .aload_n 0, 1), (67, .getfield 7, 3), (70, .iload_n 3, 1), (71, .aload_n 0, 1), (72, .getfield 7, 3), (75, .iload_n 3, 1), (76, .iaload, 1), (77, .iload 4, 2), (79, .iadd, 1), (80, .aload_n 0, 1), (81, .getfield 20, 3), (84, .iload_n 3, 1), (85, .iaload, 1), (86, .irem, 1), (87, .iastore, 1), (88, .iinc 3 1, 3), (91, .goto (-68), 3), (94, .iload_n 2, 1), (95, .ireturn, 1)]
theorem ddX9_push : ∀ q ∈ dlX9_push, decode cX9_push q.1 = .ok q.2 := by decide +kernel
theorem sX9_push_19 {l : Launch} {X : q_CX} (hl : X.2.1 = l) (hQ : q_QM X) (h : q_OK X yX9_push cX9_push 5 (some .int) rmX9_push (Cond.code yX9_push cX9_push 5 (some .int) :: q_G)) : q_SK X 5 19 (BX9_push_19) := by
  refine k_iconst (v := 0) h (ddX9_push (19, .iconst 0, 1) (List.mem_of_getElem? (i := 12) rfl)) (by decide) ?_
  refine k_istore_n (i := 2) h (ddX9_push (20, .istore_n 2, 1) (List.mem_of_getElem? (i := 13) rfl)) rfl (by decide) ?_
  refine k_iconst (v := 0) h (ddX9_push (21, .iconst 0, 1) (List.mem_of_getElem? (i := 14) rfl)) (by decide) ?_
  refine k_istore_n (i := 3) h (ddX9_push (22, .istore_n 3, 1) (List.mem_of_getElem? (i := 15) rfl)) rfl (by decide) ?_
  exact k_cut
theorem sX9_push_16 {l : Launch} {X : q_CX} (hl : X.2.1 = l) (hQ : q_QM X) (h : q_OK X yX9_push cX9_push 5 (some .int) rmX9_push (Cond.code yX9_push cX9_push 5 (some .int) :: q_G)) : q_SK X 5 16 (BX9_push_16) := by
  refine k_ldc (v := (-1000000001)) h (ddX9_push (16, .ldc 196, 2) (List.mem_of_getElem? (i := 10) rfl)) (List.mem_cons_of_mem _ gw706) ?_
  exact k_iret h hQ (ddX9_push (18, .ireturn, 1) (List.mem_of_getElem? (i := 11) rfl))
theorem sX9_push_0 {l : Launch} {X : q_CX} (hl : X.2.1 = l) (hQ : q_QM X) (h : q_OK X yX9_push cX9_push 5 (some .int) rmX9_push (Cond.code yX9_push cX9_push 5 (some .int) :: q_G)) : q_SK X 5 0 (BX9_push_0) := by
  refine k_iload_n (i := 1) h (ddX9_push (0, .iload_n 1, 1) (List.mem_of_getElem? (i := 0) rfl)) rfl ?_
  refine k_i2l h (ddX9_push (1, .i2l, 1) (List.mem_of_getElem? (i := 1) rfl)) ?_
  refine k_lconst (v := 0) h (ddX9_push (2, .lconst 0, 1) (List.mem_of_getElem? (i := 2) rfl)) (by decide) ?_
  refine k_aload_n (i := 0) h (ddX9_push (3, .aload_n 0, 1) (List.mem_of_getElem? (i := 3) rfl)) rfl ?_
  refine k_getf (ci := 9) (j := 10) (C := RX9) (T := TX9) (N := 33) h rfl (fun w hw => List.mem_cons_of_mem _ (q_inX9 w hw)) (by decide) (List.mem_cons_of_mem _ gw672) (ddX9_push (4, .getfield 159, 3) (List.mem_of_getElem? (i := 4) rfl)) ?_
  refine k_iconst (v := 1) h (ddX9_push (7, .iconst 1, 1) (List.mem_of_getElem? (i := 5) rfl)) (by decide) ?_
  refine k_isub h (ddX9_push (8, .isub, 1) (List.mem_of_getElem? (i := 6) rfl)) ?_
  refine k_i2l h (ddX9_push (9, .i2l, 1) (List.mem_of_getElem? (i := 7) rfl)) ?_
  refine k_callS h hl (aX9_in l) ⟨rfl, rfl⟩ (n := 3) (by decide +kernel) (q_gS gw608 gw607 gw606 gw605) ⟨by decide, by decide⟩ (ddX9_push (10, .invokestatic 68, 3) (List.mem_of_getElem? (i := 8) rfl)) ?_
  refine k_ifne h (ddX9_push (13, .ifCond .ne 6, 3) (List.mem_of_getElem? (i := 9) rfl)) (tgt := 19) (by decide) ?_ ?_
  · exact sX9_push_19 hl hQ h
  · exact sX9_push_16 hl hQ h
theorem sX9_push_94 {l : Launch} {X : q_CX} (hl : X.2.1 = l) (hQ : q_QM X) (h : q_OK X yX9_push cX9_push 5 (some .int) rmX9_push (Cond.code yX9_push cX9_push 5 (some .int) :: q_G)) : q_SK X 5 94 (BX9_push_94) := by
  refine k_iload_n (i := 2) h (ddX9_push (94, .iload_n 2, 1) (List.mem_of_getElem? (i := 60) rfl)) rfl ?_
  exact k_iret h hQ (ddX9_push (95, .ireturn, 1) (List.mem_of_getElem? (i := 61) rfl))
theorem sX9_push_60 {l : Launch} {X : q_CX} (hl : X.2.1 = l) (hQ : q_QM X) (h : q_OK X yX9_push cX9_push 5 (some .int) rmX9_push (Cond.code yX9_push cX9_push 5 (some .int) :: q_G)) : q_SK X 5 60 (BX9_push_60) := by
  refine k_iconst (v := 0) h (ddX9_push (60, .iconst 0, 1) (List.mem_of_getElem? (i := 39) rfl)) (by decide) ?_
  exact k_cut
theorem sX9_push_56 {l : Launch} {X : q_CX} (hl : X.2.1 = l) (hQ : q_QM X) (h : q_OK X yX9_push cX9_push 5 (some .int) rmX9_push (Cond.code yX9_push cX9_push 5 (some .int) :: q_G)) : q_SK X 5 56 (BX9_push_56) := by
  refine k_iconst (v := 1) h (ddX9_push (56, .iconst 1, 1) (List.mem_of_getElem? (i := 37) rfl)) (by decide) ?_
  refine k_goto h (ddX9_push (57, .goto 4, 3) (List.mem_of_getElem? (i := 38) rfl)) (tgt := 61) (by decide) ?_
  exact k_cut
theorem sX9_push_31 {l : Launch} {X : q_CX} (hl : X.2.1 = l) (hQ : q_QM X) (h : q_OK X yX9_push cX9_push 5 (some .int) rmX9_push (Cond.code yX9_push cX9_push 5 (some .int) :: q_G)) : q_SK X 5 31 (BX9_push_31) := by
  refine k_aload_n (i := 0) h (ddX9_push (31, .aload_n 0, 1) (List.mem_of_getElem? (i := 20) rfl)) rfl ?_
  refine k_getf (ci := 9) (j := 6) (C := RX9) (T := TX9) (N := 33) h rfl (fun w hw => List.mem_cons_of_mem _ (q_inX9 w hw)) (by decide) (List.mem_cons_of_mem _ gw592) (ddX9_push (32, .getfield 29, 3) (List.mem_of_getElem? (i := 21) rfl)) ?_
  refine k_iconst (v := 3) h (ddX9_push (35, .iconst 3, 1) (List.mem_of_getElem? (i := 22) rfl)) (by decide) ?_
  refine k_iload_n (i := 1) h (ddX9_push (36, .iload_n 1, 1) (List.mem_of_getElem? (i := 23) rfl)) rfl ?_
  refine k_imul h (ddX9_push (37, .imul, 1) (List.mem_of_getElem? (i := 24) rfl)) ?_
  refine k_iload_n (i := 3) h (ddX9_push (38, .iload_n 3, 1) (List.mem_of_getElem? (i := 25) rfl)) rfl ?_
  refine k_iadd h (ddX9_push (39, .iadd, 1) (List.mem_of_getElem? (i := 26) rfl)) ?_
  refine k_iald h (ddX9_push (40, .iaload, 1) (List.mem_of_getElem? (i := 27) rfl)) ?_
  refine k_aload_n (i := 0) h (ddX9_push (41, .aload_n 0, 1) (List.mem_of_getElem? (i := 28) rfl)) rfl ?_
  refine k_getf (ci := 9) (j := 3) (C := RX9) (T := TX9) (N := 33) h rfl (fun w hw => List.mem_cons_of_mem _ (q_inX9 w hw)) (by decide) (List.mem_cons_of_mem _ gw589) (ddX9_push (42, .getfield 20, 3) (List.mem_of_getElem? (i := 29) rfl)) ?_
  refine k_iload_n (i := 3) h (ddX9_push (45, .iload_n 3, 1) (List.mem_of_getElem? (i := 30) rfl)) rfl ?_
  refine k_iald h (ddX9_push (46, .iaload, 1) (List.mem_of_getElem? (i := 31) rfl)) ?_
  refine k_irem h (ddX9_push (47, .irem, 1) (List.mem_of_getElem? (i := 32) rfl)) ?_
  refine k_istore (i := 4) h (ddX9_push (48, .istore 4, 2) (List.mem_of_getElem? (i := 33) rfl)) (by decide) ?_
  refine k_iload_n (i := 2) h (ddX9_push (50, .iload_n 2, 1) (List.mem_of_getElem? (i := 34) rfl)) rfl ?_
  refine k_iload (i := 4) h (ddX9_push (51, .iload 4, 2) (List.mem_of_getElem? (i := 35) rfl)) ?_
  refine k_ifle h (ddX9_push (53, .ifCond .le 7, 3) (List.mem_of_getElem? (i := 36) rfl)) (tgt := 60) (by decide) ?_ ?_
  · exact sX9_push_60 hl hQ h
  · exact sX9_push_56 hl hQ h
theorem sX9_push_23 {l : Launch} {X : q_CX} (hl : X.2.1 = l) (hQ : q_QM X) (h : q_OK X yX9_push cX9_push 5 (some .int) rmX9_push (Cond.code yX9_push cX9_push 5 (some .int) :: q_G)) : q_SK X 5 23 (BX9_push_23) := by
  refine k_iload_n (i := 3) h (ddX9_push (23, .iload_n 3, 1) (List.mem_of_getElem? (i := 16) rfl)) rfl ?_
  refine k_aload_n (i := 0) h (ddX9_push (24, .aload_n 0, 1) (List.mem_of_getElem? (i := 17) rfl)) rfl ?_
  refine k_getf (ci := 9) (j := 7) (C := RX9) (T := TX9) (N := 33) h rfl (fun w hw => List.mem_cons_of_mem _ (q_inX9 w hw)) (by decide) (List.mem_cons_of_mem _ gw669) (ddX9_push (25, .getfield 150, 3) (List.mem_of_getElem? (i := 18) rfl)) ?_
  refine k_icge h (ddX9_push (28, .if_icmp .ge 66, 3) (List.mem_of_getElem? (i := 19) rfl)) (tgt := 94) (by decide) ?_ ?_
  · exact sX9_push_94 hl hQ h
  · exact sX9_push_31 hl hQ h
theorem sX9_push_61 {l : Launch} {X : q_CX} (hl : X.2.1 = l) (hQ : q_QM X) (h : q_OK X yX9_push cX9_push 5 (some .int) rmX9_push (Cond.code yX9_push cX9_push 5 (some .int) :: q_G)) : q_SK X 5 61 (BX9_push_61) := by
  refine k_callS h hl (aX9_one l) ⟨rfl, rfl⟩ (n := 1) (by decide +kernel) (q_gS gw697 gw696 gw606 gw695) ⟨by decide, by decide⟩ (ddX9_push (61, .invokestatic 185, 3) (List.mem_of_getElem? (i := 40) rfl)) ?_
  refine k_iadd h (ddX9_push (64, .iadd, 1) (List.mem_of_getElem? (i := 41) rfl)) ?_
  refine k_istore_n (i := 2) h (ddX9_push (65, .istore_n 2, 1) (List.mem_of_getElem? (i := 42) rfl)) rfl (by decide) ?_
  refine k_aload_n (i := 0) h (ddX9_push (66, .aload_n 0, 1) (List.mem_of_getElem? (i := 43) rfl)) rfl ?_
  refine k_getf (ci := 9) (j := 0) (C := RX9) (T := TX9) (N := 33) h rfl (fun w hw => List.mem_cons_of_mem _ (q_inX9 w hw)) (by decide) (List.mem_cons_of_mem _ gw586) (ddX9_push (67, .getfield 7, 3) (List.mem_of_getElem? (i := 44) rfl)) ?_
  refine k_iload_n (i := 3) h (ddX9_push (70, .iload_n 3, 1) (List.mem_of_getElem? (i := 45) rfl)) rfl ?_
  refine k_aload_n (i := 0) h (ddX9_push (71, .aload_n 0, 1) (List.mem_of_getElem? (i := 46) rfl)) rfl ?_
  refine k_getf (ci := 9) (j := 0) (C := RX9) (T := TX9) (N := 33) h rfl (fun w hw => List.mem_cons_of_mem _ (q_inX9 w hw)) (by decide) (List.mem_cons_of_mem _ gw586) (ddX9_push (72, .getfield 7, 3) (List.mem_of_getElem? (i := 47) rfl)) ?_
  refine k_iload_n (i := 3) h (ddX9_push (75, .iload_n 3, 1) (List.mem_of_getElem? (i := 48) rfl)) rfl ?_
  refine k_iald h (ddX9_push (76, .iaload, 1) (List.mem_of_getElem? (i := 49) rfl)) ?_
  refine k_iload (i := 4) h (ddX9_push (77, .iload 4, 2) (List.mem_of_getElem? (i := 50) rfl)) ?_
  refine k_iadd h (ddX9_push (79, .iadd, 1) (List.mem_of_getElem? (i := 51) rfl)) ?_
  refine k_aload_n (i := 0) h (ddX9_push (80, .aload_n 0, 1) (List.mem_of_getElem? (i := 52) rfl)) rfl ?_
  refine k_getf (ci := 9) (j := 3) (C := RX9) (T := TX9) (N := 33) h rfl (fun w hw => List.mem_cons_of_mem _ (q_inX9 w hw)) (by decide) (List.mem_cons_of_mem _ gw589) (ddX9_push (81, .getfield 20, 3) (List.mem_of_getElem? (i := 53) rfl)) ?_
  refine k_iload_n (i := 3) h (ddX9_push (84, .iload_n 3, 1) (List.mem_of_getElem? (i := 54) rfl)) rfl ?_
  refine k_iald h (ddX9_push (85, .iaload, 1) (List.mem_of_getElem? (i := 55) rfl)) ?_
  refine k_irem h (ddX9_push (86, .irem, 1) (List.mem_of_getElem? (i := 56) rfl)) ?_
  refine k_iast h (ddX9_push (87, .iastore, 1) (List.mem_of_getElem? (i := 57) rfl)) ?_
  refine k_iinc (d := 1) h (ddX9_push (88, .iinc 3 1, 3) (List.mem_of_getElem? (i := 58) rfl)) (by decide) (by decide) ?_
  refine k_goto h (ddX9_push (91, .goto (-68), 3) (List.mem_of_getElem? (i := 59) rfl)) (tgt := 23) (by decide) ?_
  exact k_cut
theorem aX9_push (l : Launch) (as : List Value) (sh : q_Sh) (m : q_Mm) (R : q_KR) (hw : wX9_push as sh m R) : q_AM l yX9_push (Cond.code yX9_push cX9_push 5 (some .int) :: q_G) rmX9_push as sh m R := by
  refine q_met (code := TX9_push) (by decide) (fun X hl hQ _ h pc => ?_) hw.1 hw.2
  unfold TX9_push
  exact k_at (sX9_push_0 hl hQ h) (k_at (sX9_push_23 hl hQ h) (k_at (sX9_push_61 hl hQ h) (k_no)))
