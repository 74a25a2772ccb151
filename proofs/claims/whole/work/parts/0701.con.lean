/-! Contracts, leaves first; written by wip/whole/gen.py. -/
/-! TumblingRock$Text.<init>()V -/
abbrev dlX7_init : List (Nat × (Instr × Nat)) := [(0, .aload_n 0, 1), (1, .invokespecial 3, 3), (4, .aload_n 0, 1), (5, .sipush 400, 3), (8, .newarray .int, 2), (10, .putfield 9, 3), (13, .return_, 1)]
theorem ddX7_init : ∀ q ∈ dlX7_init, decode cX7_init q.1 = .ok q.2 := by decide +kernel
theorem sX7_init_0 {l : Launch} {X : q_CX} {cap : Nat × Nat} (hl : X.2.1 = l) (hQ : q_QM X) (hcap : q_cap X rmX7_init cap) (h : q_OK X yX7_init cX7_init 1 none rmX7_init (Cond.code yX7_init cX7_init 1 none :: q_G)) : q_SK X 1 0 (BX7_init_0 cap) := by
  refine k_aload_n (i := 0) h (ddX7_init (0, .aload_n 0, 1) (List.mem_of_getElem? (i := 0) rfl)) rfl ?_
  refine k_obj h (List.mem_cons_of_mem _ gw6) (List.mem_cons_of_mem _ gw1) (List.mem_cons_of_mem _ gw2) (by decide) (by decide) (ddX7_init (1, .invokespecial 3, 3) (List.mem_of_getElem? (i := 1) rfl)) ?_
  refine k_aload_n (i := 0) h (ddX7_init (4, .aload_n 0, 1) (List.mem_of_getElem? (i := 2) rfl)) rfl ?_
  refine k_sipush (v := 400) h (ddX7_init (5, .sipush 400, 3) (List.mem_of_getElem? (i := 3) rfl)) (by decide) ?_
  refine k_newi h hcap (n := 400) (by decide) (List.mem_cons_of_mem _ gw7) (ddX7_init (8, .newarray .int, 2) (List.mem_of_getElem? (i := 4) rfl)) ?_
  refine k_putrF (ty := .array .int) (ci := 7) (j := 0) (C := RX7) (T := TX7) (N := 2) h rfl (fun w hw => List.mem_cons_of_mem _ (q_inX7 w hw)) (by decide) (List.mem_cons_of_mem _ gw8) tyX7 tyX7_ok nmX7 (by decide +kernel) rfl rfl (by decide +kernel) (fun _ => ⟨rfl, rfl⟩) (ddX7_init (10, .putfield 9, 3) (List.mem_of_getElem? (i := 5) rfl)) ?_
  exact k_vret h hQ (ddX7_init (13, .return_, 1) (List.mem_of_getElem? (i := 6) rfl))
theorem aX7_init (l : Launch) (as : List Value) (sh : q_Sh) (m : q_Mm) (R : q_KR) (hw : wX7_init as sh m R) : q_AM l yX7_init (Cond.code yX7_init cX7_init 1 none :: q_G) rmX7_init as sh m R := by
  refine q_met (code := TX7_init (sh.length + rmX7_init.cells, q_sl sh + rmX7_init.slots)) (by decide) (fun X hl hQ hcap h pc => ?_) hw.1 hw.2
  unfold TX7_init
  exact k_at (sX7_init_0 hl hQ hcap h) (k_no)
/-! TumblingRock$Reader.<init>(LTumblingRock$Text;)V -/
abbrev dlX3_init : List (Nat × (Instr × Nat)) := [(0, .aload_n 0, 1), (1, .invokespecial 3, 3), (4, .aload_n 0, 1), (5, .aload_n 1, 1), (6, .putfield 9, 3), (9, .aload_n 0, 1), (10, .iconst (-1), 1), (11, .putfield 15, 3), (14, .return_, 1)]
theorem ddX3_init : ∀ q ∈ dlX3_init, decode cX3_init q.1 = .ok q.2 := by decide +kernel
theorem sX3_init_0 {l : Launch} {X : q_CX} {cap : Nat × Nat} (hl : X.2.1 = l) (hQ : q_QM X) (hcap : q_cap X rmX3_init cap) (h : q_OK X yX3_init cX3_init 2 none rmX3_init (Cond.code yX3_init cX3_init 2 none :: q_G)) : q_SK X 2 0 (BX3_init_0 cap) := by
  refine k_aload_n (i := 0) h (ddX3_init (0, .aload_n 0, 1) (List.mem_of_getElem? (i := 0) rfl)) rfl ?_
  refine k_obj h (List.mem_cons_of_mem _ gw15) (List.mem_cons_of_mem _ gw1) (List.mem_cons_of_mem _ gw2) (by decide) (by decide) (ddX3_init (1, .invokespecial 3, 3) (List.mem_of_getElem? (i := 1) rfl)) ?_
  refine k_aload_n (i := 0) h (ddX3_init (4, .aload_n 0, 1) (List.mem_of_getElem? (i := 2) rfl)) rfl ?_
  refine k_aload_n (i := 1) h (ddX3_init (5, .aload_n 1, 1) (List.mem_of_getElem? (i := 3) rfl)) rfl ?_
  refine k_putrF (ty := .object "TumblingRock$Text") (ci := 3) (j := 0) (C := RX3) (T := TX3) (N := 4) h rfl (fun w hw => List.mem_cons_of_mem _ (q_inX3 w hw)) (by decide) (List.mem_cons_of_mem _ gw16) tyX3 tyX3_ok nmX3 (by decide +kernel) rfl rfl (by decide +kernel) (fun _ => ⟨rfl, rfl⟩) (ddX3_init (6, .putfield 9, 3) (List.mem_of_getElem? (i := 4) rfl)) ?_
  refine k_aload_n (i := 0) h (ddX3_init (9, .aload_n 0, 1) (List.mem_of_getElem? (i := 5) rfl)) rfl ?_
  refine k_iconst (v := (-1)) h (ddX3_init (10, .iconst (-1), 1) (List.mem_of_getElem? (i := 6) rfl)) (by decide) ?_
  refine k_putf (ci := 3) (j := 3) (C := RX3) (T := TX3) (N := 4) h rfl (fun w hw => List.mem_cons_of_mem _ (q_inX3 w hw)) (by decide) (List.mem_cons_of_mem _ gw17) tyX3 tyX3_ok nmX3 (by decide +kernel) (by decide +kernel) (ddX3_init (11, .putfield 15, 3) (List.mem_of_getElem? (i := 7) rfl)) ?_
  exact k_vret h hQ (ddX3_init (14, .return_, 1) (List.mem_of_getElem? (i := 8) rfl))
theorem aX3_init (l : Launch) (as : List Value) (sh : q_Sh) (m : q_Mm) (R : q_KR) (hw : wX3_init as sh m R) : q_AM l yX3_init (Cond.code yX3_init cX3_init 2 none :: q_G) rmX3_init as sh m R := by
  refine q_met (code := TX3_init (sh.length + rmX3_init.cells, q_sl sh + rmX3_init.slots)) (by decide) (fun X hl hQ hcap h pc => ?_) hw.1 hw.2
  unfold TX3_init
  exact k_at (sX3_init_0 hl hQ hcap h) (k_no)
/-! TumblingRock$Farm.<init>()V -/
abbrev dlX1_init : List (Nat × (Instr × Nat)) := [(0, .aload_n 0, 1), (1, .invokespecial 3, 3), (4, .return_, 1)]
theorem ddX1_init : ∀ q ∈ dlX1_init, decode cX1_init q.1 = .ok q.2 := by decide +kernel
theorem sX1_init_0 {l : Launch} {X : q_CX} {cap : Nat × Nat} (hl : X.2.1 = l) (hQ : q_QM X) (hcap : q_cap X rmX1_init cap) (h : q_OK X yX1_init cX1_init 1 none rmX1_init (Cond.code yX1_init cX1_init 1 none :: q_G)) : q_SK X 1 0 (BX1_init_0 cap) := by
  refine k_aload_n (i := 0) h (ddX1_init (0, .aload_n 0, 1) (List.mem_of_getElem? (i := 0) rfl)) rfl ?_
  refine k_obj h (List.mem_cons_of_mem _ gw25) (List.mem_cons_of_mem _ gw1) (List.mem_cons_of_mem _ gw2) (by decide) (by decide) (ddX1_init (1, .invokespecial 3, 3) (List.mem_of_getElem? (i := 1) rfl)) ?_
  exact k_vret h hQ (ddX1_init (4, .return_, 1) (List.mem_of_getElem? (i := 2) rfl))
theorem aX1_init (l : Launch) (as : List Value) (sh : q_Sh) (m : q_Mm) (R : q_KR) (hw : wX1_init as sh m R) : q_AM l yX1_init (Cond.code yX1_init cX1_init 1 none :: q_G) rmX1_init as sh m R := by
  refine q_met (code := TX1_init (sh.length + rmX1_init.cells, q_sl sh + rmX1_init.slots)) (by decide) (fun X hl hQ hcap h pc => ?_) hw.1 hw.2
  unfold TX1_init
  exact k_at (sX1_init_0 hl hQ hcap h) (k_no)
/-! TumblingRock$Sight.<init>()V -/
abbrev dlX6_init : List (Nat × (Instr × Nat)) := [(0, .aload_n 0, 1), (1, .invokespecial 3, 3), (4, .aload_n 0, 1), (5, .sipush 1728, 3), (8, .newarray .int, 2), (10, .putfield 9, 3), (13, .aload_n 0, 1), (14, .sipush 192, 3), (17, .newarray .int, 2), (19, .putfield 15, 3), (22, .aload_n 0, 1), (23, .iconst 1, 1), (24, .putfield 18, 3), (27, .return_, 1)]
theorem ddX6_init : ∀ q ∈ dlX6_init, decode cX6_init q.1 = .ok q.2 := by decide +kernel
theorem sX6_init_0 {l : Launch} {X : q_CX} {cap : Nat × Nat} (hl : X.2.1 = l) (hQ : q_QM X) (hcap : q_cap X rmX6_init cap) (h : q_OK X yX6_init cX6_init 1 none rmX6_init (Cond.code yX6_init cX6_init 1 none :: q_G)) : q_SK X 1 0 (BX6_init_0 cap) := by
  refine k_aload_n (i := 0) h (ddX6_init (0, .aload_n 0, 1) (List.mem_of_getElem? (i := 0) rfl)) rfl ?_
  refine k_obj h (List.mem_cons_of_mem _ gw35) (List.mem_cons_of_mem _ gw1) (List.mem_cons_of_mem _ gw2) (by decide) (by decide) (ddX6_init (1, .invokespecial 3, 3) (List.mem_of_getElem? (i := 1) rfl)) ?_
  refine k_aload_n (i := 0) h (ddX6_init (4, .aload_n 0, 1) (List.mem_of_getElem? (i := 2) rfl)) rfl ?_
  refine k_sipush (v := 1728) h (ddX6_init (5, .sipush 1728, 3) (List.mem_of_getElem? (i := 3) rfl)) (by decide) ?_
  refine k_newi h hcap (n := 1728) (by decide) (List.mem_cons_of_mem _ gw7) (ddX6_init (8, .newarray .int, 2) (List.mem_of_getElem? (i := 4) rfl)) ?_
  refine k_putrF (ty := .array .int) (ci := 6) (j := 6) (C := RX6) (T := TX6) (N := 8) h rfl (fun w hw => List.mem_cons_of_mem _ (q_inX6 w hw)) (by decide) (List.mem_cons_of_mem _ gw36) tyX6 tyX6_ok nmX6 (by decide +kernel) rfl rfl (by decide +kernel) (fun _ => ⟨rfl, rfl⟩) (ddX6_init (10, .putfield 9, 3) (List.mem_of_getElem? (i := 5) rfl)) ?_
  refine k_aload_n (i := 0) h (ddX6_init (13, .aload_n 0, 1) (List.mem_of_getElem? (i := 6) rfl)) rfl ?_
  refine k_sipush (v := 192) h (ddX6_init (14, .sipush 192, 3) (List.mem_of_getElem? (i := 7) rfl)) (by decide) ?_
  refine k_newi h hcap (n := 192) (by decide) (List.mem_cons_of_mem _ gw7) (ddX6_init (17, .newarray .int, 2) (List.mem_of_getElem? (i := 8) rfl)) ?_
  refine k_putrF (ty := .array .int) (ci := 6) (j := 7) (C := RX6) (T := TX6) (N := 8) h rfl (fun w hw => List.mem_cons_of_mem _ (q_inX6 w hw)) (by decide) (List.mem_cons_of_mem _ gw37) tyX6 tyX6_ok nmX6 (by decide +kernel) rfl rfl (by decide +kernel) (fun _ => ⟨rfl, rfl⟩) (ddX6_init (19, .putfield 15, 3) (List.mem_of_getElem? (i := 9) rfl)) ?_
  refine k_aload_n (i := 0) h (ddX6_init (22, .aload_n 0, 1) (List.mem_of_getElem? (i := 10) rfl)) rfl ?_
  refine k_iconst (v := 1) h (ddX6_init (23, .iconst 1, 1) (List.mem_of_getElem? (i := 11) rfl)) (by decide) ?_
  refine k_putf (ci := 6) (j := 1) (C := RX6) (T := TX6) (N := 8) h rfl (fun w hw => List.mem_cons_of_mem _ (q_inX6 w hw)) (by decide) (List.mem_cons_of_mem _ gw38) tyX6 tyX6_ok nmX6 (by decide +kernel) (by decide +kernel) (ddX6_init (24, .putfield 18, 3) (List.mem_of_getElem? (i := 12) rfl)) ?_
  exact k_vret h hQ (ddX6_init (27, .return_, 1) (List.mem_of_getElem? (i := 13) rfl))
theorem aX6_init (l : Launch) (as : List Value) (sh : q_Sh) (m : q_Mm) (R : q_KR) (hw : wX6_init as sh m R) : q_AM l yX6_init (Cond.code yX6_init cX6_init 1 none :: q_G) rmX6_init as sh m R := by
  refine q_met (code := TX6_init (sh.length + rmX6_init.cells, q_sl sh + rmX6_init.slots)) (by decide) (fun X hl hQ hcap h pc => ?_) hw.1 hw.2
  unfold TX6_init
  exact k_at (sX6_init_0 hl hQ hcap h) (k_no)
/-! TumblingRock$Route.<init>()V -/
abbrev dlX5_init : List (Nat × (Instr × Nat)) := [(0, .aload_n 0, 1), (1, .invokespecial 3, 3), (4, .aload_n 0, 1), (5, .sipush 328, 3), (8, .newarray .int, 2), (10, .putfield 9, 3), (13, .aload_n 0, 1), (14, .bipush 41, 2), (16, .newarray .int, 2), (18, .putfield 15, 3), (21, .return_, 1)]
theorem ddX5_init : ∀ q ∈ dlX5_init, decode cX5_init q.1 = .ok q.2 := by decide +kernel
theorem sX5_init_0 {l : Launch} {X : q_CX} {cap : Nat × Nat} (hl : X.2.1 = l) (hQ : q_QM X) (hcap : q_cap X rmX5_init cap) (h : q_OK X yX5_init cX5_init 1 none rmX5_init (Cond.code yX5_init cX5_init 1 none :: q_G)) : q_SK X 1 0 (BX5_init_0 cap) := by
  refine k_aload_n (i := 0) h (ddX5_init (0, .aload_n 0, 1) (List.mem_of_getElem? (i := 0) rfl)) rfl ?_
  refine k_obj h (List.mem_cons_of_mem _ gw46) (List.mem_cons_of_mem _ gw1) (List.mem_cons_of_mem _ gw2) (by decide) (by decide) (ddX5_init (1, .invokespecial 3, 3) (List.mem_of_getElem? (i := 1) rfl)) ?_
  refine k_aload_n (i := 0) h (ddX5_init (4, .aload_n 0, 1) (List.mem_of_getElem? (i := 2) rfl)) rfl ?_
  refine k_sipush (v := 328) h (ddX5_init (5, .sipush 328, 3) (List.mem_of_getElem? (i := 3) rfl)) (by decide) ?_
  refine k_newi h hcap (n := 328) (by decide) (List.mem_cons_of_mem _ gw7) (ddX5_init (8, .newarray .int, 2) (List.mem_of_getElem? (i := 4) rfl)) ?_
  refine k_putrF (ty := .array .int) (ci := 5) (j := 0) (C := RX5) (T := TX5) (N := 2) h rfl (fun w hw => List.mem_cons_of_mem _ (q_inX5 w hw)) (by decide) (List.mem_cons_of_mem _ gw47) tyX5 tyX5_ok nmX5 (by decide +kernel) rfl rfl (by decide +kernel) (fun _ => ⟨rfl, rfl⟩) (ddX5_init (10, .putfield 9, 3) (List.mem_of_getElem? (i := 5) rfl)) ?_
  refine k_aload_n (i := 0) h (ddX5_init (13, .aload_n 0, 1) (List.mem_of_getElem? (i := 6) rfl)) rfl ?_
  refine k_bipush (v := 41) h (ddX5_init (14, .bipush 41, 2) (List.mem_of_getElem? (i := 7) rfl)) (by decide) ?_
  refine k_newi h hcap (n := 41) (by decide) (List.mem_cons_of_mem _ gw7) (ddX5_init (16, .newarray .int, 2) (List.mem_of_getElem? (i := 8) rfl)) ?_
  refine k_putrF (ty := .array .int) (ci := 5) (j := 1) (C := RX5) (T := TX5) (N := 2) h rfl (fun w hw => List.mem_cons_of_mem _ (q_inX5 w hw)) (by decide) (List.mem_cons_of_mem _ gw48) tyX5 tyX5_ok nmX5 (by decide +kernel) rfl rfl (by decide +kernel) (fun _ => ⟨rfl, rfl⟩) (ddX5_init (18, .putfield 15, 3) (List.mem_of_getElem? (i := 9) rfl)) ?_
  exact k_vret h hQ (ddX5_init (21, .return_, 1) (List.mem_of_getElem? (i := 10) rfl))
theorem aX5_init (l : Launch) (as : List Value) (sh : q_Sh) (m : q_Mm) (R : q_KR) (hw : wX5_init as sh m R) : q_AM l yX5_init (Cond.code yX5_init cX5_init 1 none :: q_G) rmX5_init as sh m R := by
  refine q_met (code := TX5_init (sh.length + rmX5_init.cells, q_sl sh + rmX5_init.slots)) (by decide) (fun X hl hQ hcap h pc => ?_) hw.1 hw.2
  unfold TX5_init
  exact k_at (sX5_init_0 hl hQ hcap h) (k_no)
/-! TumblingRock$Mender.<init>()V -/
abbrev dlX2_init : List (Nat × (Instr × Nat)) := [(0, .aload_n 0, 1), (1, .invokespecial 3, 3), (4, .aload_n 0, 1), (5, .sipush 1728, 3), (8, .newarray .int, 2), (10, .putfield 9, 3), (13, .aload_n 0, 1), (14, .sipush 1728, 3), (17, .newarray .int, 2), (19, .putfield 15, 3), (22, .return_, 1)]
theorem ddX2_init : ∀ q ∈ dlX2_init, decode cX2_init q.1 = .ok q.2 := by decide +kernel
theorem sX2_init_0 {l : Launch} {X : q_CX} {cap : Nat × Nat} (hl : X.2.1 = l) (hQ : q_QM X) (hcap : q_cap X rmX2_init cap) (h : q_OK X yX2_init cX2_init 1 none rmX2_init (Cond.code yX2_init cX2_init 1 none :: q_G)) : q_SK X 1 0 (BX2_init_0 cap) := by
  refine k_aload_n (i := 0) h (ddX2_init (0, .aload_n 0, 1) (List.mem_of_getElem? (i := 0) rfl)) rfl ?_
  refine k_obj h (List.mem_cons_of_mem _ gw55) (List.mem_cons_of_mem _ gw1) (List.mem_cons_of_mem _ gw2) (by decide) (by decide) (ddX2_init (1, .invokespecial 3, 3) (List.mem_of_getElem? (i := 1) rfl)) ?_
  refine k_aload_n (i := 0) h (ddX2_init (4, .aload_n 0, 1) (List.mem_of_getElem? (i := 2) rfl)) rfl ?_
  refine k_sipush (v := 1728) h (ddX2_init (5, .sipush 1728, 3) (List.mem_of_getElem? (i := 3) rfl)) (by decide) ?_
  refine k_newi h hcap (n := 1728) (by decide) (List.mem_cons_of_mem _ gw7) (ddX2_init (8, .newarray .int, 2) (List.mem_of_getElem? (i := 4) rfl)) ?_
  refine k_putrF (ty := .array .int) (ci := 2) (j := 0) (C := RX2) (T := TX2) (N := 3) h rfl (fun w hw => List.mem_cons_of_mem _ (q_inX2 w hw)) (by decide) (List.mem_cons_of_mem _ gw56) tyX2 tyX2_ok nmX2 (by decide +kernel) rfl rfl (by decide +kernel) (fun _ => ⟨rfl, rfl⟩) (ddX2_init (10, .putfield 9, 3) (List.mem_of_getElem? (i := 5) rfl)) ?_
  refine k_aload_n (i := 0) h (ddX2_init (13, .aload_n 0, 1) (List.mem_of_getElem? (i := 6) rfl)) rfl ?_
  refine k_sipush (v := 1728) h (ddX2_init (14, .sipush 1728, 3) (List.mem_of_getElem? (i := 7) rfl)) (by decide) ?_
  refine k_newi h hcap (n := 1728) (by decide) (List.mem_cons_of_mem _ gw7) (ddX2_init (17, .newarray .int, 2) (List.mem_of_getElem? (i := 8) rfl)) ?_
  refine k_putrF (ty := .array .int) (ci := 2) (j := 1) (C := RX2) (T := TX2) (N := 3) h rfl (fun w hw => List.mem_cons_of_mem _ (q_inX2 w hw)) (by decide) (List.mem_cons_of_mem _ gw57) tyX2 tyX2_ok nmX2 (by decide +kernel) rfl rfl (by decide +kernel) (fun _ => ⟨rfl, rfl⟩) (ddX2_init (19, .putfield 15, 3) (List.mem_of_getElem? (i := 9) rfl)) ?_
  exact k_vret h hQ (ddX2_init (22, .return_, 1) (List.mem_of_getElem? (i := 10) rfl))
theorem aX2_init (l : Launch) (as : List Value) (sh : q_Sh) (m : q_Mm) (R : q_KR) (hw : wX2_init as sh m R) : q_AM l yX2_init (Cond.code yX2_init cX2_init 1 none :: q_G) rmX2_init as sh m R := by
  refine q_met (code := TX2_init (sh.length + rmX2_init.cells, q_sl sh + rmX2_init.slots)) (by decide) (fun X hl hQ hcap h pc => ?_) hw.1 hw.2
  unfold TX2_init
  exact k_at (sX2_init_0 hl hQ hcap h) (k_no)
/-! TumblingRock$Book.<init>()V -/
abbrev dlX0_init : List (Nat × (Instr × Nat)) := [(0, .aload_n 0, 1), (1, .invokespecial 3, 3), (4, .aload_n 0, 1), (5, .bipush 30, 2), (7, .newarray .int, 2), (9, .putfield 9, 3), (12, .return_, 1)]
theorem ddX0_init : ∀ q ∈ dlX0_init, decode cX0_init q.1 = .ok q.2 := by decide +kernel
theorem sX0_init_0 {l : Launch} {X : q_CX} {cap : Nat × Nat} (hl : X.2.1 = l) (hQ : q_QM X) (hcap : q_cap X rmX0_init cap) (h : q_OK X yX0_init cX0_init 1 none rmX0_init (Cond.code yX0_init cX0_init 1 none :: q_G)) : q_SK X 1 0 (BX0_init_0 cap) := by
  refine k_aload_n (i := 0) h (ddX0_init (0, .aload_n 0, 1) (List.mem_of_getElem? (i := 0) rfl)) rfl ?_
  refine k_obj h (List.mem_cons_of_mem _ gw64) (List.mem_cons_of_mem _ gw1) (List.mem_cons_of_mem _ gw2) (by decide) (by decide) (ddX0_init (1, .invokespecial 3, 3) (List.mem_of_getElem? (i := 1) rfl)) ?_
  refine k_aload_n (i := 0) h (ddX0_init (4, .aload_n 0, 1) (List.mem_of_getElem? (i := 2) rfl)) rfl ?_
  refine k_bipush (v := 30) h (ddX0_init (5, .bipush 30, 2) (List.mem_of_getElem? (i := 3) rfl)) (by decide) ?_
  refine k_newi h hcap (n := 30) (by decide) (List.mem_cons_of_mem _ gw7) (ddX0_init (7, .newarray .int, 2) (List.mem_of_getElem? (i := 4) rfl)) ?_
  refine k_putrF (ty := .array .int) (ci := 0) (j := 0) (C := RX0) (T := TX0) (N := 2) h rfl (fun w hw => List.mem_cons_of_mem _ (q_inX0 w hw)) (by decide) (List.mem_cons_of_mem _ gw65) tyX0 tyX0_ok nmX0 (by decide +kernel) rfl rfl (by decide +kernel) (fun _ => ⟨rfl, rfl⟩) (ddX0_init (9, .putfield 9, 3) (List.mem_of_getElem? (i := 5) rfl)) ?_
  exact k_vret h hQ (ddX0_init (12, .return_, 1) (List.mem_of_getElem? (i := 6) rfl))
theorem aX0_init (l : Launch) (as : List Value) (sh : q_Sh) (m : q_Mm) (R : q_KR) (hw : wX0_init as sh m R) : q_AM l yX0_init (Cond.code yX0_init cX0_init 1 none :: q_G) rmX0_init as sh m R := by
  refine q_met (code := TX0_init (sh.length + rmX0_init.cells, q_sl sh + rmX0_init.slots)) (by decide) (fun X hl hQ hcap h pc => ?_) hw.1 hw.2
  unfold TX0_init
  exact k_at (sX0_init_0 hl hQ hcap h) (k_no)
/-! TumblingRock$Rock.clear()V -/
abbrev dlX4_clear : List (Nat × (Instr × Nat)) := [(0, .aload_n 0, 1), (1, .iconst 0, 1), (2, .putfield 42, 3), (5, .aload_n 0, 1), (6, .iconst 0, 1), (7, .putfield 46, 3), (10, .aload_n 0, 1), (11, .iconst 0, 1), (12, .putfield 49, 3), (15, .aload_n 0, 1), (16, .iconst 0, 1), (17, .putfield 52, 3), (20, .iconst 0, 1), (21, .istore_n 1, 1), (22, .iload_n 1, 1), (23, .iconst 3, 1), (24, .if_icmp .ge 16, 3), (27, .aload_n 0, 1), (28, .getfield 9, 3), (31, .iload_n 1, 1), (32, .iconst 1, 1), (33, .iastore, 1), (34, .iinc 1 1, 3), (37, .goto (-15), 3), (40, .iconst 0, 1), (41, .istore_n 1, 1), (42, .iload_n 1, 1), (43, .bipush 8, 2), (45, .if_icmp .ge 16, 3), (48, .aload_n 0, 1), (49, .getfield 24, 3), (52, .iload_n 1, 1), (53, .iconst 0, 1), (54, .iastore, 1), (55, .iinc 1 1, 3), (58, .goto (-16), 3), (61, .return_, 1)]
theorem ddX4_clear : ∀ q ∈ dlX4_clear, decode cX4_clear q.1 = .ok q.2 := by decide +kernel
theorem sX4_clear_0 {l : Launch} {X : q_CX} (hl : X.2.1 = l) (hQ : q_QM X) (h : q_OK X yX4_clear cX4_clear 2 none rmX4_clear (Cond.code yX4_clear cX4_clear 2 none :: q_G)) : q_SK X 2 0 (BX4_clear_0) := by
  refine k_aload_n (i := 0) h (ddX4_clear (0, .aload_n 0, 1) (List.mem_of_getElem? (i := 0) rfl)) rfl ?_
  refine k_iconst (v := 0) h (ddX4_clear (1, .iconst 0, 1) (List.mem_of_getElem? (i := 1) rfl)) (by decide) ?_
  refine k_putf (ci := 4) (j := 0) (C := RX4) (T := TX4) (N := 14) h rfl (fun w hw => List.mem_cons_of_mem _ (q_inX4 w hw)) (by decide) (List.mem_cons_of_mem _ gw81) tyX4 tyX4_ok nmX4 (by decide +kernel) (by decide +kernel) (ddX4_clear (2, .putfield 42, 3) (List.mem_of_getElem? (i := 2) rfl)) ?_
  refine k_aload_n (i := 0) h (ddX4_clear (5, .aload_n 0, 1) (List.mem_of_getElem? (i := 3) rfl)) rfl ?_
  refine k_iconst (v := 0) h (ddX4_clear (6, .iconst 0, 1) (List.mem_of_getElem? (i := 4) rfl)) (by decide) ?_
  refine k_putf (ci := 4) (j := 1) (C := RX4) (T := TX4) (N := 14) h rfl (fun w hw => List.mem_cons_of_mem _ (q_inX4 w hw)) (by decide) (List.mem_cons_of_mem _ gw82) tyX4 tyX4_ok nmX4 (by decide +kernel) (by decide +kernel) (ddX4_clear (7, .putfield 46, 3) (List.mem_of_getElem? (i := 5) rfl)) ?_
  refine k_aload_n (i := 0) h (ddX4_clear (10, .aload_n 0, 1) (List.mem_of_getElem? (i := 6) rfl)) rfl ?_
  refine k_iconst (v := 0) h (ddX4_clear (11, .iconst 0, 1) (List.mem_of_getElem? (i := 7) rfl)) (by decide) ?_
  refine k_putf (ci := 4) (j := 2) (C := RX4) (T := TX4) (N := 14) h rfl (fun w hw => List.mem_cons_of_mem _ (q_inX4 w hw)) (by decide) (List.mem_cons_of_mem _ gw83) tyX4 tyX4_ok nmX4 (by decide +kernel) (by decide +kernel) (ddX4_clear (12, .putfield 49, 3) (List.mem_of_getElem? (i := 8) rfl)) ?_
  refine k_aload_n (i := 0) h (ddX4_clear (15, .aload_n 0, 1) (List.mem_of_getElem? (i := 9) rfl)) rfl ?_
  refine k_iconst (v := 0) h (ddX4_clear (16, .iconst 0, 1) (List.mem_of_getElem? (i := 10) rfl)) (by decide) ?_
  refine k_putf (ci := 4) (j := 3) (C := RX4) (T := TX4) (N := 14) h rfl (fun w hw => List.mem_cons_of_mem _ (q_inX4 w hw)) (by decide) (List.mem_cons_of_mem _ gw84) tyX4 tyX4_ok nmX4 (by decide +kernel) (by decide +kernel) (ddX4_clear (17, .putfield 52, 3) (List.mem_of_getElem? (i := 11) rfl)) ?_
  refine k_iconst (v := 0) h (ddX4_clear (20, .iconst 0, 1) (List.mem_of_getElem? (i := 12) rfl)) (by decide) ?_
  refine k_istore_n (i := 1) h (ddX4_clear (21, .istore_n 1, 1) (List.mem_of_getElem? (i := 13) rfl)) rfl (by decide) ?_
  exact k_cut
theorem sX4_clear_40 {l : Launch} {X : q_CX} (hl : X.2.1 = l) (hQ : q_QM X) (h : q_OK X yX4_clear cX4_clear 2 none rmX4_clear (Cond.code yX4_clear cX4_clear 2 none :: q_G)) : q_SK X 2 40 (BX4_clear_40) := by
  refine k_iconst (v := 0) h (ddX4_clear (40, .iconst 0, 1) (List.mem_of_getElem? (i := 24) rfl)) (by decide) ?_
  refine k_istore_n (i := 1) h (ddX4_clear (41, .istore_n 1, 1) (List.mem_of_getElem? (i := 25) rfl)) rfl (by decide) ?_
  exact k_cut
theorem sX4_clear_27 {l : Launch} {X : q_CX} (hl : X.2.1 = l) (hQ : q_QM X) (h : q_OK X yX4_clear cX4_clear 2 none rmX4_clear (Cond.code yX4_clear cX4_clear 2 none :: q_G)) : q_SK X 2 27 (BX4_clear_27) := by
  refine k_aload_n (i := 0) h (ddX4_clear (27, .aload_n 0, 1) (List.mem_of_getElem? (i := 17) rfl)) rfl ?_
  refine k_getf (ci := 4) (j := 6) (C := RX4) (T := TX4) (N := 14) h rfl (fun w hw => List.mem_cons_of_mem _ (q_inX4 w hw)) (by decide) (List.mem_cons_of_mem _ gw73) (ddX4_clear (28, .getfield 9, 3) (List.mem_of_getElem? (i := 18) rfl)) ?_
  refine k_iload_n (i := 1) h (ddX4_clear (31, .iload_n 1, 1) (List.mem_of_getElem? (i := 19) rfl)) rfl ?_
  refine k_iconst (v := 1) h (ddX4_clear (32, .iconst 1, 1) (List.mem_of_getElem? (i := 20) rfl)) (by decide) ?_
  refine k_iast h (ddX4_clear (33, .iastore, 1) (List.mem_of_getElem? (i := 21) rfl)) ?_
  refine k_iinc (d := 1) h (ddX4_clear (34, .iinc 1 1, 3) (List.mem_of_getElem? (i := 22) rfl)) (by decide) (by decide) ?_
  refine k_goto h (ddX4_clear (37, .goto (-15), 3) (List.mem_of_getElem? (i := 23) rfl)) (tgt := 22) (by decide) ?_
  exact k_cut
theorem sX4_clear_22 {l : Launch} {X : q_CX} (hl : X.2.1 = l) (hQ : q_QM X) (h : q_OK X yX4_clear cX4_clear 2 none rmX4_clear (Cond.code yX4_clear cX4_clear 2 none :: q_G)) : q_SK X 2 22 (BX4_clear_22) := by
  refine k_iload_n (i := 1) h (ddX4_clear (22, .iload_n 1, 1) (List.mem_of_getElem? (i := 14) rfl)) rfl ?_
  refine k_iconst (v := 3) h (ddX4_clear (23, .iconst 3, 1) (List.mem_of_getElem? (i := 15) rfl)) (by decide) ?_
  refine k_icge h (ddX4_clear (24, .if_icmp .ge 16, 3) (List.mem_of_getElem? (i := 16) rfl)) (tgt := 40) (by decide) ?_ ?_
  · exact sX4_clear_40 hl hQ h
  · exact sX4_clear_27 hl hQ h
theorem sX4_clear_61 {l : Launch} {X : q_CX} (hl : X.2.1 = l) (hQ : q_QM X) (h : q_OK X yX4_clear cX4_clear 2 none rmX4_clear (Cond.code yX4_clear cX4_clear 2 none :: q_G)) : q_SK X 2 61 (BX4_clear_61) := by
  exact k_vret h hQ (ddX4_clear (61, .return_, 1) (List.mem_of_getElem? (i := 36) rfl))
theorem sX4_clear_48 {l : Launch} {X : q_CX} (hl : X.2.1 = l) (hQ : q_QM X) (h : q_OK X yX4_clear cX4_clear 2 none rmX4_clear (Cond.code yX4_clear cX4_clear 2 none :: q_G)) : q_SK X 2 48 (BX4_clear_48) := by
  refine k_aload_n (i := 0) h (ddX4_clear (48, .aload_n 0, 1) (List.mem_of_getElem? (i := 29) rfl)) rfl ?_
  refine k_getf (ci := 4) (j := 10) (C := RX4) (T := TX4) (N := 14) h rfl (fun w hw => List.mem_cons_of_mem _ (q_inX4 w hw)) (by decide) (List.mem_cons_of_mem _ gw77) (ddX4_clear (49, .getfield 24, 3) (List.mem_of_getElem? (i := 30) rfl)) ?_
  refine k_iload_n (i := 1) h (ddX4_clear (52, .iload_n 1, 1) (List.mem_of_getElem? (i := 31) rfl)) rfl ?_
  refine k_iconst (v := 0) h (ddX4_clear (53, .iconst 0, 1) (List.mem_of_getElem? (i := 32) rfl)) (by decide) ?_
  refine k_iast h (ddX4_clear (54, .iastore, 1) (List.mem_of_getElem? (i := 33) rfl)) ?_
  refine k_iinc (d := 1) h (ddX4_clear (55, .iinc 1 1, 3) (List.mem_of_getElem? (i := 34) rfl)) (by decide) (by decide) ?_
  refine k_goto h (ddX4_clear (58, .goto (-16), 3) (List.mem_of_getElem? (i := 35) rfl)) (tgt := 42) (by decide) ?_
  exact k_cut
theorem sX4_clear_42 {l : Launch} {X : q_CX} (hl : X.2.1 = l) (hQ : q_QM X) (h : q_OK X yX4_clear cX4_clear 2 none rmX4_clear (Cond.code yX4_clear cX4_clear 2 none :: q_G)) : q_SK X 2 42 (BX4_clear_42) := by
  refine k_iload_n (i := 1) h (ddX4_clear (42, .iload_n 1, 1) (List.mem_of_getElem? (i := 26) rfl)) rfl ?_
  refine k_bipush (v := 8) h (ddX4_clear (43, .bipush 8, 2) (List.mem_of_getElem? (i := 27) rfl)) (by decide) ?_
  refine k_icge h (ddX4_clear (45, .if_icmp .ge 16, 3) (List.mem_of_getElem? (i := 28) rfl)) (tgt := 61) (by decide) ?_ ?_
  · exact sX4_clear_61 hl hQ h
  · exact sX4_clear_48 hl hQ h
theorem aX4_clear (l : Launch) (as : List Value) (sh : q_Sh) (m : q_Mm) (R : q_KR) (hw : wX4_clear as sh m R) : q_AM l yX4_clear (Cond.code yX4_clear cX4_clear 2 none :: q_G) rmX4_clear as sh m R := by
  refine q_met (code := TX4_clear) (by decide) (fun X hl hQ _ h pc => ?_) hw.1 hw.2
  unfold TX4_clear
  exact k_at (sX4_clear_0 hl hQ h) (k_at (sX4_clear_22 hl hQ h) (k_at (sX4_clear_42 hl hQ h) (k_no)))
/-! TumblingRock.leftOver(II)I -/
abbrev dlX8_leftOver : List (Nat × (Instr × Nat)) := [(0, .iload_n 1, 1), (1, .iconst 1, 1), (2, .if_icmp .ge 7, 3), (5, .iconst 0, 1), (6, .goto 6, 3), (9, .iload_n 0, 1), (10, .iload_n 1, 1), (11, .irem, 1), (12, .ireturn, 1)]
theorem ddX8_leftOver : ∀ q ∈ dlX8_leftOver, decode cX8_leftOver q.1 = .ok q.2 := by decide +kernel
theorem sX8_leftOver_12 {l : Launch} {X : q_CX} (hl : X.2.1 = l) (hQ : q_QM X) (h : q_OK X yX8_leftOver cX8_leftOver 2 (some .int) rmX8_leftOver (Cond.code yX8_leftOver cX8_leftOver 2 (some .int) :: q_G)) : q_SK X 2 12 (BX8_leftOver_12) := by
  exact k_iret h hQ (ddX8_leftOver (12, .ireturn, 1) (List.mem_of_getElem? (i := 8) rfl))
theorem sX8_leftOver_9 {l : Launch} {X : q_CX} (hl : X.2.1 = l) (hQ : q_QM X) (h : q_OK X yX8_leftOver cX8_leftOver 2 (some .int) rmX8_leftOver (Cond.code yX8_leftOver cX8_leftOver 2 (some .int) :: q_G)) : q_SK X 2 9 (BX8_leftOver_9) := by
  refine k_iload_n (i := 0) h (ddX8_leftOver (9, .iload_n 0, 1) (List.mem_of_getElem? (i := 5) rfl)) rfl ?_
  refine k_iload_n (i := 1) h (ddX8_leftOver (10, .iload_n 1, 1) (List.mem_of_getElem? (i := 6) rfl)) rfl ?_
  refine k_irem h (ddX8_leftOver (11, .irem, 1) (List.mem_of_getElem? (i := 7) rfl)) ?_
  exact sX8_leftOver_12 hl hQ h
theorem sX8_leftOver_5 {l : Launch} {X : q_CX} (hl : X.2.1 = l) (hQ : q_QM X) (h : q_OK X yX8_leftOver cX8_leftOver 2 (some .int) rmX8_leftOver (Cond.code yX8_leftOver cX8_leftOver 2 (some .int) :: q_G)) : q_SK X 2 5 (BX8_leftOver_5) := by
  refine k_iconst (v := 0) h (ddX8_leftOver (5, .iconst 0, 1) (List.mem_of_getElem? (i := 3) rfl)) (by decide) ?_
  refine k_goto h (ddX8_leftOver (6, .goto 6, 3) (List.mem_of_getElem? (i := 4) rfl)) (tgt := 12) (by decide) ?_
  exact sX8_leftOver_12 hl hQ h
theorem sX8_leftOver_0 {l : Launch} {X : q_CX} (hl : X.2.1 = l) (hQ : q_QM X) (h : q_OK X yX8_leftOver cX8_leftOver 2 (some .int) rmX8_leftOver (Cond.code yX8_leftOver cX8_leftOver 2 (some .int) :: q_G)) : q_SK X 2 0 (BX8_leftOver_0) := by
  refine k_iload_n (i := 1) h (ddX8_leftOver (0, .iload_n 1, 1) (List.mem_of_getElem? (i := 0) rfl)) rfl ?_
  refine k_iconst (v := 1) h (ddX8_leftOver (1, .iconst 1, 1) (List.mem_of_getElem? (i := 1) rfl)) (by decide) ?_
  refine k_icge h (ddX8_leftOver (2, .if_icmp .ge 7, 3) (List.mem_of_getElem? (i := 2) rfl)) (tgt := 9) (by decide) ?_ ?_
  · exact sX8_leftOver_9 hl hQ h
  · exact sX8_leftOver_5 hl hQ h
theorem aX8_leftOver (l : Launch) (as : List Value) (sh : q_Sh) (m : q_Mm) (R : q_KR) (hw : wX8_leftOver as sh m R) : q_AM l yX8_leftOver (Cond.code yX8_leftOver cX8_leftOver 2 (some .int) :: q_G) rmX8_leftOver as sh m R := by
  refine q_met (code := TX8_leftOver) (by decide) (fun X hl hQ _ h pc => ?_) hw.1 hw.2
  unfold TX8_leftOver
  exact k_at (sX8_leftOver_0 hl hQ h) (k_no)
/-! TumblingRock$Rock.leastPeriod()I -/
abbrev dlX4_leastPeriod : List (Nat × (Instr × Nat)) := [(0, .iconst 1, 1), (1, .istore_n 1, 1), (2, .iload_n 1, 1), (3, .aload_n 0, 1), (4, .getfield 66, 3), (7, .if_icmp .ge 50, 3), (10, .iload_n 1, 1), (11, .aload_n 0, 1), (12, .getfield 9, 3), (15, .iconst 0, 1), (16, .iaload, 1), (17, .invokestatic 83, 3), (20, .ifCond .ne 31, 3), (23, .iload_n 1, 1), (24, .aload_n 0, 1), (25, .getfield 9, 3), (28, .iconst 1, 1), (29, .iaload, 1), (30, .invokestatic 83, 3), (33, .ifCond .ne 18, 3), (36, .iload_n 1, 1), (37, .aload_n 0, 1), (38, .getfield 9, 3), (41, .iconst 2, 1), (42, .iaload, 1), (43, .invokestatic 83, 3), (46, .ifCond .ne 5, 3), (49, .iload_n 1, 1), (50, .ireturn, 1), (51, .iinc 1 1, 3), (54, .goto (-52), 3), (57, .aload_n 0, 1), (58, .getfield 66, 3), (61, .ireturn, 1)]
theorem ddX4_leastPeriod : ∀ q ∈ dlX4_leastPeriod, decode cX4_leastPeriod q.1 = .ok q.2 := by decide +kernel
theorem sX4_leastPeriod_0 {l : Launch} {X : q_CX} (hl : X.2.1 = l) (hQ : q_QM X) (h : q_OK X yX4_leastPeriod cX4_leastPeriod 2 (some .int) rmX4_leastPeriod (Cond.code yX4_leastPeriod cX4_leastPeriod 2 (some .int) :: q_G)) : q_SK X 2 0 (BX4_leastPeriod_0) := by
  refine k_iconst (v := 1) h (ddX4_leastPeriod (0, .iconst 1, 1) (List.mem_of_getElem? (i := 0) rfl)) (by decide) ?_
  refine k_istore_n (i := 1) h (ddX4_leastPeriod (1, .istore_n 1, 1) (List.mem_of_getElem? (i := 1) rfl)) rfl (by decide) ?_
  exact k_cut
theorem sX4_leastPeriod_57 {l : Launch} {X : q_CX} (hl : X.2.1 = l) (hQ : q_QM X) (h : q_OK X yX4_leastPeriod cX4_leastPeriod 2 (some .int) rmX4_leastPeriod (Cond.code yX4_leastPeriod cX4_leastPeriod 2 (some .int) :: q_G)) : q_SK X 2 57 (BX4_leastPeriod_57) := by
  refine k_aload_n (i := 0) h (ddX4_leastPeriod (57, .aload_n 0, 1) (List.mem_of_getElem? (i := 31) rfl)) rfl ?_
  refine k_getf (ci := 4) (j := 4) (C := RX4) (T := TX4) (N := 14) h rfl (fun w hw => List.mem_cons_of_mem _ (q_inX4 w hw)) (by decide) (List.mem_cons_of_mem _ gw89) (ddX4_leastPeriod (58, .getfield 66, 3) (List.mem_of_getElem? (i := 32) rfl)) ?_
  exact k_iret h hQ (ddX4_leastPeriod (61, .ireturn, 1) (List.mem_of_getElem? (i := 33) rfl))
theorem sX4_leastPeriod_51 {l : Launch} {X : q_CX} (hl : X.2.1 = l) (hQ : q_QM X) (h : q_OK X yX4_leastPeriod cX4_leastPeriod 2 (some .int) rmX4_leastPeriod (Cond.code yX4_leastPeriod cX4_leastPeriod 2 (some .int) :: q_G)) : q_SK X 2 51 (BX4_leastPeriod_51) := by
  refine k_iinc (d := 1) h (ddX4_leastPeriod (51, .iinc 1 1, 3) (List.mem_of_getElem? (i := 29) rfl)) (by decide) (by decide) ?_
  refine k_goto h (ddX4_leastPeriod (54, .goto (-52), 3) (List.mem_of_getElem? (i := 30) rfl)) (tgt := 2) (by decide) ?_
  exact k_cut
theorem sX4_leastPeriod_49 {l : Launch} {X : q_CX} (hl : X.2.1 = l) (hQ : q_QM X) (h : q_OK X yX4_leastPeriod cX4_leastPeriod 2 (some .int) rmX4_leastPeriod (Cond.code yX4_leastPeriod cX4_leastPeriod 2 (some .int) :: q_G)) : q_SK X 2 49 (BX4_leastPeriod_49) := by
  refine k_iload_n (i := 1) h (ddX4_leastPeriod (49, .iload_n 1, 1) (List.mem_of_getElem? (i := 27) rfl)) rfl ?_
  exact k_iret h hQ (ddX4_leastPeriod (50, .ireturn, 1) (List.mem_of_getElem? (i := 28) rfl))
theorem sX4_leastPeriod_36 {l : Launch} {X : q_CX} (hl : X.2.1 = l) (hQ : q_QM X) (h : q_OK X yX4_leastPeriod cX4_leastPeriod 2 (some .int) rmX4_leastPeriod (Cond.code yX4_leastPeriod cX4_leastPeriod 2 (some .int) :: q_G)) : q_SK X 2 36 (BX4_leastPeriod_36) := by
  refine k_iload_n (i := 1) h (ddX4_leastPeriod (36, .iload_n 1, 1) (List.mem_of_getElem? (i := 20) rfl)) rfl ?_
  refine k_aload_n (i := 0) h (ddX4_leastPeriod (37, .aload_n 0, 1) (List.mem_of_getElem? (i := 21) rfl)) rfl ?_
  refine k_getf (ci := 4) (j := 6) (C := RX4) (T := TX4) (N := 14) h rfl (fun w hw => List.mem_cons_of_mem _ (q_inX4 w hw)) (by decide) (List.mem_cons_of_mem _ gw73) (ddX4_leastPeriod (38, .getfield 9, 3) (List.mem_of_getElem? (i := 22) rfl)) ?_
  refine k_iconst (v := 2) h (ddX4_leastPeriod (41, .iconst 2, 1) (List.mem_of_getElem? (i := 23) rfl)) (by decide) ?_
  refine k_iald h (ddX4_leastPeriod (42, .iaload, 1) (List.mem_of_getElem? (i := 24) rfl)) ?_
  refine k_callN h hl (aX8_leftOver l) ⟨rfl, rfl⟩ (n := 2) (by decide +kernel) (q_gN gw90) (by decide +kernel) (List.mem_cons_of_mem _ gw91) (List.mem_cons_of_mem _ gw92) ⟨by decide, by decide⟩ (ddX4_leastPeriod (43, .invokestatic 83, 3) (List.mem_of_getElem? (i := 25) rfl)) ?_
  refine k_ifne h (ddX4_leastPeriod (46, .ifCond .ne 5, 3) (List.mem_of_getElem? (i := 26) rfl)) (tgt := 51) (by decide) ?_ ?_
  · exact sX4_leastPeriod_51 hl hQ h
  · exact sX4_leastPeriod_49 hl hQ h
theorem sX4_leastPeriod_23 {l : Launch} {X : q_CX} (hl : X.2.1 = l) (hQ : q_QM X) (h : q_OK X yX4_leastPeriod cX4_leastPeriod 2 (some .int) rmX4_leastPeriod (Cond.code yX4_leastPeriod cX4_leastPeriod 2 (some .int) :: q_G)) : q_SK X 2 23 (BX4_leastPeriod_23) := by
  refine k_iload_n (i := 1) h (ddX4_leastPeriod (23, .iload_n 1, 1) (List.mem_of_getElem? (i := 13) rfl)) rfl ?_
  refine k_aload_n (i := 0) h (ddX4_leastPeriod (24, .aload_n 0, 1) (List.mem_of_getElem? (i := 14) rfl)) rfl ?_
  refine k_getf (ci := 4) (j := 6) (C := RX4) (T := TX4) (N := 14) h rfl (fun w hw => List.mem_cons_of_mem _ (q_inX4 w hw)) (by decide) (List.mem_cons_of_mem _ gw73) (ddX4_leastPeriod (25, .getfield 9, 3) (List.mem_of_getElem? (i := 15) rfl)) ?_
  refine k_iconst (v := 1) h (ddX4_leastPeriod (28, .iconst 1, 1) (List.mem_of_getElem? (i := 16) rfl)) (by decide) ?_
  refine k_iald h (ddX4_leastPeriod (29, .iaload, 1) (List.mem_of_getElem? (i := 17) rfl)) ?_
  refine k_callN h hl (aX8_leftOver l) ⟨rfl, rfl⟩ (n := 2) (by decide +kernel) (q_gN gw90) (by decide +kernel) (List.mem_cons_of_mem _ gw91) (List.mem_cons_of_mem _ gw92) ⟨by decide, by decide⟩ (ddX4_leastPeriod (30, .invokestatic 83, 3) (List.mem_of_getElem? (i := 18) rfl)) ?_
  refine k_ifne h (ddX4_leastPeriod (33, .ifCond .ne 18, 3) (List.mem_of_getElem? (i := 19) rfl)) (tgt := 51) (by decide) ?_ ?_
  · exact sX4_leastPeriod_51 hl hQ h
  · exact sX4_leastPeriod_36 hl hQ h
theorem sX4_leastPeriod_10 {l : Launch} {X : q_CX} (hl : X.2.1 = l) (hQ : q_QM X) (h : q_OK X yX4_leastPeriod cX4_leastPeriod 2 (some .int) rmX4_leastPeriod (Cond.code yX4_leastPeriod cX4_leastPeriod 2 (some .int) :: q_G)) : q_SK X 2 10 (BX4_leastPeriod_10) := by
  refine k_iload_n (i := 1) h (ddX4_leastPeriod (10, .iload_n 1, 1) (List.mem_of_getElem? (i := 6) rfl)) rfl ?_
  refine k_aload_n (i := 0) h (ddX4_leastPeriod (11, .aload_n 0, 1) (List.mem_of_getElem? (i := 7) rfl)) rfl ?_
  refine k_getf (ci := 4) (j := 6) (C := RX4) (T := TX4) (N := 14) h rfl (fun w hw => List.mem_cons_of_mem _ (q_inX4 w hw)) (by decide) (List.mem_cons_of_mem _ gw73) (ddX4_leastPeriod (12, .getfield 9, 3) (List.mem_of_getElem? (i := 8) rfl)) ?_
  refine k_iconst (v := 0) h (ddX4_leastPeriod (15, .iconst 0, 1) (List.mem_of_getElem? (i := 9) rfl)) (by decide) ?_
  refine k_iald h (ddX4_leastPeriod (16, .iaload, 1) (List.mem_of_getElem? (i := 10) rfl)) ?_
  refine k_callN h hl (aX8_leftOver l) ⟨rfl, rfl⟩ (n := 2) (by decide +kernel) (q_gN gw90) (by decide +kernel) (List.mem_cons_of_mem _ gw91) (List.mem_cons_of_mem _ gw92) ⟨by decide, by decide⟩ (ddX4_leastPeriod (17, .invokestatic 83, 3) (List.mem_of_getElem? (i := 11) rfl)) ?_
  refine k_ifne h (ddX4_leastPeriod (20, .ifCond .ne 31, 3) (List.mem_of_getElem? (i := 12) rfl)) (tgt := 51) (by decide) ?_ ?_
  · exact sX4_leastPeriod_51 hl hQ h
  · exact sX4_leastPeriod_23 hl hQ h
theorem sX4_leastPeriod_2 {l : Launch} {X : q_CX} (hl : X.2.1 = l) (hQ : q_QM X) (h : q_OK X yX4_leastPeriod cX4_leastPeriod 2 (some .int) rmX4_leastPeriod (Cond.code yX4_leastPeriod cX4_leastPeriod 2 (some .int) :: q_G)) : q_SK X 2 2 (BX4_leastPeriod_2) := by
  refine k_iload_n (i := 1) h (ddX4_leastPeriod (2, .iload_n 1, 1) (List.mem_of_getElem? (i := 2) rfl)) rfl ?_
  refine k_aload_n (i := 0) h (ddX4_leastPeriod (3, .aload_n 0, 1) (List.mem_of_getElem? (i := 3) rfl)) rfl ?_
  refine k_getf (ci := 4) (j := 4) (C := RX4) (T := TX4) (N := 14) h rfl (fun w hw => List.mem_cons_of_mem _ (q_inX4 w hw)) (by decide) (List.mem_cons_of_mem _ gw89) (ddX4_leastPeriod (4, .getfield 66, 3) (List.mem_of_getElem? (i := 4) rfl)) ?_
  refine k_icge h (ddX4_leastPeriod (7, .if_icmp .ge 50, 3) (List.mem_of_getElem? (i := 5) rfl)) (tgt := 57) (by decide) ?_ ?_
  · exact sX4_leastPeriod_57 hl hQ h
  · exact sX4_leastPeriod_10 hl hQ h
theorem aX4_leastPeriod (l : Launch) (as : List Value) (sh : q_Sh) (m : q_Mm) (R : q_KR) (hw : wX4_leastPeriod as sh m R) : q_AM l yX4_leastPeriod (Cond.code yX4_leastPeriod cX4_leastPeriod 2 (some .int) :: q_G) rmX4_leastPeriod as sh m R := by
  refine q_met (code := TX4_leastPeriod) (by decide) (fun X hl hQ _ h pc => ?_) hw.1 hw.2
  unfold TX4_leastPeriod
  exact k_at (sX4_leastPeriod_0 hl hQ h) (k_at (sX4_leastPeriod_2 hl hQ h) (k_no))
/-! TumblingRock.at([II)I -/
abbrev dlX8_at : List (Nat × (Instr × Nat)) := [(0, .iload_n 1, 1), (1, .ifCond .lt 15, 3), (4, .iload_n 1, 1), (5, .aload_n 0, 1), (6, .arraylength, 1), (7, .if_icmp .ge 9, 3), (10, .aload_n 0, 1), (11, .iload_n 1, 1), (12, .iaload, 1), (13, .goto 4, 3), (16, .iconst 0, 1), (17, .ireturn, 1)]
theorem ddX8_at : ∀ q ∈ dlX8_at, decode cX8_at q.1 = .ok q.2 := by decide +kernel
theorem sX8_at_17 {l : Launch} {X : q_CX} (hl : X.2.1 = l) (hQ : q_QM X) (h : q_OK X yX8_at cX8_at 2 (some .int) rmX8_at (Cond.code yX8_at cX8_at 2 (some .int) :: q_G)) : q_SK X 2 17 (BX8_at_17) := by
  exact k_iret h hQ (ddX8_at (17, .ireturn, 1) (List.mem_of_getElem? (i := 11) rfl))
theorem sX8_at_16 {l : Launch} {X : q_CX} (hl : X.2.1 = l) (hQ : q_QM X) (h : q_OK X yX8_at cX8_at 2 (some .int) rmX8_at (Cond.code yX8_at cX8_at 2 (some .int) :: q_G)) : q_SK X 2 16 (BX8_at_16) := by
  refine k_iconst (v := 0) h (ddX8_at (16, .iconst 0, 1) (List.mem_of_getElem? (i := 10) rfl)) (by decide) ?_
  exact sX8_at_17 hl hQ h
theorem sX8_at_10 {l : Launch} {X : q_CX} (hl : X.2.1 = l) (hQ : q_QM X) (h : q_OK X yX8_at cX8_at 2 (some .int) rmX8_at (Cond.code yX8_at cX8_at 2 (some .int) :: q_G)) : q_SK X 2 10 (BX8_at_10) := by
  refine k_aload_n (i := 0) h (ddX8_at (10, .aload_n 0, 1) (List.mem_of_getElem? (i := 6) rfl)) rfl ?_
  refine k_iload_n (i := 1) h (ddX8_at (11, .iload_n 1, 1) (List.mem_of_getElem? (i := 7) rfl)) rfl ?_
  refine k_iald h (ddX8_at (12, .iaload, 1) (List.mem_of_getElem? (i := 8) rfl)) ?_
  refine k_goto h (ddX8_at (13, .goto 4, 3) (List.mem_of_getElem? (i := 9) rfl)) (tgt := 17) (by decide) ?_
  exact sX8_at_17 hl hQ h
theorem sX8_at_4 {l : Launch} {X : q_CX} (hl : X.2.1 = l) (hQ : q_QM X) (h : q_OK X yX8_at cX8_at 2 (some .int) rmX8_at (Cond.code yX8_at cX8_at 2 (some .int) :: q_G)) : q_SK X 2 4 (BX8_at_4) := by
  refine k_iload_n (i := 1) h (ddX8_at (4, .iload_n 1, 1) (List.mem_of_getElem? (i := 2) rfl)) rfl ?_
  refine k_aload_n (i := 0) h (ddX8_at (5, .aload_n 0, 1) (List.mem_of_getElem? (i := 3) rfl)) rfl ?_
  refine k_alen h (ddX8_at (6, .arraylength, 1) (List.mem_of_getElem? (i := 4) rfl)) ?_
  refine k_icge h (ddX8_at (7, .if_icmp .ge 9, 3) (List.mem_of_getElem? (i := 5) rfl)) (tgt := 16) (by decide) ?_ ?_
  · exact sX8_at_16 hl hQ h
  · exact sX8_at_10 hl hQ h
theorem sX8_at_0 {l : Launch} {X : q_CX} (hl : X.2.1 = l) (hQ : q_QM X) (h : q_OK X yX8_at cX8_at 2 (some .int) rmX8_at (Cond.code yX8_at cX8_at 2 (some .int) :: q_G)) : q_SK X 2 0 (BX8_at_0) := by
  refine k_iload_n (i := 1) h (ddX8_at (0, .iload_n 1, 1) (List.mem_of_getElem? (i := 0) rfl)) rfl ?_
  refine k_iflt h (ddX8_at (1, .ifCond .lt 15, 3) (List.mem_of_getElem? (i := 1) rfl)) (tgt := 16) (by decide) ?_ ?_
  · exact sX8_at_16 hl hQ h
  · exact sX8_at_4 hl hQ h
theorem aX8_at (l : Launch) (as : List Value) (sh : q_Sh) (m : q_Mm) (R : q_KR) (hw : wX8_at as sh m R) : q_AM l yX8_at (Cond.code yX8_at cX8_at 2 (some .int) :: q_G) rmX8_at as sh m R := by
  refine q_met (code := TX8_at) (by decide) (fun X hl hQ _ h pc => ?_) hw.1 hw.2
  unfold TX8_at
  exact k_at (sX8_at_0 hl hQ h) (k_no)
/-! TumblingRock$Rock.face(II)I -/
abbrev dlX4_face : List (Nat × (Instr × Nat)) := [(0, .aload_n 0, 1), (1, .getfield 21, 3), (4, .iload_n 1, 1), (5, .iconst 3, 1), (6, .imul, 1), (7, .iload_n 2, 1), (8, .iadd, 1), (9, .invokestatic 90, 3), (12, .ireturn, 1)]
theorem ddX4_face : ∀ q ∈ dlX4_face, decode cX4_face q.1 = .ok q.2 := by decide +kernel
theorem sX4_face_0 {l : Launch} {X : q_CX} (hl : X.2.1 = l) (hQ : q_QM X) (h : q_OK X yX4_face cX4_face 3 (some .int) rmX4_face (Cond.code yX4_face cX4_face 3 (some .int) :: q_G)) : q_SK X 3 0 (BX4_face_0) := by
  refine k_aload_n (i := 0) h (ddX4_face (0, .aload_n 0, 1) (List.mem_of_getElem? (i := 0) rfl)) rfl ?_
  refine k_getf (ci := 4) (j := 9) (C := RX4) (T := TX4) (N := 14) h rfl (fun w hw => List.mem_cons_of_mem _ (q_inX4 w hw)) (by decide) (List.mem_cons_of_mem _ gw76) (ddX4_face (1, .getfield 21, 3) (List.mem_of_getElem? (i := 1) rfl)) ?_
  refine k_iload_n (i := 1) h (ddX4_face (4, .iload_n 1, 1) (List.mem_of_getElem? (i := 2) rfl)) rfl ?_
  refine k_iconst (v := 3) h (ddX4_face (5, .iconst 3, 1) (List.mem_of_getElem? (i := 3) rfl)) (by decide) ?_
  refine k_imul h (ddX4_face (6, .imul, 1) (List.mem_of_getElem? (i := 4) rfl)) ?_
  refine k_iload_n (i := 2) h (ddX4_face (7, .iload_n 2, 1) (List.mem_of_getElem? (i := 5) rfl)) rfl ?_
  refine k_iadd h (ddX4_face (8, .iadd, 1) (List.mem_of_getElem? (i := 6) rfl)) ?_
  refine k_callN h hl (aX8_at l) ⟨rfl, rfl⟩ (n := 2) (by decide +kernel) (q_gN gw98) (by decide +kernel) (List.mem_cons_of_mem _ gw91) (List.mem_cons_of_mem _ gw99) ⟨by decide, by decide⟩ (ddX4_face (9, .invokestatic 90, 3) (List.mem_of_getElem? (i := 7) rfl)) ?_
  exact k_iret h hQ (ddX4_face (12, .ireturn, 1) (List.mem_of_getElem? (i := 8) rfl))
theorem aX4_face (l : Launch) (as : List Value) (sh : q_Sh) (m : q_Mm) (R : q_KR) (hw : wX4_face as sh m R) : q_AM l yX4_face (Cond.code yX4_face cX4_face 3 (some .int) :: q_G) rmX4_face as sh m R := by
  refine q_met (code := TX4_face) (by decide) (fun X hl hQ _ h pc => ?_) hw.1 hw.2
  unfold TX4_face
  exact k_at (sX4_face_0 hl hQ h) (k_no)
/-! TumblingRock$Rock.digit(II)I -/
abbrev dlX4_digit : List (Nat × (Instr × Nat)) := [(0, .aload_n 0, 1), (1, .getfield 15, 3), (4, .iload_n 2, 1), (5, .invokestatic 90, 3), (8, .istore_n 3, 1), (9, .iload_n 3, 1), (10, .iconst 1, 1), (11, .if_icmp .ge 7, 3), (14, .iconst 0, 1), (15, .goto 17, 3), (18, .iload_n 1, 1), (19, .iload_n 3, 1), (20, .idiv, 1), (21, .aload_n 0, 1), (22, .getfield 9, 3), (25, .iload_n 2, 1), (26, .invokestatic 90, 3), (29, .invokestatic 83, 3), (32, .ireturn, 1)]
theorem ddX4_digit : ∀ q ∈ dlX4_digit, decode cX4_digit q.1 = .ok q.2 := by decide +kernel
theorem sX4_digit_32 {l : Launch} {X : q_CX} (hl : X.2.1 = l) (hQ : q_QM X) (h : q_OK X yX4_digit cX4_digit 4 (some .int) rmX4_digit (Cond.code yX4_digit cX4_digit 4 (some .int) :: q_G)) : q_SK X 4 32 (BX4_digit_32) := by
  exact k_iret h hQ (ddX4_digit (32, .ireturn, 1) (List.mem_of_getElem? (i := 18) rfl))
theorem sX4_digit_18 {l : Launch} {X : q_CX} (hl : X.2.1 = l) (hQ : q_QM X) (h : q_OK X yX4_digit cX4_digit 4 (some .int) rmX4_digit (Cond.code yX4_digit cX4_digit 4 (some .int) :: q_G)) : q_SK X 4 18 (BX4_digit_18) := by
  refine k_iload_n (i := 1) h (ddX4_digit (18, .iload_n 1, 1) (List.mem_of_getElem? (i := 10) rfl)) rfl ?_
  refine k_iload_n (i := 3) h (ddX4_digit (19, .iload_n 3, 1) (List.mem_of_getElem? (i := 11) rfl)) rfl ?_
  refine k_idiv h (ddX4_digit (20, .idiv, 1) (List.mem_of_getElem? (i := 12) rfl)) ?_
  refine k_aload_n (i := 0) h (ddX4_digit (21, .aload_n 0, 1) (List.mem_of_getElem? (i := 13) rfl)) rfl ?_
  refine k_getf (ci := 4) (j := 6) (C := RX4) (T := TX4) (N := 14) h rfl (fun w hw => List.mem_cons_of_mem _ (q_inX4 w hw)) (by decide) (List.mem_cons_of_mem _ gw73) (ddX4_digit (22, .getfield 9, 3) (List.mem_of_getElem? (i := 14) rfl)) ?_
  refine k_iload_n (i := 2) h (ddX4_digit (25, .iload_n 2, 1) (List.mem_of_getElem? (i := 15) rfl)) rfl ?_
  refine k_callN h hl (aX8_at l) ⟨rfl, rfl⟩ (n := 2) (by decide +kernel) (q_gN gw98) (by decide +kernel) (List.mem_cons_of_mem _ gw91) (List.mem_cons_of_mem _ gw99) ⟨by decide, by decide⟩ (ddX4_digit (26, .invokestatic 90, 3) (List.mem_of_getElem? (i := 16) rfl)) ?_
  refine k_callN h hl (aX8_leftOver l) ⟨rfl, rfl⟩ (n := 2) (by decide +kernel) (q_gN gw90) (by decide +kernel) (List.mem_cons_of_mem _ gw91) (List.mem_cons_of_mem _ gw92) ⟨by decide, by decide⟩ (ddX4_digit (29, .invokestatic 83, 3) (List.mem_of_getElem? (i := 17) rfl)) ?_
  exact sX4_digit_32 hl hQ h
theorem sX4_digit_14 {l : Launch} {X : q_CX} (hl : X.2.1 = l) (hQ : q_QM X) (h : q_OK X yX4_digit cX4_digit 4 (some .int) rmX4_digit (Cond.code yX4_digit cX4_digit 4 (some .int) :: q_G)) : q_SK X 4 14 (BX4_digit_14) := by
  refine k_iconst (v := 0) h (ddX4_digit (14, .iconst 0, 1) (List.mem_of_getElem? (i := 8) rfl)) (by decide) ?_
  refine k_goto h (ddX4_digit (15, .goto 17, 3) (List.mem_of_getElem? (i := 9) rfl)) (tgt := 32) (by decide) ?_
  exact sX4_digit_32 hl hQ h
theorem sX4_digit_0 {l : Launch} {X : q_CX} (hl : X.2.1 = l) (hQ : q_QM X) (h : q_OK X yX4_digit cX4_digit 4 (some .int) rmX4_digit (Cond.code yX4_digit cX4_digit 4 (some .int) :: q_G)) : q_SK X 4 0 (BX4_digit_0) := by
  refine k_aload_n (i := 0) h (ddX4_digit (0, .aload_n 0, 1) (List.mem_of_getElem? (i := 0) rfl)) rfl ?_
  refine k_getf (ci := 4) (j := 7) (C := RX4) (T := TX4) (N := 14) h rfl (fun w hw => List.mem_cons_of_mem _ (q_inX4 w hw)) (by decide) (List.mem_cons_of_mem _ gw74) (ddX4_digit (1, .getfield 15, 3) (List.mem_of_getElem? (i := 1) rfl)) ?_
  refine k_iload_n (i := 2) h (ddX4_digit (4, .iload_n 2, 1) (List.mem_of_getElem? (i := 2) rfl)) rfl ?_
  refine k_callN h hl (aX8_at l) ⟨rfl, rfl⟩ (n := 2) (by decide +kernel) (q_gN gw98) (by decide +kernel) (List.mem_cons_of_mem _ gw91) (List.mem_cons_of_mem _ gw99) ⟨by decide, by decide⟩ (ddX4_digit (5, .invokestatic 90, 3) (List.mem_of_getElem? (i := 3) rfl)) ?_
  refine k_istore_n (i := 3) h (ddX4_digit (8, .istore_n 3, 1) (List.mem_of_getElem? (i := 4) rfl)) rfl (by decide) ?_
  refine k_iload_n (i := 3) h (ddX4_digit (9, .iload_n 3, 1) (List.mem_of_getElem? (i := 5) rfl)) rfl ?_
  refine k_iconst (v := 1) h (ddX4_digit (10, .iconst 1, 1) (List.mem_of_getElem? (i := 6) rfl)) (by decide) ?_
  refine k_icge h (ddX4_digit (11, .if_icmp .ge 7, 3) (List.mem_of_getElem? (i := 7) rfl)) (tgt := 18) (by decide) ?_ ?_
  · exact sX4_digit_18 hl hQ h
  · exact sX4_digit_14 hl hQ h
theorem aX4_digit (l : Launch) (as : List Value) (sh : q_Sh) (m : q_Mm) (R : q_KR) (hw : wX4_digit as sh m R) : q_AM l yX4_digit (Cond.code yX4_digit cX4_digit 4 (some .int) :: q_G) rmX4_digit as sh m R := by
  refine q_met (code := TX4_digit) (by decide) (fun X hl hQ _ h pc => ?_) hw.1 hw.2
  unfold TX4_digit
  exact k_at (sX4_digit_0 hl hQ h) (k_no)
/-! TumblingRock$Rock.part(II)I -/
abbrev dlX4_part : List (Nat × (Instr × Nat)) := [(0, .aload_n 0, 1), (1, .getfield 18, 3), (4, .iload_n 1, 1), (5, .bipush 12, 2), (7, .imul, 1), (8, .iload_n 2, 1), (9, .iadd, 1), (10, .invokestatic 90, 3), (13, .ireturn, 1)]
theorem ddX4_part : ∀ q ∈ dlX4_part, decode cX4_part q.1 = .ok q.2 := by decide +kernel
theorem sX4_part_0 {l : Launch} {X : q_CX} (hl : X.2.1 = l) (hQ : q_QM X) (h : q_OK X yX4_part cX4_part 3 (some .int) rmX4_part (Cond.code yX4_part cX4_part 3 (some .int) :: q_G)) : q_SK X 3 0 (BX4_part_0) := by
  refine k_aload_n (i := 0) h (ddX4_part (0, .aload_n 0, 1) (List.mem_of_getElem? (i := 0) rfl)) rfl ?_
  refine k_getf (ci := 4) (j := 8) (C := RX4) (T := TX4) (N := 14) h rfl (fun w hw => List.mem_cons_of_mem _ (q_inX4 w hw)) (by decide) (List.mem_cons_of_mem _ gw75) (ddX4_part (1, .getfield 18, 3) (List.mem_of_getElem? (i := 1) rfl)) ?_
  refine k_iload_n (i := 1) h (ddX4_part (4, .iload_n 1, 1) (List.mem_of_getElem? (i := 2) rfl)) rfl ?_
  refine k_bipush (v := 12) h (ddX4_part (5, .bipush 12, 2) (List.mem_of_getElem? (i := 3) rfl)) (by decide) ?_
  refine k_imul h (ddX4_part (7, .imul, 1) (List.mem_of_getElem? (i := 4) rfl)) ?_
  refine k_iload_n (i := 2) h (ddX4_part (8, .iload_n 2, 1) (List.mem_of_getElem? (i := 5) rfl)) rfl ?_
  refine k_iadd h (ddX4_part (9, .iadd, 1) (List.mem_of_getElem? (i := 6) rfl)) ?_
  refine k_callN h hl (aX8_at l) ⟨rfl, rfl⟩ (n := 2) (by decide +kernel) (q_gN gw98) (by decide +kernel) (List.mem_cons_of_mem _ gw91) (List.mem_cons_of_mem _ gw99) ⟨by decide, by decide⟩ (ddX4_part (10, .invokestatic 90, 3) (List.mem_of_getElem? (i := 7) rfl)) ?_
  exact k_iret h hQ (ddX4_part (13, .ireturn, 1) (List.mem_of_getElem? (i := 8) rfl))
theorem aX4_part (l : Launch) (as : List Value) (sh : q_Sh) (m : q_Mm) (R : q_KR) (hw : wX4_part as sh m R) : q_AM l yX4_part (Cond.code yX4_part cX4_part 3 (some .int) :: q_G) rmX4_part as sh m R := by
  refine q_met (code := TX4_part) (by decide) (fun X hl hQ _ h pc => ?_) hw.1 hw.2
  unfold TX4_part
  exact k_at (sX4_part_0 hl hQ h) (k_no)
/-! TumblingRock$Rock.heightOf(II)I -/
abbrev dlX4_heightOf : List (Nat × (Instr × Nat)) := [(0, .iconst 0, 1), (1, .istore_n 3, 1), (2, .iconst 0, 1), (3, .istore 4, 2), (5, .iload 4, 2), (7, .aload_n 0, 1), (8, .getfield 42, 3), (11, .if_icmp .ge 33, 3), (14, .iload_n 3, 1), (15, .aload_n 0, 1), (16, .iload_n 1, 1), (17, .iload 4, 2), (19, .invokevirtual 111, 3), (22, .aload_n 0, 1), (23, .iload 4, 2), (25, .aload_n 0, 1), (26, .iload_n 2, 1), (27, .iload 4, 2), (29, .invokevirtual 114, 3), (32, .invokevirtual 117, 3), (35, .imul, 1), (36, .iadd, 1), (37, .istore_n 3, 1), (38, .iinc 4 1, 3), (41, .goto (-36), 3), (44, .iload_n 3, 1), (45, .ireturn, 1)]
theorem ddX4_heightOf : ∀ q ∈ dlX4_heightOf, decode cX4_heightOf q.1 = .ok q.2 := by decide +kernel
theorem sX4_heightOf_0 {l : Launch} {X : q_CX} (hl : X.2.1 = l) (hQ : q_QM X) (h : q_OK X yX4_heightOf cX4_heightOf 5 (some .int) rmX4_heightOf (Cond.code yX4_heightOf cX4_heightOf 5 (some .int) :: q_G)) : q_SK X 5 0 (BX4_heightOf_0) := by
  refine k_iconst (v := 0) h (ddX4_heightOf (0, .iconst 0, 1) (List.mem_of_getElem? (i := 0) rfl)) (by decide) ?_
  refine k_istore_n (i := 3) h (ddX4_heightOf (1, .istore_n 3, 1) (List.mem_of_getElem? (i := 1) rfl)) rfl (by decide) ?_
  refine k_iconst (v := 0) h (ddX4_heightOf (2, .iconst 0, 1) (List.mem_of_getElem? (i := 2) rfl)) (by decide) ?_
  refine k_istore (i := 4) h (ddX4_heightOf (3, .istore 4, 2) (List.mem_of_getElem? (i := 3) rfl)) (by decide) ?_
  exact k_cut
theorem sX4_heightOf_44 {l : Launch} {X : q_CX} (hl : X.2.1 = l) (hQ : q_QM X) (h : q_OK X yX4_heightOf cX4_heightOf 5 (some .int) rmX4_heightOf (Cond.code yX4_heightOf cX4_heightOf 5 (some .int) :: q_G)) : q_SK X 5 44 (BX4_heightOf_44) := by
  refine k_iload_n (i := 3) h (ddX4_heightOf (44, .iload_n 3, 1) (List.mem_of_getElem? (i := 25) rfl)) rfl ?_
  exact k_iret h hQ (ddX4_heightOf (45, .ireturn, 1) (List.mem_of_getElem? (i := 26) rfl))
theorem sX4_heightOf_14 {l : Launch} {X : q_CX} (hl : X.2.1 = l) (hQ : q_QM X) (h : q_OK X yX4_heightOf cX4_heightOf 5 (some .int) rmX4_heightOf (Cond.code yX4_heightOf cX4_heightOf 5 (some .int) :: q_G)) : q_SK X 5 14 (BX4_heightOf_14) := by
  refine k_iload_n (i := 3) h (ddX4_heightOf (14, .iload_n 3, 1) (List.mem_of_getElem? (i := 8) rfl)) rfl ?_
  refine k_aload_n (i := 0) h (ddX4_heightOf (15, .aload_n 0, 1) (List.mem_of_getElem? (i := 9) rfl)) rfl ?_
  refine k_iload_n (i := 1) h (ddX4_heightOf (16, .iload_n 1, 1) (List.mem_of_getElem? (i := 10) rfl)) rfl ?_
  refine k_iload (i := 4) h (ddX4_heightOf (17, .iload 4, 2) (List.mem_of_getElem? (i := 11) rfl)) ?_
  refine k_callV h hl (aX4_face l) (ci := 4) (C := RX4) (T := TX4) (N := 14) rfl ⟨rfl, rfl⟩ (n := 2) (by decide +kernel) (q_gV gw101 gw102 gw103 gw71 gw100) ⟨by decide, by decide⟩ (ddX4_heightOf (19, .invokevirtual 111, 3) (List.mem_of_getElem? (i := 12) rfl)) ?_
  refine k_aload_n (i := 0) h (ddX4_heightOf (22, .aload_n 0, 1) (List.mem_of_getElem? (i := 13) rfl)) rfl ?_
  refine k_iload (i := 4) h (ddX4_heightOf (23, .iload 4, 2) (List.mem_of_getElem? (i := 14) rfl)) ?_
  refine k_aload_n (i := 0) h (ddX4_heightOf (25, .aload_n 0, 1) (List.mem_of_getElem? (i := 15) rfl)) rfl ?_
  refine k_iload_n (i := 2) h (ddX4_heightOf (26, .iload_n 2, 1) (List.mem_of_getElem? (i := 16) rfl)) rfl ?_
  refine k_iload (i := 4) h (ddX4_heightOf (27, .iload 4, 2) (List.mem_of_getElem? (i := 17) rfl)) ?_
  refine k_callV h hl (aX4_digit l) (ci := 4) (C := RX4) (T := TX4) (N := 14) rfl ⟨rfl, rfl⟩ (n := 2) (by decide +kernel) (q_gV gw105 gw106 gw107 gw71 gw104) ⟨by decide, by decide⟩ (ddX4_heightOf (29, .invokevirtual 114, 3) (List.mem_of_getElem? (i := 18) rfl)) ?_
  refine k_callV h hl (aX4_part l) (ci := 4) (C := RX4) (T := TX4) (N := 14) rfl ⟨rfl, rfl⟩ (n := 2) (by decide +kernel) (q_gV gw109 gw110 gw111 gw71 gw108) ⟨by decide, by decide⟩ (ddX4_heightOf (32, .invokevirtual 117, 3) (List.mem_of_getElem? (i := 19) rfl)) ?_
  refine k_imul h (ddX4_heightOf (35, .imul, 1) (List.mem_of_getElem? (i := 20) rfl)) ?_
  refine k_iadd h (ddX4_heightOf (36, .iadd, 1) (List.mem_of_getElem? (i := 21) rfl)) ?_
  refine k_istore_n (i := 3) h (ddX4_heightOf (37, .istore_n 3, 1) (List.mem_of_getElem? (i := 22) rfl)) rfl (by decide) ?_
  refine k_iinc (d := 1) h (ddX4_heightOf (38, .iinc 4 1, 3) (List.mem_of_getElem? (i := 23) rfl)) (by decide) (by decide) ?_
  refine k_goto h (ddX4_heightOf (41, .goto (-36), 3) (List.mem_of_getElem? (i := 24) rfl)) (tgt := 5) (by decide) ?_
  exact k_cut
theorem sX4_heightOf_5 {l : Launch} {X : q_CX} (hl : X.2.1 = l) (hQ : q_QM X) (h : q_OK X yX4_heightOf cX4_heightOf 5 (some .int) rmX4_heightOf (Cond.code yX4_heightOf cX4_heightOf 5 (some .int) :: q_G)) : q_SK X 5 5 (BX4_heightOf_5) := by
  refine k_iload (i := 4) h (ddX4_heightOf (5, .iload 4, 2) (List.mem_of_getElem? (i := 4) rfl)) ?_
  refine k_aload_n (i := 0) h (ddX4_heightOf (7, .aload_n 0, 1) (List.mem_of_getElem? (i := 5) rfl)) rfl ?_
  refine k_getf (ci := 4) (j := 0) (C := RX4) (T := TX4) (N := 14) h rfl (fun w hw => List.mem_cons_of_mem _ (q_inX4 w hw)) (by decide) (List.mem_cons_of_mem _ gw81) (ddX4_heightOf (8, .getfield 42, 3) (List.mem_of_getElem? (i := 6) rfl)) ?_
  refine k_icge h (ddX4_heightOf (11, .if_icmp .ge 33, 3) (List.mem_of_getElem? (i := 7) rfl)) (tgt := 44) (by decide) ?_ ?_
  · exact sX4_heightOf_44 hl hQ h
  · exact sX4_heightOf_14 hl hQ h
theorem aX4_heightOf (l : Launch) (as : List Value) (sh : q_Sh) (m : q_Mm) (R : q_KR) (hw : wX4_heightOf as sh m R) : q_AM l yX4_heightOf (Cond.code yX4_heightOf cX4_heightOf 5 (some .int) :: q_G) rmX4_heightOf as sh m R := by
  refine q_met (code := TX4_heightOf) (by decide) (fun X hl hQ _ h pc => ?_) hw.1 hw.2
  unfold TX4_heightOf
  exact k_at (sX4_heightOf_0 hl hQ h) (k_at (sX4_heightOf_5 hl hQ h) (k_no))
/-! TumblingRock$Rock.placesAboveNought(I)I -/
abbrev dlX4_placesAboveNought : List (Nat × (Instr × Nat)) := [(0, .iconst 0, 1), (1, .istore_n 2, 1), (2, .iconst 0, 1), (3, .istore_n 3, 1), (4, .iload_n 3, 1), (5, .aload_n 0, 1), (6, .getfield 46, 3), (9, .if_icmp .ge 24, 3), (12, .aload_n 0, 1), (13, .iload_n 3, 1), (14, .iload_n 1, 1), (15, .invokevirtual 87, 3), (18, .ifCond .le 9, 3), (21, .iload_n 2, 1), (22, .iconst 1, 1), (23, .iload_n 3, 1), (24, .ishl, 1), (25, .ior, 1), (26, .istore_n 2, 1), (27, .iinc 3 1, 3), (30, .goto (-26), 3), (33, .iload_n 2, 1), (34, .ireturn, 1)]
theorem ddX4_placesAboveNought : ∀ q ∈ dlX4_placesAboveNought, decode cX4_placesAboveNought q.1 = .ok q.2 := by decide +kernel
theorem sX4_placesAboveNought_0 {l : Launch} {X : q_CX} (hl : X.2.1 = l) (hQ : q_QM X) (h : q_OK X yX4_placesAboveNought cX4_placesAboveNought 4 (some .int) rmX4_placesAboveNought (Cond.code yX4_placesAboveNought cX4_placesAboveNought 4 (some .int) :: q_G)) : q_SK X 4 0 (BX4_placesAboveNought_0) := by
  refine k_iconst (v := 0) h (ddX4_placesAboveNought (0, .iconst 0, 1) (List.mem_of_getElem? (i := 0) rfl)) (by decide) ?_
  refine k_istore_n (i := 2) h (ddX4_placesAboveNought (1, .istore_n 2, 1) (List.mem_of_getElem? (i := 1) rfl)) rfl (by decide) ?_
  refine k_iconst (v := 0) h (ddX4_placesAboveNought (2, .iconst 0, 1) (List.mem_of_getElem? (i := 2) rfl)) (by decide) ?_
  refine k_istore_n (i := 3) h (ddX4_placesAboveNought (3, .istore_n 3, 1) (List.mem_of_getElem? (i := 3) rfl)) rfl (by decide) ?_
  exact k_cut
theorem sX4_placesAboveNought_33 {l : Launch} {X : q_CX} (hl : X.2.1 = l) (hQ : q_QM X) (h : q_OK X yX4_placesAboveNought cX4_placesAboveNought 4 (some .int) rmX4_placesAboveNought (Cond.code yX4_placesAboveNought cX4_placesAboveNought 4 (some .int) :: q_G)) : q_SK X 4 33 (BX4_placesAboveNought_33) := by
  refine k_iload_n (i := 2) h (ddX4_placesAboveNought (33, .iload_n 2, 1) (List.mem_of_getElem? (i := 21) rfl)) rfl ?_
  exact k_iret h hQ (ddX4_placesAboveNought (34, .ireturn, 1) (List.mem_of_getElem? (i := 22) rfl))
theorem sX4_placesAboveNought_27 {l : Launch} {X : q_CX} (hl : X.2.1 = l) (hQ : q_QM X) (h : q_OK X yX4_placesAboveNought cX4_placesAboveNought 4 (some .int) rmX4_placesAboveNought (Cond.code yX4_placesAboveNought cX4_placesAboveNought 4 (some .int) :: q_G)) : q_SK X 4 27 (BX4_placesAboveNought_27) := by
  refine k_iinc (d := 1) h (ddX4_placesAboveNought (27, .iinc 3 1, 3) (List.mem_of_getElem? (i := 19) rfl)) (by decide) (by decide) ?_
  refine k_goto h (ddX4_placesAboveNought (30, .goto (-26), 3) (List.mem_of_getElem? (i := 20) rfl)) (tgt := 4) (by decide) ?_
  exact k_cut
theorem sX4_placesAboveNought_21 {l : Launch} {X : q_CX} (hl : X.2.1 = l) (hQ : q_QM X) (h : q_OK X yX4_placesAboveNought cX4_placesAboveNought 4 (some .int) rmX4_placesAboveNought (Cond.code yX4_placesAboveNought cX4_placesAboveNought 4 (some .int) :: q_G)) : q_SK X 4 21 (BX4_placesAboveNought_21) := by
  refine k_iload_n (i := 2) h (ddX4_placesAboveNought (21, .iload_n 2, 1) (List.mem_of_getElem? (i := 13) rfl)) rfl ?_
  refine k_iconst (v := 1) h (ddX4_placesAboveNought (22, .iconst 1, 1) (List.mem_of_getElem? (i := 14) rfl)) (by decide) ?_
  refine k_iload_n (i := 3) h (ddX4_placesAboveNought (23, .iload_n 3, 1) (List.mem_of_getElem? (i := 15) rfl)) rfl ?_
  refine k_ishl h (ddX4_placesAboveNought (24, .ishl, 1) (List.mem_of_getElem? (i := 16) rfl)) ?_
  refine k_ior h (ddX4_placesAboveNought (25, .ior, 1) (List.mem_of_getElem? (i := 17) rfl)) ?_
  refine k_istore_n (i := 2) h (ddX4_placesAboveNought (26, .istore_n 2, 1) (List.mem_of_getElem? (i := 18) rfl)) rfl (by decide) ?_
  exact sX4_placesAboveNought_27 hl hQ h
theorem sX4_placesAboveNought_12 {l : Launch} {X : q_CX} (hl : X.2.1 = l) (hQ : q_QM X) (h : q_OK X yX4_placesAboveNought cX4_placesAboveNought 4 (some .int) rmX4_placesAboveNought (Cond.code yX4_placesAboveNought cX4_placesAboveNought 4 (some .int) :: q_G)) : q_SK X 4 12 (BX4_placesAboveNought_12) := by
  refine k_aload_n (i := 0) h (ddX4_placesAboveNought (12, .aload_n 0, 1) (List.mem_of_getElem? (i := 8) rfl)) rfl ?_
  refine k_iload_n (i := 3) h (ddX4_placesAboveNought (13, .iload_n 3, 1) (List.mem_of_getElem? (i := 9) rfl)) rfl ?_
  refine k_iload_n (i := 1) h (ddX4_placesAboveNought (14, .iload_n 1, 1) (List.mem_of_getElem? (i := 10) rfl)) rfl ?_
  refine k_callV h hl (aX4_heightOf l) (ci := 4) (C := RX4) (T := TX4) (N := 14) rfl ⟨rfl, rfl⟩ (n := 2) (by decide +kernel) (q_gV gw113 gw114 gw115 gw71 gw112) ⟨by decide, by decide⟩ (ddX4_placesAboveNought (15, .invokevirtual 87, 3) (List.mem_of_getElem? (i := 11) rfl)) ?_
  refine k_ifle h (ddX4_placesAboveNought (18, .ifCond .le 9, 3) (List.mem_of_getElem? (i := 12) rfl)) (tgt := 27) (by decide) ?_ ?_
  · exact sX4_placesAboveNought_27 hl hQ h
  · exact sX4_placesAboveNought_21 hl hQ h
theorem sX4_placesAboveNought_4 {l : Launch} {X : q_CX} (hl : X.2.1 = l) (hQ : q_QM X) (h : q_OK X yX4_placesAboveNought cX4_placesAboveNought 4 (some .int) rmX4_placesAboveNought (Cond.code yX4_placesAboveNought cX4_placesAboveNought 4 (some .int) :: q_G)) : q_SK X 4 4 (BX4_placesAboveNought_4) := by
  refine k_iload_n (i := 3) h (ddX4_placesAboveNought (4, .iload_n 3, 1) (List.mem_of_getElem? (i := 4) rfl)) rfl ?_
  refine k_aload_n (i := 0) h (ddX4_placesAboveNought (5, .aload_n 0, 1) (List.mem_of_getElem? (i := 5) rfl)) rfl ?_
  refine k_getf (ci := 4) (j := 1) (C := RX4) (T := TX4) (N := 14) h rfl (fun w hw => List.mem_cons_of_mem _ (q_inX4 w hw)) (by decide) (List.mem_cons_of_mem _ gw82) (ddX4_placesAboveNought (6, .getfield 46, 3) (List.mem_of_getElem? (i := 6) rfl)) ?_
  refine k_icge h (ddX4_placesAboveNought (9, .if_icmp .ge 24, 3) (List.mem_of_getElem? (i := 7) rfl)) (tgt := 33) (by decide) ?_ ?_
  · exact sX4_placesAboveNought_33 hl hQ h
  · exact sX4_placesAboveNought_12 hl hQ h
theorem aX4_placesAboveNought (l : Launch) (as : List Value) (sh : q_Sh) (m : q_Mm) (R : q_KR) (hw : wX4_placesAboveNought as sh m R) : q_AM l yX4_placesAboveNought (Cond.code yX4_placesAboveNought cX4_placesAboveNought 4 (some .int) :: q_G) rmX4_placesAboveNought as sh m R := by
  refine q_met (code := TX4_placesAboveNought) (by decide) (fun X hl hQ _ h pc => ?_) hw.1 hw.2
  unfold TX4_placesAboveNought
  exact k_at (sX4_placesAboveNought_0 hl hQ h) (k_at (sX4_placesAboveNought_4 hl hQ h) (k_no))
/-! TumblingRock$Rock.turned(III)I -/
abbrev dlX4_turned : List (Nat × (Instr × Nat)) := [(0, .aload_n 0, 1), (1, .getfield 15, 3), (4, .iload_n 2, 1), (5, .invokestatic 90, 3), (8, .istore 4, 2), (10, .iload 4, 2), (12, .iconst 1, 1), (13, .if_icmp .ge 7, 3), (16, .iconst 0, 1), (17, .goto 23, 3), (20, .iload_n 1, 1), (21, .iload 4, 2), (23, .idiv, 1), (24, .iload_n 3, 1), (25, .iadd, 1), (26, .aload_n 0, 1), (27, .getfield 9, 3), (30, .iload_n 2, 1), (31, .invokestatic 90, 3), (34, .invokestatic 83, 3), (37, .iload 4, 2), (39, .imul, 1), (40, .ireturn, 1)]
theorem ddX4_turned : ∀ q ∈ dlX4_turned, decode cX4_turned q.1 = .ok q.2 := by decide +kernel
theorem sX4_turned_40 {l : Launch} {X : q_CX} (hl : X.2.1 = l) (hQ : q_QM X) (h : q_OK X yX4_turned cX4_turned 5 (some .int) rmX4_turned (Cond.code yX4_turned cX4_turned 5 (some .int) :: q_G)) : q_SK X 5 40 (BX4_turned_40) := by
  exact k_iret h hQ (ddX4_turned (40, .ireturn, 1) (List.mem_of_getElem? (i := 22) rfl))
theorem sX4_turned_20 {l : Launch} {X : q_CX} (hl : X.2.1 = l) (hQ : q_QM X) (h : q_OK X yX4_turned cX4_turned 5 (some .int) rmX4_turned (Cond.code yX4_turned cX4_turned 5 (some .int) :: q_G)) : q_SK X 5 20 (BX4_turned_20) := by
  refine k_iload_n (i := 1) h (ddX4_turned (20, .iload_n 1, 1) (List.mem_of_getElem? (i := 10) rfl)) rfl ?_
  refine k_iload (i := 4) h (ddX4_turned (21, .iload 4, 2) (List.mem_of_getElem? (i := 11) rfl)) ?_
  refine k_idiv h (ddX4_turned (23, .idiv, 1) (List.mem_of_getElem? (i := 12) rfl)) ?_
  refine k_iload_n (i := 3) h (ddX4_turned (24, .iload_n 3, 1) (List.mem_of_getElem? (i := 13) rfl)) rfl ?_
  refine k_iadd h (ddX4_turned (25, .iadd, 1) (List.mem_of_getElem? (i := 14) rfl)) ?_
  refine k_aload_n (i := 0) h (ddX4_turned (26, .aload_n 0, 1) (List.mem_of_getElem? (i := 15) rfl)) rfl ?_
  refine k_getf (ci := 4) (j := 6) (C := RX4) (T := TX4) (N := 14) h rfl (fun w hw => List.mem_cons_of_mem _ (q_inX4 w hw)) (by decide) (List.mem_cons_of_mem _ gw73) (ddX4_turned (27, .getfield 9, 3) (List.mem_of_getElem? (i := 16) rfl)) ?_
  refine k_iload_n (i := 2) h (ddX4_turned (30, .iload_n 2, 1) (List.mem_of_getElem? (i := 17) rfl)) rfl ?_
  refine k_callN h hl (aX8_at l) ⟨rfl, rfl⟩ (n := 2) (by decide +kernel) (q_gN gw98) (by decide +kernel) (List.mem_cons_of_mem _ gw91) (List.mem_cons_of_mem _ gw99) ⟨by decide, by decide⟩ (ddX4_turned (31, .invokestatic 90, 3) (List.mem_of_getElem? (i := 18) rfl)) ?_
  refine k_callN h hl (aX8_leftOver l) ⟨rfl, rfl⟩ (n := 2) (by decide +kernel) (q_gN gw90) (by decide +kernel) (List.mem_cons_of_mem _ gw91) (List.mem_cons_of_mem _ gw92) ⟨by decide, by decide⟩ (ddX4_turned (34, .invokestatic 83, 3) (List.mem_of_getElem? (i := 19) rfl)) ?_
  refine k_iload (i := 4) h (ddX4_turned (37, .iload 4, 2) (List.mem_of_getElem? (i := 20) rfl)) ?_
  refine k_imul h (ddX4_turned (39, .imul, 1) (List.mem_of_getElem? (i := 21) rfl)) ?_
  exact sX4_turned_40 hl hQ h
theorem sX4_turned_16 {l : Launch} {X : q_CX} (hl : X.2.1 = l) (hQ : q_QM X) (h : q_OK X yX4_turned cX4_turned 5 (some .int) rmX4_turned (Cond.code yX4_turned cX4_turned 5 (some .int) :: q_G)) : q_SK X 5 16 (BX4_turned_16) := by
  refine k_iconst (v := 0) h (ddX4_turned (16, .iconst 0, 1) (List.mem_of_getElem? (i := 8) rfl)) (by decide) ?_
  refine k_goto h (ddX4_turned (17, .goto 23, 3) (List.mem_of_getElem? (i := 9) rfl)) (tgt := 40) (by decide) ?_
  exact sX4_turned_40 hl hQ h
theorem sX4_turned_0 {l : Launch} {X : q_CX} (hl : X.2.1 = l) (hQ : q_QM X) (h : q_OK X yX4_turned cX4_turned 5 (some .int) rmX4_turned (Cond.code yX4_turned cX4_turned 5 (some .int) :: q_G)) : q_SK X 5 0 (BX4_turned_0) := by
  refine k_aload_n (i := 0) h (ddX4_turned (0, .aload_n 0, 1) (List.mem_of_getElem? (i := 0) rfl)) rfl ?_
  refine k_getf (ci := 4) (j := 7) (C := RX4) (T := TX4) (N := 14) h rfl (fun w hw => List.mem_cons_of_mem _ (q_inX4 w hw)) (by decide) (List.mem_cons_of_mem _ gw74) (ddX4_turned (1, .getfield 15, 3) (List.mem_of_getElem? (i := 1) rfl)) ?_
  refine k_iload_n (i := 2) h (ddX4_turned (4, .iload_n 2, 1) (List.mem_of_getElem? (i := 2) rfl)) rfl ?_
  refine k_callN h hl (aX8_at l) ⟨rfl, rfl⟩ (n := 2) (by decide +kernel) (q_gN gw98) (by decide +kernel) (List.mem_cons_of_mem _ gw91) (List.mem_cons_of_mem _ gw99) ⟨by decide, by decide⟩ (ddX4_turned (5, .invokestatic 90, 3) (List.mem_of_getElem? (i := 3) rfl)) ?_
  refine k_istore (i := 4) h (ddX4_turned (8, .istore 4, 2) (List.mem_of_getElem? (i := 4) rfl)) (by decide) ?_
  refine k_iload (i := 4) h (ddX4_turned (10, .iload 4, 2) (List.mem_of_getElem? (i := 5) rfl)) ?_
  refine k_iconst (v := 1) h (ddX4_turned (12, .iconst 1, 1) (List.mem_of_getElem? (i := 6) rfl)) (by decide) ?_
  refine k_icge h (ddX4_turned (13, .if_icmp .ge 7, 3) (List.mem_of_getElem? (i := 7) rfl)) (tgt := 20) (by decide) ?_ ?_
  · exact sX4_turned_20 hl hQ h
  · exact sX4_turned_16 hl hQ h
theorem aX4_turned (l : Launch) (as : List Value) (sh : q_Sh) (m : q_Mm) (R : q_KR) (hw : wX4_turned as sh m R) : q_AM l yX4_turned (Cond.code yX4_turned cX4_turned 5 (some .int) :: q_G) rmX4_turned as sh m R := by
  refine q_met (code := TX4_turned) (by decide) (fun X hl hQ _ h pc => ?_) hw.1 hw.2
  unfold TX4_turned
  exact k_at (sX4_turned_0 hl hQ h) (k_no)
/-! TumblingRock$Rock.moved(IIII)I -/
abbrev dlX4_moved : List (Nat × (Instr × Nat)) := [(0, .aload_n 0, 1), (1, .iload_n 1, 1), (2, .iconst 0, 1), (3, .iload_n 2, 1), (4, .invokevirtual 97, 3), (7, .aload_n 0, 1), (8, .iload_n 1, 1), (9, .iconst 1, 1), (10, .iload_n 3, 1), (11, .invokevirtual 97, 3), (14, .iadd, 1), (15, .aload_n 0, 1), (16, .iload_n 1, 1), (17, .iconst 2, 1), (18, .iload 4, 2), (20, .invokevirtual 97, 3), (23, .iadd, 1), (24, .ireturn, 1)]
theorem ddX4_moved : ∀ q ∈ dlX4_moved, decode cX4_moved q.1 = .ok q.2 := by decide +kernel
theorem sX4_moved_0 {l : Launch} {X : q_CX} (hl : X.2.1 = l) (hQ : q_QM X) (h : q_OK X yX4_moved cX4_moved 5 (some .int) rmX4_moved (Cond.code yX4_moved cX4_moved 5 (some .int) :: q_G)) : q_SK X 5 0 (BX4_moved_0) := by
  refine k_aload_n (i := 0) h (ddX4_moved (0, .aload_n 0, 1) (List.mem_of_getElem? (i := 0) rfl)) rfl ?_
  refine k_iload_n (i := 1) h (ddX4_moved (1, .iload_n 1, 1) (List.mem_of_getElem? (i := 1) rfl)) rfl ?_
  refine k_iconst (v := 0) h (ddX4_moved (2, .iconst 0, 1) (List.mem_of_getElem? (i := 2) rfl)) (by decide) ?_
  refine k_iload_n (i := 2) h (ddX4_moved (3, .iload_n 2, 1) (List.mem_of_getElem? (i := 3) rfl)) rfl ?_
  refine k_callV h hl (aX4_turned l) (ci := 4) (C := RX4) (T := TX4) (N := 14) rfl ⟨rfl, rfl⟩ (n := 3) (by decide +kernel) (q_gV gw121 gw122 gw123 gw71 gw120) ⟨by decide, by decide⟩ (ddX4_moved (4, .invokevirtual 97, 3) (List.mem_of_getElem? (i := 4) rfl)) ?_
  refine k_aload_n (i := 0) h (ddX4_moved (7, .aload_n 0, 1) (List.mem_of_getElem? (i := 5) rfl)) rfl ?_
  refine k_iload_n (i := 1) h (ddX4_moved (8, .iload_n 1, 1) (List.mem_of_getElem? (i := 6) rfl)) rfl ?_
  refine k_iconst (v := 1) h (ddX4_moved (9, .iconst 1, 1) (List.mem_of_getElem? (i := 7) rfl)) (by decide) ?_
  refine k_iload_n (i := 3) h (ddX4_moved (10, .iload_n 3, 1) (List.mem_of_getElem? (i := 8) rfl)) rfl ?_
  refine k_callV h hl (aX4_turned l) (ci := 4) (C := RX4) (T := TX4) (N := 14) rfl ⟨rfl, rfl⟩ (n := 3) (by decide +kernel) (q_gV gw121 gw122 gw123 gw71 gw120) ⟨by decide, by decide⟩ (ddX4_moved (11, .invokevirtual 97, 3) (List.mem_of_getElem? (i := 9) rfl)) ?_
  refine k_iadd h (ddX4_moved (14, .iadd, 1) (List.mem_of_getElem? (i := 10) rfl)) ?_
  refine k_aload_n (i := 0) h (ddX4_moved (15, .aload_n 0, 1) (List.mem_of_getElem? (i := 11) rfl)) rfl ?_
  refine k_iload_n (i := 1) h (ddX4_moved (16, .iload_n 1, 1) (List.mem_of_getElem? (i := 12) rfl)) rfl ?_
  refine k_iconst (v := 2) h (ddX4_moved (17, .iconst 2, 1) (List.mem_of_getElem? (i := 13) rfl)) (by decide) ?_
  refine k_iload (i := 4) h (ddX4_moved (18, .iload 4, 2) (List.mem_of_getElem? (i := 14) rfl)) ?_
  refine k_callV h hl (aX4_turned l) (ci := 4) (C := RX4) (T := TX4) (N := 14) rfl ⟨rfl, rfl⟩ (n := 3) (by decide +kernel) (q_gV gw121 gw122 gw123 gw71 gw120) ⟨by decide, by decide⟩ (ddX4_moved (20, .invokevirtual 97, 3) (List.mem_of_getElem? (i := 15) rfl)) ?_
  refine k_iadd h (ddX4_moved (23, .iadd, 1) (List.mem_of_getElem? (i := 16) rfl)) ?_
  exact k_iret h hQ (ddX4_moved (24, .ireturn, 1) (List.mem_of_getElem? (i := 17) rfl))
theorem aX4_moved (l : Launch) (as : List Value) (sh : q_Sh) (m : q_Mm) (R : q_KR) (hw : wX4_moved as sh m R) : q_AM l yX4_moved (Cond.code yX4_moved cX4_moved 5 (some .int) :: q_G) rmX4_moved as sh m R := by
  refine q_met (code := TX4_moved) (by decide) (fun X hl hQ _ h pc => ?_) hw.1 hw.2
  unfold TX4_moved
  exact k_at (sX4_moved_0 hl hQ h) (k_no)
/-! TumblingRock$Rock.settle()V -/
abbrev dlX4_settle : List (Nat × (Instr × Nat)) := [(0, .aload_n 0, 1), (1, .getfield 15, 3), (4, .iconst 2, 1), (5, .iconst 1, 1), (6, .iastore, 1), (7, .aload_n 0, 1), (8, .getfield 15, 3), (11, .iconst 1, 1), (12, .aload_n 0, 1), (13, .getfield 9, 3), (16, .iconst 2, 1), (17, .iaload, 1), (18, .iastore, 1), (19, .aload_n 0, 1), (20, .getfield 15, 3), (23, .iconst 0, 1), (24, .aload_n 0, 1), (25, .getfield 9, 3), (28, .iconst 1, 1), (29, .iaload, 1), (30, .aload_n 0, 1), (31, .getfield 9, 3), (34, .iconst 2, 1), (35, .iaload, 1), (36, .imul, 1), (37, .iastore, 1), (38, .aload_n 0, 1), (39, .aload_n 0, 1), (40, .getfield 9, 3), (43, .iconst 0, 1), (44, .iaload, 1), (45, .aload_n 0, 1), (46, .getfield 15, 3), (49, .iconst 0, 1), (50, .iaload, 1), (51, .imul, 1), (52, .putfield 66, 3), (55, .aload_n 0, 1), (56, .aload_n 0, 1), (57, .invokevirtual 69, 3), (60, .putfield 73, 3), (63, .iconst 0, 1), (64, .istore_n 1, 1), (65, .iload_n 1, 1), (66, .aload_n 0, 1), (67, .getfield 66, 3), (70, .if_icmp .ge 41, 3), (73, .iload_n 1, 1), (74, .sipush 1728, 3), (77, .if_icmp .ge 34, 3), (80, .aload_n 0, 1), (81, .getfield 30, 3), (84, .iload_n 1, 1), (85, .aload_n 0, 1), (86, .iload_n 1, 1), (87, .invokevirtual 76, 3), (90, .iastore, 1), (91, .aload_n 0, 1), (92, .getfield 33, 3), (95, .iload_n 1, 1), (96, .aload_n 0, 1), (97, .iload_n 1, 1), (98, .iconst 1, 1), (99, .iconst 1, 1), (100, .iconst 1, 1), (101, .invokevirtual 79, 3), (104, .iastore, 1), (105, .iinc 1 1, 3), (108, .goto (-43), 3), (111, .return_, 1)]
theorem ddX4_settle : ∀ q ∈ dlX4_settle, decode cX4_settle q.1 = .ok q.2 := by decide +kernel
theorem sX4_settle_0 {l : Launch} {X : q_CX} (hl : X.2.1 = l) (hQ : q_QM X) (h : q_OK X yX4_settle cX4_settle 2 none rmX4_settle (Cond.code yX4_settle cX4_settle 2 none :: q_G)) : q_SK X 2 0 (BX4_settle_0) := by
  refine k_aload_n (i := 0) h (ddX4_settle (0, .aload_n 0, 1) (List.mem_of_getElem? (i := 0) rfl)) rfl ?_
  refine k_getf (ci := 4) (j := 7) (C := RX4) (T := TX4) (N := 14) h rfl (fun w hw => List.mem_cons_of_mem _ (q_inX4 w hw)) (by decide) (List.mem_cons_of_mem _ gw74) (ddX4_settle (1, .getfield 15, 3) (List.mem_of_getElem? (i := 1) rfl)) ?_
  refine k_iconst (v := 2) h (ddX4_settle (4, .iconst 2, 1) (List.mem_of_getElem? (i := 2) rfl)) (by decide) ?_
  refine k_iconst (v := 1) h (ddX4_settle (5, .iconst 1, 1) (List.mem_of_getElem? (i := 3) rfl)) (by decide) ?_
  refine k_iast h (ddX4_settle (6, .iastore, 1) (List.mem_of_getElem? (i := 4) rfl)) ?_
  refine k_aload_n (i := 0) h (ddX4_settle (7, .aload_n 0, 1) (List.mem_of_getElem? (i := 5) rfl)) rfl ?_
  refine k_getf (ci := 4) (j := 7) (C := RX4) (T := TX4) (N := 14) h rfl (fun w hw => List.mem_cons_of_mem _ (q_inX4 w hw)) (by decide) (List.mem_cons_of_mem _ gw74) (ddX4_settle (8, .getfield 15, 3) (List.mem_of_getElem? (i := 6) rfl)) ?_
  refine k_iconst (v := 1) h (ddX4_settle (11, .iconst 1, 1) (List.mem_of_getElem? (i := 7) rfl)) (by decide) ?_
  refine k_aload_n (i := 0) h (ddX4_settle (12, .aload_n 0, 1) (List.mem_of_getElem? (i := 8) rfl)) rfl ?_
  refine k_getf (ci := 4) (j := 6) (C := RX4) (T := TX4) (N := 14) h rfl (fun w hw => List.mem_cons_of_mem _ (q_inX4 w hw)) (by decide) (List.mem_cons_of_mem _ gw73) (ddX4_settle (13, .getfield 9, 3) (List.mem_of_getElem? (i := 9) rfl)) ?_
  refine k_iconst (v := 2) h (ddX4_settle (16, .iconst 2, 1) (List.mem_of_getElem? (i := 10) rfl)) (by decide) ?_
  refine k_iald h (ddX4_settle (17, .iaload, 1) (List.mem_of_getElem? (i := 11) rfl)) ?_
  refine k_iast h (ddX4_settle (18, .iastore, 1) (List.mem_of_getElem? (i := 12) rfl)) ?_
  refine k_aload_n (i := 0) h (ddX4_settle (19, .aload_n 0, 1) (List.mem_of_getElem? (i := 13) rfl)) rfl ?_
  refine k_getf (ci := 4) (j := 7) (C := RX4) (T := TX4) (N := 14) h rfl (fun w hw => List.mem_cons_of_mem _ (q_inX4 w hw)) (by decide) (List.mem_cons_of_mem _ gw74) (ddX4_settle (20, .getfield 15, 3) (List.mem_of_getElem? (i := 14) rfl)) ?_
  refine k_iconst (v := 0) h (ddX4_settle (23, .iconst 0, 1) (List.mem_of_getElem? (i := 15) rfl)) (by decide) ?_
  refine k_aload_n (i := 0) h (ddX4_settle (24, .aload_n 0, 1) (List.mem_of_getElem? (i := 16) rfl)) rfl ?_
  refine k_getf (ci := 4) (j := 6) (C := RX4) (T := TX4) (N := 14) h rfl (fun w hw => List.mem_cons_of_mem _ (q_inX4 w hw)) (by decide) (List.mem_cons_of_mem _ gw73) (ddX4_settle (25, .getfield 9, 3) (List.mem_of_getElem? (i := 17) rfl)) ?_
  refine k_iconst (v := 1) h (ddX4_settle (28, .iconst 1, 1) (List.mem_of_getElem? (i := 18) rfl)) (by decide) ?_
  refine k_iald h (ddX4_settle (29, .iaload, 1) (List.mem_of_getElem? (i := 19) rfl)) ?_
  refine k_aload_n (i := 0) h (ddX4_settle (30, .aload_n 0, 1) (List.mem_of_getElem? (i := 20) rfl)) rfl ?_
  refine k_getf (ci := 4) (j := 6) (C := RX4) (T := TX4) (N := 14) h rfl (fun w hw => List.mem_cons_of_mem _ (q_inX4 w hw)) (by decide) (List.mem_cons_of_mem _ gw73) (ddX4_settle (31, .getfield 9, 3) (List.mem_of_getElem? (i := 21) rfl)) ?_
  refine k_iconst (v := 2) h (ddX4_settle (34, .iconst 2, 1) (List.mem_of_getElem? (i := 22) rfl)) (by decide) ?_
  refine k_iald h (ddX4_settle (35, .iaload, 1) (List.mem_of_getElem? (i := 23) rfl)) ?_
  refine k_imul h (ddX4_settle (36, .imul, 1) (List.mem_of_getElem? (i := 24) rfl)) ?_
  refine k_iast h (ddX4_settle (37, .iastore, 1) (List.mem_of_getElem? (i := 25) rfl)) ?_
  refine k_aload_n (i := 0) h (ddX4_settle (38, .aload_n 0, 1) (List.mem_of_getElem? (i := 26) rfl)) rfl ?_
  refine k_aload_n (i := 0) h (ddX4_settle (39, .aload_n 0, 1) (List.mem_of_getElem? (i := 27) rfl)) rfl ?_
  refine k_getf (ci := 4) (j := 6) (C := RX4) (T := TX4) (N := 14) h rfl (fun w hw => List.mem_cons_of_mem _ (q_inX4 w hw)) (by decide) (List.mem_cons_of_mem _ gw73) (ddX4_settle (40, .getfield 9, 3) (List.mem_of_getElem? (i := 28) rfl)) ?_
  refine k_iconst (v := 0) h (ddX4_settle (43, .iconst 0, 1) (List.mem_of_getElem? (i := 29) rfl)) (by decide) ?_
  refine k_iald h (ddX4_settle (44, .iaload, 1) (List.mem_of_getElem? (i := 30) rfl)) ?_
  refine k_aload_n (i := 0) h (ddX4_settle (45, .aload_n 0, 1) (List.mem_of_getElem? (i := 31) rfl)) rfl ?_
  refine k_getf (ci := 4) (j := 7) (C := RX4) (T := TX4) (N := 14) h rfl (fun w hw => List.mem_cons_of_mem _ (q_inX4 w hw)) (by decide) (List.mem_cons_of_mem _ gw74) (ddX4_settle (46, .getfield 15, 3) (List.mem_of_getElem? (i := 32) rfl)) ?_
  refine k_iconst (v := 0) h (ddX4_settle (49, .iconst 0, 1) (List.mem_of_getElem? (i := 33) rfl)) (by decide) ?_
  refine k_iald h (ddX4_settle (50, .iaload, 1) (List.mem_of_getElem? (i := 34) rfl)) ?_
  refine k_imul h (ddX4_settle (51, .imul, 1) (List.mem_of_getElem? (i := 35) rfl)) ?_
  refine k_putf (ci := 4) (j := 4) (C := RX4) (T := TX4) (N := 14) h rfl (fun w hw => List.mem_cons_of_mem _ (q_inX4 w hw)) (by decide) (List.mem_cons_of_mem _ gw89) tyX4 tyX4_ok nmX4 (by decide +kernel) (by decide +kernel) (ddX4_settle (52, .putfield 66, 3) (List.mem_of_getElem? (i := 36) rfl)) ?_
  refine k_aload_n (i := 0) h (ddX4_settle (55, .aload_n 0, 1) (List.mem_of_getElem? (i := 37) rfl)) rfl ?_
  refine k_aload_n (i := 0) h (ddX4_settle (56, .aload_n 0, 1) (List.mem_of_getElem? (i := 38) rfl)) rfl ?_
  refine k_callV h hl (aX4_leastPeriod l) (ci := 4) (C := RX4) (T := TX4) (N := 14) rfl ⟨rfl, rfl⟩ (n := 0) (by decide +kernel) (q_gV gw94 gw95 gw96 gw71 gw93) ⟨by decide, by decide⟩ (ddX4_settle (57, .invokevirtual 69, 3) (List.mem_of_getElem? (i := 39) rfl)) ?_
  refine k_putf (ci := 4) (j := 5) (C := RX4) (T := TX4) (N := 14) h rfl (fun w hw => List.mem_cons_of_mem _ (q_inX4 w hw)) (by decide) (List.mem_cons_of_mem _ gw97) tyX4 tyX4_ok nmX4 (by decide +kernel) (by decide +kernel) (ddX4_settle (60, .putfield 73, 3) (List.mem_of_getElem? (i := 40) rfl)) ?_
  refine k_iconst (v := 0) h (ddX4_settle (63, .iconst 0, 1) (List.mem_of_getElem? (i := 41) rfl)) (by decide) ?_
  refine k_istore_n (i := 1) h (ddX4_settle (64, .istore_n 1, 1) (List.mem_of_getElem? (i := 42) rfl)) rfl (by decide) ?_
  exact k_cut
theorem sX4_settle_111 {l : Launch} {X : q_CX} (hl : X.2.1 = l) (hQ : q_QM X) (h : q_OK X yX4_settle cX4_settle 2 none rmX4_settle (Cond.code yX4_settle cX4_settle 2 none :: q_G)) : q_SK X 2 111 (BX4_settle_111) := by
  exact k_vret h hQ (ddX4_settle (111, .return_, 1) (List.mem_of_getElem? (i := 69) rfl))
theorem sX4_settle_80 {l : Launch} {X : q_CX} (hl : X.2.1 = l) (hQ : q_QM X) (h : q_OK X yX4_settle cX4_settle 2 none rmX4_settle (Cond.code yX4_settle cX4_settle 2 none :: q_G)) : q_SK X 2 80 (BX4_settle_80) := by
  refine k_aload_n (i := 0) h (ddX4_settle (80, .aload_n 0, 1) (List.mem_of_getElem? (i := 50) rfl)) rfl ?_
  refine k_getf (ci := 4) (j := 12) (C := RX4) (T := TX4) (N := 14) h rfl (fun w hw => List.mem_cons_of_mem _ (q_inX4 w hw)) (by decide) (List.mem_cons_of_mem _ gw79) (ddX4_settle (81, .getfield 30, 3) (List.mem_of_getElem? (i := 51) rfl)) ?_
  refine k_iload_n (i := 1) h (ddX4_settle (84, .iload_n 1, 1) (List.mem_of_getElem? (i := 52) rfl)) rfl ?_
  refine k_aload_n (i := 0) h (ddX4_settle (85, .aload_n 0, 1) (List.mem_of_getElem? (i := 53) rfl)) rfl ?_
  refine k_iload_n (i := 1) h (ddX4_settle (86, .iload_n 1, 1) (List.mem_of_getElem? (i := 54) rfl)) rfl ?_
  refine k_callV h hl (aX4_placesAboveNought l) (ci := 4) (C := RX4) (T := TX4) (N := 14) rfl ⟨rfl, rfl⟩ (n := 1) (by decide +kernel) (q_gV gw117 gw118 gw119 gw71 gw116) ⟨by decide, by decide⟩ (ddX4_settle (87, .invokevirtual 76, 3) (List.mem_of_getElem? (i := 55) rfl)) ?_
  refine k_iast h (ddX4_settle (90, .iastore, 1) (List.mem_of_getElem? (i := 56) rfl)) ?_
  refine k_aload_n (i := 0) h (ddX4_settle (91, .aload_n 0, 1) (List.mem_of_getElem? (i := 57) rfl)) rfl ?_
  refine k_getf (ci := 4) (j := 13) (C := RX4) (T := TX4) (N := 14) h rfl (fun w hw => List.mem_cons_of_mem _ (q_inX4 w hw)) (by decide) (List.mem_cons_of_mem _ gw80) (ddX4_settle (92, .getfield 33, 3) (List.mem_of_getElem? (i := 58) rfl)) ?_
  refine k_iload_n (i := 1) h (ddX4_settle (95, .iload_n 1, 1) (List.mem_of_getElem? (i := 59) rfl)) rfl ?_
  refine k_aload_n (i := 0) h (ddX4_settle (96, .aload_n 0, 1) (List.mem_of_getElem? (i := 60) rfl)) rfl ?_
  refine k_iload_n (i := 1) h (ddX4_settle (97, .iload_n 1, 1) (List.mem_of_getElem? (i := 61) rfl)) rfl ?_
  refine k_iconst (v := 1) h (ddX4_settle (98, .iconst 1, 1) (List.mem_of_getElem? (i := 62) rfl)) (by decide) ?_
  refine k_iconst (v := 1) h (ddX4_settle (99, .iconst 1, 1) (List.mem_of_getElem? (i := 63) rfl)) (by decide) ?_
  refine k_iconst (v := 1) h (ddX4_settle (100, .iconst 1, 1) (List.mem_of_getElem? (i := 64) rfl)) (by decide) ?_
  refine k_callV h hl (aX4_moved l) (ci := 4) (C := RX4) (T := TX4) (N := 14) rfl ⟨rfl, rfl⟩ (n := 4) (by decide +kernel) (q_gV gw125 gw126 gw127 gw71 gw124) ⟨by decide, by decide⟩ (ddX4_settle (101, .invokevirtual 79, 3) (List.mem_of_getElem? (i := 65) rfl)) ?_
  refine k_iast h (ddX4_settle (104, .iastore, 1) (List.mem_of_getElem? (i := 66) rfl)) ?_
  refine k_iinc (d := 1) h (ddX4_settle (105, .iinc 1 1, 3) (List.mem_of_getElem? (i := 67) rfl)) (by decide) (by decide) ?_
  refine k_goto h (ddX4_settle (108, .goto (-43), 3) (List.mem_of_getElem? (i := 68) rfl)) (tgt := 65) (by decide) ?_
  exact k_cut
theorem sX4_settle_73 {l : Launch} {X : q_CX} (hl : X.2.1 = l) (hQ : q_QM X) (h : q_OK X yX4_settle cX4_settle 2 none rmX4_settle (Cond.code yX4_settle cX4_settle 2 none :: q_G)) : q_SK X 2 73 (BX4_settle_73) := by
  refine k_iload_n (i := 1) h (ddX4_settle (73, .iload_n 1, 1) (List.mem_of_getElem? (i := 47) rfl)) rfl ?_
  refine k_sipush (v := 1728) h (ddX4_settle (74, .sipush 1728, 3) (List.mem_of_getElem? (i := 48) rfl)) (by decide) ?_
  refine k_icge h (ddX4_settle (77, .if_icmp .ge 34, 3) (List.mem_of_getElem? (i := 49) rfl)) (tgt := 111) (by decide) ?_ ?_
  · exact sX4_settle_111 hl hQ h
  · exact sX4_settle_80 hl hQ h
theorem sX4_settle_65 {l : Launch} {X : q_CX} (hl : X.2.1 = l) (hQ : q_QM X) (h : q_OK X yX4_settle cX4_settle 2 none rmX4_settle (Cond.code yX4_settle cX4_settle 2 none :: q_G)) : q_SK X 2 65 (BX4_settle_65) := by
  refine k_iload_n (i := 1) h (ddX4_settle (65, .iload_n 1, 1) (List.mem_of_getElem? (i := 43) rfl)) rfl ?_
  refine k_aload_n (i := 0) h (ddX4_settle (66, .aload_n 0, 1) (List.mem_of_getElem? (i := 44) rfl)) rfl ?_
  refine k_getf (ci := 4) (j := 4) (C := RX4) (T := TX4) (N := 14) h rfl (fun w hw => List.mem_cons_of_mem _ (q_inX4 w hw)) (by decide) (List.mem_cons_of_mem _ gw89) (ddX4_settle (67, .getfield 66, 3) (List.mem_of_getElem? (i := 45) rfl)) ?_
  refine k_icge h (ddX4_settle (70, .if_icmp .ge 41, 3) (List.mem_of_getElem? (i := 46) rfl)) (tgt := 111) (by decide) ?_ ?_
  · exact sX4_settle_111 hl hQ h
  · exact sX4_settle_73 hl hQ h
theorem aX4_settle (l : Launch) (as : List Value) (sh : q_Sh) (m : q_Mm) (R : q_KR) (hw : wX4_settle as sh m R) : q_AM l yX4_settle (Cond.code yX4_settle cX4_settle 2 none :: q_G) rmX4_settle as sh m R := by
  refine q_met (code := TX4_settle) (by decide) (fun X hl hQ _ h pc => ?_) hw.1 hw.2
  unfold TX4_settle
  exact k_at (sX4_settle_0 hl hQ h) (k_at (sX4_settle_65 hl hQ h) (k_no))
/-! TumblingRock$Rock.<init>()V -/
abbrev dlX4_init : List (Nat × (Instr × Nat)) := [(0, .aload_n 0, 1), (1, .invokespecial 3, 3), (4, .aload_n 0, 1), (5, .iconst 3, 1), (6, .newarray .int, 2), (8, .putfield 9, 3), (11, .aload_n 0, 1), (12, .iconst 3, 1), (13, .newarray .int, 2), (15, .putfield 15, 3), (18, .aload_n 0, 1), (19, .bipush 36, 2), (21, .newarray .int, 2), (23, .putfield 18, 3), (26, .aload_n 0, 1), (27, .bipush 24, 2), (29, .newarray .int, 2), (31, .putfield 21, 3), (34, .aload_n 0, 1), (35, .bipush 8, 2), (37, .newarray .int, 2), (39, .putfield 24, 3), (42, .aload_n 0, 1), (43, .bipush 12, 2), (45, .newarray .int, 2), (47, .putfield 27, 3), (50, .aload_n 0, 1), (51, .sipush 1728, 3), (54, .newarray .int, 2), (56, .putfield 30, 3), (59, .aload_n 0, 1), (60, .sipush 1728, 3), (63, .newarray .int, 2), (65, .putfield 33, 3), (68, .aload_n 0, 1), (69, .invokevirtual 36, 3), (72, .aload_n 0, 1), (73, .invokevirtual 39, 3), (76, .return_, 1)]
theorem ddX4_init : ∀ q ∈ dlX4_init, decode cX4_init q.1 = .ok q.2 := by decide +kernel
theorem sX4_init_0 {l : Launch} {X : q_CX} {cap : Nat × Nat} (hl : X.2.1 = l) (hQ : q_QM X) (hcap : q_cap X rmX4_init cap) (h : q_OK X yX4_init cX4_init 1 none rmX4_init (Cond.code yX4_init cX4_init 1 none :: q_G)) : q_SK X 1 0 (BX4_init_0 cap) := by
  refine k_aload_n (i := 0) h (ddX4_init (0, .aload_n 0, 1) (List.mem_of_getElem? (i := 0) rfl)) rfl ?_
  refine k_obj h (List.mem_cons_of_mem _ gw72) (List.mem_cons_of_mem _ gw1) (List.mem_cons_of_mem _ gw2) (by decide) (by decide) (ddX4_init (1, .invokespecial 3, 3) (List.mem_of_getElem? (i := 1) rfl)) ?_
  refine k_aload_n (i := 0) h (ddX4_init (4, .aload_n 0, 1) (List.mem_of_getElem? (i := 2) rfl)) rfl ?_
  refine k_iconst (v := 3) h (ddX4_init (5, .iconst 3, 1) (List.mem_of_getElem? (i := 3) rfl)) (by decide) ?_
  refine k_newi h hcap (n := 3) (by decide) (List.mem_cons_of_mem _ gw7) (ddX4_init (6, .newarray .int, 2) (List.mem_of_getElem? (i := 4) rfl)) ?_
  refine k_putrF (ty := .array .int) (ci := 4) (j := 6) (C := RX4) (T := TX4) (N := 14) h rfl (fun w hw => List.mem_cons_of_mem _ (q_inX4 w hw)) (by decide) (List.mem_cons_of_mem _ gw73) tyX4 tyX4_ok nmX4 (by decide +kernel) rfl rfl (by decide +kernel) (fun _ => ⟨rfl, rfl⟩) (ddX4_init (8, .putfield 9, 3) (List.mem_of_getElem? (i := 5) rfl)) ?_
  refine k_aload_n (i := 0) h (ddX4_init (11, .aload_n 0, 1) (List.mem_of_getElem? (i := 6) rfl)) rfl ?_
  refine k_iconst (v := 3) h (ddX4_init (12, .iconst 3, 1) (List.mem_of_getElem? (i := 7) rfl)) (by decide) ?_
  refine k_newi h hcap (n := 3) (by decide) (List.mem_cons_of_mem _ gw7) (ddX4_init (13, .newarray .int, 2) (List.mem_of_getElem? (i := 8) rfl)) ?_
  refine k_putrF (ty := .array .int) (ci := 4) (j := 7) (C := RX4) (T := TX4) (N := 14) h rfl (fun w hw => List.mem_cons_of_mem _ (q_inX4 w hw)) (by decide) (List.mem_cons_of_mem _ gw74) tyX4 tyX4_ok nmX4 (by decide +kernel) rfl rfl (by decide +kernel) (fun _ => ⟨rfl, rfl⟩) (ddX4_init (15, .putfield 15, 3) (List.mem_of_getElem? (i := 9) rfl)) ?_
  refine k_aload_n (i := 0) h (ddX4_init (18, .aload_n 0, 1) (List.mem_of_getElem? (i := 10) rfl)) rfl ?_
  refine k_bipush (v := 36) h (ddX4_init (19, .bipush 36, 2) (List.mem_of_getElem? (i := 11) rfl)) (by decide) ?_
  refine k_newi h hcap (n := 36) (by decide) (List.mem_cons_of_mem _ gw7) (ddX4_init (21, .newarray .int, 2) (List.mem_of_getElem? (i := 12) rfl)) ?_
  refine k_putrF (ty := .array .int) (ci := 4) (j := 8) (C := RX4) (T := TX4) (N := 14) h rfl (fun w hw => List.mem_cons_of_mem _ (q_inX4 w hw)) (by decide) (List.mem_cons_of_mem _ gw75) tyX4 tyX4_ok nmX4 (by decide +kernel) rfl rfl (by decide +kernel) (fun _ => ⟨rfl, rfl⟩) (ddX4_init (23, .putfield 18, 3) (List.mem_of_getElem? (i := 13) rfl)) ?_
  refine k_aload_n (i := 0) h (ddX4_init (26, .aload_n 0, 1) (List.mem_of_getElem? (i := 14) rfl)) rfl ?_
  refine k_bipush (v := 24) h (ddX4_init (27, .bipush 24, 2) (List.mem_of_getElem? (i := 15) rfl)) (by decide) ?_
  refine k_newi h hcap (n := 24) (by decide) (List.mem_cons_of_mem _ gw7) (ddX4_init (29, .newarray .int, 2) (List.mem_of_getElem? (i := 16) rfl)) ?_
  refine k_putrF (ty := .array .int) (ci := 4) (j := 9) (C := RX4) (T := TX4) (N := 14) h rfl (fun w hw => List.mem_cons_of_mem _ (q_inX4 w hw)) (by decide) (List.mem_cons_of_mem _ gw76) tyX4 tyX4_ok nmX4 (by decide +kernel) rfl rfl (by decide +kernel) (fun _ => ⟨rfl, rfl⟩) (ddX4_init (31, .putfield 21, 3) (List.mem_of_getElem? (i := 17) rfl)) ?_
  refine k_aload_n (i := 0) h (ddX4_init (34, .aload_n 0, 1) (List.mem_of_getElem? (i := 18) rfl)) rfl ?_
  refine k_bipush (v := 8) h (ddX4_init (35, .bipush 8, 2) (List.mem_of_getElem? (i := 19) rfl)) (by decide) ?_
  refine k_newi h hcap (n := 8) (by decide) (List.mem_cons_of_mem _ gw7) (ddX4_init (37, .newarray .int, 2) (List.mem_of_getElem? (i := 20) rfl)) ?_
  refine k_putrF (ty := .array .int) (ci := 4) (j := 10) (C := RX4) (T := TX4) (N := 14) h rfl (fun w hw => List.mem_cons_of_mem _ (q_inX4 w hw)) (by decide) (List.mem_cons_of_mem _ gw77) tyX4 tyX4_ok nmX4 (by decide +kernel) rfl rfl (by decide +kernel) (fun _ => ⟨rfl, rfl⟩) (ddX4_init (39, .putfield 24, 3) (List.mem_of_getElem? (i := 21) rfl)) ?_
  refine k_aload_n (i := 0) h (ddX4_init (42, .aload_n 0, 1) (List.mem_of_getElem? (i := 22) rfl)) rfl ?_
  refine k_bipush (v := 12) h (ddX4_init (43, .bipush 12, 2) (List.mem_of_getElem? (i := 23) rfl)) (by decide) ?_
  refine k_newi h hcap (n := 12) (by decide) (List.mem_cons_of_mem _ gw7) (ddX4_init (45, .newarray .int, 2) (List.mem_of_getElem? (i := 24) rfl)) ?_
  refine k_putrF (ty := .array .int) (ci := 4) (j := 11) (C := RX4) (T := TX4) (N := 14) h rfl (fun w hw => List.mem_cons_of_mem _ (q_inX4 w hw)) (by decide) (List.mem_cons_of_mem _ gw78) tyX4 tyX4_ok nmX4 (by decide +kernel) rfl rfl (by decide +kernel) (fun _ => ⟨rfl, rfl⟩) (ddX4_init (47, .putfield 27, 3) (List.mem_of_getElem? (i := 25) rfl)) ?_
  refine k_aload_n (i := 0) h (ddX4_init (50, .aload_n 0, 1) (List.mem_of_getElem? (i := 26) rfl)) rfl ?_
  refine k_sipush (v := 1728) h (ddX4_init (51, .sipush 1728, 3) (List.mem_of_getElem? (i := 27) rfl)) (by decide) ?_
  refine k_newi h hcap (n := 1728) (by decide) (List.mem_cons_of_mem _ gw7) (ddX4_init (54, .newarray .int, 2) (List.mem_of_getElem? (i := 28) rfl)) ?_
  refine k_putrF (ty := .array .int) (ci := 4) (j := 12) (C := RX4) (T := TX4) (N := 14) h rfl (fun w hw => List.mem_cons_of_mem _ (q_inX4 w hw)) (by decide) (List.mem_cons_of_mem _ gw79) tyX4 tyX4_ok nmX4 (by decide +kernel) rfl rfl (by decide +kernel) (fun _ => ⟨rfl, rfl⟩) (ddX4_init (56, .putfield 30, 3) (List.mem_of_getElem? (i := 29) rfl)) ?_
  refine k_aload_n (i := 0) h (ddX4_init (59, .aload_n 0, 1) (List.mem_of_getElem? (i := 30) rfl)) rfl ?_
  refine k_sipush (v := 1728) h (ddX4_init (60, .sipush 1728, 3) (List.mem_of_getElem? (i := 31) rfl)) (by decide) ?_
  refine k_newi h hcap (n := 1728) (by decide) (List.mem_cons_of_mem _ gw7) (ddX4_init (63, .newarray .int, 2) (List.mem_of_getElem? (i := 32) rfl)) ?_
  refine k_putrF (ty := .array .int) (ci := 4) (j := 13) (C := RX4) (T := TX4) (N := 14) h rfl (fun w hw => List.mem_cons_of_mem _ (q_inX4 w hw)) (by decide) (List.mem_cons_of_mem _ gw80) tyX4 tyX4_ok nmX4 (by decide +kernel) rfl rfl (by decide +kernel) (fun _ => ⟨rfl, rfl⟩) (ddX4_init (65, .putfield 33, 3) (List.mem_of_getElem? (i := 33) rfl)) ?_
  refine k_aload_n (i := 0) h (ddX4_init (68, .aload_n 0, 1) (List.mem_of_getElem? (i := 34) rfl)) rfl ?_
  refine k_callV h hl (aX4_clear l) (ci := 4) (C := RX4) (T := TX4) (N := 14) rfl ⟨rfl, rfl⟩ (n := 0) (by decide +kernel) (q_gV gw86 gw87 gw88 gw71 gw85) ⟨by decide, by decide⟩ (ddX4_init (69, .invokevirtual 36, 3) (List.mem_of_getElem? (i := 35) rfl)) ?_
  refine k_aload_n (i := 0) h (ddX4_init (72, .aload_n 0, 1) (List.mem_of_getElem? (i := 36) rfl)) rfl ?_
  refine k_callV h hl (aX4_settle l) (ci := 4) (C := RX4) (T := TX4) (N := 14) rfl ⟨rfl, rfl⟩ (n := 0) (by decide +kernel) (q_gV gw129 gw130 gw131 gw71 gw128) ⟨by decide, by decide⟩ (ddX4_init (73, .invokevirtual 39, 3) (List.mem_of_getElem? (i := 37) rfl)) ?_
  exact k_vret h hQ (ddX4_init (76, .return_, 1) (List.mem_of_getElem? (i := 38) rfl))
theorem aX4_init (l : Launch) (as : List Value) (sh : q_Sh) (m : q_Mm) (R : q_KR) (hw : wX4_init as sh m R) : q_AM l yX4_init (Cond.code yX4_init cX4_init 1 none :: q_G) rmX4_init as sh m R := by
  refine q_met (code := TX4_init (sh.length + rmX4_init.cells, q_sl sh + rmX4_init.slots)) (by decide) (fun X hl hQ hcap h pc => ?_) hw.1 hw.2
  unfold TX4_init
  exact k_at (sX4_init_0 hl hQ hcap h) (k_no)
/-! TumblingRock.<init>()V -/
abbrev dlX8_init : List (Nat × (Instr × Nat)) := [(0, .aload_n 0, 1), (1, .invokespecial 1, 3), (4, .aload_n 0, 1), (5, .new 7, 3), (8, .dup, 1), (9, .invokespecial 9, 3), (12, .putfield 10, 3), (15, .aload_n 0, 1), (16, .new 16, 3), (19, .dup, 1), (20, .aload_n 0, 1), (21, .getfield 10, 3), (24, .invokespecial 18, 3), (27, .putfield 21, 3), (30, .aload_n 0, 1), (31, .new 25, 3), (34, .dup, 1), (35, .invokespecial 27, 3), (38, .putfield 28, 3), (41, .aload_n 0, 1), (42, .iconst 2, 1), (43, .anewarray 25, 3), (46, .putfield 32, 3), (49, .iconst 0, 1), (50, .istore_n 1, 1), (51, .iload_n 1, 1), (52, .iconst 2, 1), (53, .if_icmp .ge 22, 3), (56, .aload_n 0, 1), (57, .getfield 32, 3), (60, .iload_n 1, 1), (61, .new 25, 3), (64, .dup, 1), (65, .invokespecial 27, 3), (68, .aastore, 1), (69, .iinc 1 1, 3), (72, .goto (-21), 3), (75, .aload_n 0, 1), (76, .iconst 2, 1), (77, .newarray .boolean, 2), (79, .putfield 36, 3), (82, .aload_n 0, 1), (83, .new 40, 3), (86, .dup, 1), (87, .invokespecial 42, 3), (90, .putfield 43, 3), (93, .aload_n 0, 1), (94, .new 47, 3), (97, .dup, 1), (98, .invokespecial 49, 3), (101, .putfield 50, 3), (104, .aload_n 0, 1), (105, .new 54, 3), (108, .dup, 1), (109, .invokespecial 56, 3), (112, .putfield 57, 3), (115, .aload_n 0, 1), (116, .new 61, 3), (119, .dup, 1), (120, .invokespecial 63, 3), (123, .putfield 64, 3), (126, .aload_n 0, 1), (127, .new 68, 3), (130, .dup, 1), (131, .invokespecial 70, 3), (134, .putfield 71, 3), (137, .aload_n 0, 1), (138, .new 68, 3), (141, .dup, 1), (142, .invokespecial 70, 3), (145, .putfield 75, 3), (148, .return_, 1)]
theorem ddX8_init : ∀ q ∈ dlX8_init, decode cX8_init q.1 = .ok q.2 := by decide +kernel
theorem sX8_init_0 {l : Launch} {X : q_CX} {cap : Nat × Nat} (hl : X.2.1 = l) (hQ : q_QM X) (hcap : q_cap X rmX8_init cap) (h : q_OK X yX8_init cX8_init 2 none rmX8_init (Cond.code yX8_init cX8_init 2 none :: q_G)) : q_SK X 2 0 (BX8_init_0 cap) := by
  refine k_aload_n (i := 0) h (ddX8_init (0, .aload_n 0, 1) (List.mem_of_getElem? (i := 0) rfl)) rfl ?_
  refine k_obj h (List.mem_cons_of_mem _ gw0) (List.mem_cons_of_mem _ gw1) (List.mem_cons_of_mem _ gw2) (by decide) (by decide) (ddX8_init (1, .invokespecial 1, 3) (List.mem_of_getElem? (i := 1) rfl)) ?_
  refine k_aload_n (i := 0) h (ddX8_init (4, .aload_n 0, 1) (List.mem_of_getElem? (i := 2) rfl)) rfl ?_
  refine k_new h hcap (ci := 7) (N := 2) (C := RX7) (T := TX7) rfl (fun w hw => List.mem_cons_of_mem _ (q_inX7 w hw)) (List.mem_cons_of_mem _ gw3) (List.mem_cons_of_mem _ gw4) (List.mem_cons_of_mem _ gw5) tyX7 tyX7_ok (by decide +kernel) rfl rfl (ddX8_init (5, .new 7, 3) (List.mem_of_getElem? (i := 3) rfl)) ?_
  refine k_dup h (ddX8_init (8, .dup, 1) (List.mem_of_getElem? (i := 4) rfl)) ?_
  refine k_callJ h hl (aX7_init l) (ci := 7) (C := RX7) (T := TX7) (N := 2) rfl hcap (n := 0) rfl (by decide +kernel) (q_gN gw9) (by decide +kernel) (List.mem_cons_of_mem _ gw5) (List.mem_cons_of_mem _ gw10) rfl ⟨by decide, by decide⟩ (ddX8_init (9, .invokespecial 9, 3) (List.mem_of_getElem? (i := 5) rfl)) ?_
  refine k_putrF (ty := .object "TumblingRock$Text") (ci := 8) (j := 0) (C := RX8) (T := TX8) (N := 11) h rfl (fun w hw => List.mem_cons_of_mem _ (q_inX8 w hw)) (by decide) (List.mem_cons_of_mem _ gw11) tyX8 tyX8_ok nmX8 (by decide +kernel) rfl rfl (by decide +kernel) (fun _ => ⟨rfl, rfl⟩) (ddX8_init (12, .putfield 10, 3) (List.mem_of_getElem? (i := 6) rfl)) ?_
  refine k_aload_n (i := 0) h (ddX8_init (15, .aload_n 0, 1) (List.mem_of_getElem? (i := 7) rfl)) rfl ?_
  refine k_new h hcap (ci := 3) (N := 4) (C := RX3) (T := TX3) rfl (fun w hw => List.mem_cons_of_mem _ (q_inX3 w hw)) (List.mem_cons_of_mem _ gw12) (List.mem_cons_of_mem _ gw13) (List.mem_cons_of_mem _ gw14) tyX3 tyX3_ok (by decide +kernel) rfl rfl (ddX8_init (16, .new 16, 3) (List.mem_of_getElem? (i := 8) rfl)) ?_
  refine k_dup h (ddX8_init (19, .dup, 1) (List.mem_of_getElem? (i := 9) rfl)) ?_
  refine k_aload_n (i := 0) h (ddX8_init (20, .aload_n 0, 1) (List.mem_of_getElem? (i := 10) rfl)) rfl ?_
  refine k_getf (ci := 8) (j := 0) (C := RX8) (T := TX8) (N := 11) h rfl (fun w hw => List.mem_cons_of_mem _ (q_inX8 w hw)) (by decide) (List.mem_cons_of_mem _ gw11) (ddX8_init (21, .getfield 10, 3) (List.mem_of_getElem? (i := 11) rfl)) ?_
  refine k_callI h hl (aX3_init l) (ci := 3) (C := RX3) (T := TX3) (N := 4) rfl hcap (n := 1) rfl (by decide +kernel) (q_gN gw18) (List.mem_cons_of_mem _ gw20) (List.mem_cons_of_mem _ gw14) (List.mem_cons_of_mem _ gw19) rfl ⟨by decide, by decide⟩ (ddX8_init (24, .invokespecial 18, 3) (List.mem_of_getElem? (i := 12) rfl)) ?_
  refine k_putrF (ty := .object "TumblingRock$Reader") (ci := 8) (j := 1) (C := RX8) (T := TX8) (N := 11) h rfl (fun w hw => List.mem_cons_of_mem _ (q_inX8 w hw)) (by decide) (List.mem_cons_of_mem _ gw21) tyX8 tyX8_ok nmX8 (by decide +kernel) rfl rfl (by decide +kernel) (fun _ => ⟨rfl, rfl⟩) (ddX8_init (27, .putfield 21, 3) (List.mem_of_getElem? (i := 13) rfl)) ?_
  refine k_aload_n (i := 0) h (ddX8_init (30, .aload_n 0, 1) (List.mem_of_getElem? (i := 14) rfl)) rfl ?_
  refine k_new h hcap (ci := 1) (N := 5) (C := RX1) (T := TX1) rfl (fun w hw => List.mem_cons_of_mem _ (q_inX1 w hw)) (List.mem_cons_of_mem _ gw22) (List.mem_cons_of_mem _ gw23) (List.mem_cons_of_mem _ gw24) tyX1 tyX1_ok (by decide +kernel) rfl rfl (ddX8_init (31, .new 25, 3) (List.mem_of_getElem? (i := 15) rfl)) ?_
  refine k_dup h (ddX8_init (34, .dup, 1) (List.mem_of_getElem? (i := 16) rfl)) ?_
  refine k_callJ h hl (aX1_init l) (ci := 1) (C := RX1) (T := TX1) (N := 5) rfl hcap (n := 0) rfl (by decide +kernel) (q_gN gw26) (by decide +kernel) (List.mem_cons_of_mem _ gw24) (List.mem_cons_of_mem _ gw27) rfl ⟨by decide, by decide⟩ (ddX8_init (35, .invokespecial 27, 3) (List.mem_of_getElem? (i := 17) rfl)) ?_
  refine k_putrF (ty := .object "TumblingRock$Farm") (ci := 8) (j := 2) (C := RX8) (T := TX8) (N := 11) h rfl (fun w hw => List.mem_cons_of_mem _ (q_inX8 w hw)) (by decide) (List.mem_cons_of_mem _ gw28) tyX8 tyX8_ok nmX8 (by decide +kernel) rfl rfl (by decide +kernel) (fun _ => ⟨rfl, rfl⟩) (ddX8_init (38, .putfield 28, 3) (List.mem_of_getElem? (i := 18) rfl)) ?_
  refine k_aload_n (i := 0) h (ddX8_init (41, .aload_n 0, 1) (List.mem_of_getElem? (i := 19) rfl)) rfl ?_
  refine k_iconst (v := 2) h (ddX8_init (42, .iconst 2, 1) (List.mem_of_getElem? (i := 20) rfl)) (by decide) ?_
  refine k_newq h hcap (n := 2) (by decide) (List.mem_cons_of_mem _ gw22) (ddX8_init (43, .anewarray 25, 3) (List.mem_of_getElem? (i := 21) rfl)) ?_
  refine k_putrF (ty := .array (.object "TumblingRock$Farm")) (ci := 8) (j := 3) (C := RX8) (T := TX8) (N := 11) h rfl (fun w hw => List.mem_cons_of_mem _ (q_inX8 w hw)) (by decide) (List.mem_cons_of_mem _ gw29) tyX8 tyX8_ok nmX8 (by decide +kernel) rfl rfl (by decide +kernel) (fun _ => ⟨rfl, rfl⟩) (ddX8_init (46, .putfield 32, 3) (List.mem_of_getElem? (i := 22) rfl)) ?_
  refine k_iconst (v := 0) h (ddX8_init (49, .iconst 0, 1) (List.mem_of_getElem? (i := 23) rfl)) (by decide) ?_
  refine k_istore_n (i := 1) h (ddX8_init (50, .istore_n 1, 1) (List.mem_of_getElem? (i := 24) rfl)) rfl (by decide) ?_
  exact k_cut
theorem sX8_init_75 {l : Launch} {X : q_CX} {cap : Nat × Nat} (hl : X.2.1 = l) (hQ : q_QM X) (hcap : q_cap X rmX8_init cap) (h : q_OK X yX8_init cX8_init 2 none rmX8_init (Cond.code yX8_init cX8_init 2 none :: q_G)) : q_SK X 2 75 (BX8_init_75 cap) := by
  refine k_aload_n (i := 0) h (ddX8_init (75, .aload_n 0, 1) (List.mem_of_getElem? (i := 37) rfl)) rfl ?_
  refine k_iconst (v := 2) h (ddX8_init (76, .iconst 2, 1) (List.mem_of_getElem? (i := 38) rfl)) (by decide) ?_
  refine k_newz h hcap (n := 2) (by decide) (List.mem_cons_of_mem _ gw30) (ddX8_init (77, .newarray .boolean, 2) (List.mem_of_getElem? (i := 39) rfl)) ?_
  refine k_putrF (ty := .array .boolean) (ci := 8) (j := 4) (C := RX8) (T := TX8) (N := 11) h rfl (fun w hw => List.mem_cons_of_mem _ (q_inX8 w hw)) (by decide) (List.mem_cons_of_mem _ gw31) tyX8 tyX8_ok nmX8 (by decide +kernel) rfl rfl (by decide +kernel) (fun _ => ⟨rfl, rfl⟩) (ddX8_init (79, .putfield 36, 3) (List.mem_of_getElem? (i := 40) rfl)) ?_
  refine k_aload_n (i := 0) h (ddX8_init (82, .aload_n 0, 1) (List.mem_of_getElem? (i := 41) rfl)) rfl ?_
  refine k_new h hcap (ci := 6) (N := 8) (C := RX6) (T := TX6) rfl (fun w hw => List.mem_cons_of_mem _ (q_inX6 w hw)) (List.mem_cons_of_mem _ gw32) (List.mem_cons_of_mem _ gw33) (List.mem_cons_of_mem _ gw34) tyX6 tyX6_ok (by decide +kernel) rfl rfl (ddX8_init (83, .new 40, 3) (List.mem_of_getElem? (i := 42) rfl)) ?_
  refine k_dup h (ddX8_init (86, .dup, 1) (List.mem_of_getElem? (i := 43) rfl)) ?_
  refine k_callI h hl (aX6_init l) (ci := 6) (C := RX6) (T := TX6) (N := 8) rfl hcap (n := 0) rfl (by decide +kernel) (q_gN gw39) (List.mem_cons_of_mem _ gw41) (List.mem_cons_of_mem _ gw34) (List.mem_cons_of_mem _ gw40) rfl ⟨by decide, by decide⟩ (ddX8_init (87, .invokespecial 42, 3) (List.mem_of_getElem? (i := 44) rfl)) ?_
  refine k_putrF (ty := .object "TumblingRock$Sight") (ci := 8) (j := 5) (C := RX8) (T := TX8) (N := 11) h rfl (fun w hw => List.mem_cons_of_mem _ (q_inX8 w hw)) (by decide) (List.mem_cons_of_mem _ gw42) tyX8 tyX8_ok nmX8 (by decide +kernel) rfl rfl (by decide +kernel) (fun _ => ⟨rfl, rfl⟩) (ddX8_init (90, .putfield 43, 3) (List.mem_of_getElem? (i := 45) rfl)) ?_
  refine k_aload_n (i := 0) h (ddX8_init (93, .aload_n 0, 1) (List.mem_of_getElem? (i := 46) rfl)) rfl ?_
  refine k_new h hcap (ci := 5) (N := 2) (C := RX5) (T := TX5) rfl (fun w hw => List.mem_cons_of_mem _ (q_inX5 w hw)) (List.mem_cons_of_mem _ gw43) (List.mem_cons_of_mem _ gw44) (List.mem_cons_of_mem _ gw45) tyX5 tyX5_ok (by decide +kernel) rfl rfl (ddX8_init (94, .new 47, 3) (List.mem_of_getElem? (i := 47) rfl)) ?_
  refine k_dup h (ddX8_init (97, .dup, 1) (List.mem_of_getElem? (i := 48) rfl)) ?_
  refine k_callJ h hl (aX5_init l) (ci := 5) (C := RX5) (T := TX5) (N := 2) rfl hcap (n := 0) rfl (by decide +kernel) (q_gN gw49) (by decide +kernel) (List.mem_cons_of_mem _ gw45) (List.mem_cons_of_mem _ gw50) rfl ⟨by decide, by decide⟩ (ddX8_init (98, .invokespecial 49, 3) (List.mem_of_getElem? (i := 49) rfl)) ?_
  refine k_putrF (ty := .object "TumblingRock$Route") (ci := 8) (j := 6) (C := RX8) (T := TX8) (N := 11) h rfl (fun w hw => List.mem_cons_of_mem _ (q_inX8 w hw)) (by decide) (List.mem_cons_of_mem _ gw51) tyX8 tyX8_ok nmX8 (by decide +kernel) rfl rfl (by decide +kernel) (fun _ => ⟨rfl, rfl⟩) (ddX8_init (101, .putfield 50, 3) (List.mem_of_getElem? (i := 50) rfl)) ?_
  refine k_aload_n (i := 0) h (ddX8_init (104, .aload_n 0, 1) (List.mem_of_getElem? (i := 51) rfl)) rfl ?_
  refine k_new h hcap (ci := 2) (N := 3) (C := RX2) (T := TX2) rfl (fun w hw => List.mem_cons_of_mem _ (q_inX2 w hw)) (List.mem_cons_of_mem _ gw52) (List.mem_cons_of_mem _ gw53) (List.mem_cons_of_mem _ gw54) tyX2 tyX2_ok (by decide +kernel) rfl rfl (ddX8_init (105, .new 54, 3) (List.mem_of_getElem? (i := 52) rfl)) ?_
  refine k_dup h (ddX8_init (108, .dup, 1) (List.mem_of_getElem? (i := 53) rfl)) ?_
  refine k_callJ h hl (aX2_init l) (ci := 2) (C := RX2) (T := TX2) (N := 3) rfl hcap (n := 0) rfl (by decide +kernel) (q_gN gw58) (by decide +kernel) (List.mem_cons_of_mem _ gw54) (List.mem_cons_of_mem _ gw59) rfl ⟨by decide, by decide⟩ (ddX8_init (109, .invokespecial 56, 3) (List.mem_of_getElem? (i := 54) rfl)) ?_
  refine k_putrF (ty := .object "TumblingRock$Mender") (ci := 8) (j := 7) (C := RX8) (T := TX8) (N := 11) h rfl (fun w hw => List.mem_cons_of_mem _ (q_inX8 w hw)) (by decide) (List.mem_cons_of_mem _ gw60) tyX8 tyX8_ok nmX8 (by decide +kernel) rfl rfl (by decide +kernel) (fun _ => ⟨rfl, rfl⟩) (ddX8_init (112, .putfield 57, 3) (List.mem_of_getElem? (i := 55) rfl)) ?_
  refine k_aload_n (i := 0) h (ddX8_init (115, .aload_n 0, 1) (List.mem_of_getElem? (i := 56) rfl)) rfl ?_
  refine k_new h hcap (ci := 0) (N := 2) (C := RX0) (T := TX0) rfl (fun w hw => List.mem_cons_of_mem _ (q_inX0 w hw)) (List.mem_cons_of_mem _ gw61) (List.mem_cons_of_mem _ gw62) (List.mem_cons_of_mem _ gw63) tyX0 tyX0_ok (by decide +kernel) rfl rfl (ddX8_init (116, .new 61, 3) (List.mem_of_getElem? (i := 57) rfl)) ?_
  refine k_dup h (ddX8_init (119, .dup, 1) (List.mem_of_getElem? (i := 58) rfl)) ?_
  refine k_callJ h hl (aX0_init l) (ci := 0) (C := RX0) (T := TX0) (N := 2) rfl hcap (n := 0) rfl (by decide +kernel) (q_gN gw66) (by decide +kernel) (List.mem_cons_of_mem _ gw63) (List.mem_cons_of_mem _ gw67) rfl ⟨by decide, by decide⟩ (ddX8_init (120, .invokespecial 63, 3) (List.mem_of_getElem? (i := 59) rfl)) ?_
  refine k_putrF (ty := .object "TumblingRock$Book") (ci := 8) (j := 8) (C := RX8) (T := TX8) (N := 11) h rfl (fun w hw => List.mem_cons_of_mem _ (q_inX8 w hw)) (by decide) (List.mem_cons_of_mem _ gw68) tyX8 tyX8_ok nmX8 (by decide +kernel) rfl rfl (by decide +kernel) (fun _ => ⟨rfl, rfl⟩) (ddX8_init (123, .putfield 64, 3) (List.mem_of_getElem? (i := 60) rfl)) ?_
  refine k_aload_n (i := 0) h (ddX8_init (126, .aload_n 0, 1) (List.mem_of_getElem? (i := 61) rfl)) rfl ?_
  refine k_new h hcap (ci := 4) (N := 14) (C := RX4) (T := TX4) rfl (fun w hw => List.mem_cons_of_mem _ (q_inX4 w hw)) (List.mem_cons_of_mem _ gw69) (List.mem_cons_of_mem _ gw70) (List.mem_cons_of_mem _ gw71) tyX4 tyX4_ok (by decide +kernel) rfl rfl (ddX8_init (127, .new 68, 3) (List.mem_of_getElem? (i := 62) rfl)) ?_
  refine k_dup h (ddX8_init (130, .dup, 1) (List.mem_of_getElem? (i := 63) rfl)) ?_
  refine k_callI h hl (aX4_init l) (ci := 4) (C := RX4) (T := TX4) (N := 14) rfl hcap (n := 0) rfl (by decide +kernel) (q_gN gw132) (List.mem_cons_of_mem _ gw134) (List.mem_cons_of_mem _ gw71) (List.mem_cons_of_mem _ gw133) rfl ⟨by decide, by decide⟩ (ddX8_init (131, .invokespecial 70, 3) (List.mem_of_getElem? (i := 64) rfl)) ?_
  refine k_putr (ty := .object "TumblingRock$Rock") (ci := 8) (j := 9) (C := RX8) (T := TX8) (N := 11) h rfl (fun w hw => List.mem_cons_of_mem _ (q_inX8 w hw)) (by decide) (List.mem_cons_of_mem _ gw135) tyX8 tyX8_ok nmX8 (by decide +kernel) (by decide +kernel) (fun _ => ⟨rfl, rfl⟩) (ddX8_init (134, .putfield 71, 3) (List.mem_of_getElem? (i := 65) rfl)) ?_
  refine k_aload_n (i := 0) h (ddX8_init (137, .aload_n 0, 1) (List.mem_of_getElem? (i := 66) rfl)) rfl ?_
  refine k_new h hcap (ci := 4) (N := 14) (C := RX4) (T := TX4) rfl (fun w hw => List.mem_cons_of_mem _ (q_inX4 w hw)) (List.mem_cons_of_mem _ gw69) (List.mem_cons_of_mem _ gw70) (List.mem_cons_of_mem _ gw71) tyX4 tyX4_ok (by decide +kernel) rfl rfl (ddX8_init (138, .new 68, 3) (List.mem_of_getElem? (i := 67) rfl)) ?_
  refine k_dup h (ddX8_init (141, .dup, 1) (List.mem_of_getElem? (i := 68) rfl)) ?_
  refine k_callI h hl (aX4_init l) (ci := 4) (C := RX4) (T := TX4) (N := 14) rfl hcap (n := 0) rfl (by decide +kernel) (q_gN gw132) (List.mem_cons_of_mem _ gw134) (List.mem_cons_of_mem _ gw71) (List.mem_cons_of_mem _ gw133) rfl ⟨by decide, by decide⟩ (ddX8_init (142, .invokespecial 70, 3) (List.mem_of_getElem? (i := 69) rfl)) ?_
  refine k_putr (ty := .object "TumblingRock$Rock") (ci := 8) (j := 10) (C := RX8) (T := TX8) (N := 11) h rfl (fun w hw => List.mem_cons_of_mem _ (q_inX8 w hw)) (by decide) (List.mem_cons_of_mem _ gw136) tyX8 tyX8_ok nmX8 (by decide +kernel) (by decide +kernel) (fun _ => ⟨rfl, rfl⟩) (ddX8_init (145, .putfield 75, 3) (List.mem_of_getElem? (i := 70) rfl)) ?_
  exact k_vret h hQ (ddX8_init (148, .return_, 1) (List.mem_of_getElem? (i := 71) rfl))
theorem sX8_init_56 {l : Launch} {X : q_CX} {cap : Nat × Nat} (hl : X.2.1 = l) (hQ : q_QM X) (hcap : q_cap X rmX8_init cap) (h : q_OK X yX8_init cX8_init 2 none rmX8_init (Cond.code yX8_init cX8_init 2 none :: q_G)) : q_SK X 2 56 (BX8_init_56 cap) := by
  refine k_aload_n (i := 0) h (ddX8_init (56, .aload_n 0, 1) (List.mem_of_getElem? (i := 28) rfl)) rfl ?_
  refine k_getf (ci := 8) (j := 3) (C := RX8) (T := TX8) (N := 11) h rfl (fun w hw => List.mem_cons_of_mem _ (q_inX8 w hw)) (by decide) (List.mem_cons_of_mem _ gw29) (ddX8_init (57, .getfield 32, 3) (List.mem_of_getElem? (i := 29) rfl)) ?_
  refine k_iload_n (i := 1) h (ddX8_init (60, .iload_n 1, 1) (List.mem_of_getElem? (i := 30) rfl)) rfl ?_
  refine k_new h hcap (ci := 1) (N := 5) (C := RX1) (T := TX1) rfl (fun w hw => List.mem_cons_of_mem _ (q_inX1 w hw)) (List.mem_cons_of_mem _ gw22) (List.mem_cons_of_mem _ gw23) (List.mem_cons_of_mem _ gw24) tyX1 tyX1_ok (by decide +kernel) rfl rfl (ddX8_init (61, .new 25, 3) (List.mem_of_getElem? (i := 31) rfl)) ?_
  refine k_dup h (ddX8_init (64, .dup, 1) (List.mem_of_getElem? (i := 32) rfl)) ?_
  refine k_callJ h hl (aX1_init l) (ci := 1) (C := RX1) (T := TX1) (N := 5) rfl hcap (n := 0) rfl (by decide +kernel) (q_gN gw26) (by decide +kernel) (List.mem_cons_of_mem _ gw24) (List.mem_cons_of_mem _ gw27) rfl ⟨by decide, by decide⟩ (ddX8_init (65, .invokespecial 27, 3) (List.mem_of_getElem? (i := 33) rfl)) ?_
  refine k_aast h (ddX8_init (68, .aastore, 1) (List.mem_of_getElem? (i := 34) rfl)) ?_
  refine k_iinc (d := 1) h (ddX8_init (69, .iinc 1 1, 3) (List.mem_of_getElem? (i := 35) rfl)) (by decide) (by decide) ?_
  refine k_goto h (ddX8_init (72, .goto (-21), 3) (List.mem_of_getElem? (i := 36) rfl)) (tgt := 51) (by decide) ?_
  exact k_cut
theorem sX8_init_51 {l : Launch} {X : q_CX} {cap : Nat × Nat} (hl : X.2.1 = l) (hQ : q_QM X) (hcap : q_cap X rmX8_init cap) (h : q_OK X yX8_init cX8_init 2 none rmX8_init (Cond.code yX8_init cX8_init 2 none :: q_G)) : q_SK X 2 51 (BX8_init_51 cap) := by
  refine k_iload_n (i := 1) h (ddX8_init (51, .iload_n 1, 1) (List.mem_of_getElem? (i := 25) rfl)) rfl ?_
  refine k_iconst (v := 2) h (ddX8_init (52, .iconst 2, 1) (List.mem_of_getElem? (i := 26) rfl)) (by decide) ?_
  refine k_icge h (ddX8_init (53, .if_icmp .ge 22, 3) (List.mem_of_getElem? (i := 27) rfl)) (tgt := 75) (by decide) ?_ ?_
  · exact sX8_init_75 hl hQ hcap h
  · exact sX8_init_56 hl hQ hcap h
theorem aX8_init (l : Launch) (as : List Value) (sh : q_Sh) (m : q_Mm) (R : q_KR) (hw : wX8_init as sh m R) : q_AM l yX8_init (Cond.code yX8_init cX8_init 2 none :: q_G) rmX8_init as sh m R := by
  refine q_met (code := TX8_init (sh.length + rmX8_init.cells, q_sl sh + rmX8_init.slots)) (by decide) (fun X hl hQ hcap h pc => ?_) hw.1 hw.2
  unfold TX8_init
  exact k_at (sX8_init_0 hl hQ hcap h) (k_at (sX8_init_51 hl hQ hcap h) (k_no))
/-! TumblingRock.inside(III)Z -/
abbrev dlX8_inside : List (Nat × (Instr × Nat)) := [(0, .iload_n 0, 1), (1, .iload_n 1, 1), (2, .if_icmp .lt 12, 3), (5, .iload_n 0, 1), (6, .iload_n 2, 1), (7, .if_icmp .gt 7, 3), (10, .iconst 1, 1), (11, .goto 4, 3), (14, .iconst 0, 1), (15, .ireturn, 1)]
theorem ddX8_inside : ∀ q ∈ dlX8_inside, decode cX8_inside q.1 = .ok q.2 := by decide +kernel
theorem sX8_inside_15 {l : Launch} {X : q_CX} (hl : X.2.1 = l) (hQ : q_QM X) (h : q_OK X yX8_inside cX8_inside 3 (some .boolean) rmX8_inside (Cond.code yX8_inside cX8_inside 3 (some .boolean) :: q_G)) : q_SK X 3 15 (BX8_inside_15) := by
  exact k_zret h hQ (ddX8_inside (15, .ireturn, 1) (List.mem_of_getElem? (i := 9) rfl))
theorem sX8_inside_14 {l : Launch} {X : q_CX} (hl : X.2.1 = l) (hQ : q_QM X) (h : q_OK X yX8_inside cX8_inside 3 (some .boolean) rmX8_inside (Cond.code yX8_inside cX8_inside 3 (some .boolean) :: q_G)) : q_SK X 3 14 (BX8_inside_14) := by
  refine k_iconst (v := 0) h (ddX8_inside (14, .iconst 0, 1) (List.mem_of_getElem? (i := 8) rfl)) (by decide) ?_
  exact sX8_inside_15 hl hQ h
theorem sX8_inside_10 {l : Launch} {X : q_CX} (hl : X.2.1 = l) (hQ : q_QM X) (h : q_OK X yX8_inside cX8_inside 3 (some .boolean) rmX8_inside (Cond.code yX8_inside cX8_inside 3 (some .boolean) :: q_G)) : q_SK X 3 10 (BX8_inside_10) := by
  refine k_iconst (v := 1) h (ddX8_inside (10, .iconst 1, 1) (List.mem_of_getElem? (i := 6) rfl)) (by decide) ?_
  refine k_goto h (ddX8_inside (11, .goto 4, 3) (List.mem_of_getElem? (i := 7) rfl)) (tgt := 15) (by decide) ?_
  exact sX8_inside_15 hl hQ h
theorem sX8_inside_5 {l : Launch} {X : q_CX} (hl : X.2.1 = l) (hQ : q_QM X) (h : q_OK X yX8_inside cX8_inside 3 (some .boolean) rmX8_inside (Cond.code yX8_inside cX8_inside 3 (some .boolean) :: q_G)) : q_SK X 3 5 (BX8_inside_5) := by
  refine k_iload_n (i := 0) h (ddX8_inside (5, .iload_n 0, 1) (List.mem_of_getElem? (i := 3) rfl)) rfl ?_
  refine k_iload_n (i := 2) h (ddX8_inside (6, .iload_n 2, 1) (List.mem_of_getElem? (i := 4) rfl)) rfl ?_
  refine k_icgt h (ddX8_inside (7, .if_icmp .gt 7, 3) (List.mem_of_getElem? (i := 5) rfl)) (tgt := 14) (by decide) ?_ ?_
  · exact sX8_inside_14 hl hQ h
  · exact sX8_inside_10 hl hQ h
theorem sX8_inside_0 {l : Launch} {X : q_CX} (hl : X.2.1 = l) (hQ : q_QM X) (h : q_OK X yX8_inside cX8_inside 3 (some .boolean) rmX8_inside (Cond.code yX8_inside cX8_inside 3 (some .boolean) :: q_G)) : q_SK X 3 0 (BX8_inside_0) := by
  refine k_iload_n (i := 0) h (ddX8_inside (0, .iload_n 0, 1) (List.mem_of_getElem? (i := 0) rfl)) rfl ?_
  refine k_iload_n (i := 1) h (ddX8_inside (1, .iload_n 1, 1) (List.mem_of_getElem? (i := 1) rfl)) rfl ?_
  refine k_iclt h (ddX8_inside (2, .if_icmp .lt 12, 3) (List.mem_of_getElem? (i := 2) rfl)) (tgt := 14) (by decide) ?_ ?_
  · exact sX8_inside_14 hl hQ h
  · exact sX8_inside_5 hl hQ h
theorem aX8_inside (l : Launch) (as : List Value) (sh : q_Sh) (m : q_Mm) (R : q_KR) (hw : wX8_inside as sh m R) : q_AM l yX8_inside (Cond.code yX8_inside cX8_inside 3 (some .boolean) :: q_G) rmX8_inside as sh m R := by
  refine q_met (code := TX8_inside) (by decide) (fun X hl hQ _ h pc => ?_) hw.1 hw.2
  unfold TX8_inside
  exact k_at (sX8_inside_0 hl hQ h) (k_no)
/-! TumblingRock.put([III)V -/
abbrev dlX8_put : List (Nat × (Instr × Nat)) := [(0, .iload_n 1, 1), (1, .ifCond .lt 13, 3), (4, .iload_n 1, 1), (5, .aload_n 0, 1), (6, .arraylength, 1), (7, .if_icmp .ge 7, 3), (10, .aload_n 0, 1), (11, .iload_n 1, 1), (12, .iload_n 2, 1), (13, .iastore, 1), (14, .return_, 1)]
theorem ddX8_put : ∀ q ∈ dlX8_put, decode cX8_put q.1 = .ok q.2 := by decide +kernel
theorem sX8_put_14 {l : Launch} {X : q_CX} (hl : X.2.1 = l) (hQ : q_QM X) (h : q_OK X yX8_put cX8_put 3 none rmX8_put (Cond.code yX8_put cX8_put 3 none :: q_G)) : q_SK X 3 14 (BX8_put_14) := by
  exact k_vret h hQ (ddX8_put (14, .return_, 1) (List.mem_of_getElem? (i := 10) rfl))
theorem sX8_put_10 {l : Launch} {X : q_CX} (hl : X.2.1 = l) (hQ : q_QM X) (h : q_OK X yX8_put cX8_put 3 none rmX8_put (Cond.code yX8_put cX8_put 3 none :: q_G)) : q_SK X 3 10 (BX8_put_10) := by
  refine k_aload_n (i := 0) h (ddX8_put (10, .aload_n 0, 1) (List.mem_of_getElem? (i := 6) rfl)) rfl ?_
  refine k_iload_n (i := 1) h (ddX8_put (11, .iload_n 1, 1) (List.mem_of_getElem? (i := 7) rfl)) rfl ?_
  refine k_iload_n (i := 2) h (ddX8_put (12, .iload_n 2, 1) (List.mem_of_getElem? (i := 8) rfl)) rfl ?_
  refine k_iast h (ddX8_put (13, .iastore, 1) (List.mem_of_getElem? (i := 9) rfl)) ?_
  exact sX8_put_14 hl hQ h
theorem sX8_put_4 {l : Launch} {X : q_CX} (hl : X.2.1 = l) (hQ : q_QM X) (h : q_OK X yX8_put cX8_put 3 none rmX8_put (Cond.code yX8_put cX8_put 3 none :: q_G)) : q_SK X 3 4 (BX8_put_4) := by
  refine k_iload_n (i := 1) h (ddX8_put (4, .iload_n 1, 1) (List.mem_of_getElem? (i := 2) rfl)) rfl ?_
  refine k_aload_n (i := 0) h (ddX8_put (5, .aload_n 0, 1) (List.mem_of_getElem? (i := 3) rfl)) rfl ?_
  refine k_alen h (ddX8_put (6, .arraylength, 1) (List.mem_of_getElem? (i := 4) rfl)) ?_
  refine k_icge h (ddX8_put (7, .if_icmp .ge 7, 3) (List.mem_of_getElem? (i := 5) rfl)) (tgt := 14) (by decide) ?_ ?_
  · exact sX8_put_14 hl hQ h
  · exact sX8_put_10 hl hQ h
theorem sX8_put_0 {l : Launch} {X : q_CX} (hl : X.2.1 = l) (hQ : q_QM X) (h : q_OK X yX8_put cX8_put 3 none rmX8_put (Cond.code yX8_put cX8_put 3 none :: q_G)) : q_SK X 3 0 (BX8_put_0) := by
  refine k_iload_n (i := 1) h (ddX8_put (0, .iload_n 1, 1) (List.mem_of_getElem? (i := 0) rfl)) rfl ?_
  refine k_iflt h (ddX8_put (1, .ifCond .lt 13, 3) (List.mem_of_getElem? (i := 1) rfl)) (tgt := 14) (by decide) ?_ ?_
  · exact sX8_put_14 hl hQ h
  · exact sX8_put_4 hl hQ h
theorem aX8_put (l : Launch) (as : List Value) (sh : q_Sh) (m : q_Mm) (R : q_KR) (hw : wX8_put as sh m R) : q_AM l yX8_put (Cond.code yX8_put cX8_put 3 none :: q_G) rmX8_put as sh m R := by
  refine q_met (code := TX8_put) (by decide) (fun X hl hQ _ h pc => ?_) hw.1 hw.2
  unfold TX8_put
  exact k_at (sX8_put_0 hl hQ h) (k_no)
/-! TumblingRock$Text.take(IJ)Z -/
abbrev dlX7_take : List (Nat × (Instr × Nat)) := [(0, .aload_n 0, 1), (1, .getfield 15, 3), (4, .iload_n 1, 1), (5, .iadd, 1), (6, .sipush 400, 3), (9, .if_icmp .le 5, 3), (12, .iconst 0, 1), (13, .ireturn, 1), (14, .iload_n 1, 1), (15, .iconst 1, 1), (16, .isub, 1), (17, .istore 4, 2), (19, .iload 4, 2), (21, .ifCond .lt 42, 3), (24, .aload_n 0, 1), (25, .getfield 9, 3), (28, .aload_n 0, 1), (29, .getfield 15, 3), (32, .lload_n 2, 1), (33, .bipush 8, 2), (35, .iload 4, 2), (37, .imul, 1), (38, .lshr, 1), (39, .ldc2_w 19, 3), (42, .land, 1), (43, .l2i, 1), (44, .invokestatic 21, 3), (47, .aload_n 0, 1), (48, .dup, 1), (49, .getfield 15, 3), (52, .iconst 1, 1), (53, .iadd, 1), (54, .putfield 15, 3), (57, .iinc 4 (-1), 3), (60, .goto (-41), 3), (63, .iconst 1, 1), (64, .ireturn, 1)]
theorem ddX7_take : ∀ q ∈ dlX7_take, decode cX7_take q.1 = .ok q.2 := by decide +kernel
theorem sX7_take_14 {l : Launch} {X : q_CX} (hl : X.2.1 = l) (hQ : q_QM X) (h : q_OK X yX7_take cX7_take 5 (some .boolean) rmX7_take (Cond.code yX7_take cX7_take 5 (some .boolean) :: q_G)) : q_SK X 5 14 (BX7_take_14) := by
  refine k_iload_n (i := 1) h (ddX7_take (14, .iload_n 1, 1) (List.mem_of_getElem? (i := 8) rfl)) rfl ?_
  refine k_iconst (v := 1) h (ddX7_take (15, .iconst 1, 1) (List.mem_of_getElem? (i := 9) rfl)) (by decide) ?_
  refine k_isub h (ddX7_take (16, .isub, 1) (List.mem_of_getElem? (i := 10) rfl)) ?_
  refine k_istore (i := 4) h (ddX7_take (17, .istore 4, 2) (List.mem_of_getElem? (i := 11) rfl)) (by decide) ?_
  exact k_cut
theorem sX7_take_12 {l : Launch} {X : q_CX} (hl : X.2.1 = l) (hQ : q_QM X) (h : q_OK X yX7_take cX7_take 5 (some .boolean) rmX7_take (Cond.code yX7_take cX7_take 5 (some .boolean) :: q_G)) : q_SK X 5 12 (BX7_take_12) := by
  refine k_iconst (v := 0) h (ddX7_take (12, .iconst 0, 1) (List.mem_of_getElem? (i := 6) rfl)) (by decide) ?_
  exact k_zret h hQ (ddX7_take (13, .ireturn, 1) (List.mem_of_getElem? (i := 7) rfl))
theorem sX7_take_0 {l : Launch} {X : q_CX} (hl : X.2.1 = l) (hQ : q_QM X) (h : q_OK X yX7_take cX7_take 5 (some .boolean) rmX7_take (Cond.code yX7_take cX7_take 5 (some .boolean) :: q_G)) : q_SK X 5 0 (BX7_take_0) := by
  refine k_aload_n (i := 0) h (ddX7_take (0, .aload_n 0, 1) (List.mem_of_getElem? (i := 0) rfl)) rfl ?_
  refine k_getf (ci := 7) (j := 1) (C := RX7) (T := TX7) (N := 2) h rfl (fun w hw => List.mem_cons_of_mem _ (q_inX7 w hw)) (by decide) (List.mem_cons_of_mem _ gw141) (ddX7_take (1, .getfield 15, 3) (List.mem_of_getElem? (i := 1) rfl)) ?_
  refine k_iload_n (i := 1) h (ddX7_take (4, .iload_n 1, 1) (List.mem_of_getElem? (i := 2) rfl)) rfl ?_
  refine k_iadd h (ddX7_take (5, .iadd, 1) (List.mem_of_getElem? (i := 3) rfl)) ?_
  refine k_sipush (v := 400) h (ddX7_take (6, .sipush 400, 3) (List.mem_of_getElem? (i := 4) rfl)) (by decide) ?_
  refine k_icle h (ddX7_take (9, .if_icmp .le 5, 3) (List.mem_of_getElem? (i := 5) rfl)) (tgt := 14) (by decide) ?_ ?_
  · exact sX7_take_14 hl hQ h
  · exact sX7_take_12 hl hQ h
theorem sX7_take_63 {l : Launch} {X : q_CX} (hl : X.2.1 = l) (hQ : q_QM X) (h : q_OK X yX7_take cX7_take 5 (some .boolean) rmX7_take (Cond.code yX7_take cX7_take 5 (some .boolean) :: q_G)) : q_SK X 5 63 (BX7_take_63) := by
  refine k_iconst (v := 1) h (ddX7_take (63, .iconst 1, 1) (List.mem_of_getElem? (i := 35) rfl)) (by decide) ?_
  exact k_zret h hQ (ddX7_take (64, .ireturn, 1) (List.mem_of_getElem? (i := 36) rfl))
theorem sX7_take_24 {l : Launch} {X : q_CX} (hl : X.2.1 = l) (hQ : q_QM X) (h : q_OK X yX7_take cX7_take 5 (some .boolean) rmX7_take (Cond.code yX7_take cX7_take 5 (some .boolean) :: q_G)) : q_SK X 5 24 (BX7_take_24) := by
  refine k_aload_n (i := 0) h (ddX7_take (24, .aload_n 0, 1) (List.mem_of_getElem? (i := 14) rfl)) rfl ?_
  refine k_getf (ci := 7) (j := 0) (C := RX7) (T := TX7) (N := 2) h rfl (fun w hw => List.mem_cons_of_mem _ (q_inX7 w hw)) (by decide) (List.mem_cons_of_mem _ gw8) (ddX7_take (25, .getfield 9, 3) (List.mem_of_getElem? (i := 15) rfl)) ?_
  refine k_aload_n (i := 0) h (ddX7_take (28, .aload_n 0, 1) (List.mem_of_getElem? (i := 16) rfl)) rfl ?_
  refine k_getf (ci := 7) (j := 1) (C := RX7) (T := TX7) (N := 2) h rfl (fun w hw => List.mem_cons_of_mem _ (q_inX7 w hw)) (by decide) (List.mem_cons_of_mem _ gw141) (ddX7_take (29, .getfield 15, 3) (List.mem_of_getElem? (i := 17) rfl)) ?_
  refine k_lload_n (i := 2) h (ddX7_take (32, .lload_n 2, 1) (List.mem_of_getElem? (i := 18) rfl)) rfl ?_
  refine k_bipush (v := 8) h (ddX7_take (33, .bipush 8, 2) (List.mem_of_getElem? (i := 19) rfl)) (by decide) ?_
  refine k_iload (i := 4) h (ddX7_take (35, .iload 4, 2) (List.mem_of_getElem? (i := 20) rfl)) ?_
  refine k_imul h (ddX7_take (37, .imul, 1) (List.mem_of_getElem? (i := 21) rfl)) ?_
  refine k_lshr h (ddX7_take (38, .lshr, 1) (List.mem_of_getElem? (i := 22) rfl)) ?_
  refine k_ldc2 (v := 255) h (ddX7_take (39, .ldc2_w 19, 3) (List.mem_of_getElem? (i := 23) rfl)) (List.mem_cons_of_mem _ gw142) ?_
  refine k_land h (ddX7_take (42, .land, 1) (List.mem_of_getElem? (i := 24) rfl)) ?_
  refine k_l2i h (ddX7_take (43, .l2i, 1) (List.mem_of_getElem? (i := 25) rfl)) ?_
  refine k_callN h hl (aX8_put l) ⟨rfl, rfl⟩ (n := 3) (by decide +kernel) (q_gN gw143) (by decide +kernel) (List.mem_cons_of_mem _ gw91) (List.mem_cons_of_mem _ gw144) ⟨by decide, by decide⟩ (ddX7_take (44, .invokestatic 21, 3) (List.mem_of_getElem? (i := 26) rfl)) ?_
  refine k_aload_n (i := 0) h (ddX7_take (47, .aload_n 0, 1) (List.mem_of_getElem? (i := 27) rfl)) rfl ?_
  refine k_dup h (ddX7_take (48, .dup, 1) (List.mem_of_getElem? (i := 28) rfl)) ?_
  refine k_getf (ci := 7) (j := 1) (C := RX7) (T := TX7) (N := 2) h rfl (fun w hw => List.mem_cons_of_mem _ (q_inX7 w hw)) (by decide) (List.mem_cons_of_mem _ gw141) (ddX7_take (49, .getfield 15, 3) (List.mem_of_getElem? (i := 29) rfl)) ?_
  refine k_iconst (v := 1) h (ddX7_take (52, .iconst 1, 1) (List.mem_of_getElem? (i := 30) rfl)) (by decide) ?_
  refine k_iadd h (ddX7_take (53, .iadd, 1) (List.mem_of_getElem? (i := 31) rfl)) ?_
  refine k_putf (ci := 7) (j := 1) (C := RX7) (T := TX7) (N := 2) h rfl (fun w hw => List.mem_cons_of_mem _ (q_inX7 w hw)) (by decide) (List.mem_cons_of_mem _ gw141) tyX7 tyX7_ok nmX7 (by decide +kernel) (by decide +kernel) (ddX7_take (54, .putfield 15, 3) (List.mem_of_getElem? (i := 32) rfl)) ?_
  refine k_iinc (d := (-1)) h (ddX7_take (57, .iinc 4 (-1), 3) (List.mem_of_getElem? (i := 33) rfl)) (by decide) (by decide) ?_
  refine k_goto h (ddX7_take (60, .goto (-41), 3) (List.mem_of_getElem? (i := 34) rfl)) (tgt := 19) (by decide) ?_
  exact k_cut
theorem sX7_take_19 {l : Launch} {X : q_CX} (hl : X.2.1 = l) (hQ : q_QM X) (h : q_OK X yX7_take cX7_take 5 (some .boolean) rmX7_take (Cond.code yX7_take cX7_take 5 (some .boolean) :: q_G)) : q_SK X 5 19 (BX7_take_19) := by
  refine k_iload (i := 4) h (ddX7_take (19, .iload 4, 2) (List.mem_of_getElem? (i := 12) rfl)) ?_
  refine k_iflt h (ddX7_take (21, .ifCond .lt 42, 3) (List.mem_of_getElem? (i := 13) rfl)) (tgt := 63) (by decide) ?_ ?_
  · exact sX7_take_63 hl hQ h
  · exact sX7_take_24 hl hQ h
theorem aX7_take (l : Launch) (as : List Value) (sh : q_Sh) (m : q_Mm) (R : q_KR) (hw : wX7_take as sh m R) : q_AM l yX7_take (Cond.code yX7_take cX7_take 5 (some .boolean) :: q_G) rmX7_take as sh m R := by
  refine q_met (code := TX7_take) (by decide) (fun X hl hQ _ h pc => ?_) hw.1 hw.2
  unfold TX7_take
  exact k_at (sX7_take_0 hl hQ h) (k_at (sX7_take_19 hl hQ h) (k_no))
