/-! Rows for evaluating the transformers: calls by the number of their arguments. -/
def q_cn : List Value → Nat
  | [] => 0
  | v :: r => v.category + q_cn r
theorem q_cn_eq : ∀ st : List Value, (st.map fun v => v.category).sum = q_cn st
  | [] => rfl
  | v :: r => by simp [q_cn, q_cn_eq r]
theorem q_cat_eq (st : List Value) : q_cat st = (q_cn st ≤ 8) := by rw [q_cat, q_cn_eq]
theorem q_cn_0 : q_cn [] = 0 := rfl
theorem q_cn_i (x : Int32) (r : List Value) : q_cn (.int x :: r) = 1 + q_cn r := rfl
theorem q_cn_r (x : Nat) (r : List Value) : q_cn (.ref x :: r) = 1 + q_cn r := rfl
theorem q_cn_a (x : Nat) (r : List Value) : q_cn (.retAddr x :: r) = 1 + q_cn r := rfl
theorem q_cn_l (x : Int64) (r : List Value) : q_cn (.long x :: r) = 2 + q_cn r := rfl
theorem o_call_0 {w : q_WT} {t : q_TT} {L : q_Lo} {st : List Value} {sh : q_Sh} {m : q_Mm} {K : q_KN} {R : q_KR} : o_call 0 w t L (st) sh m K R = (q_cn st ≤ 8 ∧ w [] sh m (fun v sh' m' => t L (v.toList ++ st) sh' m' K R)) := by simp [o_call, q_cat_eq]
theorem o_call_1 {w : q_WT} {t : q_TT} {L : q_Lo} {st : List Value} {sh : q_Sh} {m : q_Mm} {K : q_KN} {R : q_KR} {v0 : Value} : o_call 1 w t L (v0 :: st) sh m K R = (q_cn st ≤ 8 ∧ w [v0] sh m (fun v sh' m' => t L (v.toList ++ st) sh' m' K R)) := by simp [o_call, q_cat_eq]
theorem o_call_2 {w : q_WT} {t : q_TT} {L : q_Lo} {st : List Value} {sh : q_Sh} {m : q_Mm} {K : q_KN} {R : q_KR} {v0 v1 : Value} : o_call 2 w t L (v1 :: v0 :: st) sh m K R = (q_cn st ≤ 8 ∧ w [v0, v1] sh m (fun v sh' m' => t L (v.toList ++ st) sh' m' K R)) := by simp [o_call, q_cat_eq]
theorem o_call_3 {w : q_WT} {t : q_TT} {L : q_Lo} {st : List Value} {sh : q_Sh} {m : q_Mm} {K : q_KN} {R : q_KR} {v0 v1 v2 : Value} : o_call 3 w t L (v2 :: v1 :: v0 :: st) sh m K R = (q_cn st ≤ 8 ∧ w [v0, v1, v2] sh m (fun v sh' m' => t L (v.toList ++ st) sh' m' K R)) := by simp [o_call, q_cat_eq]
theorem o_call_4 {w : q_WT} {t : q_TT} {L : q_Lo} {st : List Value} {sh : q_Sh} {m : q_Mm} {K : q_KN} {R : q_KR} {v0 v1 v2 v3 : Value} : o_call 4 w t L (v3 :: v2 :: v1 :: v0 :: st) sh m K R = (q_cn st ≤ 8 ∧ w [v0, v1, v2, v3] sh m (fun v sh' m' => t L (v.toList ++ st) sh' m' K R)) := by simp [o_call, q_cat_eq]
theorem o_call_5 {w : q_WT} {t : q_TT} {L : q_Lo} {st : List Value} {sh : q_Sh} {m : q_Mm} {K : q_KN} {R : q_KR} {v0 v1 v2 v3 v4 : Value} : o_call 5 w t L (v4 :: v3 :: v2 :: v1 :: v0 :: st) sh m K R = (q_cn st ≤ 8 ∧ w [v0, v1, v2, v3, v4] sh m (fun v sh' m' => t L (v.toList ++ st) sh' m' K R)) := by simp [o_call, q_cat_eq]
theorem o_call_6 {w : q_WT} {t : q_TT} {L : q_Lo} {st : List Value} {sh : q_Sh} {m : q_Mm} {K : q_KN} {R : q_KR} {v0 v1 v2 v3 v4 v5 : Value} : o_call 6 w t L (v5 :: v4 :: v3 :: v2 :: v1 :: v0 :: st) sh m K R = (q_cn st ≤ 8 ∧ w [v0, v1, v2, v3, v4, v5] sh m (fun v sh' m' => t L (v.toList ++ st) sh' m' K R)) := by simp [o_call, q_cat_eq]
theorem o_call_7 {w : q_WT} {t : q_TT} {L : q_Lo} {st : List Value} {sh : q_Sh} {m : q_Mm} {K : q_KN} {R : q_KR} {v0 v1 v2 v3 v4 v5 v6 : Value} : o_call 7 w t L (v6 :: v5 :: v4 :: v3 :: v2 :: v1 :: v0 :: st) sh m K R = (q_cn st ≤ 8 ∧ w [v0, v1, v2, v3, v4, v5, v6] sh m (fun v sh' m' => t L (v.toList ++ st) sh' m' K R)) := by simp [o_call, q_cat_eq]
theorem o_callV_0 {w : q_WT} {t : q_TT} {L : q_Lo} {st : List Value} {sh : q_Sh} {m : q_Mm} {K : q_KN} {R : q_KR} {v0 : Value} {ci : Nat} : o_callV ci 0 w t L (v0 :: st) sh m K R = (q_cls sh ci v0 ∧ q_cn st ≤ 8 ∧ w [v0] sh m (fun v sh' m' => t L (v.toList ++ st) sh' m' K R)) := by simp [o_callV, q_cat_eq]
theorem o_callV_1 {w : q_WT} {t : q_TT} {L : q_Lo} {st : List Value} {sh : q_Sh} {m : q_Mm} {K : q_KN} {R : q_KR} {v0 v1 : Value} {ci : Nat} : o_callV ci 1 w t L (v1 :: v0 :: st) sh m K R = (q_cls sh ci v0 ∧ q_cn st ≤ 8 ∧ w [v0, v1] sh m (fun v sh' m' => t L (v.toList ++ st) sh' m' K R)) := by simp [o_callV, q_cat_eq]
theorem o_callV_2 {w : q_WT} {t : q_TT} {L : q_Lo} {st : List Value} {sh : q_Sh} {m : q_Mm} {K : q_KN} {R : q_KR} {v0 v1 v2 : Value} {ci : Nat} : o_callV ci 2 w t L (v2 :: v1 :: v0 :: st) sh m K R = (q_cls sh ci v0 ∧ q_cn st ≤ 8 ∧ w [v0, v1, v2] sh m (fun v sh' m' => t L (v.toList ++ st) sh' m' K R)) := by simp [o_callV, q_cat_eq]
theorem o_callV_3 {w : q_WT} {t : q_TT} {L : q_Lo} {st : List Value} {sh : q_Sh} {m : q_Mm} {K : q_KN} {R : q_KR} {v0 v1 v2 v3 : Value} {ci : Nat} : o_callV ci 3 w t L (v3 :: v2 :: v1 :: v0 :: st) sh m K R = (q_cls sh ci v0 ∧ q_cn st ≤ 8 ∧ w [v0, v1, v2, v3] sh m (fun v sh' m' => t L (v.toList ++ st) sh' m' K R)) := by simp [o_callV, q_cat_eq]
theorem o_callV_4 {w : q_WT} {t : q_TT} {L : q_Lo} {st : List Value} {sh : q_Sh} {m : q_Mm} {K : q_KN} {R : q_KR} {v0 v1 v2 v3 v4 : Value} {ci : Nat} : o_callV ci 4 w t L (v4 :: v3 :: v2 :: v1 :: v0 :: st) sh m K R = (q_cls sh ci v0 ∧ q_cn st ≤ 8 ∧ w [v0, v1, v2, v3, v4] sh m (fun v sh' m' => t L (v.toList ++ st) sh' m' K R)) := by simp [o_callV, q_cat_eq]
theorem o_callV_5 {w : q_WT} {t : q_TT} {L : q_Lo} {st : List Value} {sh : q_Sh} {m : q_Mm} {K : q_KN} {R : q_KR} {v0 v1 v2 v3 v4 v5 : Value} {ci : Nat} : o_callV ci 5 w t L (v5 :: v4 :: v3 :: v2 :: v1 :: v0 :: st) sh m K R = (q_cls sh ci v0 ∧ q_cn st ≤ 8 ∧ w [v0, v1, v2, v3, v4, v5] sh m (fun v sh' m' => t L (v.toList ++ st) sh' m' K R)) := by simp [o_callV, q_cat_eq]
theorem o_callV_6 {w : q_WT} {t : q_TT} {L : q_Lo} {st : List Value} {sh : q_Sh} {m : q_Mm} {K : q_KN} {R : q_KR} {v0 v1 v2 v3 v4 v5 v6 : Value} {ci : Nat} : o_callV ci 6 w t L (v6 :: v5 :: v4 :: v3 :: v2 :: v1 :: v0 :: st) sh m K R = (q_cls sh ci v0 ∧ q_cn st ≤ 8 ∧ w [v0, v1, v2, v3, v4, v5, v6] sh m (fun v sh' m' => t L (v.toList ++ st) sh' m' K R)) := by simp [o_callV, q_cat_eq]
theorem o_callI_0 {w : q_WT} {t : q_TT} {L : q_Lo} {st : List Value} {sh : q_Sh} {m : q_Mm} {K : q_KN} {R : q_KR} {v0 : Value} {ci : Nat} {rc cap : Nat × Nat} : o_callI ci 0 rc cap w t L (v0 :: st) sh m K R = (q_val L (v0 :: st) sh ∧ q_cls sh ci v0 ∧ q_cn st ≤ 8 ∧ sh.length + rc.1 ≤ cap.1 ∧ q_sl sh + rc.2 ≤ cap.2 ∧ w [v0] sh m (fun v sh' m' => t L (v.toList ++ st) sh' m' K R)) := by simp [o_callI, q_cat_eq]
theorem o_callI_1 {w : q_WT} {t : q_TT} {L : q_Lo} {st : List Value} {sh : q_Sh} {m : q_Mm} {K : q_KN} {R : q_KR} {v0 v1 : Value} {ci : Nat} {rc cap : Nat × Nat} : o_callI ci 1 rc cap w t L (v1 :: v0 :: st) sh m K R = (q_val L (v1 :: v0 :: st) sh ∧ q_cls sh ci v0 ∧ q_cn st ≤ 8 ∧ sh.length + rc.1 ≤ cap.1 ∧ q_sl sh + rc.2 ≤ cap.2 ∧ w [v0, v1] sh m (fun v sh' m' => t L (v.toList ++ st) sh' m' K R)) := by simp [o_callI, q_cat_eq]
theorem o_callT_0 {w : q_WT} {t : q_TT} {L : q_Lo} {st : List Value} {sh : q_Sh} {m : q_Mm} {K : q_KN} {R : q_KR} {i : Nat} : o_callT 0 w t L (.retAddr i :: st) sh m K R = (i < 4 ∧ q_cn st ≤ 8 ∧ w [.retAddr i] sh m (fun v sh' m' => t L (v.toList ++ st) sh' m' K R)) := by simp [o_callT, q_cat_eq, q_isT]
theorem o_callT_1 {w : q_WT} {t : q_TT} {L : q_Lo} {st : List Value} {sh : q_Sh} {m : q_Mm} {K : q_KN} {R : q_KR} {v0 : Value} {i : Nat} : o_callT 1 w t L (v0 :: .retAddr i :: st) sh m K R = (i < 4 ∧ q_cn st ≤ 8 ∧ w [.retAddr i, v0] sh m (fun v sh' m' => t L (v.toList ++ st) sh' m' K R)) := by simp [o_callT, q_cat_eq, q_isT]
theorem q_cls_of {sh : q_Sh} {ci b : Nat} {fs : List (Option Value)} (h : sh[b]? = some (.inl (ci, fs))) : q_cls sh ci (.ref b) = True := by simp [q_cls, h]
theorem q_R0_same {sh : q_Sh} {rm : Room} {R : q_KR} {v : Option Value} {m : q_Mm} (h : rm.cells = 0) (h2 : rm.slots = 0) : q_R0 sh rm R v sh m = R v sh m := by simp [q_R0, h, h2]
theorem q_nl_none : q_nl none = True := rfl
theorem q_nl_sn : q_nl (some none) = True := rfl
theorem q_nl_i (x : Int32) : q_nl (some (some (.int x))) = True := rfl
theorem q_nl_r (x : Nat) : q_nl (some (some (.ref x))) = True := rfl
theorem q_nl_a (x : Nat) : q_nl (some (some (.retAddr x))) = True := rfl
theorem o_mmax_e {t : q_TT} {L : q_Lo} {st : List Value} {sh : q_Sh} {m : q_Mm} {K : q_KN} {R : q_KR} {x y : Int32} : o_mmax t L (.int y :: .int x :: st) sh m K R = (q_cn st ≤ 8 ∧ t L (.int (if x < y then y else x) :: st) sh m K R) := by simp only [o_mmax, q_cn_eq]
theorem o_mmin_e {t : q_TT} {L : q_Lo} {st : List Value} {sh : q_Sh} {m : q_Mm} {K : q_KN} {R : q_KR} {x y : Int32} : o_mmin t L (.int y :: .int x :: st) sh m K R = (q_cn st ≤ 8 ∧ t L (.int (if y < x then y else x) :: st) sh m K R) := by simp only [o_mmin, q_cn_eq]
theorem o_obj_e {t : q_TT} {L : q_Lo} {st : List Value} {sh : q_Sh} {m : q_Mm} {K : q_KN} {R : q_KR} {a : Nat} : o_obj t L (.ref a :: st) sh m K R = (q_cn st ≤ 8 ∧ t L st sh m K R) := by simp only [o_obj, q_cn_eq]
theorem q_vp_0 {n : Nat} : vp_in 0 (n + 1) = True := eq_true (by simpa using vp_in_iff.mpr ⟨(by decide : (0 : Int) ≤ (0 : Int32).toInt), by rw [show (0 : Int32).toInt = 0 from by decide]; omega⟩)
theorem q_vp_1 {n : Nat} : vp_in 1 (n + 2) = True := eq_true (by simpa using vp_in_iff.mpr ⟨(by decide : (0 : Int) ≤ (1 : Int32).toInt), by rw [show (1 : Int32).toInt = 1 from by decide]; omega⟩)
theorem q_vp_2 {n : Nat} : vp_in 2 (n + 3) = True := eq_true (by simpa using vp_in_iff.mpr ⟨(by decide : (0 : Int) ≤ (2 : Int32).toInt), by rw [show (2 : Int32).toInt = 2 from by decide]; omega⟩)
theorem q_vp_3 {n : Nat} : vp_in 3 (n + 4) = True := eq_true (by simpa using vp_in_iff.mpr ⟨(by decide : (0 : Int) ≤ (3 : Int32).toInt), by rw [show (3 : Int32).toInt = 3 from by decide]; omega⟩)
theorem q_vp_4 {n : Nat} : vp_in 4 (n + 5) = True := eq_true (by simpa using vp_in_iff.mpr ⟨(by decide : (0 : Int) ≤ (4 : Int32).toInt), by rw [show (4 : Int32).toInt = 4 from by decide]; omega⟩)
theorem q_vp_5 {n : Nat} : vp_in 5 (n + 6) = True := eq_true (by simpa using vp_in_iff.mpr ⟨(by decide : (0 : Int) ≤ (5 : Int32).toInt), by rw [show (5 : Int32).toInt = 5 from by decide]; omega⟩)
theorem q_vp_6 {n : Nat} : vp_in 6 (n + 7) = True := eq_true (by simpa using vp_in_iff.mpr ⟨(by decide : (0 : Int) ≤ (6 : Int32).toInt), by rw [show (6 : Int32).toInt = 6 from by decide]; omega⟩)
theorem q_vp_7 {n : Nat} : vp_in 7 (n + 8) = True := eq_true (by simpa using vp_in_iff.mpr ⟨(by decide : (0 : Int) ≤ (7 : Int32).toInt), by rw [show (7 : Int32).toInt = 7 from by decide]; omega⟩)
theorem q_vp_8 {n : Nat} : vp_in 8 (n + 9) = True := eq_true (by simpa using vp_in_iff.mpr ⟨(by decide : (0 : Int) ≤ (8 : Int32).toInt), by rw [show (8 : Int32).toInt = 8 from by decide]; omega⟩)
theorem q_z10 : ((1 : Int32) = 0) = False := eq_false (by decide)
theorem q_z01 : ((0 : Int32) = 1) = False := eq_false (by decide)
