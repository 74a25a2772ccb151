/-! The class's constructor. -/
def n_L8 : q_Sh := [.inl (8, [some (.ref 1), some (.ref 3), some (.ref 4), some (.ref 5), some (.ref 8), some (.ref 9), some (.ref 12), some (.ref 15), some (.ref 18), some (.ref 20), some (.ref 29)]), .inl (7, [some (.ref 2), none]), .inr (.inl (0, 400)), .inl (3, [some (.ref 1), none, none, none]), .inl (1, [none, none, none, none, none]), .inr (.inr [some 6, some 7]), .inl (1, [none, none, none, none, none]), .inl (1, [none, none, none, none, none]), .inr (.inl (1, 2)), .inl (6, [none, none, none, none, none, none, some (.ref 10), some (.ref 11)]), .inr (.inl (0, 1728)), .inr (.inl (0, 192)), .inl (5, [some (.ref 13), some (.ref 14)]), .inr (.inl (0, 328)), .inr (.inl (0, 41)), .inl (2, [some (.ref 16), some (.ref 17), none]), .inr (.inl (0, 1728)), .inr (.inl (0, 1728)), .inl (0, [some (.ref 19), none]), .inr (.inl (0, 30))] ++ (n_L4 20 ++ n_L4 29)
theorem n_xs (P : q_Sh) : q_xs (n_L8 ++ P) 20 29 := ⟨rfl, rfl, rfl, rfl, rfl, rfl, rfl, rfl, rfl, rfl, ⟨rfl, rfl, rfl, rfl, rfl, rfl, rfl, rfl, rfl⟩, ⟨rfl, rfl, rfl, rfl, rfl, rfl, rfl, rfl, rfl⟩, rfl, rfl, rfl, rfl, rfl, rfl, rfl, rfl, rfl, rfl, Or.inl ⟨rfl, rfl⟩⟩
section N8
variable {m : q_Mm} {sh : q_Sh} {K : q_KN} {R : q_KR} {t : q_TT} {P l : q_Sh} {F fs : List (Option Value)} {ci j : Nat} {v0 : Value} {v1 : Option Value} {rc cap : Nat × Nat} {w : q_WT}
theorem n_newI (hv : q_vsh (.inl (8, F) :: l) = true) (h1 : ∀ n, q_vo n v1 = true) (hf : fs.all (q_vo (l.length + 2)) = true) (c1 : l.length + 2 ≤ cap.1) (c2 : q_sl (.inl (8, F) :: l) + fs.length ≤ cap.2) (c3 : l.length + 2 + rc.1 ≤ cap.1) (c4 : q_sl (.inl (8, F) :: l) + fs.length + rc.2 ≤ cap.2)
    (hw : w [.ref (l.length + 1)] ((.inl (8, F) :: l) ++ [.inl (ci, fs)]) (q_zr m (l.length + 1)) (fun v sh' m' => t [some (.ref 0), v1] (v.toList ++ [.ref (l.length + 1), .ref 0]) sh' m' K R)) : o_al 0 (o_new ci fs cap (o_dup (o_callI ci 0 rc cap w t))) [some (.ref 0), v1] [] (.inl (8, F) :: l) m K R := by
  have e1 : ((.inl (8, F) :: l) ++ [(.inl (ci, fs) : q_SC)]).length = l.length + 2 := by simp
  have hv2 : q_vsh ((.inl (8, F) :: l) ++ [.inl (ci, fs)]) = true := by
    unfold q_vsh at hv ⊢
    rw [e1, List.all_append, Bool.and_eq_true]
    refine ⟨List.all_eq_true.mpr (fun x hx => q_vsc_mono (by simp) (List.all_eq_true.mp hv x hx)), ?_⟩
    simp only [List.all_cons, List.all_nil, Bool.and_true]
    exact hf
  have g : ((.inl (8, F) :: l) ++ [(.inl (ci, fs) : q_SC)])[l.length + 1]? = some (.inl (ci, fs)) := by
    rw [List.getElem?_append_right (by simp)]; simp
  simp only [o_al, o_new, o_dup, o_callI_0, List.getElem?_cons_zero, List.length_cons]
  have all2 : ∀ n, 0 < n → [some (.ref 0), v1].all (q_vo n) = true := fun n hn => by
    simp only [List.all_cons, List.all_nil, Bool.and_true, q_vo, q_vv, Bool.and_eq_true, decide_eq_true_eq]
    exact ⟨hn, h1 n⟩
  have st1 : ∀ n, 0 < n → [Value.ref 0].all (q_vv n) = true := fun n hn => by
    simp only [List.all_cons, List.all_nil, Bool.and_true, q_vv, decide_eq_true_eq]
    exact hn
  have st3 : ∀ n, l.length + 1 < n → [Value.ref (l.length + 1), Value.ref (l.length + 1), Value.ref 0].all (q_vv n) = true := fun n hn => by
    simp only [List.all_cons, List.all_nil, Bool.and_true, q_vv, Bool.and_eq_true, decide_eq_true_eq]
    exact ⟨hn, hn, Nat.lt_of_le_of_lt (Nat.zero_le _) hn⟩
  refine ⟨⟨hv, st1 _ (by simp), all2 _ (by simp)⟩, c1, c2, rfl, ⟨hv2, st3 _ (by rw [e1]; exact Nat.lt_succ_self _), all2 _ (by rw [e1]; exact Nat.succ_pos _)⟩, ?_, by show 1 + (1 + 0) ≤ 8; decide, ?_, ?_, hw⟩
  · rw [q_cls_of g]; trivial
  · rw [e1]; exact c3
  · rw [q_sl_app]; exact c4
theorem n_put8 {a : Nat} (hj : F[j]? = some (some v0)) (ht : t [some (.ref 0), v1] [] (.inl (8, F.set j (some (.ref a))) :: l) m K R) : o_putr 8 j t [some (.ref 0), v1] (Option.none.toList ++ [.ref a, .ref 0]) (.inl (8, F) :: l) m K R := by
  simp only [o_putr, Option.toList_none, List.nil_append, List.getElem?_cons_zero, hj, List.set_cons_zero]
  exact ⟨trivial, ht⟩
theorem n_arr8 {kd n : Nat} {nn : Int32} (hv : q_vsh (.inl (8, F) :: l) = true) (h1 : ∀ n, q_vo n v1 = true) (hj : F[j]? = some (some v0)) (hn : nn = nI n) (c1 : l.length + 2 ≤ cap.1) (c2 : q_sl (.inl (8, F) :: l) + n ≤ cap.2) (ht : t [some (.ref 0), v1] [] (.inl (8, F.set j (some (.ref (l.length + 1)))) :: (l ++ [.inr (.inl (kd, n))])) (q_zr m (l.length + 1)) K R) : o_al 0 (o_ic nn (o_newa kd n cap (o_putr 8 j t))) [some (.ref 0), v1] [] (.inl (8, F) :: l) m K R := by
  simp only [o_al, o_ic, o_newa, o_putr, List.getElem?_cons_zero, List.length_cons, List.cons_append, hj, List.set_cons_zero]
  refine ⟨hn, ⟨hv, ?_, ?_⟩, c1, c2, trivial, ht⟩
  · simp only [List.all_cons, List.all_nil, Bool.and_true, q_vv, decide_eq_true_eq]; exact Nat.succ_pos _
  · simp only [List.all_cons, List.all_nil, Bool.and_true, q_vo, q_vv, Bool.and_eq_true, decide_eq_true_eq]; exact ⟨Nat.succ_pos _, h1 _⟩
theorem n_arrq8 {n : Nat} {nn : Int32} (hv : q_vsh (.inl (8, F) :: l) = true) (h1 : ∀ n, q_vo n v1 = true) (hj : F[j]? = some (some v0)) (hn : nn = nI n) (c1 : l.length + 2 ≤ cap.1) (c2 : q_sl (.inl (8, F) :: l) + n ≤ cap.2) (ht : t [some (.ref 0), v1] [] (.inl (8, F.set j (some (.ref (l.length + 1)))) :: (l ++ [.inr (.inr (List.replicate n none))])) (q_zr m (l.length + 1)) K R) : o_al 0 (o_ic nn (o_newq n cap (o_putr 8 j t))) [some (.ref 0), v1] [] (.inl (8, F) :: l) m K R := by
  simp only [o_al, o_ic, o_newq, o_putr, List.getElem?_cons_zero, List.length_cons, List.cons_append, hj, List.set_cons_zero]
  refine ⟨hn, ⟨hv, ?_, ?_⟩, c1, c2, trivial, ht⟩
  · simp only [List.all_cons, List.all_nil, Bool.and_true, q_vv, decide_eq_true_eq]; exact Nat.succ_pos _
  · simp only [List.all_cons, List.all_nil, Bool.and_true, q_vo, q_vv, Bool.and_eq_true, decide_eq_true_eq]; exact ⟨Nat.succ_pos _, h1 _⟩
/-! the small objects -/
theorem p7_init (hv : q_vsh P = true) (hR : R none (P ++ [.inl (7, [some (.ref (P.length + 1)), none]), .inr (.inl (0, 400))]) (q_zr m (P.length + 1))) : wX7_init [.ref P.length] (P ++ [.inl (7, [some .null, none])]) m R := by
  refine eX7_init ?_
  unfold BX7_init_0
  have hl : (P ++ [(.inl (7, [some .null, none]) : q_SC)]).length = P.length + 1 := by simp
  refine n_start (P := P) ?_
  have h0 := n_ok0 (P := P) (ci := 7) (fs := [some .null, none]) hv rfl
  rw [hl]
  refine n_arr (n := 400) h0 rfl rfl (Nat.le_refl _) (Nat.le_refl _) (fun h1 => ?_)
  exact n_end h1 (by rw [hl]; rfl) rfl hR
theorem p0_init (hv : q_vsh P = true) (hR : R none (P ++ [.inl (0, [some (.ref (P.length + 1)), none]), .inr (.inl (0, 30))]) (q_zr m (P.length + 1))) : wX0_init [.ref P.length] (P ++ [.inl (0, [some .null, none])]) m R := by
  refine eX0_init ?_
  unfold BX0_init_0
  have hl : (P ++ [(.inl (0, [some .null, none]) : q_SC)]).length = P.length + 1 := by simp
  refine n_start (P := P) ?_
  have h0 := n_ok0 (P := P) (ci := 0) (fs := [some .null, none]) hv rfl
  rw [hl]
  refine n_arr (n := 30) h0 rfl rfl (Nat.le_refl _) (Nat.le_refl _) (fun h1 => ?_)
  exact n_end h1 (by rw [hl]; rfl) rfl hR
theorem p5_init (hv : q_vsh P = true) (hR : R none (P ++ [.inl (5, [some (.ref (P.length + 1)), some (.ref (P.length + 2))]), .inr (.inl (0, 328)), .inr (.inl (0, 41))]) (q_zr (q_zr m (P.length + 1)) (P.length + 2))) : wX5_init [.ref P.length] (P ++ [.inl (5, [some .null, some .null])]) m R := by
  refine eX5_init ?_
  unfold BX5_init_0
  have hl : (P ++ [(.inl (5, [some .null, some .null]) : q_SC)]).length = P.length + 1 := by simp
  refine n_start (P := P) ?_
  have h0 := n_ok0 (P := P) (ci := 5) (fs := [some .null, some .null]) hv rfl
  rw [hl]
  refine n_arr (n := 328) h0 rfl rfl (Nat.le_succ _) (Nat.le_add_right _ 41) (fun h1 => ?_)
  refine n_arr (n := 41) h1 rfl rfl (Nat.le_refl _) (Nat.le_refl _) (fun h2 => ?_)
  exact n_end h2 (by rw [hl]; rfl) rfl hR
theorem p2_init (hv : q_vsh P = true) (hR : R none (P ++ [.inl (2, [some (.ref (P.length + 1)), some (.ref (P.length + 2)), none]), .inr (.inl (0, 1728)), .inr (.inl (0, 1728))]) (q_zr (q_zr m (P.length + 1)) (P.length + 2))) : wX2_init [.ref P.length] (P ++ [.inl (2, [some .null, some .null, none])]) m R := by
  refine eX2_init ?_
  unfold BX2_init_0
  have hl : (P ++ [(.inl (2, [some .null, some .null, none]) : q_SC)]).length = P.length + 1 := by simp
  refine n_start (P := P) ?_
  have h0 := n_ok0 (P := P) (ci := 2) (fs := [some .null, some .null, none]) hv rfl
  rw [hl]
  refine n_arr (n := 1728) h0 rfl rfl (Nat.le_succ _) (Nat.le_add_right _ 1728) (fun h1 => ?_)
  refine n_arr (n := 1728) h1 rfl rfl (Nat.le_refl _) (Nat.le_refl _) (fun h2 => ?_)
  exact n_end h2 (by rw [hl]; rfl) rfl hR
theorem p6_init (hv : q_vsh P = true) (hR : R none (P ++ [.inl (6, [none, none, none, none, none, none, some (.ref (P.length + 1)), some (.ref (P.length + 2))]), .inr (.inl (0, 1728)), .inr (.inl (0, 192))]) (q_up (q_zr (q_zr m (P.length + 1)) (P.length + 2)) P.length 1 1)) : wX6_init [.ref P.length] (P ++ [.inl (6, [none, none, none, none, none, none, some .null, some .null])]) m R := by
  refine eX6_init ?_
  unfold BX6_init_0
  have hl : (P ++ [(.inl (6, [none, none, none, none, none, none, some .null, some .null]) : q_SC)]).length = P.length + 1 := by simp
  refine n_start (P := P) ?_
  have h0 := n_ok0 (P := P) (ci := 6) (fs := [none, none, none, none, none, none, some .null, some .null]) hv rfl
  rw [hl]
  refine n_arr (n := 1728) h0 rfl rfl (Nat.le_succ _) (Nat.le_add_right _ 192) (fun h1 => ?_)
  refine n_arr (n := 192) h1 rfl rfl (Nat.le_refl _) (Nat.le_refl _) (fun h2 => ?_)
  refine n_int rfl ?_
  exact n_end h2 (by rw [hl]; rfl) rfl hR
theorem p1_init {a : Nat} (hR : R none sh m) : wX1_init [.ref a] sh m R := by
  refine eX1_init ?_
  unfold BX1_init_0
  simp only [o_al, o_obj, o_vret, List.getElem?_cons_zero]
  exact ⟨by decide, rfl, rfl, hR⟩
theorem p3_init (hv : q_vsh P = true) (h1 : 1 < P.length) (hR : R none (P ++ [.inl (3, [some (.ref 1), none, none, none])]) (q_up m P.length 3 (-1))) : wX3_init [.ref P.length, .ref 1] (P ++ [.inl (3, [some .null, none, none, none])]) m R := by
  refine eX3_init ?_
  unfold BX3_init_0
  have g : ∀ c : q_SC, (P ++ [c])[P.length]? = some c := fun c => by simp
  have s : ∀ c c' : q_SC, (P ++ [c]).set P.length c' = P ++ [c'] := fun c c' => by simp
  simp only [o_al, o_obj, o_putr, o_ic, o_putf, o_vret, List.getElem?_cons_zero, List.getElem?_cons_succ, g, s, List.set_cons_zero]
  refine ⟨by decide, trivial, trivial, trivial, ?_, ?_, hR⟩
  · show (P ++ [_]).length = (P ++ [_]).length + 0
    simp
  · show q_sl (P ++ [_]) = q_sl (P ++ [_]) + 0
    rw [q_sl_app, q_sl_app]; rfl
end N8
