/-! The reading of a rock, put to both. -/
theorem q_md_o {sh sh' : q_Sh} {c : Nat} (h : q_md sh c) (hc : 0 < c) (e : ∀ i, i ≠ 0 → sh'[i]? = sh[i]?) : q_md sh' c := by
  unfold q_md at h ⊢
  rw [e c (by omega), e (c + 1) (by omega), e (c + 2) (by omega), e (c + 3) (by omega), e (c + 4) (by omega), e (c + 5) (by omega), e (c + 6) (by omega), e (c + 7) (by omega), e (c + 8) (by omega), e (c + 9) (by omega), e (c + 10) (by omega), e (c + 11) (by omega), e (c + 12) (by omega), e (c + 13) (by omega), e (c + 14) (by omega), e (c + 15) (by omega), e (c + 16) (by omega)]
  exact h
theorem m_rock_rf {m m' : q_Mm} {c : Nat} {k : RK} (hk : r_ok k) (h : m_rock m c k) (e : m_rf c m m') : m_rock m' c k := by
  obtain ⟨t0, t1, t2, t3, t4, t5, t6, t7, t8, t9⟩ := h
  obtain ⟨r1, r2, r3, r4, r5, r6, r7⟩ := e
  have h3 := hk.1
  have h8 := hk.2.1
  have h4 := hk.2.2.2.1
  refine ⟨(r2 _ (by omega)).trans t0, (r2 _ (by omega)).trans t1, (r2 _ (by omega)).trans t2, (r2 _ (by omega)).trans t3, (r2 _ (by omega)).trans t4, fun h i hi => (r4 i hi).trans (t5 h i hi), fun i j hi hj => (r3 _ ?_).trans (t6 i j hi hj), fun p i hp hi => (r5 _ (by omega)).trans (t7 p i hp hi), fun p hp => (r6 _ (by omega)).trans (t8 p hp), fun q i hq hi => (r7 _ (by omega)).trans (t9 q i hq hi)⟩
  have := (hk.2.2.2.2.1 i hi).2
  omega
section RP
variable {T : Nat}
theorem wv_rock : W2 wX8_rock wX9_rock [] T := by
  rintro sh m R ⟨rb, sb, k, f, x, b, l, z, g, hH, hX, hM, hG⟩ hT hR
  obtain ⟨a1, a2, a3, a4, a5, a6, a7⟩ := id hX
  obtain ⟨g1, g2, g3, g4, g5, g6, g7⟩ := id hG
  have hrs : (rb = 20 ∧ sb = 29) ∨ (rb = 29 ∧ sb = 20) := by
    rcases hH.1 with ⟨-, -, -, -, -, -, -, -, -, -, -, -, -, -, -, -, -, -, -, -, -, -, h⟩
    exact h
  have hr := t_rk_ok x x.2 k_0 0 k_0_ok (Nat.zero_le _)
  have hG2 := GI.mono hG (show T ≤ T + 999 by omega)
  by_cases c : (t_rk x x.2 k_0 0).1.1 = 0
  · obtain ⟨hk', hsy'⟩ := hr.2.2 c
    refine p8_rock hH.1 a3 g4 (fun q => absurd c q) (fun _ sh1 m1 hs1 _ _ hq1 e0 ex e4 e44 e90 e95 ef e18 e80 e81 e11 e33 => ?_)
    have hM1 : MI m1 k f x b l z g := MI.hi hM e0
    obtain ⟨b1, b2, b3, b4, b5, b6, b7⟩ := id hM1
    have hs9 : q_md sh1 38 := q_md_o hH.2 (by decide) hq1
    have hp9 : ∀ R2 : q_KR, ((t_rk x x.2 k_0 0).1.1 = 0 → ∀ m', (∀ a, a < 38 ∨ 38 + 8 ≤ a → m' a = m1 a) → m_rock m' 38 (t_rk x x.2 k_0 0).2 → m_many m' 38 (t_rk x x.2 k_0 0).2 → (∀ e, e < 6 → m' (38 + 1) e = 0) → (∀ e, 6 ≤ e → m' (38 + 1) e = m1 (38 + 1) e) → (∀ e, m' (38 + 2) e = if e < 2 then 0 else m1 (38 + 2) e) → m' 38 16 = 0 → m' 38 21 = -1 → m' 38 28 = 0 → m' 38 32 = 0 → R2 (some (.int (nI (r_pl (t_rk x x.2 k_0 0).2)))) sh1 m') → wX9_rock [.ref 38] sh1 m1 R2 := fun R2 h => p9_rock hs9 b3 g4 (fun q => absurd c q) h
    generalize (t_rk x x.2 k_0 0).2 = K at hk' hsy' ex ef hp9 ⊢
    have hH1 : HI sh1 sb rb := ⟨hs1, hs9⟩
    have hX1 : XI m1 sb K (0, 0, 0, 0, f_d f) (x.1, 0) (b.1, 0) [] (-1) (fun _ => none) := by
      refine ⟨ex, ⟨e4 0 (by decide), e4 1 (by decide), e4 2 (by decide), e4 3 (by decide), e44.trans a2.2.2.2.2⟩, ⟨e11, fun j hj => absurd hj (Nat.not_lt_zero _)⟩, ⟨e18, fun j hj => absurd hj (Nat.not_lt_zero _)⟩, ⟨e90, ef, fun q => absurd e95 q⟩, e33, fun j hj => ⟨fun _ => ?_, fun f' q => by cases q⟩⟩
      rcases (show j = 0 ∨ j = 1 by omega) with rfl | rfl
      · exact e80
      · exact e81
    refine hR _ _ _ hs9 (fun R2 h2 => ?_)
    refine hp9 R2 (fun _ m2 d0 d1 d2 d3 d4 d5 d6 d7 d8 d9 => ?_)
    refine h2 _ _ (IV.mk hH1 (XI.lo hH1 hX1 (fun a ha => d0 a (by omega))) ⟨d1, ⟨fun i hi => ?_, d3 3 (by decide), d3 4 (by decide), d3 5 (by decide), (d4 6 (by decide)).trans b2.2.2.2.2⟩, ⟨d6, fun j hj => absurd hj (Nat.not_lt_zero _)⟩, ⟨d9, fun j hj => absurd hj (Nat.not_lt_zero _)⟩, ⟨d8, fun i o h => by simp at h⟩, d7, fun j hj => ⟨fun _ => (d5 j).trans (if_pos hj), fun f' q => by cases q⟩⟩ ⟨hk', hsy', ⟨(r_Sle hk').1, fun h => h, Nat.zero_lt_succ _, Nat.zero_le _, g3.2.2.2.2⟩, ⟨Nat.zero_le _, fun j hj => absurd hj (Nat.not_lt_zero _)⟩, ⟨Nat.zero_le _, fun j hj => absurd hj (Nat.not_lt_zero _)⟩, ⟨Nat.zero_le _, fun o ho => absurd ho (by simp)⟩, fun j hj f' q => by cases q⟩)
    show m2 (38 + 1) (0 + i) = nI (0 / r_wt K i % r_N K i)
    rw [Nat.zero_div, Nat.zero_mod]
    exact d3 _ (by omega)
  · refine p8_rock hH.1 a3 g4 (fun _ m1 e0 e11 e33 => ?_) (fun q => absurd q c)
    have hX1 : XI m1 rb k f (x.1, 0) b l (nI (t_rk x x.2 k_0 0).1.2) g := ⟨x_rock_o a1 (fun a q1 q2 => e0 a (by omega) (by omega) (by omega)), x_farm_c a2 (e0 4 (by decide) (by decide) (by omega)), ⟨e11, fun j hj => absurd hj (Nat.not_lt_zero _)⟩, x_book_c a4 (e0 18 (by decide) (by decide) (by omega)) (e0 19 (by decide) (by decide) (by omega)), x_seen_c a5 (e0 9 (by decide) (by decide) (by omega)) (e0 10 (by decide) (by decide) (by omega)), e33, x_img_c a7 (e0 6 (by decide) (by decide) (by omega)) (e0 7 (by decide) (by decide) (by omega)) (e0 8 (by decide) (by decide) (by omega))⟩
    have hM1 : MI m1 k f x b l z g := MI.hi hM (fun a ha => e0 a (by omega) (by omega) (by omega))
    obtain ⟨b1, b2, b3, b4, b5, b6, b7⟩ := id hM1
    refine hR _ _ _ hH.2 (fun R2 h2 => ?_)
    refine p9_rock hH.2 b3 g4 (fun _ m2 e z21 => ?_) (fun q => absurd q c)
    have b1' := m_rock_rf g1 b1 e
    obtain ⟨r1, r2, -, -, -, -, -⟩ := e
    have u : ∀ a, a ≠ 38 → q_up m2 38 16 0 a = m2 a := fun a ha => q_up_o ha
    have u' : ∀ e, e ≠ 16 → q_up m2 38 16 0 38 e = m2 38 e := fun e he => by rw [q_up_app, if_neg (fun q => he q.2)]
    have v : ∀ a, a ≠ 38 → (a < 38 ∨ a = 38 + 1 ∨ a = 38 + 2 ∨ 38 + 8 ≤ a) → q_up m2 38 16 0 a = m1 a := fun a h1 h2 => (u a h1).trans (r1 a h2)
    have v' : ∀ e, e ≠ 16 → (e < 11 ∨ (14 < e ∧ e < 17) ∨ 21 < e) → q_up m2 38 16 0 38 e = m1 38 e := fun e h1 h2 => (u' e h1).trans (r2 e h2)
    exact h2 _ _ (IV.mk hH (XI.lo hH hX1 (fun a ha => v a (by omega) (by omega))) ⟨m_rock_c b1' (fun j hj => u' j (by omega)) (fun i _ _ => u _ (by omega)), m_farm_c b2 (fun j _ _ => by rw [v _ (by decide) (by decide)]), ⟨by rw [q_up_app, if_pos ⟨rfl, rfl⟩]; rfl, fun j hj => absurd hj (Nat.not_lt_zero _)⟩, m_book_c b4 (v' _ (by decide) (by decide)) (v _ (by decide) (by decide)), m_seen_c b5 (v' _ (by decide) (by decide)) (v _ (by decide) (by decide)) (v _ (by decide) (by decide)) (v _ (by decide) (by decide)), (u' _ (by decide)).trans z21, m_img_c b7 (v _ (by decide) (by decide)) (fun j _ => by rw [v 39 (by decide) (by decide)])⟩ ⟨g1, g2, hG2.2.2.1, ⟨Nat.zero_le _, fun j hj => absurd hj (Nat.not_lt_zero _)⟩, hG2.2.2.2.2⟩)
end RP
