/-! What the law keeps: the class and the reference hold the same; the class's half. -/
def x_img (m : q_Mm) (g : Nat → Option FM) : Prop := ∀ j, j < 2 → (g j = none → m 8 j = 0) ∧ ∀ f, g j = some f → m 8 j = 1 ∧ x_farm m (6 + j) f
def m_img (m : q_Mm) (k : RK) (g : Nat → Option FM) : Prop := ∀ j, j < 2 → (g j = none → m 40 j = 0) ∧ ∀ f, g j = some f → m 40 j = 1 ∧ m_farm m 38 (8 + 8 * j) k f
def HI (sh : q_Sh) (rb sb : Nat) : Prop := q_xs sh rb sb ∧ q_md sh 38
def XI (m : q_Mm) (rb : Nat) (k : RK) (f : FM) (x : TX) (b : BK) (l : SN) (z : Int32) (g : Nat → Option FM) : Prop := x_rock m rb k ∧ x_farm m 4 f ∧ x_text m x ∧ x_book m b ∧ x_seen m k l ∧ m 3 3 = z ∧ x_img m g
def MI (m : q_Mm) (k : RK) (f : FM) (x : TX) (b : BK) (l : SN) (z : Int32) (g : Nat → Option FM) : Prop := m_rock m 38 k ∧ m_farm m 38 0 k f ∧ m_text m 38 x ∧ m_book m 38 b ∧ m_seen m 38 l ∧ m 38 21 = z ∧ m_img m k g
def GI (k : RK) (f : FM) (x : TX) (b : BK) (l : SN) (g : Nat → Option FM) (T : Nat) : Prop := r_ok k ∧ r_sym k ∧ f_ok k f T ∧ t_ok x ∧ b_ok k b ∧ s_ok k l ∧ ∀ j, j < 2 → ∀ f', g j = some f' → f_ok k f' T
theorem x_farm_c {m m' : q_Mm} {a : Nat} {f : FM} (h : x_farm m a f) (e : m' a = m a) : x_farm m' a f := by unfold x_farm; rw [e]; exact h
theorem x_text_c {m m' : q_Mm} {x : TX} (h : x_text m x) (e1 : m' 1 = m 1) (e2 : m' 2 = m 2) : x_text m' x := by unfold x_text; rw [e1, e2]; exact h
theorem x_book_c {m m' : q_Mm} {b : BK} (h : x_book m b) (e1 : m' 18 = m 18) (e2 : m' 19 = m 19) : x_book m' b := by unfold x_book; rw [e1, e2]; exact h
theorem x_seen_c {m m' : q_Mm} {k : RK} {l : SN} (h : x_seen m k l) (e1 : m' 9 = m 9) (e2 : m' 10 = m 10) : x_seen m' k l := by unfold x_seen x_fits; rw [e1, e2]; exact h
theorem x_img_c {m m' : q_Mm} {g : Nat → Option FM} (h : x_img m g) (e6 : m' 6 = m 6) (e7 : m' 7 = m 7) (e8 : m' 8 = m 8) : x_img m' g := fun j hj => by
  have e67 : m' (6 + j) = m (6 + j) := by rcases (show j = 0 ∨ j = 1 by omega) with rfl | rfl <;> assumption
  rw [e8]
  exact ⟨(h j hj).1, fun f hf => ⟨((h j hj).2 f hf).1, x_farm_c ((h j hj).2 f hf).2 e67⟩⟩
theorem m_rock_c {m m' : q_Mm} {c : Nat} {k : RK} (h : m_rock m c k) (e : ∀ j, (7 ≤ j ∧ j ≤ 10) ∨ j = 22 → m' c j = m c j) (h1 : ∀ i, 3 ≤ i → i ≤ 7 → m' (c + i) = m (c + i)) : m_rock m' c k := by
  obtain ⟨t0, t1, t2, t3, t4, t5, t6, t7, t8, t9⟩ := h
  refine ⟨(e 7 (by decide)).trans t0, (e 8 (by decide)).trans t1, (e 9 (by decide)).trans t2, (e 10 (by decide)).trans t3, (e 22 (by decide)).trans t4, ?_, ?_, ?_, ?_, ?_⟩
  · rw [h1 4 (by decide) (by decide)]; exact t5
  · rw [h1 3 (by decide) (by decide)]; exact t6
  · rw [h1 5 (by decide) (by decide)]; exact t7
  · rw [h1 6 (by decide) (by decide)]; exact t8
  · rw [h1 7 (by decide) (by decide)]; exact t9
theorem m_farm_c {m m' : q_Mm} {c o : Nat} {k : RK} {f : FM} (h : m_farm m c o k f) (e : ∀ j, o ≤ j → j < o + 7 → m' (c + 1) j = m (c + 1) j) : m_farm m' c o k f := by
  obtain ⟨h0, h1, h2, h3, h4⟩ := h
  refine ⟨fun i hi => (e _ (by omega) (by omega)).trans (h0 i hi), (e _ (by omega) (by omega)).trans h1, (e _ (by omega) (by omega)).trans h2, (e _ (by omega) (by omega)).trans h3, (e _ (by omega) (by omega)).trans h4⟩
theorem m_text_c {m m' : q_Mm} {c : Nat} {x : TX} (h : m_text m c x) (e1 : m' c 16 = m c 16) (e2 : m' (c + 8) = m (c + 8)) : m_text m' c x := by unfold m_text; rw [e1, e2]; exact h
theorem m_book_c {m m' : q_Mm} {c : Nat} {b : BK} (h : m_book m c b) (e1 : m' c 32 = m c 32) (e2 : m' (c + 16) = m (c + 16)) : m_book m' c b := by unfold m_book; rw [e1, e2]; exact h
theorem m_seen_c {m m' : q_Mm} {c : Nat} {l : SN} (h : m_seen m c l) (e1 : m' c 28 = m c 28) (e2 : m' (c + 11) = m (c + 11)) (e3 : m' (c + 12) = m (c + 12)) (e4 : m' (c + 13) = m (c + 13)) : m_seen m' c l := by unfold m_seen; rw [e1, e2, e3, e4]; exact h
theorem m_img_c {m m' : q_Mm} {k : RK} {g : Nat → Option FM} (h : m_img m k g) (e2 : m' 40 = m 40) (e1 : ∀ j, 8 ≤ j → m' 39 j = m 39 j) : m_img m' k g := fun j hj => by
  rw [e2]
  exact ⟨(h j hj).1, fun f hf => ⟨((h j hj).2 f hf).1, m_farm_c ((h j hj).2 f hf).2 (fun e he _ => e1 e (by omega))⟩⟩
theorem f_ok_mono {k : RK} {f : FM} {T T' : Nat} (h : f_ok k f T) (hT : T ≤ T') : f_ok k f T' := ⟨h.1, h.2.1, h.2.2.1, Nat.le_trans h.2.2.2.1 hT, h.2.2.2.2⟩
section IV
variable {m m' : q_Mm} {rb sb : Nat} {k : RK} {f : FM} {x : TX} {b : BK} {l : SN} {z : Int32} {g : Nat → Option FM} {T : Nat} {sh : q_Sh} {R : q_KR}
theorem GI.mono {T' : Nat} (h : GI k f x b l g T) (hT : T ≤ T') : GI k f x b l g T' := ⟨h.1, h.2.1, f_ok_mono h.2.2.1 hT, h.2.2.2.1, h.2.2.2.2.1, h.2.2.2.2.2.1, fun j hj f' e => f_ok_mono (h.2.2.2.2.2.2 j hj f' e) hT⟩
theorem HI.pl (h : HI sh rb sb) : rb = 20 ∨ rb = 29 := by
  rcases h.1 with ⟨-, -, -, -, -, -, -, -, -, -, -, -, -, -, -, -, -, -, -, -, -, -, (h | h)⟩
  · exact Or.inl h.1
  · exact Or.inr h.1
theorem XI.lo (hH : HI sh rb sb) (h : XI m rb k f x b l z g) (e : ∀ a, a < 38 → m' a = m a) : XI m' rb k f x b l z g := by
  have hrb := HI.pl hH
  obtain ⟨h1, h2, h3, h4, h5, h6, h7⟩ := h
  exact ⟨x_rock_o h1 (fun a q1 q2 => e a (by omega)), x_farm_c h2 (e 4 (by decide)), x_text_c h3 (e 1 (by decide)) (e 2 (by decide)), x_book_c h4 (e 18 (by decide)) (e 19 (by decide)), x_seen_c h5 (e 9 (by decide)) (e 10 (by decide)), by rw [e 3 (by decide)]; exact h6, x_img_c h7 (e 6 (by decide)) (e 7 (by decide)) (e 8 (by decide))⟩
theorem MI.hi (h : MI m k f x b l z g) (e : ∀ a, 38 ≤ a → m' a = m a) : MI m' k f x b l z g := by
  obtain ⟨h1, h2, h3, h4, h5, h6, h7⟩ := h
  exact ⟨m_rock_c h1 (fun j _ => by rw [e 38 (by decide)]) (fun i _ _ => e _ (by omega)), m_farm_c h2 (fun j _ _ => by rw [e _ (by decide)]), m_text_c h3 (by rw [e 38 (by decide)]) (e _ (by decide)), m_book_c h4 (by rw [e 38 (by decide)]) (e _ (by decide)), m_seen_c h5 (by rw [e 38 (by decide)]) (e _ (by decide)) (e _ (by decide)) (e _ (by decide)), by rw [e 38 (by decide)]; exact h6, m_img_c h7 (e _ (by decide)) (fun j _ => by rw [e 39 (by decide)])⟩
/-- the class's rows that only serve a question: the others stay -/
theorem XI.sc (hH : HI sh rb sb) (h : XI m rb k f x b l z g) (e : ∀ a, a < 13 ∨ 17 < a → m' a = m a) : XI m' rb k f x b l z g := by
  have hrb := HI.pl hH
  obtain ⟨h1, h2, h3, h4, h5, h6, h7⟩ := h
  exact ⟨x_rock_o h1 (fun a q1 q2 => e a (by omega)), x_farm_c h2 (e 4 (by decide)), x_text_c h3 (e 1 (by decide)) (e 2 (by decide)), x_book_c h4 (e 18 (by decide)) (e 19 (by decide)), x_seen_c h5 (e 9 (by decide)) (e 10 (by decide)), by rw [e 3 (by decide)]; exact h6, x_img_c h7 (e 6 (by decide)) (e 7 (by decide)) (e 8 (by decide))⟩
theorem XI.fm {f' : FM} (hH : HI sh rb sb) (h : XI m rb k f x b l z g) (e : q_but 4 m m') (hf : x_farm m' 4 f') : XI m' rb k f' x b l z g := by
  have hrb := HI.pl hH
  obtain ⟨h1, h2, h3, h4, h5, h6, h7⟩ := h
  exact ⟨x_rock_o h1 (fun a q1 q2 => e a (by omega)), hf, x_text_c h3 (e 1 (by decide)) (e 2 (by decide)), x_book_c h4 (e 18 (by decide)) (e 19 (by decide)), x_seen_c h5 (e 9 (by decide)) (e 10 (by decide)), by rw [e 3 (by decide)]; exact h6, x_img_c h7 (e 6 (by decide)) (e 7 (by decide)) (e 8 (by decide))⟩
/-- the reference's rows that only serve a question -/
theorem MI.sc (h : MI m k f x b l z g) (h4 : m_rock m' 38 k) (e : ∀ a, a ≠ 42 → a ≠ 47 → a ≠ 48 → a ≠ 52 → a ≠ 53 → m' a = m a) : MI m' k f x b l z g := by
  obtain ⟨h1, h2, h3, h4', h5, h6, h7⟩ := h
  exact ⟨h4, m_farm_c h2 (fun j _ _ => by rw [e _ (by decide) (by decide) (by decide) (by decide) (by decide)]), m_text_c h3 (by rw [e 38 (by decide) (by decide) (by decide) (by decide) (by decide)]) (e _ (by decide) (by decide) (by decide) (by decide) (by decide)), m_book_c h4' (by rw [e 38 (by decide) (by decide) (by decide) (by decide) (by decide)]) (e _ (by decide) (by decide) (by decide) (by decide) (by decide)), m_seen_c h5 (by rw [e 38 (by decide) (by decide) (by decide) (by decide) (by decide)]) (e _ (by decide) (by decide) (by decide) (by decide) (by decide)) (e _ (by decide) (by decide) (by decide) (by decide) (by decide)) (e _ (by decide) (by decide) (by decide) (by decide) (by decide)), by rw [e 38 (by decide) (by decide) (by decide) (by decide) (by decide)]; exact h6, m_img_c h7 (e _ (by decide) (by decide) (by decide) (by decide) (by decide)) (fun j _ => by rw [e 39 (by decide) (by decide) (by decide) (by decide) (by decide)])⟩
theorem MI.bu (h : MI m k f x b l z g) {i : Nat} (hi : i = 9 ∨ i = 10 ∨ i = 14 ∨ i = 15) {i' : Nat} (hi' : i' = 9 ∨ i' = 10 ∨ i' = 14 ∨ i' = 15) (e : ∀ a, a ≠ 38 + i → a ≠ 38 + i' → m' a = m a) : MI m' k f x b l z g :=
  MI.sc h (m_rock_c h.1 (fun j _ => by rw [e 38 (by omega) (by omega)]) (fun j _ _ => e _ (by omega) (by omega))) (fun a _ _ _ _ _ => e a (by omega) (by omega))
theorem MI.fm {f' : FM} (h : MI m k f x b l z g) (e : m_fr 38 m m') (hf : m_farm m' 38 0 k f') : MI m' k f' x b l z g := by
  obtain ⟨h1, h2, h3, h4, h5, h6, h7⟩ := h
  obtain ⟨e, e9⟩ := e
  exact ⟨m_rock_c h1 (fun j _ => by rw [e 38 (by decide) (by decide)]) (fun i _ _ => e _ (by omega) (by omega)), hf, m_text_c h3 (by rw [e 38 (by decide) (by decide)]) (e _ (by decide) (by decide)), m_book_c h4 (by rw [e 38 (by decide) (by decide)]) (e _ (by decide) (by decide)), m_seen_c h5 (by rw [e 38 (by decide) (by decide)]) (e _ (by decide) (by decide)) (e _ (by decide) (by decide)) (e _ (by decide) (by decide)), by rw [e 38 (by decide) (by decide)]; exact h6, m_img_c h7 (e _ (by decide) (by decide)) e9⟩
theorem n_stay_ok {n : Int32} (hk : r_ok k) (h : f_ok k f T) : f_ok k (n_stay k f n) (T + 999) := by
  unfold n_stay
  split
  · rename_i c
    obtain ⟨j, _, hj, rfl⟩ := q_ins1 (M := 999) (by decide) c.1
    rw [q_ix_n (by omega)]
    exact f_ok_mono (f_stays_ok h (Nat.pos_of_ne_zero c.2) hk.2.1 j) (by omega)
  · exact f_ok_mono h (by omega)
theorem n_go_ok {p : Int32} (hk : r_ok k) (h : f_ok k f T) : f_ok k (n_go k f p) (T + 999) := by
  have h8 : r_pl k ≤ 8 := hk.2.1
  unfold n_go
  split
  · rename_i c
    obtain ⟨⟨j, hj, rfl⟩, -⟩ := c
    rw [q_ix_n (by omega)]
    exact f_ok_mono (f_pass_ok h hj h8) (by omega)
  · exact f_ok_mono h (by omega)
theorem n_knock_ok {i e : Int32} (hk : r_ok k) (h : f_ok k f T) : f_ok k (n_knock k f i e) (T + 999) := by
  unfold n_knock
  split
  · exact f_ok_mono (f_knock_ok hk h _ _) (by omega)
  · exact f_ok_mono h (by omega)
theorem n_push_ok {q : Int32} (hk : r_ok k) (h : f_ok k f T) : f_ok k (n_push k f q) (T + 999) := by
  unfold n_push
  split
  · exact f_ok_mono (f_push_ok hk h _) (by omega)
  · exact f_ok_mono h (by omega)
theorem n_drift_ok {n : Int32} (hk : r_ok k) (h : f_ok k f T) : f_ok k (n_drift k f n) (T + 999) := by
  unfold n_drift
  split
  · rename_i c
    obtain ⟨j, _, hj, rfl⟩ := q_ins1 (M := 99) (by decide) c.1
    rw [q_ix_n (by omega)]
    exact f_ok_mono (f_drifts_ok hk h (by have := c.2; omega) j) (by omega)
  · exact f_ok_mono h (by omega)
theorem n_seed_ok {v : Int32} (h : f_ok k f T) : f_ok k (n_seed f v) (T + 999) := by
  unfold n_seed
  split
  · exact f_ok_mono h (by omega)
  · rename_i c
    obtain ⟨j, hj, rfl⟩ := nI_of c
    rw [q_ix_n hj]
    exact f_ok_mono (f_seedto_ok h hj) (by omega)
end IV
