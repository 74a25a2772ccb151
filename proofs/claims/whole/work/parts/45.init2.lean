/-! The two objects' constructors. -/
theorem q_zr_o {m : q_Mm} {k a : Nat} (h : a ≠ k) : q_zr m k a = m a := if_neg h
theorem q_zr_s {m : q_Mm} {k e : Nat} : q_zr m k k e = 0 := by unfold q_zr; rw [if_pos rfl]
def n_F9 : List (Option Value) := [some .null, some .null, some .null, some .null, some .null, some .null, some .null, none, none, none, none, none, none, none, none, some .null, none, none, none, none, none, none, none, some .null, some .null, some .null, some .null, some .null, none, some .null, some .null, some .null, none]
def n_L9 (c : Nat) : q_Sh := [.inl (9, [some (.ref (c + 1)), some (.ref (c + 2)), some (.ref (c + 3)), some (.ref (c + 4)), some (.ref (c + 5)), some (.ref (c + 6)), some (.ref (c + 7)), none, none, none, none, none, none, none, none, some (.ref (c + 8)), none, none, none, none, none, none, none, some (.ref (c + 9)), some (.ref (c + 10)), some (.ref (c + 11)), some (.ref (c + 12)), some (.ref (c + 13)), none, some (.ref (c + 14)), some (.ref (c + 15)), some (.ref (c + 16)), none]), .inr (.inl (0, 24)), .inr (.inl (1, 2)), .inr (.inl (0, 72)), .inr (.inl (0, 6)), .inr (.inl (0, 48)), .inr (.inl (0, 16)), .inr (.inl (0, 24)), .inr (.inl (0, 400)), .inr (.inl (0, 3)), .inr (.inl (0, 328)), .inr (.inl (0, 20)), .inr (.inl (0, 20)), .inr (.inl (1, 20)), .inr (.inl (0, 192)), .inr (.inl (0, 1728)), .inr (.inl (0, 30))]
section N9
variable {m : q_Mm} {R : q_KR} {P : q_Sh}
theorem n_md : q_md (P ++ n_L9 P.length) P.length :=
  ⟨by have := n_at P (n_L9 P.length) 0; exact this, n_at P _ 1, n_at P _ 2, n_at P _ 3, n_at P _ 4, n_at P _ 5, n_at P _ 6, n_at P _ 7, n_at P _ 8, n_at P _ 9, n_at P _ 10, n_at P _ 11, n_at P _ 12, n_at P _ 13, n_at P _ 14, n_at P _ 15, n_at P _ 16⟩
theorem p9_init (hv : q_vsh P = true) (hz : ∀ e, m P.length e = 0) (hR : ∀ m', (∀ a, a < P.length → m' a = m a) → (∀ e, e ≠ 21 → e ≠ 22 → m' P.length e = 0) → m' P.length 21 = -1 → m' P.length 22 = 1 → (∀ e, m' (P.length + 1) e = 0) → (∀ e, m' (P.length + 2) e = 0) → q_vsh (P ++ n_L9 P.length) = true → R none (P ++ n_L9 P.length) m') : wX9_init [.ref P.length] (P ++ [.inl (9, n_F9)]) m R := by
  refine eX9_init ?_
  unfold BX9_init_0
  have hl : (P ++ [(.inl (9, n_F9) : q_SC)]).length = P.length + 1 := by simp
  refine n_start (P := P) ?_
  have h0 := n_ok0 (P := P) (ci := 9) (fs := n_F9) hv rfl
  generalize hs0 : q_sl (P ++ [(.inl (9, n_F9) : q_SC)]) = s0 at h0
  have c1 : ∀ i : Nat, i ≤ 16 → P.length + 1 + i ≤ (P.length + 1 + rmX9_init.cells) := fun i hi => by show _ ≤ P.length + 1 + 16; omega
  have c2 : ∀ i : Nat, i ≤ 2933 → s0 + i ≤ s0 + rmX9_init.slots := fun i hi => by show _ ≤ s0 + 2933; omega
  rw [hl]
  refine n_arr (n := 24) h0 rfl rfl (c1 1 (by decide)) (c2 24 (by decide)) (fun h1 => ?_)
  refine n_arr (n := 2) h1 rfl rfl (c1 2 (by decide)) (c2 26 (by decide)) (fun h2 => ?_)
  refine n_arr (n := 72) h2 rfl rfl (c1 3 (by decide)) (c2 98 (by decide)) (fun h3 => ?_)
  refine n_arr (n := 6) h3 rfl rfl (c1 4 (by decide)) (c2 104 (by decide)) (fun h4 => ?_)
  refine n_arr (n := 48) h4 rfl rfl (c1 5 (by decide)) (c2 152 (by decide)) (fun h5 => ?_)
  refine n_arr (n := 16) h5 rfl rfl (c1 6 (by decide)) (c2 168 (by decide)) (fun h6 => ?_)
  refine n_arr (n := 24) h6 rfl rfl (c1 7 (by decide)) (c2 192 (by decide)) (fun h7 => ?_)
  refine n_arr (n := 400) h7 rfl rfl (c1 8 (by decide)) (c2 592 (by decide)) (fun h8 => ?_)
  refine n_int rfl ?_
  refine n_int rfl ?_
  refine n_arr (n := 3) h8 rfl rfl (c1 9 (by decide)) (c2 595 (by decide)) (fun h9 => ?_)
  refine n_arr (n := 328) h9 rfl rfl (c1 10 (by decide)) (c2 923 (by decide)) (fun h10 => ?_)
  refine n_arr (n := 20) h10 rfl rfl (c1 11 (by decide)) (c2 943 (by decide)) (fun h11 => ?_)
  refine n_arr (n := 20) h11 rfl rfl (c1 12 (by decide)) (c2 963 (by decide)) (fun h12 => ?_)
  refine n_arr (n := 20) h12 rfl rfl (c1 13 (by decide)) (c2 983 (by decide)) (fun h13 => ?_)
  refine n_arr (n := 192) h13 rfl rfl (c1 14 (by decide)) (c2 1175 (by decide)) (fun h14 => ?_)
  refine n_arr (n := 1728) h14 rfl rfl (c1 15 (by decide)) (c2 2903 (by decide)) (fun h15 => ?_)
  refine n_arr (n := 30) h15 rfl rfl (c1 16 (by decide)) (c2 2933 (by decide)) (fun h16 => ?_)
  refine n_end h16 (by rw [hl]; rfl) (by rw [hs0]; rfl) ?_
  refine hR _ (fun a ha => ?_) (fun e h1 h2 => ?_) ?_ ?_ (fun e => ?_) (fun e => ?_) h16.1
  · rw [q_zr_o (by omega), q_zr_o (by omega), q_zr_o (by omega), q_zr_o (by omega), q_zr_o (by omega), q_zr_o (by omega), q_zr_o (by omega), q_zr_o (by omega), q_up_o (by omega), q_up_o (by omega), q_zr_o (by omega), q_zr_o (by omega), q_zr_o (by omega), q_zr_o (by omega), q_zr_o (by omega), q_zr_o (by omega), q_zr_o (by omega), q_zr_o (by omega)]
  · rw [q_zr_o (by omega), q_zr_o (by omega), q_zr_o (by omega), q_zr_o (by omega), q_zr_o (by omega), q_zr_o (by omega), q_zr_o (by omega), q_zr_o (by omega), q_up_app, if_neg (by omega), q_up_app, if_neg (by omega), q_zr_o (by omega), q_zr_o (by omega), q_zr_o (by omega), q_zr_o (by omega), q_zr_o (by omega), q_zr_o (by omega), q_zr_o (by omega), q_zr_o (by omega)]
    exact hz e
  · rw [q_zr_o (by omega), q_zr_o (by omega), q_zr_o (by omega), q_zr_o (by omega), q_zr_o (by omega), q_zr_o (by omega), q_zr_o (by omega), q_zr_o (by omega), q_up_app, if_neg (by omega), q_up_app, if_pos ⟨rfl, rfl⟩]
  · rw [q_zr_o (by omega), q_zr_o (by omega), q_zr_o (by omega), q_zr_o (by omega), q_zr_o (by omega), q_zr_o (by omega), q_zr_o (by omega), q_zr_o (by omega), q_up_app, if_pos ⟨rfl, rfl⟩]
  · rw [q_zr_o (by simp), q_zr_o (by simp), q_zr_o (by simp), q_zr_o (by simp), q_zr_o (by simp), q_zr_o (by simp), q_zr_o (by simp), q_zr_o (by simp), q_up_o (by omega), q_up_o (by omega), q_zr_o (by simp), q_zr_o (by simp), q_zr_o (by simp), q_zr_o (by simp), q_zr_o (by simp), q_zr_o (by simp), q_zr_o (by simp)]
    exact q_zr_s
  · rw [q_zr_o (by simp), q_zr_o (by simp), q_zr_o (by simp), q_zr_o (by simp), q_zr_o (by simp), q_zr_o (by simp), q_zr_o (by simp), q_zr_o (by simp), q_up_o (by omega), q_up_o (by omega), q_zr_o (by simp), q_zr_o (by simp), q_zr_o (by simp), q_zr_o (by simp), q_zr_o (by simp), q_zr_o (by simp)]
    exact q_zr_s
end N9
