/-! how it begins -/
theorem hq_hp (L : Nat) (I : AI) (J : AJ) : hq L 160 I J rq_173 = hp L false I J := by
  have e : sh_t.take 160 = sh_t ++ (if false = true then [(2, 7140)] else []) := by
    rw [List.take_of_length_le (by rw [sh_len]; exact Nat.le_refl _)]
    exact (List.append_nil _).symm
  have r : rq_173 = rr false := rfl
  unfold hq hp hk
  rw [e, r]
theorem case16 {p : Int → Prop} (h : ∀ n : Nat, n < 16 → p n) (j : Int) (h0 : 0 ≤ j) (h1 : j < 16) : p j := by
  have z := h j.toNat (by omega)
  rw [show ((j.toNat : Nat) : Int) = j by omega] at z
  exact z
section
variable (f : Int → Int)
set_option maxRecDepth 100000 in
theorem i5 : ∀ j, 0 ≤ j → j < 16 → iq_91 f 5 j = -1 ∧ iq_91 f 124 j = -1 := by
  intro j h0 h1
  have c : j = 0 ∨ j = 1 ∨ j = 2 ∨ j = 3 ∨ j = 4 ∨ j = 5 ∨ j = 6 ∨ j = 7 ∨ j = 8 ∨ j = 9 ∨ j = 10 ∨ j = 11 ∨ j = 12 ∨ j = 13 ∨ j = 14 ∨ j = 15 := by omega
  rcases c with c | c | c | c | c | c | c | c | c | c | c | c | c | c | c | c <;> subst c <;> exact ⟨rfl, rfl⟩
set_option maxRecDepth 100000 in
theorem i30 : ∀ j, 0 ≤ j → j < 8 → iq_91 f 30 j = -1 ∧ iq_91 f 129 j = -1 := by
  intro j h0 h1
  have c : j = 0 ∨ j = 1 ∨ j = 2 ∨ j = 3 ∨ j = 4 ∨ j = 5 ∨ j = 6 ∨ j = 7 := by omega
  rcases c with c | c | c | c | c | c | c | c <;> subst c <;> exact ⟨rfl, rfl⟩
set_option maxRecDepth 100000 in
theorem i115 (x : Int) : iq_91 f 115 x = 0 := rfl
set_option maxRecDepth 100000 in
theorem i161 (x : Int) : iq_91 f 161 x = 0 := rfl
set_option maxRecDepth 100000 in
theorem i22 (x : Int) : iq_91 f 22 x = 0 := rfl
set_option maxRecDepth 100000 in
theorem i27 (x : Int) : iq_91 f 27 x = 0 := rfl
set_option maxRecDepth 100000 in
theorem iFs : iq_91 f 6 9 = 0 ∧ iq_91 f 3 1 = 0 ∧ iq_91 f 20 2 = 0 ∧ iq_91 f 23 8 = 0 ∧ iq_91 f 32 3 = 0 ∧ iq_91 f 35 8 = 0 ∧ iq_91 f 35 9 = 0 ∧ iq_91 f 51 8 = 0 := ⟨rfl, rfl, rfl, rfl, rfl, rfl, rfl, rfl⟩
theorem rel_0 : Rel (iq_91 f) jq_8 (iq_91 f) := by
  obtain ⟨f6, f3, f20, f23, f32, f35, f36, f51⟩ := iFs f
  have z := i115 f
  refine ⟨⟨⟨by rw [z]; decide, fun t a c => by rw [z] at c; omega, fun t a c => by rw [z] at c; omega, fun t a c => by rw [z] at c; omega⟩, by rw [f6, z], fun t a c => by rw [z] at c; omega⟩, ?_, ?_, ?_, ?_, ?_, ?_, ?_, ?_, ?_, ?_⟩
  · intro t u a c d
    left
    exact i161 f _
  · intro t a c
    rw [z] at c; omega
  · exact ⟨by rw [f3, z], by rw [z]; decide, fun i a c => by rw [z] at c; omega⟩
  · intro j a c
    have q := i5 f j a c
    rw [q.1, q.2, z]
    decide
  · refine ⟨⟨by rw [z]; decide, fun s a c => by rw [z] at c; omega⟩, by rw [f20, z], fun s a c => by rw [z] at c; omega, fun s a c => i22 f s⟩
  · refine ⟨⟨by rw [z]; decide, fun s a c => by rw [z] at c; omega⟩, by rw [f23, z], fun s a c => by rw [z] at c; omega, fun s a c => i27 f s⟩
  · intro k a c
    have q := i30 f k a c
    rw [q.1, q.2, z]
    exact ⟨rfl, by decide, fun y => absurd y (by decide)⟩
  · exact ⟨by rw [f32, z], by rw [z]; decide, fun i a c => by rw [z] at c; omega⟩
  · exact Or.inl ⟨z _, f35, f36, z _⟩
  · exact ⟨by rw [f51, z], Or.inl (z _)⟩
end
