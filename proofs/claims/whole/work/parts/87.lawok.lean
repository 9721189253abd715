/-! the law -/
theorem hk_sz (L : Nat) (b : Bool) (hL : L ≤ 2048) : (hk L b).length ≤ 600000 ∧ sz (hk L b) ≤ 7302250 := by
  have h1 : ((sh_t ++ (if b then [(2, 7140)] else [])).length ≤ 1000) ∧ ((sh_t ++ (if b then [(2, 7140)] else [])).map Prod.snd).sum ≤ 100000 := by
    cases b <;> decide +kernel
  refine ⟨?_, ?_⟩
  · unfold hk
    rw [List.length_cons]; omega
  · unfold sz hk
    rw [List.map_cons, List.sum_cons]
    have := h1.2
    omega
theorem law_ok : LawOK := by
  intro L f hL _
  have s := q_start L f
  rw [hq_hp] at s
  obtain ⟨b1, I1, J1, w⟩ := lw_all hL (L + 1) 0 false (iq_91 f) jq_8 (by omega) (by omega) (rel_0 f)
  have t : a_ev P0 234 0 (a_ent 4 [vr 0]) [] (h_0 L f) = some (vi 1, hp L b1 I1 J1) := s.trans w
  obtain ⟨n, hn⟩ := (a_ev_some P0).mp t
  exact ⟨n, _, hn, (hk_sz L b1 hL).1, (hk_sz L b1 hL).2⟩
