/-! the script stays as it is -/
def rK (h : Hp) (r : Res) : Prop := match r with
  | none => True
  | some (Sum.inl q) => q.2.2.1 0 = h.2.1 0
  | some (Sum.inr (Sum.inl g)) => g.2.2.2.2.1 0 = h.2.1 0
  | some (Sum.inr (Sum.inr k)) => k.2.2.2.2.2.2.2.1 0 = h.2.1 0
theorem f_put_0 {h h' : Hp} {ci k a : Nat} {v : AV} (e : f_put h ci k a v = some h') : h'.2.1 0 = h.2.1 0 := by
  unfold f_put at e
  split at e
  · split at e
    · rename_i hc
      split at e
      · cases e; exact upI_c (by omega) _ _ _
      · split at e
        · cases e; exact upI_c (by omega) _ _ _
        · cases e
      · cases e; rfl
      · cases e; rfl
      · cases e
    · cases e
  · cases e
theorem a_inv_0 (M n : Nat) (v : Bool) (pc : Nat) (l : LO) (st : List AV) (h : Hp) : rK h (a_inv M n v pc l st h) := by
  unfold a_inv
  split
  · rfl
  · trivial
set_option maxHeartbeats 4000000 in
theorem a_step_0 (mi : Nat → MI) (E : Ent) (pc : Nat) (l : LO) (st : List AV) (h : Hp) : rK h (a_step mi E pc l st h) := by
  unfold a_step
  split
  all_goals first
    | trivial
    | rfl
    | (split <;> first | trivial | rfl | (split <;> first | trivial | rfl | exact a_inv_0 _ _ _ _ _ _ _ | exact f_put_0 (by assumption) | exact upI_c (by omega) _ _ _ | (split <;> first | trivial | rfl | exact a_inv_0 _ _ _ _ _ _ _ | exact upI_c (by omega) _ _ _ | (split <;> first | trivial | rfl | exact a_inv_0 _ _ _ _ _ _ _ | (split <;> first | trivial | rfl | exact a_inv_0 _ _ _ _ _ _ _ | (split <;> first | trivial | rfl | exact a_inv_0 _ _ _ _ _ _ _ | (split <;> first | trivial | rfl | exact a_inv_0 _ _ _ _ _ _ _)))))))
theorem a_run_0 (P : Prg) : ∀ (n M pc : Nat) (l : LO) (st : List AV) (h : Hp) (r : AV × Hp), a_run P n M pc l st h = some r → r.2.2.1 0 = h.2.1 0 := by
  intro n
  induction n with
  | zero => intro M pc l st h r hr; simp [a_run] at hr
  | succ n ih =>
    intro M pc l st h r hr
    rw [a_run] at hr
    cases hE : P.1 M pc with
    | none => rw [hE] at hr; simp at hr
    | some E =>
      rw [hE] at hr
      dsimp only at hr
      have q := a_step_0 P.2.1 E pc (a_kill E.2.2.1 l) st h
      cases hs : a_step P.2.1 E pc (a_kill E.2.2.1 l) st h with
      | none => rw [hs] at hr; simp at hr
      | some x =>
        rw [hs] at hr q
        rcases x with r' | g | k
        · cases hr; exact q
        · exact (ih _ _ _ _ _ _ hr).trans q
        · dsimp only at hr
          by_cases hf : (a_sl k.2.1).length ≤ P.2.2 k.1
          case neg => rw [if_neg hf] at hr; cases hr
          rw [if_pos hf] at hr
          cases hc : a_run P n k.1 0 (a_ent (P.2.2 k.1) k.2.1) [] k.2.2.2.2.2.2 with
          | none => rw [hc] at hr; simp at hr
          | some y =>
            rw [hc] at hr
            exact (ih _ _ _ _ _ _ hr).trans ((ih _ _ _ _ _ _ hc).trans q)
theorem evc_0 {M : Nat} {as : List AV} {h : Hp} {r : AV × Hp} (e : evc M as h = some r) : r.2.2.1 0 = h.2.1 0 := by
  unfold evc a_evc at e
  split at e
  · obtain ⟨n, hn⟩ := (a_ev_some P0).mp e
    exact a_run_0 P0 n _ _ _ _ _ _ hn
  · cases e
