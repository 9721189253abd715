/-- a guard -/
def gd {α : Type} (c : Prop) [Decidable c] (x : Option α) : Option α := if c then x else none
theorem gd_t {α : Type} {c : Prop} [Decidable c] {x : Option α} (h : c) : gd c x = x := if_pos h
noncomputable def ev : Nat → Nat → LO → List AV → Hp → Option (AV × Hp) := a_ev P0
noncomputable def evc : Nat → List AV → Hp → Option (AV × Hp) := a_evc P0
section EV
variable {M pc : Nat} {l : LO} {st : List AV} {h : Hp} {E : Ent}
theorem ev_go {pc' : Nat} {l' : LO} {st' : List AV} {h' : Hp} (hf : a_code M pc = some E) (hs : a_step a_mi E pc (a_kill E.2.2.1 l) st h = r_go pc' l' st' h') : ev M pc l st h = ev M pc' l' st' h' := by
  show a_ev P0 M pc l st h = _
  rw [a_ev_eq]
  show (match a_code M pc with | none => none | some E => _) = _
  rw [hf]
  show (match a_step a_mi E pc (a_kill E.2.2.1 l) st h with | none => none | some (Sum.inl r) => some r | some (Sum.inr (Sum.inl g)) => _ | some (Sum.inr (Sum.inr k)) => _) = _
  rw [hs]
  rfl
theorem ev_gd {pc' : Nat} {l' : LO} {st' : List AV} {h' : Hp} {c : Prop} [Decidable c] (hf : a_code M pc = some E) (hs : a_step a_mi E pc (a_kill E.2.2.1 l) st h = if c then r_go pc' l' st' h' else none) : ev M pc l st h = gd c (ev M pc' l' st' h') := by
  unfold gd
  by_cases hc : c
  · rw [if_pos hc] at hs ⊢
    exact ev_go hf hs
  · rw [if_neg hc] at hs ⊢
    show a_ev P0 M pc l st h = _
    rw [a_ev_eq]
    show (match a_code M pc with | none => none | some E => _) = _
    rw [hf]
    show (match a_step a_mi E pc (a_kill E.2.2.1 l) st h with | none => none | some (Sum.inl r) => some r | some (Sum.inr (Sum.inl g)) => _ | some (Sum.inr (Sum.inr k)) => _) = _
    rw [hs]
theorem ev_if {p1 p2 : Nat} {l' : LO} {st' : List AV} {h' : Hp} {c : Prop} [Decidable c] (hf : a_code M pc = some E) (hs : a_step a_mi E pc (a_kill E.2.2.1 l) st h = if decide c = true then r_go p1 l' st' h' else r_go p2 l' st' h') : ev M pc l st h = if c then ev M p1 l' st' h' else ev M p2 l' st' h' := by
  by_cases hc : c
  · rw [if_pos hc]
    rw [if_pos (decide_eq_true hc)] at hs
    exact ev_go hf hs
  · rw [if_neg hc]
    rw [if_neg (by simpa using hc)] at hs
    exact ev_go hf hs
theorem ev_ret {v : AV} {h' : Hp} (hf : a_code M pc = some E) (hs : a_step a_mi E pc (a_kill E.2.2.1 l) st h = r_ret v h') : ev M pc l st h = some (v, h') := by
  show a_ev P0 M pc l st h = _
  rw [a_ev_eq]
  show (match a_code M pc with | none => none | some E => _) = _
  rw [hf]
  show (match a_step a_mi E pc (a_kill E.2.2.1 l) st h with | none => none | some (Sum.inl r) => some r | some (Sum.inr (Sum.inl g)) => _ | some (Sum.inr (Sum.inr k)) => _) = _
  rw [hs]
theorem ev_none (hf : a_code M pc = some E) (hs : a_step a_mi E pc (a_kill E.2.2.1 l) st h = none) : ev M pc l st h = none := by
  show a_ev P0 M pc l st h = _
  rw [a_ev_eq]
  show (match a_code M pc with | none => none | some E => _) = _
  rw [hf]
  show (match a_step a_mi E pc (a_kill E.2.2.1 l) st h with | none => none | some (Sum.inl r) => some r | some (Sum.inr (Sum.inl g)) => _ | some (Sum.inr (Sum.inr k)) => _) = _
  rw [hs]
theorem ev_rgd {v : AV} {h' : Hp} {c : Prop} [Decidable c] (hf : a_code M pc = some E) (hs : a_step a_mi E pc (a_kill E.2.2.1 l) st h = if c then r_ret v h' else none) : ev M pc l st h = gd c (some (v, h')) := by
  unfold gd
  by_cases hc : c
  · rw [if_pos hc] at hs ⊢
    exact ev_ret hf hs
  · rw [if_neg hc] at hs ⊢
    exact ev_none hf hs
/-- an answer of boolean -/
theorem ev_zret {x : Int} {ks : List Nat} {val : Int} (hf : a_code M pc = some (.ireturn, [1], ks, val)) : ev M pc l [vi x] h = gd (x = 0 ∨ x = 1) (some (vi x, h)) := by
  refine ev_rgd hf ?_
  show (if [1] = [0] ∨ ([1] = [1] ∧ (x = 0 ∨ x = 1)) then r_ret (vi x) h else none) = _
  by_cases hc : x = 0 ∨ x = 1
  · rw [if_pos (Or.inr ⟨rfl, hc⟩), if_pos hc]
  · rw [if_neg (fun z => by rcases z with z | z; cases z; exact hc z.2), if_neg hc]
theorem ev_call {M2 : Nat} {as : List AV} {vd : Bool} {pc' : Nat} {l' : LO} {st' : List AV} (hf : a_code M pc = some E) (hs : a_step a_mi E pc (a_kill E.2.2.1 l) st h = r_call M2 as vd pc' l' st' h) : ev M pc l st h = (evc M2 as h).bind (fun q => ev M pc' l' (if vd then st' else q.1 :: st') q.2) := by
  show a_ev P0 M pc l st h = _
  rw [a_ev_eq]
  show (match a_code M pc with | none => none | some E => _) = _
  rw [hf]
  show (match a_step a_mi E pc (a_kill E.2.2.1 l) st h with | none => none | some (Sum.inl r) => some r | some (Sum.inr (Sum.inl g)) => _ | some (Sum.inr (Sum.inr k)) => _) = _
  rw [hs]
  show _ = (a_evc P0 M2 as h).bind (fun q => a_ev P0 M pc' l' (if vd then st' else q.1 :: st') q.2)
  dsimp only
  cases a_evc P0 M2 as h <;> rfl
theorem ev_callV {M2 ix : Nat} {tl ks : List Nat} {val : Int} {as st' : List AV} (hf : a_code M pc = some (.invokevirtual ix, M2 :: tl, ks, val)) (hr : a_recv h ((a_mi M2).2.2 - 1) (st.take (a_mi M2).1).reverse = true) (hi : a_inv M2 (a_mi M2).1 (a_mi M2).2.1 (pc + 3) (a_kill ks l) st h = r_call M2 as (a_mi M2).2.1 (pc + 3) (a_kill ks l) st' h) : ev M pc l st h = (evc M2 as h).bind (fun q => ev M (pc + 3) (a_kill ks l) (if (a_mi M2).2.1 then st' else q.1 :: st') q.2) := by
  refine ev_call hf ?_
  show (if a_recv h ((a_mi M2).2.2 - 1) (st.take (a_mi M2).1).reverse = true then a_inv M2 (a_mi M2).1 (a_mi M2).2.1 (pc + 3) (a_kill ks l) st h else none) = _
  rw [if_pos hr]
  exact hi
theorem ev_get {ix ci k a : Nat} {tl ks : List Nat} {val : Int} {v : AV} {r : List AV} (hf : a_code M pc = some (.getfield ix, ci :: k :: tl, ks, val)) (hg : f_get h ci k a = some v) : ev M pc l (vr a :: r) h = ev M (pc + 3) (a_kill ks l) (v :: r) h := by
  refine ev_go hf ?_
  show (match f_get h ci k a with | some v => r_go (pc + 3) (a_kill ks l) (v :: r) h | none => none) = _
  rw [hg]
theorem ev_put {ix ci k a : Nat} {tl ks : List Nat} {val : Int} {v : AV} {r : List AV} {h' : Hp} (hf : a_code M pc = some (.putfield ix, ci :: k :: tl, ks, val)) (hg : f_put h ci k a v = some h') : ev M pc l (v :: vr a :: r) h = ev M (pc + 3) (a_kill ks l) r h' := by
  refine ev_go hf ?_
  show (match f_put h ci k a v with | some h' => r_go (pc + 3) (a_kill ks l) r h' | none => none) = _
  rw [hg]
theorem ev_putz {ix ci k a : Nat} {tl ks : List Nat} {val : Int} {v : AV} {r : List AV} {h' : Hp} {c : Prop} [Decidable c] (hf : a_code M pc = some (.putfield ix, ci :: k :: tl, ks, val)) (hg : f_put h ci k a v = if c then some h' else none) : ev M pc l (v :: vr a :: r) h = gd c (ev M (pc + 3) (a_kill ks l) r h') := by
  refine ev_gd hf ?_
  show (match f_put h ci k a v with | some h' => r_go (pc + 3) (a_kill ks l) r h' | none => none) = _
  rw [hg]
  by_cases hc : c
  · rw [if_pos hc, if_pos hc]
  · rw [if_neg hc, if_neg hc]
theorem ev_iald {a n : Nat} {i : Int} {an ks : List Nat} {val : Int} {r : List AV} (hf : a_code M pc = some (.iaload, an, ks, val)) (hg : h.1[a]? = some (0, n)) : ev M pc l (vi i :: vr a :: r) h = gd (0 ≤ i ∧ i < (n : Int)) (ev M (pc + 1) (a_kill ks l) (vi (h.2.1 a i) :: r) h) := by
  refine ev_gd hf ?_
  show (match a_len h 0 a with | some n => _ | none => _) = _
  rw [show a_len h 0 a = some n by unfold a_len; rw [hg]; rfl]
theorem ev_bald {a t n : Nat} {i : Int} {an ks : List Nat} {val : Int} {r : List AV} (hf : a_code M pc = some (.baload, an, ks, val)) (hg : h.1[a]? = some (t, n)) (ht : t = 1 ∨ t = 2) (h0 : 0 < a) : ev M pc l (vi i :: vr a :: r) h = gd (0 ≤ i ∧ i < (n : Int)) (ev M (pc + 1) (a_kill ks l) (vi (h.2.1 a i) :: r) h) := by
  refine ev_gd hf ?_
  show (match h.1[a]? with | some (t, n) => _ | none => _) = _
  rw [hg]
  dsimp only
  by_cases hc : 0 ≤ i ∧ i < (n : Int)
  · rw [if_pos ⟨ht, h0, hc.1, hc.2⟩, if_pos hc]
  · rw [if_neg (fun z => hc ⟨z.2.2.1, z.2.2.2⟩), if_neg hc]
theorem ev_lald {a n : Nat} {i : Int} {an ks : List Nat} {val : Int} {r : List AV} (hf : a_code M pc = some (.laload, an, ks, val)) (hg : h.1[a]? = some (3, n)) (h0 : 0 < a) : ev M pc l (vi i :: vr a :: r) h = gd (0 ≤ i ∧ i < (n : Int)) (ev M (pc + 1) (a_kill ks l) (vl (h.2.2.1 a i) :: r) h) := by
  refine ev_gd hf ?_
  show (match a_len h 3 a with | some n => _ | none => _) = _
  rw [show a_len h 3 a = some n by unfold a_len; rw [hg]; rfl]
  dsimp only
  by_cases hc : 0 ≤ i ∧ i < (n : Int)
  · rw [if_pos ⟨h0, hc.1, hc.2⟩, if_pos hc]
  · rw [if_neg (fun z => hc ⟨z.2.1, z.2.2⟩), if_neg hc]
theorem ev_aald {a n : Nat} {i : Int} {an ks : List Nat} {val : Int} {r : List AV} (hf : a_code M pc = some (.aaload, an, ks, val)) (hg : h.1[a]? = some (4, n)) (h0 : 0 < a) : ev M pc l (vi i :: vr a :: r) h = gd (0 ≤ i ∧ i < (n : Int)) (ev M (pc + 1) (a_kill ks l) (vq (h.2.2.2 a i) :: r) h) := by
  refine ev_gd hf ?_
  show (match a_len h 4 a with | some n => _ | none => _) = _
  rw [show a_len h 4 a = some n by unfold a_len; rw [hg]; rfl]
  dsimp only
  by_cases hc : 0 ≤ i ∧ i < (n : Int)
  · rw [if_pos ⟨h0, hc.1, hc.2⟩, if_pos hc]
  · rw [if_neg (fun z => hc ⟨z.2.1, z.2.2⟩), if_neg hc]
theorem ev_iast {a n : Nat} {i x : Int} {an ks : List Nat} {val : Int} {r : List AV} (hf : a_code M pc = some (.iastore, an, ks, val)) (hg : h.1[a]? = some (0, n)) (h0 : 0 < a) : ev M pc l (vi x :: vi i :: vr a :: r) h = gd (0 ≤ i ∧ i < (n : Int)) (ev M (pc + 1) (a_kill ks l) r (h.1, upI h.2.1 a i x, h.2.2.1, h.2.2.2)) := by
  refine ev_gd hf ?_
  show (match a_len h 0 a with | some n => _ | none => _) = _
  rw [show a_len h 0 a = some n by unfold a_len; rw [hg]; rfl]
  dsimp only
  by_cases hc : 0 ≤ i ∧ i < (n : Int)
  · rw [if_pos ⟨h0, hc.1, hc.2⟩, if_pos hc]
  · rw [if_neg (fun z => hc ⟨z.2.1, z.2.2⟩), if_neg hc]
theorem ev_zast {a n : Nat} {i x : Int} {an ks : List Nat} {val : Int} {r : List AV} (hf : a_code M pc = some (.bastore, an, ks, val)) (hg : h.1[a]? = some (1, n)) (h0 : 0 < a) : ev M pc l (vi x :: vi i :: vr a :: r) h = gd ((x = 0 ∨ x = 1) ∧ 0 ≤ i ∧ i < (n : Int)) (ev M (pc + 1) (a_kill ks l) r (h.1, upI h.2.1 a i x, h.2.2.1, h.2.2.2)) := by
  refine ev_gd hf ?_
  show (match h.1[a]? with | some (t, n) => _ | none => _) = _
  rw [hg]
  dsimp only
  by_cases hc : (x = 0 ∨ x = 1) ∧ 0 ≤ i ∧ i < (n : Int)
  · rw [if_pos ⟨Or.inl ⟨rfl, hc.1⟩, h0, hc.2.1, hc.2.2⟩, if_pos hc]
  · rw [if_neg (fun z => hc ⟨by rcases z.1 with z | z; exact z.2; exact absurd z.1 (by decide), z.2.2.1, z.2.2.2⟩), if_neg hc]
theorem ev_bast {a n : Nat} {i x : Int} {an ks : List Nat} {val : Int} {r : List AV} (hf : a_code M pc = some (.bastore, an, ks, val)) (hg : h.1[a]? = some (2, n)) (h0 : 0 < a) : ev M pc l (vi x :: vi i :: vr a :: r) h = gd ((-128 ≤ x ∧ x ≤ 127) ∧ 0 ≤ i ∧ i < (n : Int)) (ev M (pc + 1) (a_kill ks l) r (h.1, upI h.2.1 a i x, h.2.2.1, h.2.2.2)) := by
  refine ev_gd hf ?_
  show (match h.1[a]? with | some (t, n) => _ | none => _) = _
  rw [hg]
  dsimp only
  by_cases hc : (-128 ≤ x ∧ x ≤ 127) ∧ 0 ≤ i ∧ i < (n : Int)
  · rw [if_pos ⟨Or.inr ⟨rfl, hc.1⟩, h0, hc.2.1, hc.2.2⟩, if_pos hc]
  · rw [if_neg (fun z => hc ⟨by rcases z.1 with z | z; exact absurd z.1 (by decide); exact z.2, z.2.2.1, z.2.2.2⟩), if_neg hc]
theorem ev_last {a n : Nat} {i : Int} {x : BitVec 64} {an ks : List Nat} {val : Int} {r : List AV} (hf : a_code M pc = some (.lastore, an, ks, val)) (hg : h.1[a]? = some (3, n)) (h0 : 0 < a) : ev M pc l (vl x :: vi i :: vr a :: r) h = gd (0 ≤ i ∧ i < (n : Int)) (ev M (pc + 1) (a_kill ks l) r (h.1, h.2.1, upJ h.2.2.1 a i x, h.2.2.2)) := by
  refine ev_gd hf ?_
  show (match a_len h 3 a with | some n => _ | none => _) = _
  rw [show a_len h 3 a = some n by unfold a_len; rw [hg]; rfl]
  dsimp only
  by_cases hc : 0 ≤ i ∧ i < (n : Int)
  · rw [if_pos ⟨h0, hc.1, hc.2⟩, if_pos hc]
  · rw [if_neg (fun z => hc ⟨z.2.1, z.2.2⟩), if_neg hc]
theorem ev_alen {a t n : Nat} {an ks : List Nat} {val : Int} {r : List AV} (hf : a_code M pc = some (.arraylength, an, ks, val)) (hg : h.1[a]? = some (t, n)) (ht : t < 5 ∧ n ≤ 100000) : ev M pc l (vr a :: r) h = ev M (pc + 1) (a_kill ks l) (vi (n : Int) :: r) h := by
  refine ev_go hf ?_
  show (match h.1[a]? with | some (t, n) => _ | none => _) = _
  rw [hg]
  dsimp only
  rw [if_pos ht]
end EV
theorem evc_eq {M : Nat} {as : List AV} (h : Hp) (hf : (a_sl as).length ≤ a_mL M) : evc M as h = ev M 0 (a_ent (a_mL M) as) [] h := if_pos hf
def sh_t : List (Nat × Nat) := [(20, 11), (0, 625), (14, 2), (0, 24), (0, 16), (18, 10), (0, 2880), (0, 120), (0, 120), (0, 120), (0, 120), (2, 0), (14, 2), (0, 24), (14, 2), (0, 24), (11, 4), (0, 24), (0, 24), (15, 3), (0, 1600), (1, 100), (17, 9), (0, 80), (0, 80), (0, 80), (0, 80), (3, 80), (3, 80), (0, 8), (16, 2), (11, 4), (0, 24), (0, 24), (10, 10), (14, 2), (0, 24), (14, 2), (0, 24), (14, 2), (0, 24), (0, 150), (0, 25), (0, 25), (11, 4), (0, 24), (0, 24), (11, 4), (0, 24), (0, 24), (12, 12), (16, 2), (0, 16), (4, 16), (0, 16), (10, 10), (14, 2), (0, 24), (14, 2), (0, 24), (14, 2), (0, 24), (0, 150), (0, 25), (0, 25), (11, 4), (0, 24), (0, 24), (11, 4), (0, 24), (0, 24), (14, 2), (0, 24), (14, 2), (0, 24), (14, 2), (0, 24), (14, 2), (0, 24), (14, 2), (0, 24), (14, 2), (0, 24), (14, 2), (0, 24), (14, 2), (0, 24), (14, 2), (0, 24), (14, 2), (0, 24), (14, 2), (0, 24), (14, 2), (0, 24), (14, 2), (0, 24), (14, 2), (0, 24), (14, 2), (0, 24), (14, 2), (0, 24), (19, 6), (1, 16), (1, 16), (11, 4), (0, 24), (0, 24), (13, 6), (16, 2), (1, 100), (1, 120), (16, 2), (21, 62), (0, 2880), (0, 120), (1, 120), (1, 120), (0, 120), (0, 24), (0, 1600), (1, 100), (0, 16), (0, 80), (0, 80), (0, 80), (0, 80), (0, 8), (1, 80), (1, 80), (1, 80), (1, 80), (0, 80), (0, 625), (0, 24), (0, 24), (0, 24), (0, 24), (0, 24), (0, 24), (0, 128), (0, 128), (0, 2400), (0, 100), (0, 128), (0, 128), (0, 2400), (0, 100), (0, 32), (0, 1600), (0, 16), (0, 384), (0, 16), (0, 16), (0, 16), (1, 16), (1, 80), (1, 120), (1, 100)]
def hk (L : Nat) (b : Bool) : List (Nat × Nat) := (0, L) :: (sh_t ++ (if b then [(2, 7140)] else []))
def rr_0 : AR := upR (upR (upR (upR (upR (upR (upR (upR (upR (upR (upR (upR (upR (upR (upR (upR (upR (upR (upR (upR (upR (upR (upR (upR (upR (upR (upR (upR (upR (upR (upR (upR (upR (upR (upR (upR (upR (upR (upR (upR (upR (upR (upR (upR (upR (upR (upR (upR (upR (upR (upR (upR (upR (upR (upR (upR (upR (upR (upR (upR (upR (upR (upR (upR (upR (upR (upR (upR (upR (upR (upR (upR (upR (upR (upR (upR (upR (upR (upR (upR (upR (upR (upR (upR (upR (upR (upR (upR (upR (upR (upR (upR (upR (upR (upR (upR (upR (upR (upR (upR (upR (upR (upR (upR (upR (upR (upR (upR (upR (upR (upR (upR (upR (upR (upR (upR (upR (upR (upR (upR (upR (upR (upR (upR (upR (upR (upR (upR (upR (upR (upR (upR (upR (upR (upR (upR (upR (upR (upR (upR (upR (upR (upR (upR (upR (upR (upR (upR (upR (upR (upR (upR (upR (upR (upR (upR (upR (upR (upR (upR (upR (upR (upR (upR (upR (upR (upR (upR (upR (upR (upR (upR (upR (fun _ _ => none) 3 0 (some 4)) 1 0 (some 3)) 1 1 (some 5)) 6 0 (some 7)) 6 1 (some 8)) 6 2 (some 9)) 6 3 (some 10)) 6 4 (some 11)) 6 5 (some 12)) 13 0 (some 14)) 6 6 (some 13)) 15 0 (some 16)) 6 7 (some 15)) 17 1 (some 18)) 17 2 (some 19)) 17 0 (some 2)) 6 8 (some 17)) 1 2 (some 6)) 20 0 (some 21)) 20 1 (some 22)) 1 3 (some 20)) 23 0 (some 24)) 23 1 (some 25)) 23 2 (some 26)) 23 3 (some 27)) 23 4 (some 28)) 23 5 (some 29)) 23 6 (some 30)) 23 7 (some 31)) 1 4 (some 23)) 32 1 (some 33)) 32 2 (some 34)) 32 0 (some 2)) 1 5 (some 32)) 36 0 (some 37)) 35 0 (some 36)) 38 0 (some 39)) 35 1 (some 38)) 40 0 (some 41)) 35 2 (some 40)) 35 5 (some 42)) 35 6 (some 43)) 35 7 (some 44)) 45 1 (some 46)) 45 2 (some 47)) 45 0 (some 2)) 35 3 (some 45)) 48 1 (some 49)) 48 2 (some 50)) 48 0 (some 2)) 35 4 (some 48)) 1 6 (some 35)) 51 4 (some 52)) 51 5 (some 53)) 51 6 (some 54)) 51 7 (some 55)) 51 0 (some 6)) 51 1 (some 20)) 51 2 (some 23)) 57 0 (some 58)) 56 0 (some 57)) 59 0 (some 60)) 56 1 (some 59)) 61 0 (some 62)) 56 2 (some 61)) 56 5 (some 63)) 56 6 (some 64)) 56 7 (some 65)) 66 1 (some 67)) 66 2 (some 68)) 66 0 (some 2)) 56 3 (some 66)) 69 1 (some 70)) 69 2 (some 71)) 69 0 (some 2)) 56 4 (some 69)) 51 3 (some 56)) 72 0 (some 73)) 54 0 (some 72)) 74 0 (some 75)) 54 1 (some 74)) 76 0 (some 77)) 54 2 (some 76)) 78 0 (some 79)) 54 3 (some 78)) 80 0 (some 81)) 54 4 (some 80)) 82 0 (some 83)) 54 5 (some 82)) 84 0 (some 85)) 54 6 (some 84)) 86 0 (some 87)) 54 7 (some 86)) 88 0 (some 89)) 54 8 (some 88)) 90 0 (some 91)) 54 9 (some 90)) 92 0 (some 93)) 54 10 (some 92)) 94 0 (some 95)) 54 11 (some 94)) 96 0 (some 97)) 54 12 (some 96)) 98 0 (some 99)) 54 13 (some 98)) 100 0 (some 101)) 54 14 (some 100)) 102 0 (some 103)) 54 15 (some 102)) 1 7 (some 51)) 104 4 (some 105)) 104 5 (some 106)) 104 0 (some 6)) 104 1 (some 20)) 104 2 (some 23)) 107 1 (some 108)) 107 2 (some 109)) 107 0 (some 2)) 104 3 (some 107)) 1 8 (some 104)) 110 3 (some 111)) 110 4 (some 112)) 110 5 (some 113)) 110 0 (some 6)) 110 1 (some 20)) 110 2 (some 23)) 1 9 (some 110)) 1 10 (some 114)) 115 0 (some 116)) 115 1 (some 117)) 115 2 (some 118)) 115 3 (some 119)) 115 4 (some 120)) 115 6 (some 121)) 115 8 (some 122)) 115 9 (some 123)) 115 11 (some 124)) 115 12 (some 125)) 115 13 (some 126)) 115 14 (some 127)) 115 15 (some 128)) 115 17 (some 129)) 115 18 (some 130)) 115 19 (some 131)) 115 20 (some 132)) 115 21 (some 133)) 115 22 (some 134)) 115 24 (some 135)) 115 25 (some 136)) 115 26 (some 137)) 115 28 (some 138)) 115 29 (some 139)) 115 31 (some 140)) 115 32 (some 141)) 115 33 (some 142)) 115 34 (some 143)) 115 36 (some 144)) 115 37 (some 145)) 115 40 (some 146)) 115 41 (some 147)) 115 43 (some 148)) 115 44 (some 149)) 115 46 (some 150)) 115 47 (some 151)) 115 49 (some 152)) 115 50 (some 153)) 115 51 (some 154)) 115 53 (some 155)) 115 57 (some 156)) 115 58 (some 157)) 115 59 (some 158)) 115 60 (some 159)) 115 61 (some 160)
def rr (b : Bool) : AR := if b then upR rr_0 6 5 (some 161) else rr_0
def hp (L : Nat) (b : Bool) (I : AI) (J : AJ) : Hp := (hk L b, I, J, rr b)
def isRow (k : Nat) : Bool := [3, 13, 15, 36, 38, 40, 57, 59, 61, 72, 74, 76, 78, 80, 82, 84, 86, 88, 90, 92, 94, 96, 98, 100, 102].contains k
def isDiff (k : Nat) : Bool := [17, 32, 45, 48, 66, 69, 107].contains k
def isBl (k : Nat) : Bool := [35, 56].contains k
def isSet (k : Nat) : Bool := [31, 52, 111, 114].contains k
theorem mem_ct {l : List Nat} {k : Nat} (h : l.contains k = true) : k ∈ l := by simpa using h
theorem hp_ct {l : List Nat} {k : Nat} (h : l.contains k = true) {p : Nat → Prop} (hp : ∀ k ∈ l, p k) : p k := hp k (mem_ct h)
section HF
variable {L : Nat} {I : AI} {J : AJ} {k : Nat}
theorem hk_at (b : Bool) (a : Nat) (q : Nat × Nat) (h : sh_t[a]? = some q) : (hk L b)[a + 1]? = some q := by
  unfold hk
  rw [List.getElem?_cons_succ, List.getElem?_append_left (List.getElem?_eq_some_iff.mp h).1]
  exact h
theorem kRow0 (b : Bool) (h : isRow k = true) : (hk L b)[k + 0]? = some (14, 2) := hp_ct h (p := fun k => (hk L b)[k + 0]? = some (14, 2)) (fun k hk => by
  revert k; simp only [List.forall_mem_cons, List.not_mem_nil, false_implies, implies_true, and_true]
  refine ⟨hk_at b _ _ rfl, hk_at b _ _ rfl, hk_at b _ _ rfl, hk_at b _ _ rfl, hk_at b _ _ rfl, hk_at b _ _ rfl, hk_at b _ _ rfl, hk_at b _ _ rfl, hk_at b _ _ rfl, hk_at b _ _ rfl, hk_at b _ _ rfl, hk_at b _ _ rfl, hk_at b _ _ rfl, hk_at b _ _ rfl, hk_at b _ _ rfl, hk_at b _ _ rfl, hk_at b _ _ rfl, hk_at b _ _ rfl, hk_at b _ _ rfl, hk_at b _ _ rfl, hk_at b _ _ rfl, hk_at b _ _ rfl, hk_at b _ _ rfl, hk_at b _ _ rfl, hk_at b _ _ rfl⟩)
theorem kRow1 (b : Bool) (h : isRow k = true) : (hk L b)[k + 1]? = some (0, 24) := hp_ct h (p := fun k => (hk L b)[k + 1]? = some (0, 24)) (fun k hk => by
  revert k; simp only [List.forall_mem_cons, List.not_mem_nil, false_implies, implies_true, and_true]
  refine ⟨hk_at b _ _ rfl, hk_at b _ _ rfl, hk_at b _ _ rfl, hk_at b _ _ rfl, hk_at b _ _ rfl, hk_at b _ _ rfl, hk_at b _ _ rfl, hk_at b _ _ rfl, hk_at b _ _ rfl, hk_at b _ _ rfl, hk_at b _ _ rfl, hk_at b _ _ rfl, hk_at b _ _ rfl, hk_at b _ _ rfl, hk_at b _ _ rfl, hk_at b _ _ rfl, hk_at b _ _ rfl, hk_at b _ _ rfl, hk_at b _ _ rfl, hk_at b _ _ rfl, hk_at b _ _ rfl, hk_at b _ _ rfl, hk_at b _ _ rfl, hk_at b _ _ rfl, hk_at b _ _ rfl⟩)
theorem kDiff0 (b : Bool) (h : isDiff k = true) : (hk L b)[k + 0]? = some (11, 4) := hp_ct h (p := fun k => (hk L b)[k + 0]? = some (11, 4)) (fun k hk => by
  revert k; simp only [List.forall_mem_cons, List.not_mem_nil, false_implies, implies_true, and_true]
  refine ⟨hk_at b _ _ rfl, hk_at b _ _ rfl, hk_at b _ _ rfl, hk_at b _ _ rfl, hk_at b _ _ rfl, hk_at b _ _ rfl, hk_at b _ _ rfl⟩)
theorem kDiff1 (b : Bool) (h : isDiff k = true) : (hk L b)[k + 1]? = some (0, 24) := hp_ct h (p := fun k => (hk L b)[k + 1]? = some (0, 24)) (fun k hk => by
  revert k; simp only [List.forall_mem_cons, List.not_mem_nil, false_implies, implies_true, and_true]
  refine ⟨hk_at b _ _ rfl, hk_at b _ _ rfl, hk_at b _ _ rfl, hk_at b _ _ rfl, hk_at b _ _ rfl, hk_at b _ _ rfl, hk_at b _ _ rfl⟩)
theorem kDiff2 (b : Bool) (h : isDiff k = true) : (hk L b)[k + 2]? = some (0, 24) := hp_ct h (p := fun k => (hk L b)[k + 2]? = some (0, 24)) (fun k hk => by
  revert k; simp only [List.forall_mem_cons, List.not_mem_nil, false_implies, implies_true, and_true]
  refine ⟨hk_at b _ _ rfl, hk_at b _ _ rfl, hk_at b _ _ rfl, hk_at b _ _ rfl, hk_at b _ _ rfl, hk_at b _ _ rfl, hk_at b _ _ rfl⟩)
theorem kBl0 (b : Bool) (h : isBl k = true) : (hk L b)[k + 0]? = some (10, 10) := hp_ct h (p := fun k => (hk L b)[k + 0]? = some (10, 10)) (fun k hk => by
  revert k; simp only [List.forall_mem_cons, List.not_mem_nil, false_implies, implies_true, and_true]
  refine ⟨hk_at b _ _ rfl, hk_at b _ _ rfl⟩)
theorem kBl7 (b : Bool) (h : isBl k = true) : (hk L b)[k + 7]? = some (0, 150) := hp_ct h (p := fun k => (hk L b)[k + 7]? = some (0, 150)) (fun k hk => by
  revert k; simp only [List.forall_mem_cons, List.not_mem_nil, false_implies, implies_true, and_true]
  refine ⟨hk_at b _ _ rfl, hk_at b _ _ rfl⟩)
theorem kBl8 (b : Bool) (h : isBl k = true) : (hk L b)[k + 8]? = some (0, 25) := hp_ct h (p := fun k => (hk L b)[k + 8]? = some (0, 25)) (fun k hk => by
  revert k; simp only [List.forall_mem_cons, List.not_mem_nil, false_implies, implies_true, and_true]
  refine ⟨hk_at b _ _ rfl, hk_at b _ _ rfl⟩)
theorem kBl9 (b : Bool) (h : isBl k = true) : (hk L b)[k + 9]? = some (0, 25) := hp_ct h (p := fun k => (hk L b)[k + 9]? = some (0, 25)) (fun k hk => by
  revert k; simp only [List.forall_mem_cons, List.not_mem_nil, false_implies, implies_true, and_true]
  refine ⟨hk_at b _ _ rfl, hk_at b _ _ rfl⟩)
theorem kSet0 (b : Bool) (h : isSet k = true) : (hk L b)[k + 0]? = some (16, 2) := hp_ct h (p := fun k => (hk L b)[k + 0]? = some (16, 2)) (fun k hk => by
  revert k; simp only [List.forall_mem_cons, List.not_mem_nil, false_implies, implies_true, and_true]
  refine ⟨hk_at b _ _ rfl, hk_at b _ _ rfl, hk_at b _ _ rfl, hk_at b _ _ rfl⟩)
theorem rRow (b : Bool) (h : isRow k = true) : rr b k 0 = some (k + 1) := hp_ct h (p := fun k => rr b k 0 = some (k + 1)) (fun k hk => by
  revert k; simp only [List.forall_mem_cons, List.not_mem_nil, false_implies, implies_true, and_true]
  cases b <;> decide +kernel)
theorem rDiff0 (b : Bool) (h : isDiff k = true) : rr b k 0 = some (2) := hp_ct h (p := fun k => rr b k 0 = some (2)) (fun k hk => by
  revert k; simp only [List.forall_mem_cons, List.not_mem_nil, false_implies, implies_true, and_true]
  cases b <;> decide +kernel)
theorem rDiff1 (b : Bool) (h : isDiff k = true) : rr b k 1 = some (k + 1) := hp_ct h (p := fun k => rr b k 1 = some (k + 1)) (fun k hk => by
  revert k; simp only [List.forall_mem_cons, List.not_mem_nil, false_implies, implies_true, and_true]
  cases b <;> decide +kernel)
theorem rDiff2 (b : Bool) (h : isDiff k = true) : rr b k 2 = some (k + 2) := hp_ct h (p := fun k => rr b k 2 = some (k + 2)) (fun k hk => by
  revert k; simp only [List.forall_mem_cons, List.not_mem_nil, false_implies, implies_true, and_true]
  cases b <;> decide +kernel)
theorem rBl0 (b : Bool) (h : isBl k = true) : rr b k 0 = some (k + 1) := hp_ct h (p := fun k => rr b k 0 = some (k + 1)) (fun k hk => by
  revert k; simp only [List.forall_mem_cons, List.not_mem_nil, false_implies, implies_true, and_true]
  cases b <;> decide +kernel)
theorem rBl1 (b : Bool) (h : isBl k = true) : rr b k 1 = some (k + 3) := hp_ct h (p := fun k => rr b k 1 = some (k + 3)) (fun k hk => by
  revert k; simp only [List.forall_mem_cons, List.not_mem_nil, false_implies, implies_true, and_true]
  cases b <;> decide +kernel)
theorem rBl2 (b : Bool) (h : isBl k = true) : rr b k 2 = some (k + 5) := hp_ct h (p := fun k => rr b k 2 = some (k + 5)) (fun k hk => by
  revert k; simp only [List.forall_mem_cons, List.not_mem_nil, false_implies, implies_true, and_true]
  cases b <;> decide +kernel)
theorem rBl3 (b : Bool) (h : isBl k = true) : rr b k 3 = some (k + 10) := hp_ct h (p := fun k => rr b k 3 = some (k + 10)) (fun k hk => by
  revert k; simp only [List.forall_mem_cons, List.not_mem_nil, false_implies, implies_true, and_true]
  cases b <;> decide +kernel)
theorem rBl4 (b : Bool) (h : isBl k = true) : rr b k 4 = some (k + 13) := hp_ct h (p := fun k => rr b k 4 = some (k + 13)) (fun k hk => by
  revert k; simp only [List.forall_mem_cons, List.not_mem_nil, false_implies, implies_true, and_true]
  cases b <;> decide +kernel)
theorem rBl5 (b : Bool) (h : isBl k = true) : rr b k 5 = some (k + 7) := hp_ct h (p := fun k => rr b k 5 = some (k + 7)) (fun k hk => by
  revert k; simp only [List.forall_mem_cons, List.not_mem_nil, false_implies, implies_true, and_true]
  cases b <;> decide +kernel)
theorem rBl6 (b : Bool) (h : isBl k = true) : rr b k 6 = some (k + 8) := hp_ct h (p := fun k => rr b k 6 = some (k + 8)) (fun k hk => by
  revert k; simp only [List.forall_mem_cons, List.not_mem_nil, false_implies, implies_true, and_true]
  cases b <;> decide +kernel)
theorem rBl7 (b : Bool) (h : isBl k = true) : rr b k 7 = some (k + 9) := hp_ct h (p := fun k => rr b k 7 = some (k + 9)) (fun k hk => by
  revert k; simp only [List.forall_mem_cons, List.not_mem_nil, false_implies, implies_true, and_true]
  cases b <;> decide +kernel)
theorem rPlan (b : Bool) {i : Int} (h0 : 0 ≤ i) (h1 : i < 16) : rr b 54 i = some (72 + 2 * i.toNat) := by
  obtain ⟨n, rfl⟩ := Int.eq_ofNat_of_zero_le h0
  have key : ∀ n : Nat, n < 16 → rr b 54 (n : Int) = some (72 + 2 * n) := by cases b <;> decide +kernel
  exact key n (by omega)
theorem isRow_plan {i : Int} (h0 : 0 ≤ i) (h1 : i < 16) : isRow (72 + 2 * i.toNat) = true := by
  obtain ⟨n, rfl⟩ := Int.eq_ofNat_of_zero_le h0
  have key : ∀ n : Nat, n < 16 → isRow (72 + 2 * n) = true := by decide +kernel
  exact key n (by omega)
end HF
