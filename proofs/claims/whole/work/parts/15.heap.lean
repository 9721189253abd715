/-! the heap's fields and rows, by their numbers -/
def cm (b : Bool) : Nat := if b then 161 else 12
def cl (b : Bool) : Nat := if b then 7140 else 0
def aL (r : Nat) : Nat := if r = 121 then 24 else if r = 153 then 384 else if r = 119 then 120 else 100
theorem gd_cg {α : Type} {c : Prop} [Decidable c] {x y : Option α} (h : x = y) : gd c x = gd c y := by rw [h]
theorem if_cg {α : Type} {c : Prop} [Decidable c] {x y x' y' : α} (h : x = x') (h' : y = y') : (if c then x else y) = if c then x' else y' := by rw [h, h']
theorem bind_cg {α β : Type} {x : Option α} {f g : α → Option β} (h : ∀ q, f q = g q) : x.bind f = x.bind g := by rw [funext h]
theorem a_kill2 (ks : List Nat) (l : LO) : a_kill ks (a_kill ks l) = a_kill ks l := by
  have len : ∀ (ks : List Nat) (l : LO), (a_kill ks l).length = l.length := by
    intro ks
    induction ks with
    | nil => intro l; rfl
    | cons k ks ih => intro l; show (a_kill ks (l.set k none)).length = _; rw [ih, List.length_set]
  have get : ∀ (ks : List Nat) (l : LO) (i : Nat), (a_kill ks l)[i]? = if i ∈ ks then (l[i]?).map (fun _ => none) else l[i]? := by
    intro ks
    induction ks with
    | nil => intro l i; simp [a_kill]
    | cons k ks ih =>
      intro l i
      show (a_kill ks (l.set k none))[i]? = _
      rw [ih, List.getElem?_set]
      by_cases h1 : i ∈ ks
      · rw [if_pos h1, if_pos (List.mem_cons_of_mem _ h1)]
        by_cases h2 : k = i
        · subst h2
          rw [if_pos rfl]
          by_cases h3 : k < l.length
          · rw [if_pos h3, List.getElem?_eq_getElem h3]; rfl
          · rw [if_neg h3, List.getElem?_eq_none (by omega)]
        · rw [if_neg h2]
      · rw [if_neg h1]
        by_cases h2 : k = i
        · subst h2
          rw [if_pos rfl, if_pos List.mem_cons_self]
          by_cases h3 : k < l.length
          · rw [if_pos h3, List.getElem?_eq_getElem h3]; rfl
          · rw [if_neg h3, List.getElem?_eq_none (by omega)]; rfl
        · rw [if_neg h2, if_neg (fun z => by rcases List.mem_cons.mp z with z | z; exact h2 z.symm; exact h1 z)]
  apply List.ext_getElem?
  intro i
  rw [get, get]
  split
  · cases l[i]? <;> rfl
  · rfl
theorem ev_norm {M pc : Nat} {l : LO} {st : List AV} {h : Hp} {E : Ent} (hf : a_code M pc = some E) : ev M pc l st h = ev M pc (a_kill E.2.2.1 l) st h := by
  show a_ev P0 M pc l st h = a_ev P0 M pc (a_kill E.2.2.1 l) st h
  rw [a_ev_eq P0 M pc l, a_ev_eq P0 M pc (a_kill E.2.2.1 l)]
  show (match a_code M pc with | none => none | some E => _) = (match a_code M pc with | none => none | some E => _)
  rw [hf]
  dsimp only
  rw [a_kill2]
theorem ev_nm {M pc : Nat} {l : LO} {st : List AV} {h : Hp} (ks : List Nat) {i : Instr} {an : List Nat} {val : Int} (hf : a_code M pc = some (i, an, ks, val)) : ev M pc l st h = ev M pc (a_kill ks l) st h := ev_norm hf
theorem ev_iinc {M pc i : Nat} {l : LO} {st : List AV} {h : Hp} {an ks : List Nat} {val n x : Int} (hf : a_code M pc = some (.iinc i n, an, ks, val)) (hg : g_i (a_kill ks l) i = some x) (hs : s_ok (a_kill ks l) i = true) (hn : -32768 ≤ n ∧ n ≤ 32767) : ev M pc l st h = gd (-2147483648 ≤ x + n ∧ x + n ≤ 2147483647) (ev M (pc + 3) ((a_kill ks l).set i (some (vi (x + n)))) st h) := by
  refine ev_gd hf ?_
  show (match g_i (a_kill ks l) i with | some x => _ | none => _) = _
  rw [hg]
  dsimp only
  by_cases hc : -2147483648 ≤ x + n ∧ x + n ≤ 2147483647
  · rw [if_pos ⟨hs, hc, hn⟩, if_pos hc]
  · rw [if_neg (fun z => hc z.2.1), if_neg hc]
theorem ev_abs {M pc ix : Nat} {l : LO} {r : List AV} {h : Hp} {tl ks : List Nat} {val x : Int} (hf : a_code M pc = some (.invokestatic ix, 1001 :: tl, ks, val)) (hr : r.length ≤ 3) : ev M pc l (vi x :: r) h = gd (-2147483647 ≤ x) (ev M (pc + 3) (a_kill ks l) (vi (if 0 ≤ x then x else -x) :: r) h) := by
  refine ev_gd hf ?_
  show (if r.length ≤ 3 ∧ -2147483647 ≤ x then _ else none) = _
  by_cases hc : -2147483647 ≤ x
  · rw [if_pos ⟨hr, hc⟩, if_pos hc]
  · rw [if_neg (fun z => hc z.2), if_neg hc]
theorem ev_sw {M pc : Nat} {l : LO} {r : List AV} {h : Hp} {an ks : List Nat} {val d lo hi x : Int} {offs : Array Int} (hf : a_code M pc = some (.tableswitch d lo hi offs, an, ks, val)) (hx : x < lo ∨ hi < x) (hd : decide (0 ≤ (pc : Int) + d) = true) : ev M pc l (vi x :: r) h = ev M (a_tgt pc d) (a_kill ks l) r h := by
  refine ev_go hf ?_
  show (if x < lo ∨ hi < x then _ else _) = _
  rw [if_pos hx, if_pos (of_decide_eq_true hd)]
theorem ev_plan {M pc : Nat} {l : LO} {r : List AV} {L : Nat} {b : Bool} {I : AI} {J : AJ} {an ks : List Nat} {val i : Int} (hf : a_code M pc = some (.aaload, an, ks, val)) : ev M pc l (vi i :: vr 54 :: r) (hp L b I J) = gd (0 ≤ i ∧ i < 16) (ev M (pc + 1) (a_kill ks l) (vr (72 + 2 * i.toNat) :: r) (hp L b I J)) := by
  rw [ev_aald hf (show (hp L b I J).1[54]? = some (4, 16) from hk_at b 53 (4, 16) rfl) (by decide)]
  rw [show ((16 : Nat) : Int) = 16 from rfl]
  unfold gd
  by_cases hc : 0 ≤ i ∧ i < 16
  · rw [if_pos hc, if_pos hc]
    show ev M (pc + 1) (a_kill ks l) (vq (rr b 54 i) :: r) (hp L b I J) = _
    rw [rPlan b hc.1 hc.2]
  · rw [if_neg hc, if_neg hc]
section HG
variable {L : Nat} {I : AI} {J : AJ} {k : Nat}
theorem hk_cm (b : Bool) : (hk L b)[cm b]? = some (2, cl b) := by cases b <;> rfl
theorem cm_pos (b : Bool) : 0 < cm b := by cases b <;> decide
theorem cl_ok (b : Bool) : 2 < 5 ∧ cl b ≤ 100000 := by cases b <;> decide
theorem fget_i (b : Bool) {ci k a N : Nat} (h1 : (hk L b)[a]? = some (10 + ci, N)) (h2 : N = (a_cls ci).1 ∧ k < N) (h3 : 0 < a) (ht : a_fty ci k = 0 ∨ a_fty ci k = 1) : f_get (hp L b I J) ci k a = some (vi (I a k)) := by
  unfold f_get
  rw [show (hp L b I J).1[a]? = some (10 + ci, N) from h1]
  dsimp only
  rw [if_pos ⟨rfl, h2.1, h2.2, h3⟩]
  rcases ht with ht | ht <;> rw [ht] <;> rfl
theorem fget_l (b : Bool) {ci k a N : Nat} (h1 : (hk L b)[a]? = some (10 + ci, N)) (h2 : N = (a_cls ci).1 ∧ k < N) (h3 : 0 < a) (ht : a_fty ci k = 3) : f_get (hp L b I J) ci k a = some (vl (J a k)) := by
  unfold f_get
  rw [show (hp L b I J).1[a]? = some (10 + ci, N) from h1]
  dsimp only
  rw [if_pos ⟨rfl, h2.1, h2.2, h3⟩, ht]
  rfl
theorem fget_r (b : Bool) {ci k a N c : Nat} (h1 : (hk L b)[a]? = some (10 + ci, N)) (h2 : N = (a_cls ci).1 ∧ k < N) (h3 : 0 < a) (ht : a_fty ci k = 4) (hr : rr b a k = some c) : f_get (hp L b I J) ci k a = some (vr c) := by
  unfold f_get
  rw [show (hp L b I J).1[a]? = some (10 + ci, N) from h1]
  dsimp only
  rw [if_pos ⟨rfl, h2.1, h2.2, h3⟩, ht]
  show some (vq (rr b a k)) = _
  rw [hr]
theorem fput_i (b : Bool) {ci k a N : Nat} {x : Int} (h1 : (hk L b)[a]? = some (10 + ci, N)) (h2 : N = (a_cls ci).1 ∧ k < N) (h3 : 0 < a) (ht : a_fty ci k = 0) : f_put (hp L b I J) ci k a (vi x) = some (hp L b (upI I a k x) J) := by
  unfold f_put
  rw [show (hp L b I J).1[a]? = some (10 + ci, N) from h1]
  dsimp only
  rw [if_pos ⟨rfl, h2.1, h2.2, h3⟩, ht]
  rfl
theorem fput_z (b : Bool) {ci k a N : Nat} {x : Int} (h1 : (hk L b)[a]? = some (10 + ci, N)) (h2 : N = (a_cls ci).1 ∧ k < N) (h3 : 0 < a) (ht : a_fty ci k = 1) : f_put (hp L b I J) ci k a (vi x) = if x = 0 ∨ x = 1 then some (hp L b (upI I a k x) J) else none := by
  unfold f_put
  rw [show (hp L b I J).1[a]? = some (10 + ci, N) from h1]
  dsimp only
  rw [if_pos ⟨rfl, h2.1, h2.2, h3⟩, ht]
  rfl
theorem fput_l (b : Bool) {ci k a N : Nat} {x : BitVec 64} (h1 : (hk L b)[a]? = some (10 + ci, N)) (h2 : N = (a_cls ci).1 ∧ k < N) (h3 : 0 < a) (ht : a_fty ci k = 3) : f_put (hp L b I J) ci k a (vl x) = some (hp L b I (upJ J a k x)) := by
  unfold f_put
  rw [show (hp L b I J).1[a]? = some (10 + ci, N) from h1]
  dsimp only
  rw [if_pos ⟨rfl, h2.1, h2.2, h3⟩, ht]
  rfl
theorem gpos {k : Nat} {l : List Nat} (h : l.contains k = true) (h2 : ∀ k ∈ l, 0 < k) : 0 < k := h2 k (mem_ct h)
theorem rcv_of (b : Bool) {ci a N : Nat} {t : List AV} (h1 : (hk L b)[a]? = some (10 + ci, N)) (h2 : N = (a_cls ci).1) (h3 : 0 < a) : a_recv (hp L b I J) ci (vr a :: t) = true := by
  show (decide ((hk L b)[a]? = some (10 + ci, (a_cls ci).1)) && decide (0 < a)) = true
  rw [h1, ← h2]
  simp [h3]
theorem fg0_6_35 (b : Bool) : f_get (hp L b I J) 0 6 35 = some (vr (43)) := fget_r b (hk_at b 34 (10, 10) rfl) (by decide) (by decide) (by decide) (by cases b <;> decide +kernel)
theorem fg0_7_35 (b : Bool) : f_get (hp L b I J) 0 7 35 = some (vr (44)) := fget_r b (hk_at b 34 (10, 10) rfl) (by decide) (by decide) (by decide) (by cases b <;> decide +kernel)
theorem fg0_9_35 (b : Bool) : f_get (hp L b I J) 0 9 35 = some (vi (I 35 9)) := fget_i b (hk_at b 34 (10, 10) rfl) (by decide) (by decide) (by decide)
theorem fg1_1_32 (b : Bool) : f_get (hp L b I J) 1 1 32 = some (vr (33)) := fget_r b (hk_at b 31 (11, 4) rfl) (by decide) (by decide) (by decide) (by cases b <;> decide +kernel)
theorem fg1_2_32 (b : Bool) : f_get (hp L b I J) 1 2 32 = some (vr (34)) := fget_r b (hk_at b 31 (11, 4) rfl) (by decide) (by decide) (by decide) (by cases b <;> decide +kernel)
theorem fg1_3_32 (b : Bool) : f_get (hp L b I J) 1 3 32 = some (vi (I 32 3)) := fget_i b (hk_at b 31 (11, 4) rfl) (by decide) (by decide) (by decide)
theorem fg10_0_1 (b : Bool) : f_get (hp L b I J) 10 0 1 = some (vr (3)) := fget_r b (hk_at b 0 (20, 11) rfl) (by decide) (by decide) (by decide) (by cases b <;> decide +kernel)
theorem fg10_1_1 (b : Bool) : f_get (hp L b I J) 10 1 1 = some (vr (5)) := fget_r b (hk_at b 0 (20, 11) rfl) (by decide) (by decide) (by decide) (by cases b <;> decide +kernel)
theorem fg10_10_1 (b : Bool) : f_get (hp L b I J) 10 10 1 = some (vr (114)) := fget_r b (hk_at b 0 (20, 11) rfl) (by decide) (by decide) (by decide) (by cases b <;> decide +kernel)
theorem fg10_2_1 (b : Bool) : f_get (hp L b I J) 10 2 1 = some (vr (6)) := fget_r b (hk_at b 0 (20, 11) rfl) (by decide) (by decide) (by decide) (by cases b <;> decide +kernel)
theorem fg10_3_1 (b : Bool) : f_get (hp L b I J) 10 3 1 = some (vr (20)) := fget_r b (hk_at b 0 (20, 11) rfl) (by decide) (by decide) (by decide) (by cases b <;> decide +kernel)
theorem fg10_4_1 (b : Bool) : f_get (hp L b I J) 10 4 1 = some (vr (23)) := fget_r b (hk_at b 0 (20, 11) rfl) (by decide) (by decide) (by decide) (by cases b <;> decide +kernel)
theorem fg10_5_1 (b : Bool) : f_get (hp L b I J) 10 5 1 = some (vr (32)) := fget_r b (hk_at b 0 (20, 11) rfl) (by decide) (by decide) (by decide) (by cases b <;> decide +kernel)
theorem fg10_6_1 (b : Bool) : f_get (hp L b I J) 10 6 1 = some (vr (35)) := fget_r b (hk_at b 0 (20, 11) rfl) (by decide) (by decide) (by decide) (by cases b <;> decide +kernel)
theorem fg10_7_1 (b : Bool) : f_get (hp L b I J) 10 7 1 = some (vr (51)) := fget_r b (hk_at b 0 (20, 11) rfl) (by decide) (by decide) (by decide) (by cases b <;> decide +kernel)
theorem fg10_8_1 (b : Bool) : f_get (hp L b I J) 10 8 1 = some (vr (104)) := fget_r b (hk_at b 0 (20, 11) rfl) (by decide) (by decide) (by decide) (by cases b <;> decide +kernel)
theorem fg10_9_1 (b : Bool) : f_get (hp L b I J) 10 9 1 = some (vr (110)) := fget_r b (hk_at b 0 (20, 11) rfl) (by decide) (by decide) (by decide) (by cases b <;> decide +kernel)
theorem fg11_0_115 (b : Bool) : f_get (hp L b I J) 11 0 115 = some (vr (116)) := fget_r b (hk_at b 114 (21, 62) rfl) (by decide) (by decide) (by decide) (by cases b <;> decide +kernel)
theorem fg11_1_115 (b : Bool) : f_get (hp L b I J) 11 1 115 = some (vr (117)) := fget_r b (hk_at b 114 (21, 62) rfl) (by decide) (by decide) (by decide) (by cases b <;> decide +kernel)
theorem fg11_10_115 (b : Bool) : f_get (hp L b I J) 11 10 115 = some (vi (I 115 10)) := fget_i b (hk_at b 114 (21, 62) rfl) (by decide) (by decide) (by decide)
theorem fg11_11_115 (b : Bool) : f_get (hp L b I J) 11 11 115 = some (vr (124)) := fget_r b (hk_at b 114 (21, 62) rfl) (by decide) (by decide) (by decide) (by cases b <;> decide +kernel)
theorem fg11_12_115 (b : Bool) : f_get (hp L b I J) 11 12 115 = some (vr (125)) := fget_r b (hk_at b 114 (21, 62) rfl) (by decide) (by decide) (by decide) (by cases b <;> decide +kernel)
theorem fg11_13_115 (b : Bool) : f_get (hp L b I J) 11 13 115 = some (vr (126)) := fget_r b (hk_at b 114 (21, 62) rfl) (by decide) (by decide) (by decide) (by cases b <;> decide +kernel)
theorem fg11_14_115 (b : Bool) : f_get (hp L b I J) 11 14 115 = some (vr (127)) := fget_r b (hk_at b 114 (21, 62) rfl) (by decide) (by decide) (by decide) (by cases b <;> decide +kernel)
theorem fg11_15_115 (b : Bool) : f_get (hp L b I J) 11 15 115 = some (vr (128)) := fget_r b (hk_at b 114 (21, 62) rfl) (by decide) (by decide) (by decide) (by cases b <;> decide +kernel)
theorem fg11_16_115 (b : Bool) : f_get (hp L b I J) 11 16 115 = some (vi (I 115 16)) := fget_i b (hk_at b 114 (21, 62) rfl) (by decide) (by decide) (by decide)
theorem fg11_17_115 (b : Bool) : f_get (hp L b I J) 11 17 115 = some (vr (129)) := fget_r b (hk_at b 114 (21, 62) rfl) (by decide) (by decide) (by decide) (by cases b <;> decide +kernel)
theorem fg11_18_115 (b : Bool) : f_get (hp L b I J) 11 18 115 = some (vr (130)) := fget_r b (hk_at b 114 (21, 62) rfl) (by decide) (by decide) (by decide) (by cases b <;> decide +kernel)
theorem fg11_19_115 (b : Bool) : f_get (hp L b I J) 11 19 115 = some (vr (131)) := fget_r b (hk_at b 114 (21, 62) rfl) (by decide) (by decide) (by decide) (by cases b <;> decide +kernel)
theorem fg11_2_115 (b : Bool) : f_get (hp L b I J) 11 2 115 = some (vr (118)) := fget_r b (hk_at b 114 (21, 62) rfl) (by decide) (by decide) (by decide) (by cases b <;> decide +kernel)
theorem fg11_20_115 (b : Bool) : f_get (hp L b I J) 11 20 115 = some (vr (132)) := fget_r b (hk_at b 114 (21, 62) rfl) (by decide) (by decide) (by decide) (by cases b <;> decide +kernel)
theorem fg11_21_115 (b : Bool) : f_get (hp L b I J) 11 21 115 = some (vr (133)) := fget_r b (hk_at b 114 (21, 62) rfl) (by decide) (by decide) (by decide) (by cases b <;> decide +kernel)
theorem fg11_22_115 (b : Bool) : f_get (hp L b I J) 11 22 115 = some (vr (134)) := fget_r b (hk_at b 114 (21, 62) rfl) (by decide) (by decide) (by decide) (by cases b <;> decide +kernel)
theorem fg11_23_115 (b : Bool) : f_get (hp L b I J) 11 23 115 = some (vi (I 115 23)) := fget_i b (hk_at b 114 (21, 62) rfl) (by decide) (by decide) (by decide)
theorem fg11_24_115 (b : Bool) : f_get (hp L b I J) 11 24 115 = some (vr (135)) := fget_r b (hk_at b 114 (21, 62) rfl) (by decide) (by decide) (by decide) (by cases b <;> decide +kernel)
theorem fg11_25_115 (b : Bool) : f_get (hp L b I J) 11 25 115 = some (vr (136)) := fget_r b (hk_at b 114 (21, 62) rfl) (by decide) (by decide) (by decide) (by cases b <;> decide +kernel)
theorem fg11_26_115 (b : Bool) : f_get (hp L b I J) 11 26 115 = some (vr (137)) := fget_r b (hk_at b 114 (21, 62) rfl) (by decide) (by decide) (by decide) (by cases b <;> decide +kernel)
theorem fg11_27_115 (b : Bool) : f_get (hp L b I J) 11 27 115 = some (vi (I 115 27)) := fget_i b (hk_at b 114 (21, 62) rfl) (by decide) (by decide) (by decide)
theorem fg11_28_115 (b : Bool) : f_get (hp L b I J) 11 28 115 = some (vr (138)) := fget_r b (hk_at b 114 (21, 62) rfl) (by decide) (by decide) (by decide) (by cases b <;> decide +kernel)
theorem fg11_29_115 (b : Bool) : f_get (hp L b I J) 11 29 115 = some (vr (139)) := fget_r b (hk_at b 114 (21, 62) rfl) (by decide) (by decide) (by decide) (by cases b <;> decide +kernel)
theorem fg11_3_115 (b : Bool) : f_get (hp L b I J) 11 3 115 = some (vr (119)) := fget_r b (hk_at b 114 (21, 62) rfl) (by decide) (by decide) (by decide) (by cases b <;> decide +kernel)
theorem fg11_30_115 (b : Bool) : f_get (hp L b I J) 11 30 115 = some (vi (I 115 30)) := fget_i b (hk_at b 114 (21, 62) rfl) (by decide) (by decide) (by decide)
theorem fg11_31_115 (b : Bool) : f_get (hp L b I J) 11 31 115 = some (vr (140)) := fget_r b (hk_at b 114 (21, 62) rfl) (by decide) (by decide) (by decide) (by cases b <;> decide +kernel)
theorem fg11_32_115 (b : Bool) : f_get (hp L b I J) 11 32 115 = some (vr (141)) := fget_r b (hk_at b 114 (21, 62) rfl) (by decide) (by decide) (by decide) (by cases b <;> decide +kernel)
theorem fg11_33_115 (b : Bool) : f_get (hp L b I J) 11 33 115 = some (vr (142)) := fget_r b (hk_at b 114 (21, 62) rfl) (by decide) (by decide) (by decide) (by cases b <;> decide +kernel)
theorem fg11_34_115 (b : Bool) : f_get (hp L b I J) 11 34 115 = some (vr (143)) := fget_r b (hk_at b 114 (21, 62) rfl) (by decide) (by decide) (by decide) (by cases b <;> decide +kernel)
theorem fg11_35_115 (b : Bool) : f_get (hp L b I J) 11 35 115 = some (vi (I 115 35)) := fget_i b (hk_at b 114 (21, 62) rfl) (by decide) (by decide) (by decide)
theorem fg11_36_115 (b : Bool) : f_get (hp L b I J) 11 36 115 = some (vr (144)) := fget_r b (hk_at b 114 (21, 62) rfl) (by decide) (by decide) (by decide) (by cases b <;> decide +kernel)
theorem fg11_37_115 (b : Bool) : f_get (hp L b I J) 11 37 115 = some (vr (145)) := fget_r b (hk_at b 114 (21, 62) rfl) (by decide) (by decide) (by decide) (by cases b <;> decide +kernel)
theorem fg11_38_115 (b : Bool) : f_get (hp L b I J) 11 38 115 = some (vi (I 115 38)) := fget_i b (hk_at b 114 (21, 62) rfl) (by decide) (by decide) (by decide)
theorem fg11_39_115 (b : Bool) : f_get (hp L b I J) 11 39 115 = some (vi (I 115 39)) := fget_i b (hk_at b 114 (21, 62) rfl) (by decide) (by decide) (by decide)
theorem fg11_4_115 (b : Bool) : f_get (hp L b I J) 11 4 115 = some (vr (120)) := fget_r b (hk_at b 114 (21, 62) rfl) (by decide) (by decide) (by decide) (by cases b <;> decide +kernel)
theorem fg11_40_115 (b : Bool) : f_get (hp L b I J) 11 40 115 = some (vr (146)) := fget_r b (hk_at b 114 (21, 62) rfl) (by decide) (by decide) (by decide) (by cases b <;> decide +kernel)
theorem fg11_41_115 (b : Bool) : f_get (hp L b I J) 11 41 115 = some (vr (147)) := fget_r b (hk_at b 114 (21, 62) rfl) (by decide) (by decide) (by decide) (by cases b <;> decide +kernel)
theorem fg11_42_115 (b : Bool) : f_get (hp L b I J) 11 42 115 = some (vi (I 115 42)) := fget_i b (hk_at b 114 (21, 62) rfl) (by decide) (by decide) (by decide)
theorem fg11_43_115 (b : Bool) : f_get (hp L b I J) 11 43 115 = some (vr (148)) := fget_r b (hk_at b 114 (21, 62) rfl) (by decide) (by decide) (by decide) (by cases b <;> decide +kernel)
theorem fg11_44_115 (b : Bool) : f_get (hp L b I J) 11 44 115 = some (vr (149)) := fget_r b (hk_at b 114 (21, 62) rfl) (by decide) (by decide) (by decide) (by cases b <;> decide +kernel)
theorem fg11_45_115 (b : Bool) : f_get (hp L b I J) 11 45 115 = some (vi (I 115 45)) := fget_i b (hk_at b 114 (21, 62) rfl) (by decide) (by decide) (by decide)
theorem fg11_46_115 (b : Bool) : f_get (hp L b I J) 11 46 115 = some (vr (150)) := fget_r b (hk_at b 114 (21, 62) rfl) (by decide) (by decide) (by decide) (by cases b <;> decide +kernel)
theorem fg11_47_115 (b : Bool) : f_get (hp L b I J) 11 47 115 = some (vr (151)) := fget_r b (hk_at b 114 (21, 62) rfl) (by decide) (by decide) (by decide) (by cases b <;> decide +kernel)
theorem fg11_48_115 (b : Bool) : f_get (hp L b I J) 11 48 115 = some (vi (I 115 48)) := fget_i b (hk_at b 114 (21, 62) rfl) (by decide) (by decide) (by decide)
theorem fg11_49_115 (b : Bool) : f_get (hp L b I J) 11 49 115 = some (vr (152)) := fget_r b (hk_at b 114 (21, 62) rfl) (by decide) (by decide) (by decide) (by cases b <;> decide +kernel)
theorem fg11_5_115 (b : Bool) : f_get (hp L b I J) 11 5 115 = some (vi (I 115 5)) := fget_i b (hk_at b 114 (21, 62) rfl) (by decide) (by decide) (by decide)
theorem fg11_50_115 (b : Bool) : f_get (hp L b I J) 11 50 115 = some (vr (153)) := fget_r b (hk_at b 114 (21, 62) rfl) (by decide) (by decide) (by decide) (by cases b <;> decide +kernel)
theorem fg11_51_115 (b : Bool) : f_get (hp L b I J) 11 51 115 = some (vr (154)) := fget_r b (hk_at b 114 (21, 62) rfl) (by decide) (by decide) (by decide) (by cases b <;> decide +kernel)
theorem fg11_52_115 (b : Bool) : f_get (hp L b I J) 11 52 115 = some (vi (I 115 52)) := fget_i b (hk_at b 114 (21, 62) rfl) (by decide) (by decide) (by decide)
theorem fg11_53_115 (b : Bool) : f_get (hp L b I J) 11 53 115 = some (vr (155)) := fget_r b (hk_at b 114 (21, 62) rfl) (by decide) (by decide) (by decide) (by cases b <;> decide +kernel)
theorem fg11_54_115 (b : Bool) : f_get (hp L b I J) 11 54 115 = some (vi (I 115 54)) := fget_i b (hk_at b 114 (21, 62) rfl) (by decide) (by decide) (by decide)
theorem fg11_55_115 (b : Bool) : f_get (hp L b I J) 11 55 115 = some (vi (I 115 55)) := fget_i b (hk_at b 114 (21, 62) rfl) (by decide) (by decide) (by decide)
theorem fg11_56_115 (b : Bool) : f_get (hp L b I J) 11 56 115 = some (vi (I 115 56)) := fget_i b (hk_at b 114 (21, 62) rfl) (by decide) (by decide) (by decide)
theorem fg11_57_115 (b : Bool) : f_get (hp L b I J) 11 57 115 = some (vr (156)) := fget_r b (hk_at b 114 (21, 62) rfl) (by decide) (by decide) (by decide) (by cases b <;> decide +kernel)
theorem fg11_58_115 (b : Bool) : f_get (hp L b I J) 11 58 115 = some (vr (157)) := fget_r b (hk_at b 114 (21, 62) rfl) (by decide) (by decide) (by decide) (by cases b <;> decide +kernel)
theorem fg11_59_115 (b : Bool) : f_get (hp L b I J) 11 59 115 = some (vr (158)) := fget_r b (hk_at b 114 (21, 62) rfl) (by decide) (by decide) (by decide) (by cases b <;> decide +kernel)
theorem fg11_6_115 (b : Bool) : f_get (hp L b I J) 11 6 115 = some (vr (121)) := fget_r b (hk_at b 114 (21, 62) rfl) (by decide) (by decide) (by decide) (by cases b <;> decide +kernel)
theorem fg11_60_115 (b : Bool) : f_get (hp L b I J) 11 60 115 = some (vr (159)) := fget_r b (hk_at b 114 (21, 62) rfl) (by decide) (by decide) (by decide) (by cases b <;> decide +kernel)
theorem fg11_61_115 (b : Bool) : f_get (hp L b I J) 11 61 115 = some (vr (160)) := fget_r b (hk_at b 114 (21, 62) rfl) (by decide) (by decide) (by decide) (by cases b <;> decide +kernel)
theorem fg11_7_115 (b : Bool) : f_get (hp L b I J) 11 7 115 = some (vi (I 115 7)) := fget_i b (hk_at b 114 (21, 62) rfl) (by decide) (by decide) (by decide)
theorem fg11_8_115 (b : Bool) : f_get (hp L b I J) 11 8 115 = some (vr (122)) := fget_r b (hk_at b 114 (21, 62) rfl) (by decide) (by decide) (by decide) (by cases b <;> decide +kernel)
theorem fg11_9_115 (b : Bool) : f_get (hp L b I J) 11 9 115 = some (vr (123)) := fget_r b (hk_at b 114 (21, 62) rfl) (by decide) (by decide) (by decide) (by cases b <;> decide +kernel)
theorem fg2_0_51 (b : Bool) : f_get (hp L b I J) 2 0 51 = some (vr (6)) := fget_r b (hk_at b 50 (12, 12) rfl) (by decide) (by decide) (by decide) (by cases b <;> decide +kernel)
theorem fg2_1_51 (b : Bool) : f_get (hp L b I J) 2 1 51 = some (vr (20)) := fget_r b (hk_at b 50 (12, 12) rfl) (by decide) (by decide) (by decide) (by cases b <;> decide +kernel)
theorem fg2_10_51 (b : Bool) : f_get (hp L b I J) 2 10 51 = some (vi (I 51 10)) := fget_i b (hk_at b 50 (12, 12) rfl) (by decide) (by decide) (by decide)
theorem fg2_11_51 (b : Bool) : f_get (hp L b I J) 2 11 51 = some (vi (I 51 11)) := fget_i b (hk_at b 50 (12, 12) rfl) (by decide) (by decide) (by decide)
theorem fg2_2_51 (b : Bool) : f_get (hp L b I J) 2 2 51 = some (vr (23)) := fget_r b (hk_at b 50 (12, 12) rfl) (by decide) (by decide) (by decide) (by cases b <;> decide +kernel)
theorem fg2_3_51 (b : Bool) : f_get (hp L b I J) 2 3 51 = some (vr (56)) := fget_r b (hk_at b 50 (12, 12) rfl) (by decide) (by decide) (by decide) (by cases b <;> decide +kernel)
theorem fg2_4_51 (b : Bool) : f_get (hp L b I J) 2 4 51 = some (vr (52)) := fget_r b (hk_at b 50 (12, 12) rfl) (by decide) (by decide) (by decide) (by cases b <;> decide +kernel)
theorem fg2_5_51 (b : Bool) : f_get (hp L b I J) 2 5 51 = some (vr (53)) := fget_r b (hk_at b 50 (12, 12) rfl) (by decide) (by decide) (by decide) (by cases b <;> decide +kernel)
theorem fg2_6_51 (b : Bool) : f_get (hp L b I J) 2 6 51 = some (vr (54)) := fget_r b (hk_at b 50 (12, 12) rfl) (by decide) (by decide) (by decide) (by cases b <;> decide +kernel)
theorem fg2_7_51 (b : Bool) : f_get (hp L b I J) 2 7 51 = some (vr (55)) := fget_r b (hk_at b 50 (12, 12) rfl) (by decide) (by decide) (by decide) (by cases b <;> decide +kernel)
theorem fg2_8_51 (b : Bool) : f_get (hp L b I J) 2 8 51 = some (vi (I 51 8)) := fget_i b (hk_at b 50 (12, 12) rfl) (by decide) (by decide) (by decide)
theorem fg2_9_51 (b : Bool) : f_get (hp L b I J) 2 9 51 = some (vi (I 51 9)) := fget_i b (hk_at b 50 (12, 12) rfl) (by decide) (by decide) (by decide)
theorem fg3_0_110 (b : Bool) : f_get (hp L b I J) 3 0 110 = some (vr (6)) := fget_r b (hk_at b 109 (13, 6) rfl) (by decide) (by decide) (by decide) (by cases b <;> decide +kernel)
theorem fg3_1_110 (b : Bool) : f_get (hp L b I J) 3 1 110 = some (vr (20)) := fget_r b (hk_at b 109 (13, 6) rfl) (by decide) (by decide) (by decide) (by cases b <;> decide +kernel)
theorem fg3_2_110 (b : Bool) : f_get (hp L b I J) 3 2 110 = some (vr (23)) := fget_r b (hk_at b 109 (13, 6) rfl) (by decide) (by decide) (by decide) (by cases b <;> decide +kernel)
theorem fg3_3_110 (b : Bool) : f_get (hp L b I J) 3 3 110 = some (vr (111)) := fget_r b (hk_at b 109 (13, 6) rfl) (by decide) (by decide) (by decide) (by cases b <;> decide +kernel)
theorem fg3_4_110 (b : Bool) : f_get (hp L b I J) 3 4 110 = some (vr (112)) := fget_r b (hk_at b 109 (13, 6) rfl) (by decide) (by decide) (by decide) (by cases b <;> decide +kernel)
theorem fg3_5_110 (b : Bool) : f_get (hp L b I J) 3 5 110 = some (vr (113)) := fget_r b (hk_at b 109 (13, 6) rfl) (by decide) (by decide) (by decide) (by cases b <;> decide +kernel)
theorem fg4_1_3 (b : Bool) : f_get (hp L b I J) 4 1 3 = some (vi (I 3 1)) := fget_i b (hk_at b 2 (14, 2) rfl) (by decide) (by decide) (by decide)
theorem fg5_0_20 (b : Bool) : f_get (hp L b I J) 5 0 20 = some (vr (21)) := fget_r b (hk_at b 19 (15, 3) rfl) (by decide) (by decide) (by decide) (by cases b <;> decide +kernel)
theorem fg5_1_20 (b : Bool) : f_get (hp L b I J) 5 1 20 = some (vr (22)) := fget_r b (hk_at b 19 (15, 3) rfl) (by decide) (by decide) (by decide) (by cases b <;> decide +kernel)
theorem fg5_2_20 (b : Bool) : f_get (hp L b I J) 5 2 20 = some (vi (I 20 2)) := fget_i b (hk_at b 19 (15, 3) rfl) (by decide) (by decide) (by decide)
theorem fg6_0_31 (b : Bool) : f_get (hp L b I J) 6 0 31 = some (vl (J 31 0)) := fget_l b (hk_at b 30 (16, 2) rfl) (by decide) (by decide) (by decide)
theorem fg6_1_31 (b : Bool) : f_get (hp L b I J) 6 1 31 = some (vl (J 31 1)) := fget_l b (hk_at b 30 (16, 2) rfl) (by decide) (by decide) (by decide)
theorem fg7_0_23 (b : Bool) : f_get (hp L b I J) 7 0 23 = some (vr (24)) := fget_r b (hk_at b 22 (17, 9) rfl) (by decide) (by decide) (by decide) (by cases b <;> decide +kernel)
theorem fg7_1_23 (b : Bool) : f_get (hp L b I J) 7 1 23 = some (vr (25)) := fget_r b (hk_at b 22 (17, 9) rfl) (by decide) (by decide) (by decide) (by cases b <;> decide +kernel)
theorem fg7_2_23 (b : Bool) : f_get (hp L b I J) 7 2 23 = some (vr (26)) := fget_r b (hk_at b 22 (17, 9) rfl) (by decide) (by decide) (by decide) (by cases b <;> decide +kernel)
theorem fg7_3_23 (b : Bool) : f_get (hp L b I J) 7 3 23 = some (vr (27)) := fget_r b (hk_at b 22 (17, 9) rfl) (by decide) (by decide) (by decide) (by cases b <;> decide +kernel)
theorem fg7_4_23 (b : Bool) : f_get (hp L b I J) 7 4 23 = some (vr (28)) := fget_r b (hk_at b 22 (17, 9) rfl) (by decide) (by decide) (by decide) (by cases b <;> decide +kernel)
theorem fg7_5_23 (b : Bool) : f_get (hp L b I J) 7 5 23 = some (vr (29)) := fget_r b (hk_at b 22 (17, 9) rfl) (by decide) (by decide) (by decide) (by cases b <;> decide +kernel)
theorem fg7_6_23 (b : Bool) : f_get (hp L b I J) 7 6 23 = some (vr (30)) := fget_r b (hk_at b 22 (17, 9) rfl) (by decide) (by decide) (by decide) (by cases b <;> decide +kernel)
theorem fg7_7_23 (b : Bool) : f_get (hp L b I J) 7 7 23 = some (vr (31)) := fget_r b (hk_at b 22 (17, 9) rfl) (by decide) (by decide) (by decide) (by cases b <;> decide +kernel)
theorem fg7_8_23 (b : Bool) : f_get (hp L b I J) 7 8 23 = some (vi (I 23 8)) := fget_i b (hk_at b 22 (17, 9) rfl) (by decide) (by decide) (by decide)
theorem fg8_0_6 (b : Bool) : f_get (hp L b I J) 8 0 6 = some (vr (7)) := fget_r b (hk_at b 5 (18, 10) rfl) (by decide) (by decide) (by decide) (by cases b <;> decide +kernel)
theorem fg8_1_6 (b : Bool) : f_get (hp L b I J) 8 1 6 = some (vr (8)) := fget_r b (hk_at b 5 (18, 10) rfl) (by decide) (by decide) (by decide) (by cases b <;> decide +kernel)
theorem fg8_2_6 (b : Bool) : f_get (hp L b I J) 8 2 6 = some (vr (9)) := fget_r b (hk_at b 5 (18, 10) rfl) (by decide) (by decide) (by decide) (by cases b <;> decide +kernel)
theorem fg8_3_6 (b : Bool) : f_get (hp L b I J) 8 3 6 = some (vr (10)) := fget_r b (hk_at b 5 (18, 10) rfl) (by decide) (by decide) (by decide) (by cases b <;> decide +kernel)
theorem fg8_4_6 (b : Bool) : f_get (hp L b I J) 8 4 6 = some (vr (11)) := fget_r b (hk_at b 5 (18, 10) rfl) (by decide) (by decide) (by decide) (by cases b <;> decide +kernel)
theorem fg8_5_6 (b : Bool) : f_get (hp L b I J) 8 5 6 = some (vr (cm b)) := fget_r b (hk_at b 5 (18, 10) rfl) (by decide) (by decide) (by decide) (by cases b <;> decide +kernel)
theorem fg8_6_6 (b : Bool) : f_get (hp L b I J) 8 6 6 = some (vr (13)) := fget_r b (hk_at b 5 (18, 10) rfl) (by decide) (by decide) (by decide) (by cases b <;> decide +kernel)
theorem fg8_7_6 (b : Bool) : f_get (hp L b I J) 8 7 6 = some (vr (15)) := fget_r b (hk_at b 5 (18, 10) rfl) (by decide) (by decide) (by decide) (by cases b <;> decide +kernel)
theorem fg8_8_6 (b : Bool) : f_get (hp L b I J) 8 8 6 = some (vr (17)) := fget_r b (hk_at b 5 (18, 10) rfl) (by decide) (by decide) (by decide) (by cases b <;> decide +kernel)
theorem fg8_9_6 (b : Bool) : f_get (hp L b I J) 8 9 6 = some (vi (I 6 9)) := fget_i b (hk_at b 5 (18, 10) rfl) (by decide) (by decide) (by decide)
theorem fg9_0_104 (b : Bool) : f_get (hp L b I J) 9 0 104 = some (vr (6)) := fget_r b (hk_at b 103 (19, 6) rfl) (by decide) (by decide) (by decide) (by cases b <;> decide +kernel)
theorem fg9_1_104 (b : Bool) : f_get (hp L b I J) 9 1 104 = some (vr (20)) := fget_r b (hk_at b 103 (19, 6) rfl) (by decide) (by decide) (by decide) (by cases b <;> decide +kernel)
theorem fg9_2_104 (b : Bool) : f_get (hp L b I J) 9 2 104 = some (vr (23)) := fget_r b (hk_at b 103 (19, 6) rfl) (by decide) (by decide) (by decide) (by cases b <;> decide +kernel)
theorem fg9_3_104 (b : Bool) : f_get (hp L b I J) 9 3 104 = some (vr (107)) := fget_r b (hk_at b 103 (19, 6) rfl) (by decide) (by decide) (by decide) (by cases b <;> decide +kernel)
theorem fg9_4_104 (b : Bool) : f_get (hp L b I J) 9 4 104 = some (vr (105)) := fget_r b (hk_at b 103 (19, 6) rfl) (by decide) (by decide) (by decide) (by cases b <;> decide +kernel)
theorem fg9_5_104 (b : Bool) : f_get (hp L b I J) 9 5 104 = some (vr (106)) := fget_r b (hk_at b 103 (19, 6) rfl) (by decide) (by decide) (by decide) (by cases b <;> decide +kernel)
theorem fgg0_0 (b : Bool) (h : isBl k = true) : f_get (hp L b I J) 0 0 k = some (vr (k + 1)) := fget_r b (kBl0 b h) (by decide) (gpos h (by decide)) (by decide) (rBl0 b h)
theorem fgg0_1 (b : Bool) (h : isBl k = true) : f_get (hp L b I J) 0 1 k = some (vr (k + 3)) := fget_r b (kBl0 b h) (by decide) (gpos h (by decide)) (by decide) (rBl1 b h)
theorem fgg0_2 (b : Bool) (h : isBl k = true) : f_get (hp L b I J) 0 2 k = some (vr (k + 5)) := fget_r b (kBl0 b h) (by decide) (gpos h (by decide)) (by decide) (rBl2 b h)
theorem fgg0_3 (b : Bool) (h : isBl k = true) : f_get (hp L b I J) 0 3 k = some (vr (k + 10)) := fget_r b (kBl0 b h) (by decide) (gpos h (by decide)) (by decide) (rBl3 b h)
theorem fgg0_4 (b : Bool) (h : isBl k = true) : f_get (hp L b I J) 0 4 k = some (vr (k + 13)) := fget_r b (kBl0 b h) (by decide) (gpos h (by decide)) (by decide) (rBl4 b h)
theorem fgg0_5 (b : Bool) (h : isBl k = true) : f_get (hp L b I J) 0 5 k = some (vr (k + 7)) := fget_r b (kBl0 b h) (by decide) (gpos h (by decide)) (by decide) (rBl5 b h)
theorem fgg0_6 (b : Bool) (h : isBl k = true) : f_get (hp L b I J) 0 6 k = some (vr (k + 8)) := fget_r b (kBl0 b h) (by decide) (gpos h (by decide)) (by decide) (rBl6 b h)
theorem fgg0_7 (b : Bool) (h : isBl k = true) : f_get (hp L b I J) 0 7 k = some (vr (k + 9)) := fget_r b (kBl0 b h) (by decide) (gpos h (by decide)) (by decide) (rBl7 b h)
theorem fgg0_8 (b : Bool) (h : isBl k = true) : f_get (hp L b I J) 0 8 k = some (vi (I k 8)) := fget_i b (kBl0 b h) (by decide) (gpos h (by decide)) (by decide)
theorem fgg0_9 (b : Bool) (h : isBl k = true) : f_get (hp L b I J) 0 9 k = some (vi (I k 9)) := fget_i b (kBl0 b h) (by decide) (gpos h (by decide)) (by decide)
theorem fgg1_0 (b : Bool) (h : isDiff k = true) : f_get (hp L b I J) 1 0 k = some (vr (2)) := fget_r b (kDiff0 b h) (by decide) (gpos h (by decide)) (by decide) (rDiff0 b h)
theorem fgg1_1 (b : Bool) (h : isDiff k = true) : f_get (hp L b I J) 1 1 k = some (vr (k + 1)) := fget_r b (kDiff0 b h) (by decide) (gpos h (by decide)) (by decide) (rDiff1 b h)
theorem fgg1_2 (b : Bool) (h : isDiff k = true) : f_get (hp L b I J) 1 2 k = some (vr (k + 2)) := fget_r b (kDiff0 b h) (by decide) (gpos h (by decide)) (by decide) (rDiff2 b h)
theorem fgg1_3 (b : Bool) (h : isDiff k = true) : f_get (hp L b I J) 1 3 k = some (vi (I k 3)) := fget_i b (kDiff0 b h) (by decide) (gpos h (by decide)) (by decide)
theorem fgg4_0 (b : Bool) (h : isRow k = true) : f_get (hp L b I J) 4 0 k = some (vr (k + 1)) := fget_r b (kRow0 b h) (by decide) (gpos h (by decide)) (by decide) (rRow b h)
theorem fgg4_1 (b : Bool) (h : isRow k = true) : f_get (hp L b I J) 4 1 k = some (vi (I k 1)) := fget_i b (kRow0 b h) (by decide) (gpos h (by decide)) (by decide)
theorem fgg6_0 (b : Bool) (h : isSet k = true) : f_get (hp L b I J) 6 0 k = some (vl (J k 0)) := fget_l b (kSet0 b h) (by decide) (gpos h (by decide)) (by decide)
theorem fgg6_1 (b : Bool) (h : isSet k = true) : f_get (hp L b I J) 6 1 k = some (vl (J k 1)) := fget_l b (kSet0 b h) (by decide) (gpos h (by decide)) (by decide)
theorem fp11_10_115 (b : Bool) {x : Int} : f_put (hp L b I J) 11 10 115 (vi x) = some (hp L b (upI I 115 10 x) J) := fput_i b (hk_at b 114 (21, 62) rfl) (by decide) (by decide) (by decide)
theorem fp11_16_115 (b : Bool) {x : Int} : f_put (hp L b I J) 11 16 115 (vi x) = some (hp L b (upI I 115 16 x) J) := fput_i b (hk_at b 114 (21, 62) rfl) (by decide) (by decide) (by decide)
theorem fp11_23_115 (b : Bool) {x : Int} : f_put (hp L b I J) 11 23 115 (vi x) = some (hp L b (upI I 115 23 x) J) := fput_i b (hk_at b 114 (21, 62) rfl) (by decide) (by decide) (by decide)
theorem fp11_27_115 (b : Bool) {x : Int} : f_put (hp L b I J) 11 27 115 (vi x) = some (hp L b (upI I 115 27 x) J) := fput_i b (hk_at b 114 (21, 62) rfl) (by decide) (by decide) (by decide)
theorem fp11_30_115 (b : Bool) {x : Int} : f_put (hp L b I J) 11 30 115 (vi x) = some (hp L b (upI I 115 30 x) J) := fput_i b (hk_at b 114 (21, 62) rfl) (by decide) (by decide) (by decide)
theorem fp11_35_115 (b : Bool) {x : Int} : f_put (hp L b I J) 11 35 115 (vi x) = some (hp L b (upI I 115 35 x) J) := fput_i b (hk_at b 114 (21, 62) rfl) (by decide) (by decide) (by decide)
theorem fp11_38_115 (b : Bool) {x : Int} : f_put (hp L b I J) 11 38 115 (vi x) = some (hp L b (upI I 115 38 x) J) := fput_i b (hk_at b 114 (21, 62) rfl) (by decide) (by decide) (by decide)
theorem fp11_39_115 (b : Bool) {x : Int} : f_put (hp L b I J) 11 39 115 (vi x) = if x = 0 ∨ x = 1 then some (hp L b (upI I 115 39 x) J) else none := fput_z b (hk_at b 114 (21, 62) rfl) (by decide) (by decide) (by decide)
theorem fp11_42_115 (b : Bool) {x : Int} : f_put (hp L b I J) 11 42 115 (vi x) = some (hp L b (upI I 115 42 x) J) := fput_i b (hk_at b 114 (21, 62) rfl) (by decide) (by decide) (by decide)
theorem fp11_45_115 (b : Bool) {x : Int} : f_put (hp L b I J) 11 45 115 (vi x) = some (hp L b (upI I 115 45 x) J) := fput_i b (hk_at b 114 (21, 62) rfl) (by decide) (by decide) (by decide)
theorem fp11_48_115 (b : Bool) {x : Int} : f_put (hp L b I J) 11 48 115 (vi x) = some (hp L b (upI I 115 48 x) J) := fput_i b (hk_at b 114 (21, 62) rfl) (by decide) (by decide) (by decide)
theorem fp11_5_115 (b : Bool) {x : Int} : f_put (hp L b I J) 11 5 115 (vi x) = some (hp L b (upI I 115 5 x) J) := fput_i b (hk_at b 114 (21, 62) rfl) (by decide) (by decide) (by decide)
theorem fp11_52_115 (b : Bool) {x : Int} : f_put (hp L b I J) 11 52 115 (vi x) = if x = 0 ∨ x = 1 then some (hp L b (upI I 115 52 x) J) else none := fput_z b (hk_at b 114 (21, 62) rfl) (by decide) (by decide) (by decide)
theorem fp11_54_115 (b : Bool) {x : Int} : f_put (hp L b I J) 11 54 115 (vi x) = some (hp L b (upI I 115 54 x) J) := fput_i b (hk_at b 114 (21, 62) rfl) (by decide) (by decide) (by decide)
theorem fp11_55_115 (b : Bool) {x : Int} : f_put (hp L b I J) 11 55 115 (vi x) = some (hp L b (upI I 115 55 x) J) := fput_i b (hk_at b 114 (21, 62) rfl) (by decide) (by decide) (by decide)
theorem fp11_56_115 (b : Bool) {x : Int} : f_put (hp L b I J) 11 56 115 (vi x) = some (hp L b (upI I 115 56 x) J) := fput_i b (hk_at b 114 (21, 62) rfl) (by decide) (by decide) (by decide)
theorem fp11_7_115 (b : Bool) {x : Int} : f_put (hp L b I J) 11 7 115 (vi x) = some (hp L b (upI I 115 7 x) J) := fput_i b (hk_at b 114 (21, 62) rfl) (by decide) (by decide) (by decide)
theorem fp2_10_51 (b : Bool) {x : Int} : f_put (hp L b I J) 2 10 51 (vi x) = some (hp L b (upI I 51 10 x) J) := fput_i b (hk_at b 50 (12, 12) rfl) (by decide) (by decide) (by decide)
theorem fp2_11_51 (b : Bool) {x : Int} : f_put (hp L b I J) 2 11 51 (vi x) = some (hp L b (upI I 51 11 x) J) := fput_i b (hk_at b 50 (12, 12) rfl) (by decide) (by decide) (by decide)
theorem fp2_8_51 (b : Bool) {x : Int} : f_put (hp L b I J) 2 8 51 (vi x) = if x = 0 ∨ x = 1 then some (hp L b (upI I 51 8 x) J) else none := fput_z b (hk_at b 50 (12, 12) rfl) (by decide) (by decide) (by decide)
theorem fp2_9_51 (b : Bool) {x : Int} : f_put (hp L b I J) 2 9 51 (vi x) = some (hp L b (upI I 51 9 x) J) := fput_i b (hk_at b 50 (12, 12) rfl) (by decide) (by decide) (by decide)
theorem fp5_2_20 (b : Bool) {x : Int} : f_put (hp L b I J) 5 2 20 (vi x) = some (hp L b (upI I 20 2 x) J) := fput_i b (hk_at b 19 (15, 3) rfl) (by decide) (by decide) (by decide)
theorem fp7_8_23 (b : Bool) {x : Int} : f_put (hp L b I J) 7 8 23 (vi x) = some (hp L b (upI I 23 8 x) J) := fput_i b (hk_at b 22 (17, 9) rfl) (by decide) (by decide) (by decide)
theorem fp8_9_6 (b : Bool) {x : Int} : f_put (hp L b I J) 8 9 6 (vi x) = some (hp L b (upI I 6 9 x) J) := fput_i b (hk_at b 5 (18, 10) rfl) (by decide) (by decide) (by decide)
theorem fpg0_8 (b : Bool) {x : Int} (h : isBl k = true) : f_put (hp L b I J) 0 8 k (vi x) = some (hp L b (upI I k 8 x) J) := fput_i b (kBl0 b h) (by decide) (gpos h (by decide)) (by decide)
theorem fpg0_9 (b : Bool) {x : Int} (h : isBl k = true) : f_put (hp L b I J) 0 9 k (vi x) = some (hp L b (upI I k 9 x) J) := fput_i b (kBl0 b h) (by decide) (gpos h (by decide)) (by decide)
theorem fpg1_3 (b : Bool) {x : Int} (h : isDiff k = true) : f_put (hp L b I J) 1 3 k (vi x) = some (hp L b (upI I k 3 x) J) := fput_i b (kDiff0 b h) (by decide) (gpos h (by decide)) (by decide)
theorem fpg4_1 (b : Bool) {x : Int} (h : isRow k = true) : f_put (hp L b I J) 4 1 k (vi x) = some (hp L b (upI I k 1 x) J) := fput_i b (kRow0 b h) (by decide) (gpos h (by decide)) (by decide)
theorem fpg6_0 (b : Bool) {x : BitVec 64} (h : isSet k = true) : f_put (hp L b I J) 6 0 k (vl x) = some (hp L b I (upJ J k 0 x)) := fput_l b (kSet0 b h) (by decide) (gpos h (by decide)) (by decide)
theorem fpg6_1 (b : Bool) {x : BitVec 64} (h : isSet k = true) : f_put (hp L b I J) 6 1 k (vl x) = some (hp L b I (upJ J k 1 x)) := fput_l b (kSet0 b h) (by decide) (gpos h (by decide)) (by decide)
theorem rc_lit104 (b : Bool) {t : List AV} : a_recv (hp L b I J) 9 (vr 104 :: t) = true := rcv_of b (hk_at b 103 (19, 6) rfl) rfl (by decide)
theorem rc_lit107 (b : Bool) {t : List AV} : a_recv (hp L b I J) 1 (vr 107 :: t) = true := rcv_of b (hk_at b 106 (11, 4) rfl) rfl (by decide)
theorem rc_lit110 (b : Bool) {t : List AV} : a_recv (hp L b I J) 3 (vr 110 :: t) = true := rcv_of b (hk_at b 109 (13, 6) rfl) rfl (by decide)
theorem rc_lit111 (b : Bool) {t : List AV} : a_recv (hp L b I J) 6 (vr 111 :: t) = true := rcv_of b (hk_at b 110 (16, 2) rfl) rfl (by decide)
theorem rc_lit114 (b : Bool) {t : List AV} : a_recv (hp L b I J) 6 (vr 114 :: t) = true := rcv_of b (hk_at b 113 (16, 2) rfl) rfl (by decide)
theorem rc_lit115 (b : Bool) {t : List AV} : a_recv (hp L b I J) 11 (vr 115 :: t) = true := rcv_of b (hk_at b 114 (21, 62) rfl) rfl (by decide)
theorem rc_lit17 (b : Bool) {t : List AV} : a_recv (hp L b I J) 1 (vr 17 :: t) = true := rcv_of b (hk_at b 16 (11, 4) rfl) rfl (by decide)
theorem rc_lit20 (b : Bool) {t : List AV} : a_recv (hp L b I J) 5 (vr 20 :: t) = true := rcv_of b (hk_at b 19 (15, 3) rfl) rfl (by decide)
theorem rc_lit23 (b : Bool) {t : List AV} : a_recv (hp L b I J) 7 (vr 23 :: t) = true := rcv_of b (hk_at b 22 (17, 9) rfl) rfl (by decide)
theorem rc_lit3 (b : Bool) {t : List AV} : a_recv (hp L b I J) 4 (vr 3 :: t) = true := rcv_of b (hk_at b 2 (14, 2) rfl) rfl (by decide)
theorem rc_lit31 (b : Bool) {t : List AV} : a_recv (hp L b I J) 6 (vr 31 :: t) = true := rcv_of b (hk_at b 30 (16, 2) rfl) rfl (by decide)
theorem rc_lit35 (b : Bool) {t : List AV} : a_recv (hp L b I J) 0 (vr 35 :: t) = true := rcv_of b (hk_at b 34 (10, 10) rfl) rfl (by decide)
theorem rc_lit51 (b : Bool) {t : List AV} : a_recv (hp L b I J) 2 (vr 51 :: t) = true := rcv_of b (hk_at b 50 (12, 12) rfl) rfl (by decide)
theorem rc_lit52 (b : Bool) {t : List AV} : a_recv (hp L b I J) 6 (vr 52 :: t) = true := rcv_of b (hk_at b 51 (16, 2) rfl) rfl (by decide)
theorem rc_lit56 (b : Bool) {t : List AV} : a_recv (hp L b I J) 0 (vr 56 :: t) = true := rcv_of b (hk_at b 55 (10, 10) rfl) rfl (by decide)
theorem rc_lit6 (b : Bool) {t : List AV} : a_recv (hp L b I J) 8 (vr 6 :: t) = true := rcv_of b (hk_at b 5 (18, 10) rfl) rfl (by decide)
theorem isf0_0 (h : isBl k = true) : isRow (k + 1) = true := hp_ct h (p := fun k => isRow (k + 1) = true) (by decide)
theorem rcf0_0 (b : Bool) {t : List AV} (h : isBl k = true) : a_recv (hp L b I J) 4 (vr (k + 1) :: t) = true := rcv_of b (kRow0 b (isf0_0 h)) rfl (Nat.succ_pos _)
theorem isf0_1 (h : isBl k = true) : isRow (k + 3) = true := hp_ct h (p := fun k => isRow (k + 3) = true) (by decide)
theorem rcf0_1 (b : Bool) {t : List AV} (h : isBl k = true) : a_recv (hp L b I J) 4 (vr (k + 3) :: t) = true := rcv_of b (kRow0 b (isf0_1 h)) rfl (Nat.succ_pos _)
theorem isf0_2 (h : isBl k = true) : isRow (k + 5) = true := hp_ct h (p := fun k => isRow (k + 5) = true) (by decide)
theorem rcf0_2 (b : Bool) {t : List AV} (h : isBl k = true) : a_recv (hp L b I J) 4 (vr (k + 5) :: t) = true := rcv_of b (kRow0 b (isf0_2 h)) rfl (Nat.succ_pos _)
theorem isf0_3 (h : isBl k = true) : isDiff (k + 10) = true := hp_ct h (p := fun k => isDiff (k + 10) = true) (by decide)
theorem rcf0_3 (b : Bool) {t : List AV} (h : isBl k = true) : a_recv (hp L b I J) 1 (vr (k + 10) :: t) = true := rcv_of b (kDiff0 b (isf0_3 h)) rfl (Nat.succ_pos _)
theorem isf0_4 (h : isBl k = true) : isDiff (k + 13) = true := hp_ct h (p := fun k => isDiff (k + 13) = true) (by decide)
theorem rcf0_4 (b : Bool) {t : List AV} (h : isBl k = true) : a_recv (hp L b I J) 1 (vr (k + 13) :: t) = true := rcv_of b (kDiff0 b (isf0_4 h)) rfl (Nat.succ_pos _)
theorem rcg0 (b : Bool) {t : List AV} (h : isBl k = true) : a_recv (hp L b I J) 0 (vr k :: t) = true := rcv_of b (kBl0 b h) rfl (gpos h (by decide))
theorem rcg1 (b : Bool) {t : List AV} (h : isDiff k = true) : a_recv (hp L b I J) 1 (vr k :: t) = true := rcv_of b (kDiff0 b h) rfl (gpos h (by decide))
theorem rcg4 (b : Bool) {t : List AV} (h : isRow k = true) : a_recv (hp L b I J) 4 (vr k :: t) = true := rcv_of b (kRow0 b h) rfl (gpos h (by decide))
theorem rcg6 (b : Bool) {t : List AV} (h : isSet k = true) : a_recv (hp L b I J) 6 (vr k :: t) = true := rcv_of b (kSet0 b h) rfl (gpos h (by decide))
end HG
