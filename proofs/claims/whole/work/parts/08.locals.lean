/-! values in range, locals, the heap's own order -/
def VOK (v : AV) : Prop := match v with
  | Sum.inl x => inR x
  | _ => True
def SOK (st : List AV) : Prop := ∀ v ∈ st, VOK v
def LOK (l : LO) : Prop := ∀ v, some v ∈ l → VOK v
theorem SOK.tl {v : AV} {r : List AV} (h : SOK (v :: r)) : SOK r := fun w hw => h w (List.mem_cons_of_mem _ hw)
theorem SOK.hd {x : Int} {r : List AV} (h : SOK (Sum.inl x :: r)) : inR x := h _ List.mem_cons_self
theorem SOK.cs {v : AV} {r : List AV} (hv : VOK v) (h : SOK r) : SOK (v :: r) := fun w hw => (List.mem_cons.mp hw).elim (fun e => e ▸ hv) (h w)
def HpOK (h : Hp) : Prop := 0 < h.1.length ∧ (∀ k j, inR (h.2.1 k j)) ∧ ∀ k, h.1.length ≤ k → ∀ j, h.2.1 k j = 0 ∧ h.2.2.1 k j = 0 ∧ h.2.2.2 k j = none
def Lv (b n0 : Nat) (ls : Array Slot) (nL : Nat) (l : LO) : Prop := ls.size = nL ∧ lv_wf ls ∧ l.length = nL ∧ ∀ (i : Nat) (v : AV), l[i]? = some (some v) → ls[i]? = some (Slot.val (c_v b n0 v))
def lvOf (b n0 : Nat) (l : LO) : List (Nat × Value) := (List.range l.length).filterMap fun i => match l[i]? with
  | some (some v) => some (i, c_v b n0 v)
  | _ => none
theorem mem_lvOf {b n0 : Nat} {l : LO} {i : Nat} {w : Value} : (i, w) ∈ lvOf b n0 l ↔ ∃ v, l[i]? = some (some v) ∧ w = c_v b n0 v := by
  unfold lvOf
  rw [List.mem_filterMap]
  constructor
  · intro ⟨j, _, e⟩
    split at e
    · rename_i v hv
      cases e
      exact ⟨v, hv, rfl⟩
    · cases e
  · intro ⟨v, hv, e⟩
    refine ⟨i, List.mem_range.mpr (List.getElem?_eq_some_iff.mp hv).1, ?_⟩
    rw [hv, e]
theorem Lv.has {b n0 : Nat} {ls : Array Slot} {nL : Nat} {l : LO} (h : Lv b n0 ls nL l) : lv_has ls nL (lvOf b n0 l) := ⟨h.1, h.2.1, fun q hq => by
  obtain ⟨i, w⟩ := q
  obtain ⟨v, hv, rfl⟩ := mem_lvOf.mp hq
  exact h.2.2.2 i v hv⟩
theorem c_v_cat {b n0 : Nat} {v : AV} (h : a_cat v = true) : (c_v b n0 v).category = 1 := by
  rcases v with x | x | r
  · rfl
  · cases h
  · cases r <;> rfl
theorem Lv.store1 {b n0 : Nat} {ls ls' : Array Slot} {nL i : Nat} {l : LO} (h : Lv b n0 ls nL l) (hs : s_ok l i = true) (v : AV)
    (h' : lv_has ls' nL ((i, c_v b n0 v) :: (lvOf b n0 l).filter (fun q => !(q.1 == i) && !(q.1 + 1 == i && q.2.category == 2)))) : Lv b n0 ls' nL (l.set i (some v)) := by
  refine ⟨h'.1, h'.2.1, by rw [List.length_set]; exact h.2.2.1, fun j w hw => ?_⟩
  rw [List.getElem?_set] at hw
  by_cases hij : i = j
  · subst hij
    rw [if_pos rfl] at hw
    split at hw
    · cases hw
      exact h'.2.2 (i, c_v b n0 v) List.mem_cons_self
    · cases hw
  · rw [if_neg hij] at hw
    refine h'.2.2 (j, c_v b n0 w) (List.mem_cons_of_mem _ (List.mem_filter.mpr ⟨mem_lvOf.mpr ⟨w, hw, rfl⟩, ?_⟩))
    have h1 : (j == i) = false := by simp; omega
    simp only [h1, Bool.not_false, Bool.true_and]
    by_cases h2 : j + 1 = i
    · unfold s_ok at hs
      rw [Bool.and_eq_true, Bool.or_eq_true] at hs
      have hs := hs.2.resolve_left (fun z => by have := of_decide_eq_true z; omega)
      rw [show i - 1 = j by omega, hw] at hs
      have h3 : (c_v b n0 w).category = 1 := by
        apply c_v_cat
        rcases w with x | x | r
        · rfl
        · simp at hs
        · rfl
      rw [h3]
      simp
    · have h3 : (j + 1 == i) = false := by simp; omega
      rw [h3]; rfl
theorem Lv.store2 {b n0 : Nat} {ls ls' : Array Slot} {nL : Nat} {l : LO} (h : Lv b n0 ls nL l) (x : BitVec 64) (h1 : 0 + 1 < l.length)
    (h' : lv_has ls' nL ((0, c_v b n0 (vl x)) :: (lvOf b n0 l).filter (fun q => !(q.1 == 0) && (!(q.1 == 0 + 1) && !(q.1 + 1 == 0 && q.2.category == 2))))) : Lv b n0 ls' nL ((l.set 0 (some (vl x))).set (0 + 1) none) := by
  refine ⟨h'.1, h'.2.1, by rw [List.length_set, List.length_set]; exact h.2.2.1, fun j w hw => ?_⟩
  rw [List.getElem?_set] at hw
  by_cases hij : 0 + 1 = j
  · rw [if_pos hij] at hw
    split at hw <;> cases hw
  · rw [if_neg hij, List.getElem?_set] at hw
    by_cases hi0 : 0 = j
    · subst hi0
      rw [if_pos rfl] at hw
      split at hw
      · cases hw
        exact h'.2.2 (0, c_v b n0 (vl x)) List.mem_cons_self
      · cases hw
    · rw [if_neg hi0] at hw
      refine h'.2.2 (j, c_v b n0 w) (List.mem_cons_of_mem _ (List.mem_filter.mpr ⟨mem_lvOf.mpr ⟨w, hw, rfl⟩, ?_⟩))
      have e1 : (j == 0) = false := by simp; omega
      have e2 : (j == 0 + 1) = false := by simp; omega
      have e3 : (j + 1 == 0) = false := by simp
      simp [e1, e2, e3]
theorem Lv.kill {b n0 : Nat} {ls : Array Slot} {nL : Nat} : ∀ (ks : List Nat) {l : LO}, Lv b n0 ls nL l → Lv b n0 ls nL (a_kill ks l)
  | [], _, h => h
  | k :: ks, l, h => by
    show Lv b n0 ls nL (a_kill ks (l.set k none))
    refine Lv.kill ks ⟨h.1, h.2.1, by rw [List.length_set]; exact h.2.2.1, fun j w hw => ?_⟩
    rw [List.getElem?_set] at hw
    by_cases hij : k = j
    · rw [if_pos hij] at hw
      split at hw <;> cases hw
    · rw [if_neg hij] at hw
      exact h.2.2.2 j w hw
theorem LOK.set {l : LO} (h : LOK l) (i : Nat) {x : Option AV} (hx : ∀ v, x = some v → VOK v) : LOK (l.set i x) := fun v hv => by
  rcases List.mem_or_eq_of_mem_set hv with h1 | h1
  · exact h v h1
  · exact hx v h1.symm
theorem LOK.kill : ∀ (ks : List Nat) {l : LO}, LOK l → LOK (a_kill ks l)
  | [], _, h => h
  | k :: ks, l, h => by
    show LOK (a_kill ks (l.set k none))
    exact LOK.kill ks (h.set k (fun v e => by cases e))
theorem g_i_some {l : LO} {i : Nat} {x : Int} (h : g_i l i = some x) : l[i]? = some (some (vi x)) := by
  unfold g_i at h
  split at h
  · rename_i y hy; cases h; exact hy
  · cases h
theorem g_l_some {l : LO} {i : Nat} {x : BitVec 64} (h : g_l l i = some x) : l[i]? = some (some (vl x)) := by
  unfold g_l at h
  split at h
  · rename_i y hy; cases h; exact hy
  · cases h
theorem g_r_some {l : LO} {i : Nat} {x : Nat} (h : g_r l i = some x) : l[i]? = some (some (vr x)) := by
  unfold g_r at h
  split at h
  · rename_i y hy; cases h; exact hy
  · cases h
theorem LOK.gi {l : LO} (h : LOK l) {i : Nat} {x : Int} (hx : g_i l i = some x) : inR x := h (vi x) (List.mem_of_getElem? (g_i_some hx))
/-! words -/
def gw : List Jvm.Cond := lw_tbl.filter goodWord
def i_nest (c : Jvm.Cond) : Bool := match c with
  | .fieldLinkNest _ _ _ _ _ _ => true
  | .methodLinkNest _ _ _ _ => true
  | _ => false
def NB (U : State) : Prop := (∀ w ∈ lw_tbl, i_nest w = true → va_Nw w U) ∧ va_AO "VersionVault$Row" U
theorem w_is_in {w : Nat} {c : Jvm.Cond} (h : w_is w c = true) : c ∈ lw_tbl := List.mem_of_getElem? (of_decide_eq_true h)
theorem w_ok_in {w : Nat} {c : Jvm.Cond} (h : w_ok w c = true) : c ∈ gw := by
  unfold w_ok at h
  rw [Bool.and_eq_true] at h
  exact List.mem_filter.mpr ⟨w_is_in h.1, h.2⟩
theorem gw_good : GoodIn gw gw := fun w hw => ⟨hw, good_of_word (List.mem_filter.mp hw).2⟩
theorem ok_dec_t {M pc : Nat} {i : Instr} (h : ok_dec M pc i = true) : ∃ n, decode (a_cc M) pc = .ok (i, n) ∧ (n = i_len i ∨ i_ts i = true) := by
  unfold ok_dec at h
  split at h
  · rename_i j n hd
    rw [Bool.and_eq_true, Bool.or_eq_true] at h
    have e1 : j = i := of_decide_eq_true h.1
    subst e1
    exact ⟨n, hd, h.2.imp (fun z => of_decide_eq_true z) id⟩
  · cases h
theorem ok_dec_n {M pc : Nat} {i : Instr} (h : ok_dec M pc i = true) (hi : i_ts i = false) : decode (a_cc M) pc = .ok (i, i_len i) := by
  obtain ⟨n, h1, h2⟩ := ok_dec_t h
  rcases h2 with h2 | h2
  · rw [← h2]; exact h1
  · rw [hi] at h2; cases h2
theorem vw_lt {ci : Nat} {q : vw_C} (h : vwCl[ci]? = some q) : ci < 12 := (List.getElem?_eq_some_iff.mp h).1
theorem lays_in {ci N : Nat} {C : String} {T : u_T} (h : (List.range N).all (fun k => w_ok (pl_f ci k) (u_lay C T k)) = true) : ∀ w ∈ u_ws C T N, w ∈ gw := by
  intro w hw
  obtain ⟨k, hk, rfl⟩ := List.mem_map.mp hw
  exact w_ok_in (List.all_eq_true.mp h k hk)
theorem vw_all {ci : Nat} {C : String} {T : u_T} {N : Nat} (h : vwCl[ci]? = some (C, T, N)) : (∀ w ∈ u_ws C T N, w ∈ gw) ∧ (a_cls ci).1 = N ∧ (∀ k, k < N → parseFieldDescriptor (T k).2.2.1 = some ((a_cls ci).2 k)) ∧ (∀ a, a < N → ∀ b, b < N → a ≠ b → (T a).2.1 ≠ (T b).2.1) := by
  have hlt := vw_lt h
  match ci, hlt, h with
  | 0, _, h => cases h; exact ⟨lays_in lays_0, rfl, tyX0_ok, nmX0⟩
  | 1, _, h => cases h; exact ⟨lays_in lays_1, rfl, tyX1_ok, nmX1⟩
  | 2, _, h => cases h; exact ⟨lays_in lays_2, rfl, tyX2_ok, nmX2⟩
  | 3, _, h => cases h; exact ⟨lays_in lays_3, rfl, tyX3_ok, nmX3⟩
  | 4, _, h => cases h; exact ⟨lays_in lays_4, rfl, tyX4_ok, nmX4⟩
  | 5, _, h => cases h; exact ⟨lays_in lays_5, rfl, tyX5_ok, nmX5⟩
  | 6, _, h => cases h; exact ⟨lays_in lays_6, rfl, tyX6_ok, nmX6⟩
  | 7, _, h => cases h; exact ⟨lays_in lays_7, rfl, tyX7_ok, nmX7⟩
  | 8, _, h => cases h; exact ⟨lays_in lays_8, rfl, tyX8_ok, nmX8⟩
  | 9, _, h => cases h; exact ⟨lays_in lays_9, rfl, tyX9_ok, nmX9⟩
  | 10, _, h => cases h; exact ⟨lays_in lays_10, rfl, tyX10_ok, nmX10⟩
  | 11, _, h => cases h; exact ⟨lays_in lays_11, rfl, tyX11_ok, nmX11⟩
  | n + 12, hlt, _ => omega
