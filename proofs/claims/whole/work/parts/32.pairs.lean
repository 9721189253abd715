/-! THE DIFF's row of pairs: what it is -/
section
variable {f g : Int → Int} {n m : Int}
theorem tb_ex : ∀ (N : Nat) (i j : Int), (n - i).toNat + (m - j).toNat = N → i ≤ n → j ≤ m → 0 < tb f g n m i j → ∃ x y, (i ≤ x ∧ x < n) ∧ (j ≤ y ∧ y < m) ∧ f x = g y ∧ tb f g n m (x + 1) (y + 1) + 1 = tb f g n m i j := by
  intro N
  induction N with
  | zero => intro i j hN hi hj h; rw [show i = n by omega, tb_n] at h; omega
  | succ N ih =>
    intro i j hN hi hj h
    by_cases c1 : i = n
    · rw [c1, tb_n] at h; omega
    by_cases c2 : j = m
    · rw [c2, tb_m] at h; omega
    have e := tb_s (f := f) (g := g) (n := n) (m := m) (i := i) (j := j) (by omega) (by omega)
    by_cases c3 : f i = g j
    · rw [if_pos c3] at e
      exact ⟨i, j, ⟨by omega, by omega⟩, ⟨by omega, by omega⟩, c3, e.symm⟩
    · rw [if_neg c3] at e
      by_cases c4 : tb f g n m i (j + 1) < tb f g n m (i + 1) j
      · rw [if_pos c4] at e
        obtain ⟨x, y, h1, h2, h3, h4⟩ := ih (i + 1) j (by omega) (by omega) hj (by omega)
        exact ⟨x, y, ⟨by omega, h1.2⟩, h2, h3, by omega⟩
      · rw [if_neg c4] at e
        obtain ⟨x, y, h1, h2, h3, h4⟩ := ih i (j + 1) (by omega) hi (by omega) (by omega)
        exact ⟨x, y, h1, ⟨by omega, h2.2⟩, h3, by omega⟩
theorem lc_sym : ∀ p q, lc f g n m p q = lc g f m n q p := by
  intro p
  induction p with
  | zero => intro q; exact (lc_0 q).symm
  | succ p ih =>
    intro q
    induction q with
    | zero => exact lc_0 _
    | succ q ihq =>
      have e1 : lc f g n m (p + 1) (q + 1) = if f (n - (p + 1)) = g (m - (q + 1)) then lc f g n m p q + 1 else if lc f g n m (p + 1) q < lc f g n m p (q + 1) then lc f g n m p (q + 1) else lc f g n m (p + 1) q := rfl
      have e2 : lc g f m n (q + 1) (p + 1) = if g (m - (q + 1)) = f (n - (p + 1)) then lc g f m n q p + 1 else if lc g f m n (q + 1) p < lc g f m n q (p + 1) then lc g f m n q (p + 1) else lc g f m n (q + 1) p := rfl
      rw [e1, e2, ih q, ← ihq, ← ih (q + 1)]
      by_cases c : f (n - (p + 1)) = g (m - (q + 1))
      · rw [if_pos c, if_pos c.symm]
      · rw [if_neg c, if_neg (show ¬ g (m - (q + 1)) = f (n - (p + 1)) from fun z => c z.symm)]
        split <;> split <;> omega
theorem tb_sym (i j : Int) : tb f g n m i j = tb g f m n j i := lc_sym _ _
theorem tb_bd2 {i j : Int} (h : j ≤ m) : 0 ≤ tb f g n m i j ∧ tb f g n m i j ≤ m - j := by rw [tb_sym]; exact tb_bd h
theorem tb_self : ∀ (N : Nat) (i : Int), (n - i).toNat = N → i ≤ n → tb f f n n i i = n - i := by
  intro N
  induction N with
  | zero => intro i hN h; rw [show i = n by omega, tb_n]; omega
  | succ N ih =>
    intro i hN h
    rw [tb_s (by omega) (by omega), if_pos rfl, ih (i + 1) (by omega) (by omega)]; omega
end
/-- where the k-th pair is looked for -/
def sq (p : Int → Int) (k : Int) : Int := if k = 0 then 0 else p (k - 1) + 1
theorem sq_0 (p : Int → Int) : sq p 0 = 0 := if_pos rfl
theorem sq_s (p : Int → Int) {k : Int} (h : 0 ≤ k) : sq p (k + 1) = p k + 1 := by
  unfold sq; rw [if_neg (by omega), show k + 1 - 1 = k by omega]
theorem sq_cg {p q : Int → Int} {k : Int} (h : ∀ j, 0 ≤ j → j < k → p j = q j) (h0 : 0 ≤ k) : sq p k = sq q k := by
  unfold sq
  by_cases c : k = 0
  · rw [if_pos c, if_pos c]
  · rw [if_neg c, if_neg c, h (k - 1) (by omega) (by omega)]
def PS (f g : Int → Int) (n m : Int) (p q : Int → Int) (k : Int) : Prop := (sq p k ≤ p k ∧ p k < n) ∧ (sq q k ≤ q k ∧ q k < m) ∧ f (p k) = g (q k) ∧ tb f g n m (p k + 1) (q k + 1) + 1 = tb f g n m 0 0 - k ∧ ∀ x y, sq p k ≤ x → sq q k ≤ y → y < m → (x < p k ∨ (x = p k ∧ y < q k)) → f x = g y → tb f g n m (x + 1) (y + 1) + 1 ≠ tb f g n m 0 0 - k
def PO (f g : Int → Int) (n m : Int) (p q : Int → Int) (c : Int) : Prop := ∀ k, 0 ≤ k → k < c → PS f g n m p q k
section
variable {f g : Int → Int} {n m : Int} {p q p' q' : Int → Int}
theorem PS_cg {k : Int} (h0 : 0 ≤ k) (h : ∀ j, 0 ≤ j → j ≤ k → p j = p' j ∧ q j = q' j) (z : PS f g n m p q k) : PS f g n m p' q' k := by
  have e1 := sq_cg (p := p) (q := p') (k := k) (fun j a b => (h j a (by omega)).1) h0
  have e2 := sq_cg (p := q) (q := q') (k := k) (fun j a b => (h j a (by omega)).2) h0
  have e3 := h k h0 (Int.le_refl k)
  unfold PS at z ⊢
  rw [← e1, ← e2, ← e3.1, ← e3.2]
  exact z
theorem PO_cg {c : Int} (h : ∀ j, 0 ≤ j → j < c → p j = p' j ∧ q j = q' j) (z : PO f g n m p q c) : PO f g n m p' q' c := fun k h0 h1 => PS_cg h0 (fun j a b => h j a (by omega)) (z k h0 h1)
theorem PO_un {c : Int} (h : PO f g n m p q c) (h' : PO f g n m p' q' c) : ∀ (N : Nat) (k : Int), k.toNat < N → 0 ≤ k → k < c → p k = p' k ∧ q k = q' k := by
  intro N
  induction N with
  | zero => intro k h1; omega
  | succ N ih =>
    intro k h1 h2 h3
    have e1 : sq p k = sq p' k := sq_cg (fun j a b => (ih j (by omega) a (by omega)).1) h2
    have e2 : sq q k = sq q' k := sq_cg (fun j a b => (ih j (by omega) a (by omega)).2) h2
    obtain ⟨a1, a2, a3, a4, a5⟩ := h k h2 h3
    obtain ⟨b1, b2, b3, b4, b5⟩ := h' k h2 h3
    have x1 : ¬ p k < p' k := fun z => b5 (p k) (q k) (by omega) (by omega) (by omega) (Or.inl z) a3 a4
    have x2 : ¬ p' k < p k := fun z => a5 (p' k) (q' k) (by omega) (by omega) (by omega) (Or.inl z) b3 b4
    have x3 : p k = p' k := by omega
    have x4 : ¬ q k < q' k := fun z => b5 (p k) (q k) (by omega) (by omega) (by omega) (Or.inr ⟨x3, z⟩) a3 a4
    have x5 : ¬ q' k < q k := fun z => a5 (p' k) (q' k) (by omega) (by omega) (by omega) (Or.inr ⟨x3.symm, z⟩) b3 b4
    exact ⟨x3, by omega⟩
/-- pairs rise -/
theorem PO_ris {c : Int} (h : PO f g n m p q c) : ∀ (N : Nat) (i j : Int), (j - i).toNat = N → 0 ≤ i → i < j → j < c → p i < p j ∧ q i < q j := by
  intro N
  induction N with
  | zero => intro i j h1 h2 h3 h4; omega
  | succ N ih =>
    intro i j h1 h2 h3 h4
    obtain ⟨a1, a2, -⟩ := h j (by omega) h4
    have e1 : sq p j = p (j - 1) + 1 := by unfold sq; rw [if_neg (by omega)]
    have e2 : sq q j = q (j - 1) + 1 := by unfold sq; rw [if_neg (by omega)]
    by_cases c : i = j - 1
    · rw [c]; omega
    · have := ih i (j - 1) (by omega) h2 (by omega) (by omega); omega
theorem PO_nn {c : Int} (h : PO f g n m p q c) : ∀ (N : Nat) (k : Int), k.toNat = N → 0 ≤ k → k < c → 0 ≤ p k ∧ 0 ≤ q k := by
  intro N k hN h0 h1
  obtain ⟨a1, a2, -⟩ := h 0 (Int.le_refl 0) (by omega)
  rw [sq_0] at a1 a2
  by_cases c : k = 0
  · rw [c]; omega
  · have := PO_ris h _ 0 k rfl (Int.le_refl 0) (by omega) h1; omega
end
noncomputable def pIJ (f g : Int → Int) (n m : Int) : (Int → Int) × (Int → Int) := Classical.epsilon (fun z : (Int → Int) × (Int → Int) => PO f g n m z.1 z.2 (tb f g n m 0 0))
noncomputable def pI (f g : Int → Int) (n m : Int) : Int → Int := (pIJ f g n m).1
noncomputable def pJ (f g : Int → Int) (n m : Int) : Int → Int := (pIJ f g n m).2
noncomputable def pc (f g : Int → Int) (n m : Int) : Int := tb f g n m 0 0
/-- cells hold the row of pairs -/
def Pr (f g : Int → Int) (n m c : Int) (p q : Int → Int) : Prop := c = pc f g n m ∧ ∀ k, 0 ≤ k → k < c → p k = pI f g n m k ∧ q k = pJ f g n m k
theorem Pr_of {f g : Int → Int} {n m c : Int} {p q : Int → Int} (hc : c = tb f g n m 0 0) (h : PO f g n m p q c) : Pr f g n m c p q := by
  subst hc
  have h' : PO f g n m (pIJ f g n m).1 (pIJ f g n m).2 (tb f g n m 0 0) := Classical.epsilon_spec (p := fun z : (Int → Int) × (Int → Int) => PO f g n m z.1 z.2 (tb f g n m 0 0)) ⟨(p, q), h⟩
  exact ⟨rfl, fun k h0 h1 => PO_un h h' _ k (Nat.lt_succ_self _) h0 h1⟩
theorem Pr.po {f g : Int → Int} {n m c : Int} {p q : Int → Int} (h : PO f g n m p q c) (hc : c = tb f g n m 0 0) : PO f g n m (pI f g n m) (pJ f g n m) (pc f g n m) := by
  subst hc
  exact Classical.epsilon_spec (p := fun z : (Int → Int) × (Int → Int) => PO f g n m z.1 z.2 (tb f g n m 0 0)) ⟨(p, q), h⟩
theorem pc_bd {f g : Int → Int} {n m : Int} (hn : 0 ≤ n) (hm : 0 ≤ m) : 0 ≤ pc f g n m ∧ pc f g n m ≤ n ∧ pc f g n m ≤ m := by
  have h1 := tb_bd (f := f) (g := g) (n := n) (m := m) (i := 0) (j := 0) hn
  have h2 := tb_bd2 (f := f) (g := g) (n := n) (m := m) (i := 0) (j := 0) hm
  unfold pc
  omega
theorem pc_sym (f g : Int → Int) (n m : Int) : pc f g n m = pc g f m n := tb_sym _ _
/-- the mate of a line -/
noncomputable def mt (p q : Int → Int) (c i : Int) : Int := if lst (fun k => p k = i) c.toNat 0 < 0 then -1 else q (lst (fun k => p k = i) c.toNat 0)
theorem mt_s (p q : Int → Int) (c i : Int) : (mt p q c i = -1 ∧ ∀ k, 0 ≤ k → k < c → p k ≠ i) ∨ ∃ k, (0 ≤ k ∧ k < c) ∧ p k = i ∧ mt p q c i = q k := by
  unfold mt
  rcases lst_s (p := fun k => p k = i) c.toNat 0 with ⟨h1, h2⟩ | ⟨h1, h2, h3⟩
  · exact Or.inl ⟨by rw [h1]; rfl, fun k h0 hk => h2 k h0 (by omega)⟩
  · exact Or.inr ⟨_, ⟨h1, by omega⟩, h3, by rw [if_neg (by omega)]⟩
theorem mt_cg {p q p' q' : Int → Int} {c i : Int} (h : ∀ k, 0 ≤ k → k < c → p k = p' k ∧ q k = q' k) : mt p q c i = mt p' q' c i := by
  unfold mt
  rw [lst_cg (p := fun k => p k = i) (q := fun k => p' k = i) c.toNat 0 (fun j h1 h2 => by rw [(h j h1 (by omega)).1])]
  rcases lst_s (p := fun k => p' k = i) c.toNat 0 with ⟨h1, h2⟩ | ⟨h1, h2, h3⟩
  · rw [if_pos (by omega), if_pos (by omega)]
  · rw [if_neg (by omega), if_neg (by omega), (h _ h1 (by omega)).2]
