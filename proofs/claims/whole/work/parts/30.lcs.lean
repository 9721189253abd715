/-! THE MOST PAIRS of two rows, from a line of each on -/
def lrow (f g : Int → Int) (n m : Int) (r : Nat → Int) (p : Nat) : Nat → Int
  | 0 => 0
  | q + 1 => if f (n - (p + 1)) = g (m - (q + 1)) then r q + 1 else if lrow f g n m r p q < r (q + 1) then r (q + 1) else lrow f g n m r p q
def lc (f g : Int → Int) (n m : Int) : Nat → Nat → Int
  | 0 => fun _ => 0
  | p + 1 => lrow f g n m (lc f g n m p) p
/-- of row f from line i of n on, and row g from line j of m on -/
def tb (f g : Int → Int) (n m i j : Int) : Int := lc f g n m (n - i).toNat (m - j).toNat
section
variable {f g : Int → Int} {n m : Int}
theorem tb_n {j : Int} : tb f g n m n j = 0 := by unfold tb; rw [Int.sub_self]; rfl
theorem lc_0 : ∀ p, lc f g n m p 0 = 0
  | 0 => rfl
  | _ + 1 => rfl
theorem tb_m {i : Int} : tb f g n m i m = 0 := by unfold tb; rw [Int.sub_self]; exact lc_0 _
theorem tb_s {i j : Int} (hi : i < n) (hj : j < m) : tb f g n m i j = if f i = g j then tb f g n m (i + 1) (j + 1) + 1 else if tb f g n m i (j + 1) < tb f g n m (i + 1) j then tb f g n m (i + 1) j else tb f g n m i (j + 1) := by
  unfold tb
  obtain ⟨p, hp⟩ : ∃ p : Nat, (n - i).toNat = p + 1 := ⟨(n - i).toNat - 1, by omega⟩
  obtain ⟨q, hq⟩ : ∃ q : Nat, (m - j).toNat = q + 1 := ⟨(m - j).toNat - 1, by omega⟩
  rw [hp, hq, show (n - (i + 1)).toNat = p by omega, show (m - (j + 1)).toNat = q by omega]
  show (if f (n - (p + 1)) = g (m - (q + 1)) then _ else _) = _
  rw [show n - ((p : Int) + 1) = i by omega, show m - ((q : Int) + 1) = j by omega]
  rfl
theorem lc_nn : ∀ p q, 0 ≤ lc f g n m p q := by
  intro p
  induction p with
  | zero => intro q; exact Int.le_refl 0
  | succ p ih =>
    intro q
    induction q with
    | zero => exact Int.le_refl 0
    | succ q ihq =>
      show 0 ≤ lrow f g n m (lc f g n m p) p (q + 1)
      have ihq : 0 ≤ lrow f g n m (lc f g n m p) p q := ihq
      unfold lrow
      split
      · have := ih q; omega
      · split
        · exact ih (q + 1)
        · exact ihq
/-- one line more gives at most one pair more -/
theorem lc_mono : ∀ p q, (lc f g n m p q ≤ lc f g n m (p + 1) q ∧ lc f g n m (p + 1) q ≤ lc f g n m p q + 1) ∧ (lc f g n m p q ≤ lc f g n m p (q + 1) ∧ lc f g n m p (q + 1) ≤ lc f g n m p q + 1) := by
  intro p
  induction p with
  | zero =>
    intro q
    refine ⟨?_, by constructor <;> (show (0 : Int) ≤ _; first | exact Int.le_refl 0 | (show (0 : Int) ≤ 0 + 1; decide))⟩
    refine ⟨lc_nn _ _, ?_⟩
    show lrow f g n m (lc f g n m 0) 0 q ≤ 0 + 1
    induction q with
    | zero => show (0 : Int) ≤ 0 + 1; decide
    | succ q ihq =>
      unfold lrow
      split
      · show (0 : Int) + 1 ≤ 0 + 1; decide
      · split
        · show (0 : Int) ≤ 0 + 1; decide
        · exact ihq
  | succ p ih =>
    have row : ∀ q, lc f g n m (p + 1) q ≤ lc f g n m (p + 1) (q + 1) ∧ lc f g n m (p + 1) (q + 1) ≤ lc f g n m (p + 1) q + 1 := by
      intro q
      have e : lc f g n m (p + 1) (q + 1) = if f (n - (p + 1)) = g (m - (q + 1)) then lc f g n m p q + 1 else if lc f g n m (p + 1) q < lc f g n m p (q + 1) then lc f g n m p (q + 1) else lc f g n m (p + 1) q := rfl
      have h1 := ih q
      have h2 := ih (q + 1)
      rw [e]
      split
      · omega
      · split <;> omega
    intro q
    refine ⟨?_, row q⟩
    induction q with
    | zero => rw [lc_0, lc_0]; decide
    | succ q ihq =>
      have e : lc f g n m (p + 1 + 1) (q + 1) = if f (n - ((p + 1 : Nat) + 1)) = g (m - (q + 1)) then lc f g n m (p + 1) q + 1 else if lc f g n m (p + 1 + 1) q < lc f g n m (p + 1) (q + 1) then lc f g n m (p + 1) (q + 1) else lc f g n m (p + 1 + 1) q := rfl
      have h1 := row q
      rw [e]
      split
      · omega
      · split <;> omega
end
