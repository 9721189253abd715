/-! THE PURE MACHINE IS TRUE OF THE REAL ONE. Numbers into the machine's values, cells into its cells. -/
def c_g (b n0 k : Nat) : Nat := if k = 0 then b else n0 + (k - 1)
def c_v (b n0 : Nat) (v : AV) : Value := match v with
  | Sum.inl x => .int (Int32.ofInt x)
  | Sum.inr (Sum.inl x) => .long (Int64.ofBitVec x)
  | Sum.inr (Sum.inr r) => va_rf (r.map (c_g b n0))
def c_f (b n0 : Nat) (h : Hp) (ci k j : Nat) : Value := match a_fty ci j with
  | 3 => .long (Int64.ofBitVec (h.2.2.1 k j))
  | 4 => va_rf ((h.2.2.2 k j).map (c_g b n0))
  | _ => .int (Int32.ofInt (h.2.1 k j))
def c_k (b n0 : Nat) (cA : Nat → ClassId) (h : Hp) (k t n : Nat) : va_E :=
  if t = 3 then .inl (cA 3, n, .inr (.inl fun j : Nat => Int64.ofBitVec (h.2.2.1 k j)))
  else if t = 4 then .inl (cA 4, n, .inr (.inr (.inr (.inr fun j : Nat => (h.2.2.2 k j).map (c_g b n0)))))
  else if t < 10 then .inl (cA t, n, .inl fun j : Nat => Int32.ofInt (h.2.1 k j))
  else .inr (t - 10, (List.range n).map (fun j => c_f b n0 h (t - 10) k j))
def c_e (b n0 : Nat) (cA : Nat → ClassId) (h : Hp) (k : Nat) : va_E := match h.1[k]? with
  | some (t, n) => c_k b n0 cA h k t n
  | none => .inr (0, [])
def c_ws (b n0 : Nat) (cA : Nat → ClassId) (h : Hp) : va_W := (List.range (h.1.length - 1)).map fun i => (n0 + i, c_e b n0 cA h (i + 1))
theorem c_ws_len (b n0 : Nat) (cA : Nat → ClassId) (h : Hp) : (c_ws b n0 cA h).length = h.1.length - 1 := by simp [c_ws]
theorem c_ws_get (b n0 : Nat) (cA : Nat → ClassId) (h : Hp) {k : Nat} (h0 : 0 < k) (hk : k < h.1.length) : (c_ws b n0 cA h)[k - 1]? = some (c_g b n0 k, c_e b n0 cA h k) := by
  unfold c_ws c_g
  rw [List.getElem?_map, List.getElem?_range (by omega), if_neg (by omega)]
  simp only [Option.map_some]
  rw [show k - 1 + 1 = k by omega]
theorem c_ws_ix (b n0 : Nat) (cA : Nat → ClassId) (h : Hp) {i : Nat} {q : Nat × va_E} (hq : (c_ws b n0 cA h)[i]? = some q) : i < h.1.length - 1 ∧ q = (n0 + i, c_e b n0 cA h (i + 1)) := by
  have hi : i < (c_ws b n0 cA h).length := (List.getElem?_eq_some_iff.mp hq).1
  rw [c_ws_len] at hi
  unfold c_ws at hq
  rw [List.getElem?_map, List.getElem?_range hi] at hq
  exact ⟨hi, (Option.some.inj hq).symm⟩
theorem c_ws_D (b n0 : Nat) (cA : Nat → ClassId) (h : Hp) : va_D (fun q => n0 ≤ q) (c_ws b n0 cA h) := by
  refine ⟨fun i j p q hp hq e => ?_, fun k q hq => ?_⟩
  · rw [(c_ws_ix b n0 cA h hp).2, (c_ws_ix b n0 cA h hq).2] at e
    have e : n0 + i = n0 + j := e
    omega
  · rw [(c_ws_ix b n0 cA h hq).2]
    exact Nat.le_add_right _ _
theorem c_ws_set (b n0 : Nat) (cA : Nat → ClassId) {h h' : Hp} {k : Nat} (h0 : 0 < k) (hk : k < h.1.length) (e1 : h'.1 = h.1) (e2 : ∀ j, 0 < j → j ≠ k → c_e b n0 cA h' j = c_e b n0 cA h j) : c_ws b n0 cA h' = (c_ws b n0 cA h).set (k - 1) (c_g b n0 k, c_e b n0 cA h' k) := by
  apply List.ext_getElem?
  intro i
  rw [List.getElem?_set]
  by_cases hi : i < h.1.length - 1
  · have g1 := c_ws_get b n0 cA h' (k := i + 1) (by omega) (by rw [e1]; omega)
    have g2 := c_ws_get b n0 cA h (k := i + 1) (by omega) (by omega)
    rw [show i + 1 - 1 = i by omega] at g1 g2
    by_cases hik : k - 1 = i
    · rw [if_pos hik, if_pos (by rw [c_ws_len]; omega), g1, show i + 1 = k by omega]
    · rw [if_neg hik, g1, g2, e2 (i + 1) (by omega) (by omega)]
  · rw [if_neg (by omega), List.getElem?_eq_none (by rw [c_ws_len, e1]; omega), List.getElem?_eq_none (by rw [c_ws_len]; omega)]
theorem c_ws_app (b n0 : Nat) (cA : Nat → ClassId) {h h' : Hp} {x : Nat × Nat} (h0 : 0 < h.1.length) (e1 : h'.1 = h.1 ++ [x]) (e2 : h'.2 = h.2) : c_ws b n0 cA h' = c_ws b n0 cA h ++ [(n0 + (h.1.length - 1), c_e b n0 cA h' h.1.length)] := by
  apply List.ext_getElem?
  intro i
  have hl : h'.1.length = h.1.length + 1 := by rw [e1]; simp
  by_cases hi : i < h.1.length - 1
  · rw [List.getElem?_append_left (by rw [c_ws_len]; exact hi)]
    have g1 := c_ws_get b n0 cA h' (k := i + 1) (by omega) (by omega)
    have g2 := c_ws_get b n0 cA h (k := i + 1) (by omega) (by omega)
    rw [show i + 1 - 1 = i by omega] at g1 g2
    rw [g1, g2]
    unfold c_e
    rw [e1, List.getElem?_append_left (by omega)]
    cases h.1[i + 1]? with
    | none => rfl
    | some q => obtain ⟨t, n⟩ := q; simp only [c_k, c_f, e2]
  · rw [List.getElem?_append_right (by rw [c_ws_len]; omega), c_ws_len]
    by_cases hi2 : i = h.1.length - 1
    · have g1 := c_ws_get b n0 cA h' (k := i + 1) (by omega) (by omega)
      rw [show i + 1 - 1 = i by omega] at g1
      rw [g1, hi2, Nat.sub_self]
      simp only [List.getElem?_cons_zero, c_g]
      rw [show h.1.length - 1 + 1 = h.1.length by omega, if_neg (by omega)]
    · rw [List.getElem?_eq_none (by rw [c_ws_len]; omega), List.getElem?_eq_none (by simp; omega)]
/-- a whole number of an int -/
def inR (x : Int) : Prop := -2147483648 ≤ x ∧ x ≤ 2147483647
theorem inR_to {x : Int} (h : inR x) : (Int32.ofInt x).toInt = x := Int32.toInt_ofInt_of_le (by have := h.1; omega) (by have := h.2; omega)
theorem inR_lt {x y : Int} (hx : inR x) (hy : inR y) : Int32.ofInt x < Int32.ofInt y ↔ x < y := by rw [Int32.lt_iff_toInt_lt, inR_to hx, inR_to hy]
theorem inR_le {x y : Int} (hx : inR x) (hy : inR y) : Int32.ofInt x ≤ Int32.ofInt y ↔ x ≤ y := by rw [Int32.le_iff_toInt_le, inR_to hx, inR_to hy]
theorem inR_eq {x y : Int} (hx : inR x) (hy : inR y) : Int32.ofInt x = Int32.ofInt y ↔ x = y := by rw [← Int32.toInt_inj, inR_to hx, inR_to hy]
theorem inR_add (x y : Int) : Int32.ofInt x + Int32.ofInt y = Int32.ofInt (x + y) := by
  apply Int32.toInt_inj.mp
  simp [Int32.toInt_add]
theorem inR_sub (x y : Int) : Int32.ofInt x - Int32.ofInt y = Int32.ofInt (x - y) := by
  apply Int32.toInt_inj.mp
  simp [Int32.toInt_sub]
theorem inR_mul (x y : Int) : Int32.ofInt x * Int32.ofInt y = Int32.ofInt (x * y) := by
  apply Int32.toInt_inj.mp
  simp [Int32.toInt_mul]
theorem inR_neg (x : Int) : -Int32.ofInt x = Int32.ofInt (-x) := by
  apply Int32.toInt_inj.mp
  simp [Int32.toInt_neg]
theorem inR_cl {x : Int} (h : inR x) : (Int32.ofInt x).toNatClampNeg = x.toNat := by unfold Int32.toNatClampNeg; rw [inR_to h]
theorem inR_in {x : Int} (h : inR x) {n : Nat} (h0 : 0 ≤ x) (h1 : x < (n : Int)) : vp_in (Int32.ofInt x) n := by
  rw [vp_in_iff, inR_to h]; exact ⟨h0, h1⟩
theorem inR_div {x y : Int} (hx : inR x) (hy : inR y) (h0 : 0 ≤ x) (h1 : 0 < y) : Int32.ofInt x / Int32.ofInt y = Int32.ofInt (x / y) := by
  have hq : inR (x / y) := ⟨by have := Int.ediv_nonneg h0 (Int.le_of_lt h1); omega, by have := Int.ediv_le_self y h0; have := hx.2; omega⟩
  apply Int32.toInt_inj.mp
  rw [Int32.toInt_div_of_ne_right _ _ (fun e => by
    have e2 := congrArg Int32.toInt e
    rw [inR_to hy] at e2
    have : (-1 : Int32).toInt = -1 := by decide
    omega), inR_to hx, inR_to hy, inR_to hq, Int.tdiv_eq_ediv_of_nonneg h0]
theorem inR_63 (x : Int) : Int32.ofInt x &&& Int32.ofInt 63 = Int32.ofInt (x % 64) := by
  rw [pk_and (Int32.ofInt x) (m := Int32.ofInt 63) 6 (by decide)]
  unfold nI
  apply Int32.toBitVec_inj.mp
  simp only [Int32.toBitVec_ofInt, Int32.toBitVec_ofNat']
  apply BitVec.eq_of_toNat_eq
  simp only [BitVec.toNat_ofNat, BitVec.toNat_ofInt]
  omega
theorem inR_127 (x : Int) : Int32.ofInt x &&& Int32.ofInt 127 = Int32.ofInt (x % 128) := by
  rw [pk_and (Int32.ofInt x) (m := Int32.ofInt 127) 7 (by decide)]
  unfold nI
  apply Int32.toBitVec_inj.mp
  simp only [Int32.toBitVec_ofInt, Int32.toBitVec_ofNat']
  apply BitVec.eq_of_toNat_eq
  simp only [BitVec.toNat_ofNat, BitVec.toNat_ofInt]
  omega
theorem inR_ushr (x : BitVec 64) {y : Int} (h0 : 0 ≤ y) (h1 : y < 64) : ((Int64.ofBitVec x).toUInt64 >>> ((Int32.ofInt y).toInt64.toUInt64 &&& Int64.toUInt64 63)).toInt64 = Int64.ofBitVec (x >>> y.toNat) := by
  obtain ⟨n, hn⟩ := Int.eq_ofNat_of_zero_le h0
  subst hn
  have hn : n < 64 := by omega
  have key : ∀ n : Nat, n < 64 → ((Int32.ofInt (n : Int)).toInt64.toUInt64 &&& Int64.toUInt64 63).toBitVec % 64#64 = BitVec.ofNat 64 n := by decide +kernel
  apply Int64.toBitVec_inj.mp
  show x >>> (((Int32.ofInt (n : Int)).toInt64.toUInt64 &&& Int64.toUInt64 63).toBitVec % 64#64) = x >>> n
  rw [key n hn]
  simp only [BitVec.ushiftRight_eq', BitVec.toNat_ofNat]
  rw [Nat.mod_eq_of_lt (by omega)]
theorem inR_shl (x : BitVec 64) {y : Int} (h0 : 0 ≤ y) (h1 : y < 64) : Int64.ofBitVec x <<< ((Int32.ofInt y).toInt64 &&& 63) = Int64.ofBitVec (x <<< y.toNat) := by
  obtain ⟨n, hn⟩ := Int.eq_ofNat_of_zero_le h0
  subst hn
  have hn : n < 64 := by omega
  have key : ∀ n : Nat, n < 64 → (((Int32.ofInt (n : Int)).toInt64 &&& 63).toBitVec.smod 64) = BitVec.ofNat 64 n := by decide +kernel
  apply Int64.toBitVec_inj.mp
  show x <<< (((Int32.ofInt (n : Int)).toInt64 &&& 63).toBitVec.smod 64) = x <<< n
  rw [key n hn]
  simp only [BitVec.shiftLeft_eq', BitVec.toNat_ofNat]
  rw [Nat.mod_eq_of_lt (by omega)]
theorem inR_cmp (x y : BitVec 64) : lg_cmp (Int64.ofBitVec x) (Int64.ofBitVec y) = Int32.ofInt (if y.slt x then 1 else if x = y then 0 else -1) := by
  have e1 : (Int64.ofBitVec y < Int64.ofBitVec x) ↔ y.slt x = true := Iff.rfl
  have e2 : (Int64.ofBitVec x = Int64.ofBitVec y) ↔ x = y := ⟨fun h => congrArg Int64.toBitVec h, fun h => by rw [h]⟩
  unfold lg_cmp
  simp only [gt_iff_lt, e1, e2]
  split
  · rfl
  · split <;> rfl
theorem inR_l2i (x : BitVec 64) : (Int64.ofBitVec x).toInt32 = Int32.ofInt (x.signExtend 32).toInt := by
  apply Int32.toInt_inj.mp
  rw [inR_to ⟨by have := BitVec.le_toInt (x.signExtend 32); omega, by have := BitVec.toInt_lt (x := x.signExtend 32); omega⟩]
  rfl
