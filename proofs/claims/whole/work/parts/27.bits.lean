/-! Long.bitCount; sets of steps as bits -/
theorem land_c (k a b r s : Nat) (hr : r < 2 ^ k) (hs : s < 2 ^ k) : (2 ^ k * a + r) &&& (2 ^ k * b + s) = 2 ^ k * (a &&& b) + (r &&& s) := by
  have h0 : 0 < 2 ^ k := Nat.two_pow_pos k
  have e := Nat.div_add_mod ((2 ^ k * a + r) &&& (2 ^ k * b + s)) (2 ^ k)
  rw [← e, Nat.and_div_two_pow, Nat.and_mod_two_pow, Nat.mul_add_div h0, Nat.mul_add_div h0, Nat.mul_add_mod, Nat.mul_add_mod, Nat.div_eq_of_lt hr, Nat.div_eq_of_lt hs, Nat.mod_eq_of_lt hr, Nat.mod_eq_of_lt hs]
  rfl
theorem land_b (a b r s : Nat) (hr : r < 256) (hs : s < 256) : (256 * a + r) &&& (256 * b + s) = 256 * (a &&& b) + (r &&& s) := land_c 8 a b r s hr hs
def mk (c : Nat) : Nat → Nat
  | 0 => 0
  | n + 1 => 256 * mk c n + c
def y1 (n x : Nat) : Nat := x - ((x / 2) &&& mk 0x55 n)
def y2 (n x : Nat) : Nat := (y1 n x &&& mk 0x33 n) + ((y1 n x / 4) &&& mk 0x33 n)
def y3 (n x : Nat) : Nat := (y2 n x + y2 n x / 16) &&& mk 0x0f n
def b1 (a : Nat) : Nat := a - ((a / 2) &&& 0x55)
def b2 (a : Nat) : Nat := (b1 a &&& 0x33) + ((b1 a / 4) &&& 0x33)
def b3 (a : Nat) : Nat := (b2 a + b2 a / 16) &&& 0x0f
set_option maxRecDepth 100000 in
theorem by_1 : ∀ a < 256, ((128 + a / 2) &&& 0x55 = (a / 2) &&& 0x55) ∧ b1 a ≤ a ∧ (a / 2) &&& 0x55 ≤ a := by decide +kernel
set_option maxRecDepth 100000 in
theorem by_2 : ∀ c < 256, ∀ d < 4, ((64 * d + c / 4) &&& 0x33 = (c / 4) &&& 0x33) := by decide +kernel
set_option maxRecDepth 100000 in
theorem by_3 : ∀ a < 256, b2 a ≤ 68 ∧ b2 a % 16 ≤ 4 := by decide +kernel
set_option maxRecDepth 100000 in
theorem by_4 : ∀ a < 256, ∀ d < 5, ((16 * d + b2 a + b2 a / 16) &&& 0x0f = b3 a) := by decide +kernel
theorem y1_s (n z a : Nat) (ha : a < 256) : y1 (n + 1) (256 * z + a) = 256 * y1 n z + b1 a := by
  have h := by_1 a ha
  have e : (256 * z + a) / 2 = 256 * (z / 2) + (128 * (z % 2) + a / 2) := by omega
  have l : (z / 2) &&& mk 0x55 n ≤ z / 2 := Nat.and_le_left
  unfold y1 b1
  show 256 * z + a - ((256 * z + a) / 2 &&& (256 * mk 0x55 n + 0x55)) = _
  rw [e, land_b _ _ _ _ (by omega) (by decide)]
  rcases Nat.mod_two_eq_zero_or_one z with c | c
  · rw [c, Nat.mul_zero, Nat.zero_add]; omega
  · rw [c, Nat.mul_one, h.1]; omega
theorem b1_lt {a : Nat} (ha : a < 256) : b1 a < 256 := by have := (by_1 a ha).2.1; omega
theorem y2_s (n z a : Nat) (ha : a < 256) : y2 (n + 1) (256 * z + a) = 256 * y2 n z + b2 a := by
  unfold y2 b2
  rw [y1_s n z a ha]
  have hb := b1_lt ha
  have e : (256 * y1 n z + b1 a) / 4 = 256 * (y1 n z / 4) + (64 * (y1 n z % 4) + b1 a / 4) := by omega
  show (256 * y1 n z + b1 a &&& (256 * mk 0x33 n + 0x33)) + ((256 * y1 n z + b1 a) / 4 &&& (256 * mk 0x33 n + 0x33)) = _
  rw [e, land_b _ _ _ _ hb (by decide), land_b _ _ _ _ (by omega) (by decide), by_2 (b1 a) hb (y1 n z % 4) (by omega)]
  omega
theorem y2_m (n z : Nat) : z < 256 ^ n → y2 n z % 16 ≤ 4 := by
  cases n with
  | zero => intro h; rw [show z = 0 by simpa using h]; decide
  | succ n =>
    intro h
    have h3 := by_3 (z % 256) (by omega)
    rw [show z = 256 * (z / 256) + z % 256 by omega, y2_s n (z / 256) (z % 256) (by omega)]
    omega
theorem y3_s (n z a : Nat) (ha : a < 256) (hz : z < 256 ^ n) : y3 (n + 1) (256 * z + a) = 256 * y3 n z + b3 a := by
  unfold y3
  rw [y2_s n z a ha]
  have h3 := by_3 a ha
  have hm := y2_m n z hz
  have e : (256 * y2 n z + b2 a) + (256 * y2 n z + b2 a) / 16 = 256 * (y2 n z + y2 n z / 16) + (16 * (y2 n z % 16) + b2 a + b2 a / 16) := by omega
  show ((256 * y2 n z + b2 a) + (256 * y2 n z + b2 a) / 16 &&& (256 * mk 0x0f n + 0x0f)) = _
  rw [e, land_b _ _ _ _ (by omega) (by decide), by_4 a ha (y2 n z % 16) (by omega)]
/-- the bits of a number -/
noncomputable def pp (x n : Nat) : Int := ct (fun t => x.testBit t.toNat = true) n
noncomputable def pb (a : Nat) : Int := (if a.testBit 0 then 1 else 0) + (if a.testBit 1 then 1 else 0) + (if a.testBit 2 then 1 else 0) + (if a.testBit 3 then 1 else 0) + (if a.testBit 4 then 1 else 0) + (if a.testBit 5 then 1 else 0) + (if a.testBit 6 then 1 else 0) + (if a.testBit 7 then 1 else 0)
def pbn (a : Nat) : Nat := a % 2 + a / 2 % 2 + a / 4 % 2 + a / 8 % 2 + a / 16 % 2 + a / 32 % 2 + a / 64 % 2 + a / 128 % 2
set_option maxRecDepth 100000 in
theorem by_5 : ∀ a < 256, b3 a = pbn a := by decide +kernel
theorem bI_bit (x k : Nat) : bI (x.testBit k = true) = ((x / 2 ^ k % 2 : Nat) : Int) := by
  rw [Nat.testBit_eq_decide_div_mod_eq]
  rcases Nat.mod_two_eq_zero_or_one (x / 2 ^ k) with c | c
  · rw [c, bI_f (by decide)]; rfl
  · rw [c, bI_t (by decide)]; rfl
theorem pp_8 (x : Nat) : pp x 8 = ((pbn (x % 256) : Nat) : Int) := by
  have e : pp x 8 = 0 + bI (x.testBit 0 = true) + bI (x.testBit 1 = true) + bI (x.testBit 2 = true) + bI (x.testBit 3 = true) + bI (x.testBit 4 = true) + bI (x.testBit 5 = true) + bI (x.testBit 6 = true) + bI (x.testBit 7 = true) := rfl
  rw [e]
  simp only [bI_bit]
  unfold pbn
  simp only [show (2 : Nat) ^ 0 = 1 from rfl, show (2 : Nat) ^ 1 = 2 from rfl, show (2 : Nat) ^ 2 = 4 from rfl, show (2 : Nat) ^ 3 = 8 from rfl, show (2 : Nat) ^ 4 = 16 from rfl, show (2 : Nat) ^ 5 = 32 from rfl, show (2 : Nat) ^ 6 = 64 from rfl, show (2 : Nat) ^ 7 = 128 from rfl]
  omega
theorem pp_s (x n : Nat) : pp x (8 + n) = ((pbn (x % 256) : Nat) : Int) + pp (x / 256) n := by
  unfold pp
  rw [ct_add]
  show pp x 8 + _ = _
  rw [pp_8]
  congr 1
  refine ct_cg n (fun i h0 h1 => ?_)
  rw [show (256 : Nat) = 2 ^ 8 from rfl, Nat.testBit_div_two_pow, show (i + (8 : Nat)).toNat = 8 + i.toNat by omega, Nat.add_comm]
theorem pbn_le {a : Nat} : pbn a ≤ 8 := by unfold pbn; omega
theorem pop_n (x : Nat) (hx : x < 2 ^ 64) : ∃ p0 p1 p2 p3 p4 p5 p6 p7 : Nat, (p0 ≤ 8 ∧ p1 ≤ 8 ∧ p2 ≤ 8 ∧ p3 ≤ 8 ∧ p4 ≤ 8 ∧ p5 ≤ 8 ∧ p6 ≤ 8 ∧ p7 ≤ 8) ∧ y3 8 x = p0 + 256 * (p1 + 256 * (p2 + 256 * (p3 + 256 * (p4 + 256 * (p5 + 256 * (p6 + 256 * p7)))))) ∧ pp x 64 = ((p0 + p1 + p2 + p3 + p4 + p5 + p6 + p7 : Nat) : Int) := by
  have st : ∀ n x, x < 256 ^ (n + 1) → y3 (n + 1) x = 256 * y3 n (x / 256) + pbn (x % 256) := fun n x h => by
    have h2 : x / 256 < 256 ^ n := by rw [Nat.pow_succ] at h; omega
    have := y3_s n (x / 256) (x % 256) (by omega) h2
    rw [← by_5 (x % 256) (by omega), ← this, Nat.div_add_mod]
  have dv : ∀ n x, x < 256 ^ (n + 1) → x / 256 < 256 ^ n := fun n x h => by rw [Nat.pow_succ] at h; omega
  have x0 : x < 256 ^ 8 := hx
  have x1 := dv 7 _ x0
  have x2 := dv 6 _ x1
  have x3 := dv 5 _ x2
  have x4 := dv 4 _ x3
  have x5 := dv 3 _ x4
  have x6 := dv 2 _ x5
  have x7 := dv 1 _ x6
  refine ⟨pbn (x % 256), pbn (x / 256 % 256), pbn (x / 256 / 256 % 256), pbn (x / 256 / 256 / 256 % 256), pbn (x / 256 / 256 / 256 / 256 % 256), pbn (x / 256 / 256 / 256 / 256 / 256 % 256), pbn (x / 256 / 256 / 256 / 256 / 256 / 256 % 256), pbn (x / 256 / 256 / 256 / 256 / 256 / 256 / 256 % 256), ⟨pbn_le, pbn_le, pbn_le, pbn_le, pbn_le, pbn_le, pbn_le, pbn_le⟩, ?_, ?_⟩
  · rw [st 7 _ x0, st 6 _ x1, st 5 _ x2, st 4 _ x3, st 3 _ x4, st 2 _ x5, st 1 _ x6, st 0 _ x7]
    rw [show ∀ z, y3 0 z = 0 from fun z => by show _ &&& 0 = 0; exact Nat.and_zero _]
    generalize pbn (x % 256) = q0
    generalize pbn (x / 256 % 256) = q1
    generalize pbn (x / 256 / 256 % 256) = q2
    generalize pbn (x / 256 / 256 / 256 % 256) = q3
    generalize pbn (x / 256 / 256 / 256 / 256 % 256) = q4
    generalize pbn (x / 256 / 256 / 256 / 256 / 256 % 256) = q5
    generalize pbn (x / 256 / 256 / 256 / 256 / 256 / 256 % 256) = q6
    generalize pbn (x / 256 / 256 / 256 / 256 / 256 / 256 / 256 % 256) = q7
    clear x0 x1 x2 x3 x4 x5 x6 x7 st dv hx
    omega
  · have e := pp_s x 56
    rw [pp_s _ 48, pp_s _ 40, pp_s _ 32, pp_s _ 24, pp_s _ 16, pp_s _ 8, pp_8] at e
    rw [show (64 : Nat) = 8 + 56 from rfl, e]
    simp only [Int.natCast_add, Int.add_assoc]
theorem mk_55 : mk 0x55 8 = 6148914691236517205 := by decide +kernel
theorem mk_33 : mk 0x33 8 = 3689348814741910323 := by decide +kernel
theorem mk_0f : mk 0x0f 8 = 1085102592571150095 := by decide +kernel
theorem fin_n {p0 p1 p2 p3 p4 p5 p6 p7 z : Nat} (h : p0 ≤ 8 ∧ p1 ≤ 8 ∧ p2 ≤ 8 ∧ p3 ≤ 8 ∧ p4 ≤ 8 ∧ p5 ≤ 8 ∧ p6 ≤ 8 ∧ p7 ≤ 8) (hz : z = p0 + 256 * (p1 + 256 * (p2 + 256 * (p3 + 256 * (p4 + 256 * (p5 + 256 * (p6 + 256 * p7))))))) : ((z + z / 256) + (z + z / 256) / 65536 + ((z + z / 256) + (z + z / 256) / 65536) / 4294967296) % 128 = p0 + p1 + p2 + p3 + p4 + p5 + p6 + p7 ∧ z + z / 256 < 2 ^ 64 ∧ (z + z / 256) + (z + z / 256) / 65536 < 2 ^ 64 ∧ (z + z / 256) + (z + z / 256) / 65536 + ((z + z / 256) + (z + z / 256) / 65536) / 4294967296 < 2 ^ 64 := by
  have d8 : ∀ a Q : Nat, a < 256 → (a + 256 * Q) / 256 = Q := fun a Q h => by omega
  have d16 : ∀ a b Q : Nat, a < 256 → b < 256 → (a + 256 * (b + 256 * Q)) / 65536 = Q := fun a b Q h1 h2 => by omega
  have d32 : ∀ a b c d Q : Nat, a < 256 → b < 256 → c < 256 → d < 256 → (a + 256 * (b + 256 * (c + 256 * (d + 256 * Q)))) / 4294967296 = Q := fun a b c d Q h1 h2 h3 h4 => by omega
  have d7 : ∀ a Q : Nat, a < 128 → (a + 256 * Q) % 128 = a := fun a Q h => by omega
  have e1 : z + z / 256 = (p0 + p1) + 256 * ((p1 + p2) + 256 * ((p2 + p3) + 256 * ((p3 + p4) + 256 * ((p4 + p5) + 256 * ((p5 + p6) + 256 * ((p6 + p7) + 256 * p7)))))) := by
    rw [hz, d8 p0 _ (by omega)]; omega
  rw [e1]
  clear e1 hz
  have e2 : (p0 + p1) + 256 * ((p1 + p2) + 256 * ((p2 + p3) + 256 * ((p3 + p4) + 256 * ((p4 + p5) + 256 * ((p5 + p6) + 256 * ((p6 + p7) + 256 * p7)))))) + ((p0 + p1) + 256 * ((p1 + p2) + 256 * ((p2 + p3) + 256 * ((p3 + p4) + 256 * ((p4 + p5) + 256 * ((p5 + p6) + 256 * ((p6 + p7) + 256 * p7))))))) / 65536 = (p0 + p1 + p2 + p3) + 256 * ((p1 + p2 + p3 + p4) + 256 * ((p2 + p3 + p4 + p5) + 256 * ((p3 + p4 + p5 + p6) + 256 * ((p4 + p5 + p6 + p7) + 256 * ((p5 + p6 + p7) + 256 * ((p6 + p7) + 256 * p7)))))) := by
    rw [d16 (p0 + p1) (p1 + p2) _ (by omega) (by omega)]; omega
  rw [e2]
  clear e2
  have e3 : (p0 + p1 + p2 + p3) + 256 * ((p1 + p2 + p3 + p4) + 256 * ((p2 + p3 + p4 + p5) + 256 * ((p3 + p4 + p5 + p6) + 256 * ((p4 + p5 + p6 + p7) + 256 * ((p5 + p6 + p7) + 256 * ((p6 + p7) + 256 * p7)))))) + ((p0 + p1 + p2 + p3) + 256 * ((p1 + p2 + p3 + p4) + 256 * ((p2 + p3 + p4 + p5) + 256 * ((p3 + p4 + p5 + p6) + 256 * ((p4 + p5 + p6 + p7) + 256 * ((p5 + p6 + p7) + 256 * ((p6 + p7) + 256 * p7))))))) / 4294967296 = (p0 + p1 + p2 + p3 + p4 + p5 + p6 + p7) + 256 * ((p1 + p2 + p3 + p4 + p5 + p6 + p7) + 256 * ((p2 + p3 + p4 + p5 + p6 + p7) + 256 * ((p3 + p4 + p5 + p6 + p7) + 256 * ((p4 + p5 + p6 + p7) + 256 * ((p5 + p6 + p7) + 256 * ((p6 + p7) + 256 * p7)))))) := by
    rw [d32 _ _ _ _ _ (by omega) (by omega) (by omega) (by omega)]; omega
  rw [e3]
  clear e3
  refine ⟨d7 _ _ (by omega), ?_, ?_, ?_⟩ <;> omega
section
variable {L : Nat} {b : Bool} {I : AI} {J : AJ}
theorem y1_le (n x : Nat) : y1 n x ≤ x := Nat.sub_le _ _
theorem mk_le (c n : Nat) (hc : c < 256) : mk c n < 256 ^ n := by
  induction n with
  | zero => show 0 < 1; decide
  | succ n ih => show 256 * mk c n + c < _; rw [Nat.pow_succ]; omega
theorem z_1 {a m : Nat} (h : a < 2 ^ 64) : (2 ^ 64 - (a / 2 &&& m) + a) % 2 ^ 64 = a - (a / 2 &&& m) := by
  have l : (a / 2 &&& m) ≤ a / 2 := Nat.and_le_left
  generalize a / 2 &&& m = c at l ⊢
  omega
theorem z_2 (a : Nat) : ((a &&& 3689348814741910323) + (a / 4 &&& 3689348814741910323)) ≤ 2 * 3689348814741910323 := by
  have l1 : (a &&& 3689348814741910323) ≤ 3689348814741910323 := Nat.and_le_right
  have l2 : (a / 4 &&& 3689348814741910323) ≤ 3689348814741910323 := Nat.and_le_right
  generalize (a &&& 3689348814741910323) = c at l1 ⊢
  generalize (a / 4 &&& 3689348814741910323) = d at l2 ⊢
  omega
theorem z_3 {a : Nat} (h : a ≤ 2 * 3689348814741910323) : a + a / 16 < 2 ^ 64 := by omega
theorem z_4 (z : BitVec 64) {s : Nat} (h : z.toNat % 128 = s) : (z.signExtend 32).toInt % 128 = (s : Int) := by
  rw [BitVec.signExtend_eq_setWidth_of_le z (by decide), BitVec.toInt_eq_toNat_bmod, BitVec.toNat_setWidth, Int.bmod_def]
  split <;> omega
theorem c230 (x : BitVec 64) : evc 230 [vl x] (hp L b I J) = some (vi (ct (fun t => x.getLsbD t.toNat = true) 64), hp L b I J) := by
  obtain ⟨p0, p1, p2, p3, p4, p5, p6, p7, hp8, hy, hpp⟩ := pop_n x.toNat x.isLt
  have m1 : (BitVec.ofInt 64 6148914691236517205).toNat = mk 0x55 8 := by rw [mk_55]; decide +kernel
  have m2 : (BitVec.ofInt 64 3689348814741910323).toNat = mk 0x33 8 := by rw [mk_33]; decide +kernel
  have m4 : (BitVec.ofInt 64 1085102592571150095).toNat = mk 0x0f 8 := by rw [mk_0f]; decide +kernel
  rw [n230, s230_0, gd_t (by decide), s230_10, gd_t (by decide), s230_24, gd_t (by decide), s230_34, gd_t (by decide), s230_41, gd_t (by decide), s230_48, gd_t (by decide), s230_55]
  rw [show (1 : Int).toNat = 1 from rfl, show (2 : Int).toNat = 2 from rfl, show (4 : Int).toNat = 4 from rfl, show (8 : Int).toNat = 8 from rfl, show (16 : Int).toNat = 16 from rfl, show (32 : Int).toNat = 32 from rfl]
  have a1 : (x - (x >>> 1 &&& BitVec.ofInt 64 6148914691236517205)).toNat = y1 8 x.toNat := by
    rw [BitVec.toNat_sub, BitVec.toNat_and, BitVec.toNat_ushiftRight, m1, Nat.shiftRight_eq_div_pow]
    exact z_1 x.isLt
  generalize x - (x >>> 1 &&& BitVec.ofInt 64 6148914691236517205) = z1 at a1 ⊢
  have a2 : ((z1 &&& BitVec.ofInt 64 3689348814741910323) + (z1 >>> 2 &&& BitVec.ofInt 64 3689348814741910323)).toNat = y2 8 x.toNat ∧ y2 8 x.toNat ≤ 2 * 3689348814741910323 := by
    have l := z_2 z1.toNat
    rw [BitVec.toNat_add, BitVec.toNat_and, BitVec.toNat_and, BitVec.toNat_ushiftRight, m2, Nat.shiftRight_eq_div_pow, Nat.mod_eq_of_lt (by rw [mk_33]; exact Nat.lt_of_le_of_lt l (by decide))]
    unfold y2
    rw [← a1]
    refine ⟨rfl, ?_⟩
    rw [mk_33]
    exact l
  generalize (z1 &&& BitVec.ofInt 64 3689348814741910323) + (z1 >>> 2 &&& BitVec.ofInt 64 3689348814741910323) = z2 at a2 ⊢
  have a3 : ((z2 + z2 >>> 4) &&& BitVec.ofInt 64 1085102592571150095).toNat = y3 8 x.toNat := by
    rw [BitVec.toNat_and, BitVec.toNat_add, BitVec.toNat_ushiftRight, m4, Nat.shiftRight_eq_div_pow, a2.1, Nat.mod_eq_of_lt (z_3 a2.2)]
    rfl
  generalize (z2 + z2 >>> 4) &&& BitVec.ofInt 64 1085102592571150095 = z3 at a3 ⊢
  rw [hy] at a3
  obtain ⟨f1, f2, f3, f4⟩ := fin_n hp8 a3
  have a4 : (z3 + z3 >>> 8).toNat = z3.toNat + z3.toNat / 256 := by
    rw [BitVec.toNat_add, BitVec.toNat_ushiftRight, Nat.shiftRight_eq_div_pow]
    exact Nat.mod_eq_of_lt f2
  generalize z3 + z3 >>> 8 = z4 at a4 ⊢
  rw [← a4] at f1 f3 f4
  have a5 : (z4 + z4 >>> 16).toNat = z4.toNat + z4.toNat / 65536 := by
    rw [BitVec.toNat_add, BitVec.toNat_ushiftRight, Nat.shiftRight_eq_div_pow]
    exact Nat.mod_eq_of_lt f3
  generalize z4 + z4 >>> 16 = z5 at a5 ⊢
  rw [← a5] at f1 f4
  have a6 : (z5 + z5 >>> 32).toNat = z5.toNat + z5.toNat / 4294967296 := by
    rw [BitVec.toNat_add, BitVec.toNat_ushiftRight, Nat.shiftRight_eq_div_pow]
    exact Nat.mod_eq_of_lt f4
  generalize z5 + z5 >>> 32 = z6 at a6 ⊢
  rw [← a6] at f1
  have e3 : ct (fun t => x.getLsbD t.toNat = true) 64 = pp x.toNat 64 := rfl
  rw [z_4 z6 f1, e3, hpp]
end
