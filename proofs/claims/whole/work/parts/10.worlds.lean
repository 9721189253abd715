def c_tys (cA : Nat → ClassId) : List (ClassId × FieldType) := [(cA 0, .int), (cA 1, .boolean), (cA 2, .byte), (cA 3, .long), (cA 4, .object "VersionVault$Row")]
/-- what holds all through a method's frame -/
def Cx (b n0 l0 : Nat) (D : va_G) (cA : Nat → ClassId) (p : Program) (R : Room) (s : State) (m : MethodId) (args : Array Value) (meth : Method) (c : Code) (M : Nat) : Prop :=
  p.tables.exec = Jvm.exec ∧ c.code = a_cc M ∧ c.maxLocals = a_mL M ∧ s.vm.findClass (a_y M).cls = some m.cls ∧ (∀ w ∈ gw, w.before args s = true) ∧ NB s ∧ va_K D vwCl (c_tys cA) s ∧ meth.sig.returnType = a_rt M ∧ meth.locks = false ∧ ((a_y M).name = "<init>" → meth.name = "<init>") ∧ a_fr M ≤ R.frames ∧ a_lc M ≤ R.locals ∧ b < n0 ∧ s.heap.size = n0 + (l0 - 1) ∧ 0 < l0 ∧ (20 ≤ a_lc M ∧ 1 ≤ a_fr M)
/-- the world at a point of it -/
def Fw (b n0 l0 z0 : Nat) (D : va_G) (cA : Nat → ClassId) (s : State) (h : Hp) (H : Heap) (locs : List Loc) : Prop :=
  va_P D vwCl (c_ws b n0 cA h) H ∧ va_S (fun q => n0 ≤ q) s.heap H locs ∧ HpOK h ∧ l0 ≤ h.1.length ∧ z0 ≤ sz h.1 ∧ ∃ L, h.1[0]? = some (0, L) ∧ L ≤ 100000 ∧ va_X b L (fun j : Nat => Int32.ofInt (h.2.1 0 j)) s s.heap
theorem W_size {p : Program} {l : Launch} {e : Env} {R : Room} {s : State} {m : MethodId} {args : Array Value} {below : List Frame} {meth : Method} {c : Code} {H : Heap} {locs : List Loc} {cells slots : Nat} {Q : State → Prop} {g : JFrame} (k : H.size ≤ s.heap.size + cells → W p l e R s m args below meth c H locs cells slots Q g) : W p l e R s m args below meth c H locs cells slots Q g := fun T hT X => k (by
  have h1 : (T.setVm s.vm).heap.size ≤ s.heap.size + cells := X.same.2.2.1
  have h2 : (T.setVm s.vm).heap = T.heap := rfl
  rw [h2, hT] at h1
  exact h1) T hT X
section CE
variable {b n0 : Nat} {cA : Nat → ClassId} {h : Hp}
theorem c_e_obj {a ci n : Nat} (hk : h.1[a]? = some (10 + ci, n)) : c_e b n0 cA h a = .inr (ci, (List.range n).map (fun j => c_f b n0 h ci a j)) := by
  unfold c_e
  rw [hk]
  show c_k b n0 cA h a (10 + ci) n = _
  unfold c_k
  rw [if_neg (by omega), if_neg (by omega), if_neg (by omega), Nat.add_sub_cancel_left]
theorem c_e_int {a t n : Nat} (hk : h.1[a]? = some (t, n)) (ht : t < 3) : c_e b n0 cA h a = .inl (cA t, n, .inl fun j : Nat => Int32.ofInt (h.2.1 a j)) := by
  unfold c_e
  rw [hk]
  show c_k b n0 cA h a t n = _
  unfold c_k
  rw [if_neg (by omega), if_neg (by omega), if_pos (by omega)]
theorem c_e_lng {a n : Nat} (hk : h.1[a]? = some (3, n)) : c_e b n0 cA h a = .inl (cA 3, n, .inr (.inl fun j : Nat => Int64.ofBitVec (h.2.2.1 a j))) := by
  unfold c_e
  rw [hk]
  rfl
theorem c_e_ref {a n : Nat} (hk : h.1[a]? = some (4, n)) : c_e b n0 cA h a = .inl (cA 4, n, .inr (.inr (.inr (.inr fun j : Nat => (h.2.2.2 a j).map (c_g b n0))))) := by
  unfold c_e
  rw [hk]
  rfl
theorem c_f_get (ci a k : Nat) : c_f b n0 h ci a k = c_v b n0 (match a_fty ci k with
        | 3 => vl (h.2.2.1 a k)
        | 4 => vq (h.2.2.2 a k)
        | _ => vi (h.2.1 a k)) := by
  unfold c_f
  generalize a_fty ci k = t
  match t with
  | 0 => rfl
  | 1 => rfl
  | 2 => rfl
  | 3 => rfl
  | 4 => rfl
  | t + 5 => rfl
theorem c_e_upI {a j : Nat} {i x : Int} (hj : j ≠ a) : c_e b n0 cA (h.1, upI h.2.1 a i x, h.2.2.1, h.2.2.2) j = c_e b n0 cA h j := by
  have e : ∀ q, upI h.2.1 a i x j q = h.2.1 j q := fun q => if_neg (fun z => hj z.1)
  unfold c_e
  dsimp only
  cases h.1[j]? with
  | none => rfl
  | some q => obtain ⟨t, n⟩ := q; simp only [c_k, c_f, e]
theorem c_e_upJ {a j : Nat} {i : Int} {x : BitVec 64} (hj : j ≠ a) : c_e b n0 cA (h.1, h.2.1, upJ h.2.2.1 a i x, h.2.2.2) j = c_e b n0 cA h j := by
  have e : ∀ q, upJ h.2.2.1 a i x j q = h.2.2.1 j q := fun q => if_neg (fun z => hj z.1)
  unfold c_e
  dsimp only
  cases h.1[j]? with
  | none => rfl
  | some q => obtain ⟨t, n⟩ := q; simp only [c_k, c_f, e]
theorem c_e_upR {a j : Nat} {i : Int} {x : Option Nat} (hj : j ≠ a) : c_e b n0 cA (h.1, h.2.1, h.2.2.1, upR h.2.2.2 a i x) j = c_e b n0 cA h j := by
  have e : ∀ q, upR h.2.2.2 a i x j q = h.2.2.2 j q := fun q => if_neg (fun z => hj z.1)
  unfold c_e
  dsimp only
  cases h.1[j]? with
  | none => rfl
  | some q => obtain ⟨t, n⟩ := q; simp only [c_k, c_f, e]
theorem c_map_set {n k : Nat} {f g : Nat → Value} {v : Value} (hk : g k = v) (hg : ∀ j, j ≠ k → g j = f j) : (List.range n).map g = ((List.range n).map f).set k v := by
  apply List.ext_getElem?
  intro i
  rw [List.getElem?_set, List.getElem?_map, List.getElem?_map, List.length_map, List.length_range]
  by_cases hi : i < n
  · rw [List.getElem?_range hi]
    by_cases hik : k = i
    · subst hik
      rw [if_pos rfl, if_pos hi, ← hk]; rfl
    · rw [if_neg hik]
      exact congrArg some (hg i (Ne.symm hik))
  · rw [List.getElem?_eq_none (by simp; omega)]
    by_cases hik : k = i
    · subst hik
      rw [if_pos rfl, if_neg hi]; rfl
    · rw [if_neg hik]; rfl
theorem c_e_fI {a ci n k : Nat} {x : Int} (hk : h.1[a]? = some (10 + ci, n)) (ht : a_fty ci k = 0 ∨ a_fty ci k = 1) : c_e b n0 cA (h.1, upI h.2.1 a k x, h.2.2.1, h.2.2.2) a = .inr (ci, ((List.range n).map (fun j => c_f b n0 h ci a j)).set k (.int (Int32.ofInt x))) := by
  rw [c_e_obj (h := (h.1, upI h.2.1 a k x, h.2.2.1, h.2.2.2)) hk]
  refine congrArg (fun l => Sum.inr (ci, l)) (c_map_set ?_ (fun j hj => ?_))
  · unfold c_f
    rcases ht with ht | ht <;> rw [ht] <;> simp [upI]
  · have e : upI h.2.1 a k x a j = h.2.1 a j := if_neg (fun z => hj (by have := z.2; omega))
    unfold c_f
    dsimp only
    rw [e]
theorem c_e_fJ {a ci n k : Nat} {x : BitVec 64} (hk : h.1[a]? = some (10 + ci, n)) (ht : a_fty ci k = 3) : c_e b n0 cA (h.1, h.2.1, upJ h.2.2.1 a k x, h.2.2.2) a = .inr (ci, ((List.range n).map (fun j => c_f b n0 h ci a j)).set k (.long (Int64.ofBitVec x))) := by
  rw [c_e_obj (h := (h.1, h.2.1, upJ h.2.2.1 a k x, h.2.2.2)) hk]
  refine congrArg (fun l => Sum.inr (ci, l)) (c_map_set ?_ (fun j hj => ?_))
  · unfold c_f
    rw [ht]; simp [upJ]
  · have e : upJ h.2.2.1 a k x a j = h.2.2.1 a j := if_neg (fun z => hj (by have := z.2; omega))
    unfold c_f
    dsimp only
    rw [e]
theorem c_e_fR {a ci n k x : Nat} (hk : h.1[a]? = some (10 + ci, n)) (ht : a_fty ci k = 4) : c_e b n0 cA (h.1, h.2.1, h.2.2.1, upR h.2.2.2 a k (some x)) a = .inr (ci, ((List.range n).map (fun j => c_f b n0 h ci a j)).set k (.ref (c_g b n0 x))) := by
  rw [c_e_obj (h := (h.1, h.2.1, h.2.2.1, upR h.2.2.2 a k (some x))) hk]
  refine congrArg (fun l => Sum.inr (ci, l)) (c_map_set ?_ (fun j hj => ?_))
  · unfold c_f
    rw [ht]; simp [upR, va_rf]
  · have e : upR h.2.2.2 a k (some x) a j = h.2.2.2 a j := if_neg (fun z => hj (by have := z.2; omega))
    unfold c_f
    dsimp only
    rw [e]
theorem c_e_aI {a t n : Nat} {i x : Int} (hk : h.1[a]? = some (t, n)) (ht : t < 3) (hi : 0 ≤ i) (hr : inR i) : c_e b n0 cA (h.1, upI h.2.1 a i x, h.2.2.1, h.2.2.2) a = .inl (cA t, n, .inl (upd (fun j : Nat => Int32.ofInt (h.2.1 a j)) (Int32.ofInt i).toNatClampNeg (Int32.ofInt x))) := by
  rw [c_e_int (h := (h.1, upI h.2.1 a i x, h.2.2.1, h.2.2.2)) hk ht, inR_cl hr]
  congr 4
  funext j
  unfold upd upI
  dsimp only
  by_cases hj : j = i.toNat
  · rw [if_pos hj, if_pos ⟨rfl, by omega⟩]
  · rw [if_neg hj, if_neg (fun z => hj (by have := z.2; omega))]
theorem c_e_aJ {a n : Nat} {i : Int} {x : BitVec 64} (hk : h.1[a]? = some (3, n)) (hi : 0 ≤ i) (hr : inR i) : c_e b n0 cA (h.1, h.2.1, upJ h.2.2.1 a i x, h.2.2.2) a = .inl (cA 3, n, .inr (.inl (vp_updL (fun j : Nat => Int64.ofBitVec (h.2.2.1 a j)) (Int32.ofInt i).toNatClampNeg (Int64.ofBitVec x)))) := by
  rw [c_e_lng (h := (h.1, h.2.1, upJ h.2.2.1 a i x, h.2.2.2)) hk, inR_cl hr]
  congr 5
  funext j
  unfold vp_updL upJ
  dsimp only
  by_cases hj : j = i.toNat
  · rw [if_pos hj, if_pos ⟨rfl, by omega⟩]
  · rw [if_neg hj, if_neg (fun z => hj (by have := z.2; omega))]
theorem c_e_aR {a n v : Nat} {i : Int} (hk : h.1[a]? = some (4, n)) (hi : 0 ≤ i) (hr : inR i) : c_e b n0 cA (h.1, h.2.1, h.2.2.1, upR h.2.2.2 a i (some v)) a = .inl (cA 4, n, .inr (.inr (.inr (.inr (va_up (fun j : Nat => (h.2.2.2 a j).map (c_g b n0)) (Int32.ofInt i).toNatClampNeg (some (c_g b n0 v))))))) := by
  rw [c_e_ref (h := (h.1, h.2.1, h.2.2.1, upR h.2.2.2 a i (some v))) hk, inR_cl hr]
  congr 8
  funext j
  unfold va_up upR
  dsimp only
  by_cases hj : j = i.toNat
  · rw [if_pos hj, if_pos ⟨rfl, by omega⟩]; rfl
  · rw [if_neg hj, if_neg (fun z => hj (by have := z.2; omega))]
end CE
section FW
variable {b n0 l0 z0 : Nat} {D : va_G} {cA : Nat → ClassId} {s : State} {h h' : Hp} {H H1 : Heap} {locs locs1 : List Loc}
theorem Fw.put {a : Nat} (hF : Fw b n0 l0 z0 D cA s h H locs) (h0 : 0 < a) (ha : a < h.1.length) (e1 : h'.1 = h.1) (e2 : ∀ j, 0 < j → j ≠ a → c_e b n0 cA h' j = c_e b n0 cA h j) (hk : Kp h h') {en : va_E} (he : c_e b n0 cA h' a = en) (hP : va_P D vwCl ((c_ws b n0 cA h).set (a - 1) (c_g b n0 a, en)) H1) (hS : va_S (fun q => n0 ≤ q) s.heap H1 locs1) : Fw b n0 l0 z0 D cA s h' H1 locs1 := by
  obtain ⟨-, -, -, f4, f5, L, f6, f7, f8⟩ := hF
  rw [← he, ← c_ws_set b n0 cA h0 ha e1 e2] at hP
  refine ⟨hP, hS, hk.1, by rw [e1]; exact f4, by rw [e1]; exact f5, L, by rw [e1]; exact f6, f7, ?_⟩
  rw [show (fun j : Nat => Int32.ofInt (h'.2.1 0 j)) = (fun j : Nat => Int32.ofInt (h.2.1 0 j)) from funext fun j => by rw [hk.2.2]]
  exact f8
theorem Fw.new {x : Nat × Nat} (hF : Fw b n0 l0 z0 D cA s h H locs) {en : va_E} (he : c_e b n0 cA (h.1 ++ [x], h.2.1, h.2.2.1, h.2.2.2) h.1.length = en) (hP : va_P D vwCl (c_ws b n0 cA h ++ [(n0 + (h.1.length - 1), en)]) H1) (hS : va_S (fun q => n0 ≤ q) s.heap H1 locs1) : Fw b n0 l0 z0 D cA s (h.1 ++ [x], h.2.1, h.2.2.1, h.2.2.2) H1 locs1 := by
  obtain ⟨-, -, f3, f4, f5, L, f6, f7, f8⟩ := hF
  rw [← he, ← c_ws_app b n0 cA (h' := (h.1 ++ [x], h.2.1, h.2.2.1, h.2.2.2)) f3.1 rfl rfl] at hP
  refine ⟨hP, hS, (Kp.new f3 x).1, ?_, ?_, L, ?_, f7, f8⟩
  · show l0 ≤ (h.1 ++ [x]).length
    rw [List.length_append]; omega
  · show z0 ≤ sz (h.1 ++ [x])
    unfold sz at f5 ⊢
    rw [List.map_append, List.sum_append]; omega
  · show (h.1 ++ [x])[0]? = _
    rw [List.getElem?_append_left f3.1]; exact f6
/-- the new cell's address: the only free one -/
theorem new_at {en : va_E} {q : Nat} (hF : Fw b n0 l0 z0 D cA s h H locs) (hsz : s.heap.size = n0 + (l0 - 1)) (hl0 : 0 < l0) (hP : va_P D vwCl (c_ws b n0 cA h ++ [(q, en)]) H1) (hD : va_D (fun q => n0 ≤ q) (c_ws b n0 cA h ++ [(q, en)])) (hz : H1.size ≤ s.heap.size + (h.1.length - l0 + 1)) : q = n0 + (h.1.length - 1) := by
  have hl := c_ws_len b n0 cA h
  have hq : (c_ws b n0 cA h ++ [(q, en)])[h.1.length - 1]? = some (q, en) := by
    rw [List.getElem?_append_right (by rw [hl]; exact Nat.le_refl _), hl, Nat.sub_self]; rfl
  have h1 : q < H1.size := (hP _ _ hq).lt
  have h2 : n0 ≤ q := hD.2 _ _ hq
  have h3 := hF.2.2.2.1
  rcases Nat.lt_or_ge (q - n0) (h.1.length - 1) with h4 | h4
  · have g := c_ws_get b n0 cA h (k := q - n0 + 1) (by omega) (by omega)
    rw [show q - n0 + 1 - 1 = q - n0 by omega] at g
    have g2 : (c_ws b n0 cA h ++ [(q, en)])[q - n0]? = some (c_g b n0 (q - n0 + 1), c_e b n0 cA h (q - n0 + 1)) := by rw [List.getElem?_append_left (by rw [hl]; exact h4)]; exact g
    have := hD.1 _ _ _ _ g2 hq (by show c_g b n0 (q - n0 + 1) = q; unfold c_g; rw [if_neg (by omega)]; omega)
    omega
  · omega
end FW
theorem ok_fld_s {M ix ci k w ns : Nat} (h : ok_fld M ix ci k w ns = true) : ∃ C T N, vwCl[ci]? = some (C, T, N) ∧ k < N ∧ ((ns = 0 ∧ Jvm.Cond.fieldLink (a_y M).cls ix (T k).1 (T k).2.1 (T k).2.2.1 ∈ gw) ∨ (ns ≠ 0 ∧ Jvm.Cond.fieldLinkNest (a_y M).cls ix (T k).1 (T k).2.1 (T k).2.2.1 "VersionVault" ∈ lw_tbl)) := by
  unfold ok_fld at h
  split at h
  · rename_i C T N hv
    rw [Bool.and_eq_true] at h
    refine ⟨C, T, N, hv, of_decide_eq_true h.1, ?_⟩
    have h2 := h.2
    split at h2
    · rename_i hn; exact Or.inl ⟨hn, w_ok_in h2⟩
    · rename_i hn; exact Or.inr ⟨hn, w_is_in h2⟩
  · cases h
theorem ok_fin_s {M ci k ns : Nat} {C : String} {T : u_T} {N : Nat} (hv : vwCl[ci]? = some (C, T, N)) (h : ok_fin M ci k ns = true) : (T k).2.2.2 = false ∨ ((T k).2.2.2 = true ∧ (a_y M).name = "<init>" ∧ (T k).1 = (a_y M).cls ∧ ns = 0) := by
  unfold ok_fin at h
  rw [hv] at h
  dsimp only at h
  split at h
  · rename_i hf
    rw [Bool.and_eq_true, Bool.and_eq_true] at h
    exact Or.inr ⟨hf, of_decide_eq_true h.1.1, of_decide_eq_true h.1.2, of_decide_eq_true h.2⟩
  · rename_i hf
    exact Or.inl (by simpa using hf)
theorem tyc_0 {t : FieldType} (h : a_tyc t = 0) : t = .int := by cases t <;> first | rfl | (simp [a_tyc] at h)
theorem tyc_1 {t : FieldType} (h : a_tyc t = 1) : t = .boolean := by cases t <;> first | rfl | (simp [a_tyc] at h)
theorem tyc_3 {t : FieldType} (h : a_tyc t = 3) : t = .long := by cases t <;> first | rfl | (simp [a_tyc] at h)
theorem tyc_4 {t : FieldType} (h : a_tyc t = 4) : (∃ n, t = .object n) ∨ ∃ u, t = .array u := by cases t <;> first | exact Or.inl ⟨_, rfl⟩ | exact Or.inr ⟨_, rfl⟩ | (simp [a_tyc] at h)
theorem fty_ok : ∀ ci, ci < 12 → ∀ k, k < (a_cls ci).1 → (a_fty ci k = 0 ∨ a_fty ci k = 1) ∨ a_fty ci k = 3 ∨ a_fty ci k = 4 := by decide +kernel

