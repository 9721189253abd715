/-! loops: up, and down -/
theorem lp {σ α : Type} {lo hi : Int} {F : Int → σ → α} {Q : α → Prop} (Inv : Int → σ → Prop) (step : ∀ i s, lo ≤ i → i < hi → Inv i s → Q (F i s) ∨ ∃ s', F i s = F (i + 1) s' ∧ Inv (i + 1) s') (fin : ∀ s, Inv hi s → Q (F hi s)) (i : Int) (s : σ) (h1 : lo ≤ i) (h2 : i ≤ hi) (h : Inv i s) : Q (F i s) := by
  obtain ⟨N, hN⟩ : ∃ N : Nat, (hi - i).toNat = N := ⟨_, rfl⟩
  induction N generalizing i s with
  | zero =>
    have e : i = hi := by omega
    subst e
    exact fin s h
  | succ N ih =>
    rcases step i s h1 (by omega) h with q | ⟨s', e, h'⟩
    · exact q
    · rw [e]; exact ih (i + 1) s' (by omega) (by omega) h' (by omega)
theorem lpd {σ α : Type} {lo hi : Int} {F : Int → σ → α} {Q : α → Prop} (Inv : Int → σ → Prop) (step : ∀ i s, lo < i → i ≤ hi → Inv i s → Q (F i s) ∨ ∃ s', F i s = F (i + (-1)) s' ∧ Inv (i + (-1)) s') (fin : ∀ s, Inv lo s → Q (F lo s)) (i : Int) (s : σ) (h1 : lo ≤ i) (h2 : i ≤ hi) (h : Inv i s) : Q (F i s) := by
  obtain ⟨N, hN⟩ : ∃ N : Nat, (i - lo).toNat = N := ⟨_, rfl⟩
  induction N generalizing i s with
  | zero =>
    have e : i = lo := by omega
    subst e
    exact fin s h
  | succ N ih =>
    rcases step i s (by omega) h2 h with q | ⟨s', e, h'⟩
    · exact q
    · rw [e]; exact ih (i + (-1)) s' (by omega) (by omega) h' (by omega)
/-- nothing changed but in some cells, and in some fields of the reference's object -/
def Sm (cs : List Nat) (fs : List Int) (I I' : AI) : Prop := (∀ c, c ∉ cs → c ≠ 115 → I' c = I c) ∧ ∀ j, j ∉ fs → I' 115 j = I 115 j
theorem Sm.rf {cs : List Nat} {fs : List Int} {I : AI} : Sm cs fs I I := ⟨fun _ _ _ => rfl, fun _ _ => rfl⟩
theorem Sm.tr {cs : List Nat} {fs : List Int} {I I' I'' : AI} (h : Sm cs fs I I') (h' : Sm cs fs I' I'') : Sm cs fs I I'' := ⟨fun c hc hd => (h'.1 c hc hd).trans (h.1 c hc hd), fun j hj => (h'.2 j hj).trans (h.2 j hj)⟩
theorem Sm.up {cs : List Nat} {fs : List Int} {I I' : AI} (h : Sm cs fs I I') {k : Nat} {i v : Int} (hk : k ∈ cs) (hn : k ≠ 115) : Sm cs fs I (upI I' k i v) := ⟨fun c hc hd => (upI_c (c := c) (k := k) (fun e => hc (by rw [e]; exact hk)) I' i v).trans (h.1 c hc hd), fun j hj => by rw [upI_c (Ne.symm hn)]; exact h.2 j hj⟩
theorem Sm.fld {cs : List Nat} {fs : List Int} {I I' : AI} (h : Sm cs fs I I') {i v : Int} (hi : i ∈ fs) : Sm cs fs I (upI I' 115 i v) := ⟨fun c hc hd => (upI_c hd I' i v).trans (h.1 c hc hd), fun j hj => by rw [upI_i (fun e => hj (by rw [e]; exact hi))]; exact h.2 j hj⟩
theorem Sm.mono {cs ds : List Nat} {fs gs : List Int} {I I' : AI} (h : Sm cs fs I I') (hs : ∀ c ∈ cs, c ∈ ds) (ht : ∀ c ∈ fs, c ∈ gs) : Sm ds gs I I' := ⟨fun c hc hd => h.1 c (fun z => hc (hs c z)) hd, fun j hj => h.2 j (fun z => hj (ht j z))⟩
theorem Same.sm {cs : List Nat} {I I' : AI} (h : Same cs I I') (hn : 115 ∉ cs) : Sm cs [] I I' := ⟨fun c hc _ => h c hc, fun j _ => by rw [h 115 hn]⟩
theorem upI_z (I : AI) (k : Nat) (i v w : Int) : upI (upI I k i v) k i w = upI I k i w := by
  funext c j
  show (if c = k ∧ j = i then w else if c = k ∧ j = i then v else I c j) = if c = k ∧ j = i then w else I c j
  split <;> rfl
