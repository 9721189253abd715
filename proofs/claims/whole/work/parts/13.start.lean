/-! THE CLAIM OUT OF ONE WALK OF THE LAW'S BODY. Your part is whole_start (and what it stands on); all else here is the same for every law, but numbers. -/
def R_law : String := "VersionVaultLaw"
def lw_P (b : Addr) (xs : List Int32) (args : Array Value) (s : State) : Prop := args = #[.ref b] ∧ s.IntsAt b xs ∧ xs.length ≤ 2048 ∧ (Jvm.Cond.and given_1 narrow_1).before args s = true
def lw_Q (_ : Array Value) (s : State) (o : Outcome) (t : State) : Prop := o = .returned (some (.int 1)) ∧ Framed s o t [] 600000 7302250
def lw_Z (below : List Frame) (a : Array Value) (s : State) : State → Prop := fun t => ∃ o, t.status = .running ∧ Ended t below o ∧ lw_Q a s o t
/-- the law's own end, with 1 on the stack, nothing written that was there before, its room as the claim has it -/
theorem lw_ret {p : Program} {l : Launch} {e : Env} {s : State} {m : MethodId} {below : List Frame} {meth : Method} {c : Code} {b : Nat} (hx : p.tables.exec = Jvm.exec) (hb : c.code = code) (hr : meth.sig.returnType = ret) (hlocks : meth.locks = false) {pc : Nat} {H : Heap} {ls : Array Slot} (hdg : decode code pc = .ok (.ireturn, 1)) : W p l e room_1 s m #[Value.ref b] below meth c H [] 600000 7302250 (lw_Z below #[Value.ref b] s) (F0 m pc ls [.int 1]) := by
  intro T hT X
  obtain ⟨fs, hret, hrun, hended, hW, hframe⟩ := X.leave (v := some (.int 1)) (hlocks := hlocks) (fun h => by rw [hr] at h; cases h)
  have hmeth' : T.vm.method? m = some meth := X.method'
  refine ⟨T.setFrames fs, ?_, .returned (some (.int 1)), hrun, hended, rfl, ⟨_, rfl⟩, hW, hframe⟩
  jvm_step X.here [X.here.top, hx, hb, hdg, hmeth', hr, ret, narrow_b1]
  (try refine ⟨rfl, ?_⟩); (try refine ⟨rfl, ?_⟩)
  first | (intro acts; rw [hret _ acts rfl rfl rfl]) | rw [hret _ _ rfl rfl rfl]
  exact Steps.refl _
/-- what holds at the law's entry: the machine, the code, the tables' words (any of lw_tbl by 'hts w (by decide +kernel)'), the script of L ints xs at the cell b, what the Statement gives of the start (any of its parts by flat_of_before) -/
def lw_At (p : Program) (s : State) (m : MethodId) (meth : Method) (c : Code) (b L : Nat) (xs : Nat → Int32) : Prop :=
  p.tables.exec = Jvm.exec ∧ c.code = code ∧ meth.sig.returnType = ret ∧ c.maxLocals = 4 ∧ s.vm.findClass R_law = some m.cls ∧ (∀ w ∈ lw_tbl, w.before #[Value.ref b] s = true) ∧ va_X b L xs s s.heap ∧ b < s.heap.size ∧ meth.locks = false ∧ (Jvm.Cond.and given_1 narrow_1).before #[Value.ref b] s = true
set_option maxRecDepth 100000 in
theorem a_cc_law : a_cc 234 = code := rfl
/-- the heap at the law's start: the script alone -/
def h_0 (L : Nat) (f : Int → Int) : Hp := ([(0, L)], fun k j => if k = 0 then f j else 0, fun _ _ => 0, fun _ _ => none)
/-- what the law must do, in the pure machine -/
def LawOK : Prop := ∀ (L : Nat) (f : Int → Int), L ≤ 2048 → (∀ j, inR (f j)) → ∃ (n : Nat) (h' : Hp), a_run P0 n 234 0 (a_ent 4 [vr 0]) [] (h_0 L f) = some (vi 1, h') ∧ h'.1.length ≤ 600000 ∧ sz h'.1 ≤ 7302250
theorem ci_known {s : State} {b : Nat} (hts : ∀ w ∈ gw, w.before #[Value.ref b] s = true) : ∃ (dC : Nat → ClassId) (dI : Nat → Nat → Nat), ∀ (k : Nat) (q : vw_C), vwCl[k]? = some q → u_Kn s q.1 q.2.1 q.2.2 (dC k) (dI k) := by
  have key : ∀ k : Nat, ∃ (c : ClassId) (iS : Nat → Nat), ∀ q : vw_C, vwCl[k]? = some q → u_Kn s q.1 q.2.1 q.2.2 c iS := by
    intro k
    cases hq : vwCl[k]? with
    | none => exact ⟨default, fun _ => 0, fun q h => by cases h⟩
    | some q =>
      obtain ⟨C, T, N⟩ := q
      obtain ⟨v1, -⟩ := vw_all hq
      have hin : Jvm.Cond.instantiable C N ∈ gw := by
        have hlt := vw_lt hq
        match k, hlt, hq with
        | 0, _, h => cases h; exact List.mem_filter.mpr ⟨List.mem_of_getElem? (i := 329) (by decide +kernel), rfl⟩
        | 1, _, h => cases h; exact List.mem_filter.mpr ⟨List.mem_of_getElem? (i := 181) (by decide +kernel), rfl⟩
        | 2, _, h => cases h; exact List.mem_filter.mpr ⟨List.mem_of_getElem? (i := 373) (by decide +kernel), rfl⟩
        | 3, _, h => cases h; exact List.mem_filter.mpr ⟨List.mem_of_getElem? (i := 453) (by decide +kernel), rfl⟩
        | 4, _, h => cases h; exact List.mem_filter.mpr ⟨List.mem_of_getElem? (i := 152) (by decide +kernel), rfl⟩
        | 5, _, h => cases h; exact List.mem_filter.mpr ⟨List.mem_of_getElem? (i := 244) (by decide +kernel), rfl⟩
        | 6, _, h => cases h; exact List.mem_filter.mpr ⟨List.mem_of_getElem? (i := 270) (by decide +kernel), rfl⟩
        | 7, _, h => cases h; exact List.mem_filter.mpr ⟨List.mem_of_getElem? (i := 264) (by decide +kernel), rfl⟩
        | 8, _, h => cases h; exact List.mem_filter.mpr ⟨List.mem_of_getElem? (i := 173) (by decide +kernel), rfl⟩
        | 9, _, h => cases h; exact List.mem_filter.mpr ⟨List.mem_of_getElem? (i := 426) (by decide +kernel), rfl⟩
        | 10, _, h => cases h; exact List.mem_filter.mpr ⟨List.mem_of_getElem? (i := 144) (by decide +kernel), rfl⟩
        | 11, _, h => cases h; exact List.mem_filter.mpr ⟨List.mem_of_getElem? (i := 1071) (by decide +kernel), rfl⟩
        | n + 12, hlt, _ => omega
      obtain ⟨c, iS, h⟩ := u_known (C := C) (T := T) (N := N) (n := N) hts v1 (hts _ hin)
      exact ⟨c, iS, fun q hq' => by cases hq'; exact h⟩
  refine ⟨fun k => (key k).choose, fun k => (key k).choose_spec.choose, fun k q h => (key k).choose_spec.choose_spec q h⟩
theorem arr_known {s : State} {b : Nat} {ty : FieldType} (h : (Jvm.Cond.arrayClass ty).before #[Value.ref b] s = true) : ∃ cA : ClassId, ArrOfT s cA ty ∧ s.vm.findClass ("[" ++ ty.toString) = some cA := by
  obtain ⟨c, k, comp, h1, h2, h3⟩ := Cond.arrayClass_spec h
  exact ⟨c, fun n z => ⟨fun k h => (by cases h), k, h2, comp, h3⟩, h1⟩
set_option maxHeartbeats 1000000 in
theorem whole_start' (hlaw : LawOK) {p : Program} {e : Env} {s : State} {m : MethodId} {below : List Frame} {meth : Method} {c : Code} (l : Launch) {b L : Nat} {xs : Nat → Int32} (hL : L ≤ 2048) (C0 : lw_At p s m meth c b L xs) : W p l e room_1 s m #[Value.ref b] below meth c s.heap [] 0 0 (lw_Z below #[Value.ref b] s) (entryFrame m ([Value.ref b] : List Value).toArray 4) := by
  obtain ⟨hx, hb, hr, hml, hown, hts0, hX, hbl, hlocks, hgv⟩ := id C0
  have hts : ∀ w ∈ gw, w.before #[Value.ref b] s = true := fun w hw => hts0 w (List.mem_filter.mp hw).1
  obtain ⟨dC, dI, hKn⟩ := ci_known hts
  obtain ⟨cI, aI1, aI2⟩ := arr_known (hts0 (.arrayClass .int) (List.mem_of_getElem? (i := 171) (by decide +kernel)))
  obtain ⟨cZ, aZ1, aZ2⟩ := arr_known (hts0 (.arrayClass .boolean) (List.mem_of_getElem? (i := 262) (by decide +kernel)))
  obtain ⟨cB, aB1, aB2⟩ := arr_known (hts0 (.arrayClass .byte) (List.mem_of_getElem? (i := 202) (by decide +kernel)))
  obtain ⟨cJ, aJ1, aJ2⟩ := arr_known (hts0 (.arrayClass .long) (List.mem_of_getElem? (i := 284) (by decide +kernel)))
  have hov := hts0 (.arrayOver (.object "VersionVault$Row")) (List.mem_of_getElem? (i := 381) (by decide +kernel))
  obtain ⟨comp, cR, kR, r1, -, r3, r4, r5⟩ := Cond.arrayOver_spec hov
  let cA : Nat → ClassId := fun t => if t = 0 then cI else if t = 1 then cZ else if t = 2 then cB else if t = 3 then cJ else cR
  have hK : va_K (dC, dI) vwCl (c_tys cA) s := by
    refine ⟨hKn, fun k q hq => ?_⟩
    match k, hq with
    | 0, hq => cases hq; exact ⟨aI1, aI2⟩
    | 1, hq => cases hq; exact ⟨aZ1, aZ2⟩
    | 2, hq => cases hq; exact ⟨aB1, aB2⟩
    | 3, hq => cases hq; exact ⟨aJ1, aJ2⟩
    | 4, hq => cases hq; exact ⟨fun n z => ⟨fun k h => (by cases h), kR, r3, comp, r4⟩, kR, comp, r3, r4, r1, r5⟩
    | k + 5, hq => simp [c_tys] at hq
  have hNB : NB s := ⟨fun w hw hi => va_Nw.of (nest_tab hi) (hts0 w hw), va_AO.of hov⟩
  let f : Int → Int := fun j => (xs j.toNat).toInt
  have hf : ∀ j, inR (f j) := fun j => ⟨by have := Int32.le_toInt (xs j.toNat); show -2147483648 ≤ (xs j.toNat).toInt; omega, by have := Int32.toInt_lt (xs j.toNat); show (xs j.toNat).toInt ≤ 2147483647; omega⟩
  obtain ⟨n, h', hrun, hz1, hz2⟩ := hlaw L f hL hf
  have hOK : HpOK (h_0 L f) := by
    refine ⟨Nat.one_pos, fun k j => ?_, fun k hk j => ⟨?_, rfl, rfl⟩⟩
    · show inR (if k = 0 then f j else 0)
      split
      · exact hf j
      · exact ⟨by decide, by decide⟩
    · have hk : 1 ≤ k := hk
      show (if k = 0 then f j else 0) = 0
      rw [if_neg (by omega)]
  have hC : Cx b s.heap.size 1 (dC, dI) cA p room_1 s m #[Value.ref b] meth c 234 := ⟨hx, hb, hml, hown, hts, hNB, hK, hr, hlocks, fun e => absurd e (by decide), by decide, by decide, hbl, rfl, Nat.one_pos, by decide, by decide⟩
  have hF : Fw b s.heap.size 1 L (dC, dI) cA s (h_0 L f) s.heap [] := by
    refine ⟨fun k q hq => ?_, va_S.rf, hOK, Nat.le_refl _, ?_, L, rfl, by omega, ?_⟩
    · have := (c_ws_ix _ _ _ _ hq).1
      have this : k < 1 - 1 := this
      omega
    · show L ≤ sz [(0, L)]
      simp [sz]
    · refine (show (fun j : Nat => Int32.ofInt ((h_0 L f).2.1 0 j)) = xs from funext fun j => ?_) ▸ hX
      show Int32.ofInt (xs (j : Int).toNat).toInt = xs j
      rw [Int32.ofInt_toInt, Int.toNat_natCast]
  rw [lg_entry_eq]
  have W0 := snd_frame b s.heap.size (dC, dI) cA l n (fun k _ => snd_meth b s.heap.size (dC, dI) cA l hbl k) 1 L p e room_1 s m #[Value.ref b] below meth c (lw_Z below #[Value.ref b] s) 234 hC (Or.inr rfl) (vi 1) h' (by show h'.1.length - 1 ≤ 600000; omega) (by show sz h'.1 - L ≤ 7302250; omega)
    (fun H locs E pc lo st ls hok hs hF hS => by
      obtain ⟨hdec, hlnk⟩ := ok_row_s hok
      obtain ⟨-, -, e3⟩ := a_step_ret hs hS
      obtain ⟨i, an, ks, val⟩ := E
      rcases e3 with ⟨x, e4, e5, e6, -⟩ | ⟨x, e4, e5, e6⟩ | ⟨e4, e5, e6⟩
      · have e4 : i = .ireturn := e4
        subst e4; subst e5
        have e6 : x = 1 := (Sum.inl.inj e6).symm
        subst e6
        refine va_forget (hF.2.1.2.2) ?_
        refine W.widen (k := 600000) (n := 7302250) (by omega) (by omega) ?_
        have hd : decode (a_cc 234) pc = .ok (.ireturn, 1) := ok_dec_n hdec rfl
        rw [a_cc_law] at hd
        exact lw_ret hx hb hr hlocks hd
      · cases e6
      · cases e6) 0 (a_ent 4 [vr 0]) [] (h_0 L f) s.heap [] _ hrun hF (ent_Lv (b := b) (n0 := s.heap.size) (mL := 4) (as := [vr 0]) (by decide)) (fun v hv => by cases hv) (a_ent_ok (fun v hv => by rcases List.mem_cons.mp hv with rfl | hv; exact trivial; cases hv))
  have ez : sz (h_0 L f).1 - L = 0 := by show sz [(0, L)] - L = 0; simp [sz]
  rw [ez] at W0
  exact W0
