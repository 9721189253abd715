theorem cat_sum3 {b n0 : Nat} {r : List AV} (h : r.length ≤ 3) : ((r.map (c_v b n0)).map fun v => v.category).sum ≤ 7 := by
  have key : ∀ r : List AV, ((r.map (c_v b n0)).map fun v => v.category).sum ≤ 2 * r.length := by
    intro r
    induction r with
    | nil => simp
    | cons v r ih =>
      rw [List.map_cons, List.map_cons, List.sum_cons, List.length_cons]
      have := lv_cat (c_v b n0 v)
      omega
  have := key r
  omega
theorem ok_row_s {M pc : Nat} {E : Ent} (hok : ok_row M (pc, E) = true) : ok_dec M pc E.1 = true ∧ ok_link M E = true := by
  unfold ok_row at hok
  rw [Bool.and_eq_true] at hok
  exact hok
theorem cat_sum {b n0 : Nat} {r : List AV} (h : r.length ≤ 4) : ((r.map (c_v b n0)).map fun v => v.category).sum ≤ 8 := by
  have key : ∀ r : List AV, ((r.map (c_v b n0)).map fun v => v.category).sum ≤ 2 * r.length := by
    intro r
    induction r with
    | nil => simp
    | cons v r ih =>
      rw [List.map_cons, List.map_cons, List.sum_cons, List.length_cons]
      have := lv_cat (c_v b n0 v)
      omega
  have := key r
  omega
/-- a step that goes on, of one instruction -/
def SG (i : Instr) : Prop := ∀ (b n0 l0 z0 : Nat) (D : va_G) (cA : Nat → ClassId) (p : Program) (l : Launch) (e : Env) (R : Room) (s : State) (m : MethodId) (args : Array Value) (below : List Frame) (meth : Method) (c : Code) (Q : State → Prop) (M : Nat) (_ : Cx b n0 l0 D cA p R s m args meth c M)
    (an ks : List Nat) (val : Int) (pc : Nat) (lo : LO) (st : List AV) (h : Hp) (pc' : Nat) (lo' : LO) (st' : List AV) (h' : Hp) (_ : ok_row M (pc, (i, an, ks, val)) = true) (_ : a_step a_mi (i, an, ks, val) pc lo st h = r_go pc' lo' st' h') (H : Heap) (locs : List Loc) (ls : Array Slot) (_ : Fw b n0 l0 z0 D cA s h H locs) (_ : Lv b n0 ls (a_mL M) lo) (_ : SOK st) (_ : LOK lo)
    (_ : h'.1.length - l0 ≤ R.cells) (_ : sz h'.1 - z0 ≤ R.slots)
    (_ : ∀ (H' : Heap) (locs' : List Loc) (ls' : Array Slot), Fw b n0 l0 z0 D cA s h' H' locs' → Lv b n0 ls' (a_mL M) lo' → W p l e R s m args below meth c H' locs' (h'.1.length - l0) (sz h'.1 - z0) Q (F0 m pc' ls' (st'.map (c_v b n0)))),
    W p l e R s m args below meth c H locs (h.1.length - l0) (sz h.1 - z0) Q (F0 m pc ls (st.map (c_v b n0)))
set_option maxHeartbeats 400000 in
theorem sg_iconst (n : Int) : SG (.iconst n) := by
  intro b n0 l0 z0 D cA p l e R s m args below meth c Q M hC an ks val pc lo st h pc' lo' st' h' hok hs H locs ls hF hl hS hL hR1 hR2 kk
  obtain ⟨hx, hb, hml, hown, hts, hNB, hK, hret, hlk, hnm, hfr, hlc, hbn, hsz, hl0, hq0⟩ := hC
  obtain ⟨hP, hS0, hOK, hg1, hg2, L0, hk0, hL0, hX⟩ := id hF
  have hD := c_ws_D b n0 cA h
  have hkp := a_step_go hs hOK hS hL
  have hA : ∀ q, s.heap.size ≤ q → (fun q => n0 ≤ q) q := fun q hq => by show n0 ≤ q; omega
  obtain ⟨hdec, hlnk⟩ := ok_row_s hok
  simp only [a_step] at hs
  split at hs
  · cases hs
    exact lv_iconst hx hb (ok_dec_n hdec rfl) rfl (kk H locs ls hF hl)
  · cases hs
set_option maxHeartbeats 400000 in
theorem sg_bipush (n : Int) : SG (.bipush n) := by
  intro b n0 l0 z0 D cA p l e R s m args below meth c Q M hC an ks val pc lo st h pc' lo' st' h' hok hs H locs ls hF hl hS hL hR1 hR2 kk
  obtain ⟨hx, hb, hml, hown, hts, hNB, hK, hret, hlk, hnm, hfr, hlc, hbn, hsz, hl0, hq0⟩ := hC
  obtain ⟨hP, hS0, hOK, hg1, hg2, L0, hk0, hL0, hX⟩ := id hF
  have hD := c_ws_D b n0 cA h
  have hkp := a_step_go hs hOK hS hL
  have hA : ∀ q, s.heap.size ≤ q → (fun q => n0 ≤ q) q := fun q hq => by show n0 ≤ q; omega
  obtain ⟨hdec, hlnk⟩ := ok_row_s hok
  simp only [a_step] at hs
  split at hs
  · rename_i hc
    cases hs
    exact lv_bipush hx hb (ok_dec_n hdec rfl) (Int8.toInt32_ofInt (by show (-128 : Int) ≤ n; exact hc.1) (by show n ≤ (127 : Int); exact hc.2)) (kk H locs ls hF hl)
  · cases hs
set_option maxHeartbeats 400000 in
theorem sg_sipush (n : Int) : SG (.sipush n) := by
  intro b n0 l0 z0 D cA p l e R s m args below meth c Q M hC an ks val pc lo st h pc' lo' st' h' hok hs H locs ls hF hl hS hL hR1 hR2 kk
  obtain ⟨hx, hb, hml, hown, hts, hNB, hK, hret, hlk, hnm, hfr, hlc, hbn, hsz, hl0, hq0⟩ := hC
  obtain ⟨hP, hS0, hOK, hg1, hg2, L0, hk0, hL0, hX⟩ := id hF
  have hD := c_ws_D b n0 cA h
  have hkp := a_step_go hs hOK hS hL
  have hA : ∀ q, s.heap.size ≤ q → (fun q => n0 ≤ q) q := fun q hq => by show n0 ≤ q; omega
  obtain ⟨hdec, hlnk⟩ := ok_row_s hok
  simp only [a_step] at hs
  split at hs
  · rename_i hc
    cases hs
    exact lv_sipush hx hb (ok_dec_n hdec rfl) (Int16.toInt32_ofInt (by show (-32768 : Int) ≤ n; exact hc.1) (by show n ≤ (32767 : Int); exact hc.2)) (kk H locs ls hF hl)
  · cases hs
set_option maxHeartbeats 400000 in
theorem sg_lconst (n : Fin 2) : SG (.lconst n) := by
  intro b n0 l0 z0 D cA p l e R s m args below meth c Q M hC an ks val pc lo st h pc' lo' st' h' hok hs H locs ls hF hl hS hL hR1 hR2 kk
  obtain ⟨hx, hb, hml, hown, hts, hNB, hK, hret, hlk, hnm, hfr, hlc, hbn, hsz, hl0, hq0⟩ := hC
  obtain ⟨hP, hS0, hOK, hg1, hg2, L0, hk0, hL0, hX⟩ := id hF
  have hD := c_ws_D b n0 cA h
  have hkp := a_step_go hs hOK hS hL
  have hA : ∀ q, s.heap.size ≤ q → (fun q => n0 ≤ q) q := fun q hq => by show n0 ≤ q; omega
  obtain ⟨hdec, hlnk⟩ := ok_row_s hok
  simp only [a_step] at hs
  cases hs
  exact lv_lconst hx hb (ok_dec_n hdec rfl) rfl (kk H locs ls hF hl)
set_option maxHeartbeats 400000 in
theorem sg_ldc (ix : Nat) : SG (.ldc ix) := by
  intro b n0 l0 z0 D cA p l e R s m args below meth c Q M hC an ks val pc lo st h pc' lo' st' h' hok hs H locs ls hF hl hS hL hR1 hR2 kk
  obtain ⟨hx, hb, hml, hown, hts, hNB, hK, hret, hlk, hnm, hfr, hlc, hbn, hsz, hl0, hq0⟩ := hC
  obtain ⟨hP, hS0, hOK, hg1, hg2, L0, hk0, hL0, hX⟩ := id hF
  have hD := c_ws_D b n0 cA h
  have hkp := a_step_go hs hOK hS hL
  have hA : ∀ q, s.heap.size ≤ q → (fun q => n0 ≤ q) q := fun q hq => by show n0 ≤ q; omega
  obtain ⟨hdec, hlnk⟩ := ok_row_s hok
  simp only [a_step] at hs
  simp only [ok_link] at hlnk
  split at hs
  · cases hs
    split at hlnk
    · exact lv_ldc hx hb hown (hts _ (w_ok_in hlnk)) (ok_dec_n hdec rfl) (kk H locs ls hF hl)
    · cases hlnk
  · cases hs
set_option maxHeartbeats 400000 in
theorem sg_ldc_w (ix : Nat) : SG (.ldc_w ix) := by
  intro b n0 l0 z0 D cA p l e R s m args below meth c Q M hC an ks val pc lo st h pc' lo' st' h' hok hs H locs ls hF hl hS hL hR1 hR2 kk
  obtain ⟨hx, hb, hml, hown, hts, hNB, hK, hret, hlk, hnm, hfr, hlc, hbn, hsz, hl0, hq0⟩ := hC
  obtain ⟨hP, hS0, hOK, hg1, hg2, L0, hk0, hL0, hX⟩ := id hF
  have hD := c_ws_D b n0 cA h
  have hkp := a_step_go hs hOK hS hL
  have hA : ∀ q, s.heap.size ≤ q → (fun q => n0 ≤ q) q := fun q hq => by show n0 ≤ q; omega
  obtain ⟨hdec, hlnk⟩ := ok_row_s hok
  simp only [a_step] at hs
  simp only [ok_link] at hlnk
  split at hs
  · cases hs
    split at hlnk
    · exact lv_ldcw hx hb hown (hts _ (w_ok_in hlnk)) (ok_dec_n hdec rfl) (kk H locs ls hF hl)
    · cases hlnk
  · cases hs
set_option maxHeartbeats 400000 in
theorem sg_ldc2_w (ix : Nat) : SG (.ldc2_w ix) := by
  intro b n0 l0 z0 D cA p l e R s m args below meth c Q M hC an ks val pc lo st h pc' lo' st' h' hok hs H locs ls hF hl hS hL hR1 hR2 kk
  obtain ⟨hx, hb, hml, hown, hts, hNB, hK, hret, hlk, hnm, hfr, hlc, hbn, hsz, hl0, hq0⟩ := hC
  obtain ⟨hP, hS0, hOK, hg1, hg2, L0, hk0, hL0, hX⟩ := id hF
  have hD := c_ws_D b n0 cA h
  have hkp := a_step_go hs hOK hS hL
  have hA : ∀ q, s.heap.size ≤ q → (fun q => n0 ≤ q) q := fun q hq => by show n0 ≤ q; omega
  obtain ⟨hdec, hlnk⟩ := ok_row_s hok
  simp only [a_step] at hs
  simp only [ok_link] at hlnk
  cases hs
  split at hlnk
  · exact lv_ldc2 hx hb hown (hts _ (w_ok_in hlnk)) (ok_dec_n hdec rfl) (kk H locs ls hF hl)
  · cases hlnk
set_option maxHeartbeats 400000 in
theorem sg_iload_n (k : Fin 4) : SG (.iload_n k) := by
  intro b n0 l0 z0 D cA p l e R s m args below meth c Q M hC an ks val pc lo st h pc' lo' st' h' hok hs H locs ls hF hl hS hL hR1 hR2 kk
  obtain ⟨hx, hb, hml, hown, hts, hNB, hK, hret, hlk, hnm, hfr, hlc, hbn, hsz, hl0, hq0⟩ := hC
  obtain ⟨hP, hS0, hOK, hg1, hg2, L0, hk0, hL0, hX⟩ := id hF
  have hD := c_ws_D b n0 cA h
  have hkp := a_step_go hs hOK hS hL
  have hA : ∀ q, s.heap.size ≤ q → (fun q => n0 ≤ q) q := fun q hq => by show n0 ≤ q; omega
  obtain ⟨hdec, hlnk⟩ := ok_row_s hok
  simp only [a_step] at hs
  split at hs
  · rename_i x hx1
    cases hs
    exact lv_iload_n hx hb (ok_dec_n hdec rfl) rfl (hl.2.2.2 _ _ (g_i_some hx1)) (kk H locs ls hF hl)
  · cases hs
set_option maxHeartbeats 400000 in
theorem sg_lload_n (k : Fin 4) : SG (.lload_n k) := by
  intro b n0 l0 z0 D cA p l e R s m args below meth c Q M hC an ks val pc lo st h pc' lo' st' h' hok hs H locs ls hF hl hS hL hR1 hR2 kk
  obtain ⟨hx, hb, hml, hown, hts, hNB, hK, hret, hlk, hnm, hfr, hlc, hbn, hsz, hl0, hq0⟩ := hC
  obtain ⟨hP, hS0, hOK, hg1, hg2, L0, hk0, hL0, hX⟩ := id hF
  have hD := c_ws_D b n0 cA h
  have hkp := a_step_go hs hOK hS hL
  have hA : ∀ q, s.heap.size ≤ q → (fun q => n0 ≤ q) q := fun q hq => by show n0 ≤ q; omega
  obtain ⟨hdec, hlnk⟩ := ok_row_s hok
  simp only [a_step] at hs
  split at hs
  · rename_i x hx1
    cases hs
    exact lv_lload_n hx hb (ok_dec_n hdec rfl) rfl (hl.2.2.2 _ _ (g_l_some hx1)) (kk H locs ls hF hl)
  · cases hs
set_option maxHeartbeats 400000 in
theorem sg_aload_n (k : Fin 4) : SG (.aload_n k) := by
  intro b n0 l0 z0 D cA p l e R s m args below meth c Q M hC an ks val pc lo st h pc' lo' st' h' hok hs H locs ls hF hl hS hL hR1 hR2 kk
  obtain ⟨hx, hb, hml, hown, hts, hNB, hK, hret, hlk, hnm, hfr, hlc, hbn, hsz, hl0, hq0⟩ := hC
  obtain ⟨hP, hS0, hOK, hg1, hg2, L0, hk0, hL0, hX⟩ := id hF
  have hD := c_ws_D b n0 cA h
  have hkp := a_step_go hs hOK hS hL
  have hA : ∀ q, s.heap.size ≤ q → (fun q => n0 ≤ q) q := fun q hq => by show n0 ≤ q; omega
  obtain ⟨hdec, hlnk⟩ := ok_row_s hok
  simp only [a_step] at hs
  split at hs
  · rename_i x hx1
    cases hs
    exact lv_aload_n hx hb (ok_dec_n hdec rfl) rfl (hl.2.2.2 _ _ (g_r_some hx1)) (kk H locs ls hF hl)
  · cases hs
set_option maxHeartbeats 400000 in
theorem sg_iload (k : Nat) : SG (.iload k) := by
  intro b n0 l0 z0 D cA p l e R s m args below meth c Q M hC an ks val pc lo st h pc' lo' st' h' hok hs H locs ls hF hl hS hL hR1 hR2 kk
  obtain ⟨hx, hb, hml, hown, hts, hNB, hK, hret, hlk, hnm, hfr, hlc, hbn, hsz, hl0, hq0⟩ := hC
  obtain ⟨hP, hS0, hOK, hg1, hg2, L0, hk0, hL0, hX⟩ := id hF
  have hD := c_ws_D b n0 cA h
  have hkp := a_step_go hs hOK hS hL
  have hA : ∀ q, s.heap.size ≤ q → (fun q => n0 ≤ q) q := fun q hq => by show n0 ≤ q; omega
  obtain ⟨hdec, hlnk⟩ := ok_row_s hok
  simp only [a_step] at hs
  split at hs
  · rename_i x hx1
    cases hs
    exact lv_iload hx hb (ok_dec_n hdec rfl) (hl.2.2.2 _ _ (g_i_some hx1)) (kk H locs ls hF hl)
  · cases hs
set_option maxHeartbeats 400000 in
theorem sg_aload (k : Nat) : SG (.aload k) := by
  intro b n0 l0 z0 D cA p l e R s m args below meth c Q M hC an ks val pc lo st h pc' lo' st' h' hok hs H locs ls hF hl hS hL hR1 hR2 kk
  obtain ⟨hx, hb, hml, hown, hts, hNB, hK, hret, hlk, hnm, hfr, hlc, hbn, hsz, hl0, hq0⟩ := hC
  obtain ⟨hP, hS0, hOK, hg1, hg2, L0, hk0, hL0, hX⟩ := id hF
  have hD := c_ws_D b n0 cA h
  have hkp := a_step_go hs hOK hS hL
  have hA : ∀ q, s.heap.size ≤ q → (fun q => n0 ≤ q) q := fun q hq => by show n0 ≤ q; omega
  obtain ⟨hdec, hlnk⟩ := ok_row_s hok
  simp only [a_step] at hs
  split at hs
  · rename_i x hx1
    cases hs
    exact lv_aload hx hb (ok_dec_n hdec rfl) (hl.2.2.2 _ _ (g_r_some hx1)) (kk H locs ls hF hl)
  · cases hs
set_option maxHeartbeats 400000 in
theorem sg_istore_n (k : Fin 4) : SG (.istore_n k) := by
  intro b n0 l0 z0 D cA p l e R s m args below meth c Q M hC an ks val pc lo st h pc' lo' st' h' hok hs H locs ls hF hl hS hL hR1 hR2 kk
  obtain ⟨hx, hb, hml, hown, hts, hNB, hK, hret, hlk, hnm, hfr, hlc, hbn, hsz, hl0, hq0⟩ := hC
  obtain ⟨hP, hS0, hOK, hg1, hg2, L0, hk0, hL0, hX⟩ := id hF
  have hD := c_ws_D b n0 cA h
  have hkp := a_step_go hs hOK hS hL
  have hA : ∀ q, s.heap.size ≤ q → (fun q => n0 ≤ q) q := fun q hq => by show n0 ≤ q; omega
  obtain ⟨hdec, hlnk⟩ := ok_row_s hok
  simp only [a_step] at hs
  split at hs
  · rename_i x r
    split at hs
    · rename_i hc
      cases hs
      show W p l e R s m args below meth c H locs (h.1.length - l0) (sz h.1 - z0) Q (F0 m pc ls (.int (Int32.ofInt x) :: st'.map (c_v b n0)))
      have hlt : k.val < a_mL M := by
        rw [← hl.2.2.1]
        unfold s_ok at hc
        rw [Bool.and_eq_true] at hc
        exact of_decide_eq_true hc.1
      exact lv_istore_n hx hb (ok_dec_n hdec rfl) rfl hl.has hlt rfl (fun ls' hl' => kk H locs ls' hF (hl.store1 hc (vi x) hl'))
    · cases hs
  · cases hs
set_option maxHeartbeats 400000 in
theorem sg_astore_n (k : Fin 4) : SG (.astore_n k) := by
  intro b n0 l0 z0 D cA p l e R s m args below meth c Q M hC an ks val pc lo st h pc' lo' st' h' hok hs H locs ls hF hl hS hL hR1 hR2 kk
  obtain ⟨hx, hb, hml, hown, hts, hNB, hK, hret, hlk, hnm, hfr, hlc, hbn, hsz, hl0, hq0⟩ := hC
  obtain ⟨hP, hS0, hOK, hg1, hg2, L0, hk0, hL0, hX⟩ := id hF
  have hD := c_ws_D b n0 cA h
  have hkp := a_step_go hs hOK hS hL
  have hA : ∀ q, s.heap.size ≤ q → (fun q => n0 ≤ q) q := fun q hq => by show n0 ≤ q; omega
  obtain ⟨hdec, hlnk⟩ := ok_row_s hok
  simp only [a_step] at hs
  split at hs
  · rename_i x r
    split at hs
    · rename_i hc
      cases hs
      show W p l e R s m args below meth c H locs (h.1.length - l0) (sz h.1 - z0) Q (F0 m pc ls (.ref (c_g b n0 x) :: st'.map (c_v b n0)))
      have hlt : k.val < a_mL M := by
        rw [← hl.2.2.1]
        unfold s_ok at hc
        rw [Bool.and_eq_true] at hc
        exact of_decide_eq_true hc.1
      exact lv_astore_n hx hb (ok_dec_n hdec rfl) rfl hl.has hlt rfl (fun ls' hl' => kk H locs ls' hF (hl.store1 hc (vr x) hl'))
    · cases hs
  · cases hs
set_option maxHeartbeats 400000 in
theorem sg_istore (k : Nat) : SG (.istore k) := by
  intro b n0 l0 z0 D cA p l e R s m args below meth c Q M hC an ks val pc lo st h pc' lo' st' h' hok hs H locs ls hF hl hS hL hR1 hR2 kk
  obtain ⟨hx, hb, hml, hown, hts, hNB, hK, hret, hlk, hnm, hfr, hlc, hbn, hsz, hl0, hq0⟩ := hC
  obtain ⟨hP, hS0, hOK, hg1, hg2, L0, hk0, hL0, hX⟩ := id hF
  have hD := c_ws_D b n0 cA h
  have hkp := a_step_go hs hOK hS hL
  have hA : ∀ q, s.heap.size ≤ q → (fun q => n0 ≤ q) q := fun q hq => by show n0 ≤ q; omega
  obtain ⟨hdec, hlnk⟩ := ok_row_s hok
  simp only [a_step] at hs
  split at hs
  · rename_i x r
    split at hs
    · rename_i hc
      cases hs
      show W p l e R s m args below meth c H locs (h.1.length - l0) (sz h.1 - z0) Q (F0 m pc ls (.int (Int32.ofInt x) :: st'.map (c_v b n0)))
      have hlt : k < a_mL M := by
        rw [← hl.2.2.1]
        unfold s_ok at hc
        rw [Bool.and_eq_true] at hc
        exact of_decide_eq_true hc.1
      exact lv_istore hx hb (ok_dec_n hdec rfl) hl.has hlt rfl (fun ls' hl' => kk H locs ls' hF (hl.store1 hc (vi x) hl'))
    · cases hs
  · cases hs
set_option maxHeartbeats 400000 in
theorem sg_astore (k : Nat) : SG (.astore k) := by
  intro b n0 l0 z0 D cA p l e R s m args below meth c Q M hC an ks val pc lo st h pc' lo' st' h' hok hs H locs ls hF hl hS hL hR1 hR2 kk
  obtain ⟨hx, hb, hml, hown, hts, hNB, hK, hret, hlk, hnm, hfr, hlc, hbn, hsz, hl0, hq0⟩ := hC
  obtain ⟨hP, hS0, hOK, hg1, hg2, L0, hk0, hL0, hX⟩ := id hF
  have hD := c_ws_D b n0 cA h
  have hkp := a_step_go hs hOK hS hL
  have hA : ∀ q, s.heap.size ≤ q → (fun q => n0 ≤ q) q := fun q hq => by show n0 ≤ q; omega
  obtain ⟨hdec, hlnk⟩ := ok_row_s hok
  simp only [a_step] at hs
  split at hs
  · rename_i x r
    split at hs
    · rename_i hc
      cases hs
      show W p l e R s m args below meth c H locs (h.1.length - l0) (sz h.1 - z0) Q (F0 m pc ls (.ref (c_g b n0 x) :: st'.map (c_v b n0)))
      have hlt : k < a_mL M := by
        rw [← hl.2.2.1]
        unfold s_ok at hc
        rw [Bool.and_eq_true] at hc
        exact of_decide_eq_true hc.1
      exact lv_astore hx hb (ok_dec_n hdec rfl) hl.has hlt rfl (fun ls' hl' => kk H locs ls' hF (hl.store1 hc (vr x) hl'))
    · cases hs
  · cases hs
set_option maxHeartbeats 400000 in
theorem sg_lstore_n (k : Fin 4) : SG (.lstore_n k) := by
  intro b n0 l0 z0 D cA p l e R s m args below meth c Q M hC an ks val pc lo st h pc' lo' st' h' hok hs H locs ls hF hl hS hL hR1 hR2 kk
  obtain ⟨hx, hb, hml, hown, hts, hNB, hK, hret, hlk, hnm, hfr, hlc, hbn, hsz, hl0, hq0⟩ := hC
  obtain ⟨hP, hS0, hOK, hg1, hg2, L0, hk0, hL0, hX⟩ := id hF
  have hD := c_ws_D b n0 cA h
  have hkp := a_step_go hs hOK hS hL
  have hA : ∀ q, s.heap.size ≤ q → (fun q => n0 ≤ q) q := fun q hq => by show n0 ≤ q; omega
  obtain ⟨hdec, hlnk⟩ := ok_row_s hok
  simp only [a_step] at hs
  split at hs
  · rename_i x r
    split at hs
    · rename_i hc
      cases hs
      obtain ⟨hc1, hc2, hc3⟩ := hc
      rw [hc3] at hc1 hc2 kk
      show W p l e R s m args below meth c H locs (h.1.length - l0) (sz h.1 - z0) Q (F0 m pc ls (.long (Int64.ofBitVec x) :: st'.map (c_v b n0)))
      exact lv_lstore_n hx hb (ok_dec_n hdec rfl) hc3 hl.has (by rw [← hl.2.2.1]; exact hc2) rfl (fun ls' hl' => kk H locs ls' hF (hl.store2 x hc2 hl'))
    · cases hs
  · cases hs
set_option maxHeartbeats 400000 in
theorem sg_iinc (k : Nat) (n : Int) : SG (.iinc k n) := by
  intro b n0 l0 z0 D cA p l e R s m args below meth c Q M hC an ks val pc lo st h pc' lo' st' h' hok hs H locs ls hF hl hS hL hR1 hR2 kk
  obtain ⟨hx, hb, hml, hown, hts, hNB, hK, hret, hlk, hnm, hfr, hlc, hbn, hsz, hl0, hq0⟩ := hC
  obtain ⟨hP, hS0, hOK, hg1, hg2, L0, hk0, hL0, hX⟩ := id hF
  have hD := c_ws_D b n0 cA h
  have hkp := a_step_go hs hOK hS hL
  have hA : ∀ q, s.heap.size ≤ q → (fun q => n0 ≤ q) q := fun q hq => by show n0 ≤ q; omega
  obtain ⟨hdec, hlnk⟩ := ok_row_s hok
  simp only [a_step] at hs
  split at hs
  · rename_i x hx1
    split at hs
    · rename_i hc
      cases hs
      have hlt : k < a_mL M := by
        rw [← hl.2.2.1]
        have hc := hc.1
        unfold s_ok at hc
        rw [Bool.and_eq_true] at hc
        exact of_decide_eq_true hc.1
      obtain ⟨kx, hkx⟩ := List.mem_iff_getElem?.mp (mem_lvOf.mpr ⟨_, g_i_some hx1, rfl⟩ : (k, c_v b n0 (vi x)) ∈ lvOf b n0 lo)
      exact lv_iinc (v := Int32.ofInt (x + n)) hx hb (ok_dec_n hdec rfl) hl.has hkx (inR_add x n) hlt rfl (fun ls' hl' => kk H locs ls' hF (hl.store1 hc.1 (vi (x + n)) hl'))
    · cases hs
  · cases hs
set_option maxHeartbeats 400000 in
theorem sg_iadd : SG (.iadd) := by
  intro b n0 l0 z0 D cA p l e R s m args below meth c Q M hC an ks val pc lo st h pc' lo' st' h' hok hs H locs ls hF hl hS hL hR1 hR2 kk
  obtain ⟨hx, hb, hml, hown, hts, hNB, hK, hret, hlk, hnm, hfr, hlc, hbn, hsz, hl0, hq0⟩ := hC
  obtain ⟨hP, hS0, hOK, hg1, hg2, L0, hk0, hL0, hX⟩ := id hF
  have hD := c_ws_D b n0 cA h
  have hkp := a_step_go hs hOK hS hL
  have hA : ∀ q, s.heap.size ≤ q → (fun q => n0 ≤ q) q := fun q hq => by show n0 ≤ q; omega
  obtain ⟨hdec, hlnk⟩ := ok_row_s hok
  simp only [a_step] at hs
  split at hs
  · rename_i y x r
    split at hs
    · cases hs
      show W p l e R s m args below meth c H locs (h.1.length - l0) (sz h.1 - z0) Q (F0 m pc ls (.int (Int32.ofInt y) :: .int (Int32.ofInt x) :: r.map (c_v b n0)))
      refine lv_iadd hx hb (ok_dec_n hdec rfl) ?_
      rw [inR_add]
      exact kk H locs ls hF hl
    · cases hs
  · cases hs
set_option maxHeartbeats 400000 in
theorem sg_isub : SG (.isub) := by
  intro b n0 l0 z0 D cA p l e R s m args below meth c Q M hC an ks val pc lo st h pc' lo' st' h' hok hs H locs ls hF hl hS hL hR1 hR2 kk
  obtain ⟨hx, hb, hml, hown, hts, hNB, hK, hret, hlk, hnm, hfr, hlc, hbn, hsz, hl0, hq0⟩ := hC
  obtain ⟨hP, hS0, hOK, hg1, hg2, L0, hk0, hL0, hX⟩ := id hF
  have hD := c_ws_D b n0 cA h
  have hkp := a_step_go hs hOK hS hL
  have hA : ∀ q, s.heap.size ≤ q → (fun q => n0 ≤ q) q := fun q hq => by show n0 ≤ q; omega
  obtain ⟨hdec, hlnk⟩ := ok_row_s hok
  simp only [a_step] at hs
  split at hs
  · rename_i y x r
    split at hs
    · cases hs
      show W p l e R s m args below meth c H locs (h.1.length - l0) (sz h.1 - z0) Q (F0 m pc ls (.int (Int32.ofInt y) :: .int (Int32.ofInt x) :: r.map (c_v b n0)))
      refine lv_isub hx hb (ok_dec_n hdec rfl) ?_
      rw [inR_sub]
      exact kk H locs ls hF hl
    · cases hs
  · cases hs
set_option maxHeartbeats 400000 in
theorem sg_imul : SG (.imul) := by
  intro b n0 l0 z0 D cA p l e R s m args below meth c Q M hC an ks val pc lo st h pc' lo' st' h' hok hs H locs ls hF hl hS hL hR1 hR2 kk
  obtain ⟨hx, hb, hml, hown, hts, hNB, hK, hret, hlk, hnm, hfr, hlc, hbn, hsz, hl0, hq0⟩ := hC
  obtain ⟨hP, hS0, hOK, hg1, hg2, L0, hk0, hL0, hX⟩ := id hF
  have hD := c_ws_D b n0 cA h
  have hkp := a_step_go hs hOK hS hL
  have hA : ∀ q, s.heap.size ≤ q → (fun q => n0 ≤ q) q := fun q hq => by show n0 ≤ q; omega
  obtain ⟨hdec, hlnk⟩ := ok_row_s hok
  simp only [a_step] at hs
  split at hs
  · rename_i y x r
    split at hs
    · cases hs
      show W p l e R s m args below meth c H locs (h.1.length - l0) (sz h.1 - z0) Q (F0 m pc ls (.int (Int32.ofInt y) :: .int (Int32.ofInt x) :: r.map (c_v b n0)))
      refine lv_imul hx hb (ok_dec_n hdec rfl) ?_
      rw [inR_mul]
      exact kk H locs ls hF hl
    · cases hs
  · cases hs
set_option maxHeartbeats 400000 in
theorem sg_ineg : SG (.ineg) := by
  intro b n0 l0 z0 D cA p l e R s m args below meth c Q M hC an ks val pc lo st h pc' lo' st' h' hok hs H locs ls hF hl hS hL hR1 hR2 kk
  obtain ⟨hx, hb, hml, hown, hts, hNB, hK, hret, hlk, hnm, hfr, hlc, hbn, hsz, hl0, hq0⟩ := hC
  obtain ⟨hP, hS0, hOK, hg1, hg2, L0, hk0, hL0, hX⟩ := id hF
  have hD := c_ws_D b n0 cA h
  have hkp := a_step_go hs hOK hS hL
  have hA : ∀ q, s.heap.size ≤ q → (fun q => n0 ≤ q) q := fun q hq => by show n0 ≤ q; omega
  obtain ⟨hdec, hlnk⟩ := ok_row_s hok
  simp only [a_step] at hs
  split at hs
  · rename_i x r
    split at hs
    · cases hs
      show W p l e R s m args below meth c H locs (h.1.length - l0) (sz h.1 - z0) Q (F0 m pc ls (.int (Int32.ofInt x) :: r.map (c_v b n0)))
      refine lv_ineg hx hb (ok_dec_n hdec rfl) ?_
      rw [inR_neg]
      exact kk H locs ls hF hl
    · cases hs
  · cases hs
set_option maxHeartbeats 400000 in
theorem sg_idiv : SG (.idiv) := by
  intro b n0 l0 z0 D cA p l e R s m args below meth c Q M hC an ks val pc lo st h pc' lo' st' h' hok hs H locs ls hF hl hS hL hR1 hR2 kk
  obtain ⟨hx, hb, hml, hown, hts, hNB, hK, hret, hlk, hnm, hfr, hlc, hbn, hsz, hl0, hq0⟩ := hC
  obtain ⟨hP, hS0, hOK, hg1, hg2, L0, hk0, hL0, hX⟩ := id hF
  have hD := c_ws_D b n0 cA h
  have hkp := a_step_go hs hOK hS hL
  have hA : ∀ q, s.heap.size ≤ q → (fun q => n0 ≤ q) q := fun q hq => by show n0 ≤ q; omega
  obtain ⟨hdec, hlnk⟩ := ok_row_s hok
  simp only [a_step] at hs
  split at hs
  · rename_i y x r
    split at hs
    · rename_i hc
      cases hs
      have hy : inR y := hS.hd
      have hxx : inR x := hS.tl.hd
      show W p l e R s m args below meth c H locs (h.1.length - l0) (sz h.1 - z0) Q (F0 m pc ls (.int (Int32.ofInt y) :: .int (Int32.ofInt x) :: r.map (c_v b n0)))
      refine lv_idiv hx hb (ok_dec_n hdec rfl) (fun e0 => ?_) ?_
      · have := (inR_eq (y := 0) hy ⟨by decide, by decide⟩).mp e0
        omega
      · rw [inR_div hxx hy hc.1 hc.2]
        exact kk H locs ls hF hl
    · cases hs
  · cases hs
set_option maxHeartbeats 400000 in
theorem sg_irem : SG (.irem) := by
  intro b n0 l0 z0 D cA p l e R s m args below meth c Q M hC an ks val pc lo st h pc' lo' st' h' hok hs H locs ls hF hl hS hL hR1 hR2 kk
  obtain ⟨hx, hb, hml, hown, hts, hNB, hK, hret, hlk, hnm, hfr, hlc, hbn, hsz, hl0, hq0⟩ := hC
  obtain ⟨hP, hS0, hOK, hg1, hg2, L0, hk0, hL0, hX⟩ := id hF
  have hD := c_ws_D b n0 cA h
  have hkp := a_step_go hs hOK hS hL
  have hA : ∀ q, s.heap.size ≤ q → (fun q => n0 ≤ q) q := fun q hq => by show n0 ≤ q; omega
  obtain ⟨hdec, hlnk⟩ := ok_row_s hok
  simp only [a_step] at hs
  split at hs
  · rename_i y x r
    split at hs
    · rename_i hc
      cases hs
      have hy : inR y := hS.hd
      have hxx : inR x := hS.tl.hd
      show W p l e R s m args below meth c H locs (h.1.length - l0) (sz h.1 - z0) Q (F0 m pc ls (.int (Int32.ofInt y) :: .int (Int32.ofInt x) :: r.map (c_v b n0)))
      refine lv_irem hx hb (ok_dec_n hdec rfl) (fun e0 => ?_) ?_
      · have := (inR_eq (y := 0) hy ⟨by decide, by decide⟩).mp e0
        omega
      · rw [inR_div hxx hy hc.1 hc.2, inR_mul, inR_sub, show x - x / y * y = x % y by rw [Int.emod_def, Int.mul_comm y]]
        exact kk H locs ls hF hl
    · cases hs
  · cases hs
set_option maxHeartbeats 400000 in
theorem sg_iand : SG (.iand) := by
  intro b n0 l0 z0 D cA p l e R s m args below meth c Q M hC an ks val pc lo st h pc' lo' st' h' hok hs H locs ls hF hl hS hL hR1 hR2 kk
  obtain ⟨hx, hb, hml, hown, hts, hNB, hK, hret, hlk, hnm, hfr, hlc, hbn, hsz, hl0, hq0⟩ := hC
  obtain ⟨hP, hS0, hOK, hg1, hg2, L0, hk0, hL0, hX⟩ := id hF
  have hD := c_ws_D b n0 cA h
  have hkp := a_step_go hs hOK hS hL
  have hA : ∀ q, s.heap.size ≤ q → (fun q => n0 ≤ q) q := fun q hq => by show n0 ≤ q; omega
  obtain ⟨hdec, hlnk⟩ := ok_row_s hok
  simp only [a_step] at hs
  split at hs
  · rename_i y x r
    split at hs
    · rename_i hc
      cases hs
      subst hc
      show W p l e R s m args below meth c H locs (h.1.length - l0) (sz h.1 - z0) Q (F0 m pc ls (.int (Int32.ofInt 63) :: .int (Int32.ofInt x) :: r.map (c_v b n0)))
      refine lv_iand hx hb (ok_dec_n hdec rfl) ?_
      rw [inR_63]
      exact kk H locs ls hF hl
    · split at hs
      · rename_i hc
        cases hs
        subst hc
        show W p l e R s m args below meth c H locs (h.1.length - l0) (sz h.1 - z0) Q (F0 m pc ls (.int (Int32.ofInt 127) :: .int (Int32.ofInt x) :: r.map (c_v b n0)))
        refine lv_iand hx hb (ok_dec_n hdec rfl) ?_
        rw [inR_127]
        exact kk H locs ls hF hl
      · cases hs
  · cases hs
set_option maxHeartbeats 400000 in
theorem sg_i2b : SG (.i2b) := by
  intro b n0 l0 z0 D cA p l e R s m args below meth c Q M hC an ks val pc lo st h pc' lo' st' h' hok hs H locs ls hF hl hS hL hR1 hR2 kk
  obtain ⟨hx, hb, hml, hown, hts, hNB, hK, hret, hlk, hnm, hfr, hlc, hbn, hsz, hl0, hq0⟩ := hC
  obtain ⟨hP, hS0, hOK, hg1, hg2, L0, hk0, hL0, hX⟩ := id hF
  have hD := c_ws_D b n0 cA h
  have hkp := a_step_go hs hOK hS hL
  have hA : ∀ q, s.heap.size ≤ q → (fun q => n0 ≤ q) q := fun q hq => by show n0 ≤ q; omega
  obtain ⟨hdec, hlnk⟩ := ok_row_s hok
  simp only [a_step] at hs
  split at hs
  · rename_i x r
    split at hs
    · rename_i hc
      cases hs
      show W p l e R s m args below meth c H locs (h.1.length - l0) (sz h.1 - z0) Q (F0 m pc ls (.int (Int32.ofInt x) :: r.map (c_v b n0)))
      refine lv_i2b hx hb (ok_dec_n hdec rfl) (v := Int32.ofInt x) ?_ (kk H locs ls hF hl)
      have hxx : inR x := hS.hd
      apply Int32.toInt_inj.mp
      rw [Int8.toInt_toInt32, Int32.toInt_toInt8, inR_to hxx]
      rw [Int.bmod_eq_of_le] <;> omega
    · cases hs
  · cases hs
set_option maxHeartbeats 400000 in
theorem sg_l2i : SG (.l2i) := by
  intro b n0 l0 z0 D cA p l e R s m args below meth c Q M hC an ks val pc lo st h pc' lo' st' h' hok hs H locs ls hF hl hS hL hR1 hR2 kk
  obtain ⟨hx, hb, hml, hown, hts, hNB, hK, hret, hlk, hnm, hfr, hlc, hbn, hsz, hl0, hq0⟩ := hC
  obtain ⟨hP, hS0, hOK, hg1, hg2, L0, hk0, hL0, hX⟩ := id hF
  have hD := c_ws_D b n0 cA h
  have hkp := a_step_go hs hOK hS hL
  have hA : ∀ q, s.heap.size ≤ q → (fun q => n0 ≤ q) q := fun q hq => by show n0 ≤ q; omega
  obtain ⟨hdec, hlnk⟩ := ok_row_s hok
  simp only [a_step] at hs
  split at hs
  · rename_i x r
    cases hs
    show W p l e R s m args below meth c H locs (h.1.length - l0) (sz h.1 - z0) Q (F0 m pc ls (.long (Int64.ofBitVec x) :: r.map (c_v b n0)))
    exact lv_l2i hx hb (ok_dec_n hdec rfl) (inR_l2i x) (kk H locs ls hF hl)
  · cases hs
set_option maxHeartbeats 400000 in
theorem sg_ladd : SG (.ladd) := by
  intro b n0 l0 z0 D cA p l e R s m args below meth c Q M hC an ks val pc lo st h pc' lo' st' h' hok hs H locs ls hF hl hS hL hR1 hR2 kk
  obtain ⟨hx, hb, hml, hown, hts, hNB, hK, hret, hlk, hnm, hfr, hlc, hbn, hsz, hl0, hq0⟩ := hC
  obtain ⟨hP, hS0, hOK, hg1, hg2, L0, hk0, hL0, hX⟩ := id hF
  have hD := c_ws_D b n0 cA h
  have hkp := a_step_go hs hOK hS hL
  have hA : ∀ q, s.heap.size ≤ q → (fun q => n0 ≤ q) q := fun q hq => by show n0 ≤ q; omega
  obtain ⟨hdec, hlnk⟩ := ok_row_s hok
  simp only [a_step] at hs
  split at hs
  · rename_i y x r
    cases hs
    show W p l e R s m args below meth c H locs (h.1.length - l0) (sz h.1 - z0) Q (F0 m pc ls (.long (Int64.ofBitVec y) :: .long (Int64.ofBitVec x) :: r.map (c_v b n0)))
    exact lv_ladd hx hb (ok_dec_n hdec rfl) (kk H locs ls hF hl)
  · cases hs
set_option maxHeartbeats 400000 in
theorem sg_lsub : SG (.lsub) := by
  intro b n0 l0 z0 D cA p l e R s m args below meth c Q M hC an ks val pc lo st h pc' lo' st' h' hok hs H locs ls hF hl hS hL hR1 hR2 kk
  obtain ⟨hx, hb, hml, hown, hts, hNB, hK, hret, hlk, hnm, hfr, hlc, hbn, hsz, hl0, hq0⟩ := hC
  obtain ⟨hP, hS0, hOK, hg1, hg2, L0, hk0, hL0, hX⟩ := id hF
  have hD := c_ws_D b n0 cA h
  have hkp := a_step_go hs hOK hS hL
  have hA : ∀ q, s.heap.size ≤ q → (fun q => n0 ≤ q) q := fun q hq => by show n0 ≤ q; omega
  obtain ⟨hdec, hlnk⟩ := ok_row_s hok
  simp only [a_step] at hs
  split at hs
  · rename_i y x r
    cases hs
    show W p l e R s m args below meth c H locs (h.1.length - l0) (sz h.1 - z0) Q (F0 m pc ls (.long (Int64.ofBitVec y) :: .long (Int64.ofBitVec x) :: r.map (c_v b n0)))
    exact lv_lsub hx hb (ok_dec_n hdec rfl) (kk H locs ls hF hl)
  · cases hs
set_option maxHeartbeats 400000 in
theorem sg_land : SG (.land) := by
  intro b n0 l0 z0 D cA p l e R s m args below meth c Q M hC an ks val pc lo st h pc' lo' st' h' hok hs H locs ls hF hl hS hL hR1 hR2 kk
  obtain ⟨hx, hb, hml, hown, hts, hNB, hK, hret, hlk, hnm, hfr, hlc, hbn, hsz, hl0, hq0⟩ := hC
  obtain ⟨hP, hS0, hOK, hg1, hg2, L0, hk0, hL0, hX⟩ := id hF
  have hD := c_ws_D b n0 cA h
  have hkp := a_step_go hs hOK hS hL
  have hA : ∀ q, s.heap.size ≤ q → (fun q => n0 ≤ q) q := fun q hq => by show n0 ≤ q; omega
  obtain ⟨hdec, hlnk⟩ := ok_row_s hok
  simp only [a_step] at hs
  split at hs
  · rename_i y x r
    cases hs
    show W p l e R s m args below meth c H locs (h.1.length - l0) (sz h.1 - z0) Q (F0 m pc ls (.long (Int64.ofBitVec y) :: .long (Int64.ofBitVec x) :: r.map (c_v b n0)))
    exact lv_land hx hb (ok_dec_n hdec rfl) (kk H locs ls hF hl)
  · cases hs
set_option maxHeartbeats 400000 in
theorem sg_lor : SG (.lor) := by
  intro b n0 l0 z0 D cA p l e R s m args below meth c Q M hC an ks val pc lo st h pc' lo' st' h' hok hs H locs ls hF hl hS hL hR1 hR2 kk
  obtain ⟨hx, hb, hml, hown, hts, hNB, hK, hret, hlk, hnm, hfr, hlc, hbn, hsz, hl0, hq0⟩ := hC
  obtain ⟨hP, hS0, hOK, hg1, hg2, L0, hk0, hL0, hX⟩ := id hF
  have hD := c_ws_D b n0 cA h
  have hkp := a_step_go hs hOK hS hL
  have hA : ∀ q, s.heap.size ≤ q → (fun q => n0 ≤ q) q := fun q hq => by show n0 ≤ q; omega
  obtain ⟨hdec, hlnk⟩ := ok_row_s hok
  simp only [a_step] at hs
  split at hs
  · rename_i y x r
    cases hs
    show W p l e R s m args below meth c H locs (h.1.length - l0) (sz h.1 - z0) Q (F0 m pc ls (.long (Int64.ofBitVec y) :: .long (Int64.ofBitVec x) :: r.map (c_v b n0)))
    exact lv_lor hx hb (ok_dec_n hdec rfl) (kk H locs ls hF hl)
  · cases hs
set_option maxHeartbeats 400000 in
theorem sg_lxor : SG (.lxor) := by
  intro b n0 l0 z0 D cA p l e R s m args below meth c Q M hC an ks val pc lo st h pc' lo' st' h' hok hs H locs ls hF hl hS hL hR1 hR2 kk
  obtain ⟨hx, hb, hml, hown, hts, hNB, hK, hret, hlk, hnm, hfr, hlc, hbn, hsz, hl0, hq0⟩ := hC
  obtain ⟨hP, hS0, hOK, hg1, hg2, L0, hk0, hL0, hX⟩ := id hF
  have hD := c_ws_D b n0 cA h
  have hkp := a_step_go hs hOK hS hL
  have hA : ∀ q, s.heap.size ≤ q → (fun q => n0 ≤ q) q := fun q hq => by show n0 ≤ q; omega
  obtain ⟨hdec, hlnk⟩ := ok_row_s hok
  simp only [a_step] at hs
  split at hs
  · rename_i y x r
    cases hs
    show W p l e R s m args below meth c H locs (h.1.length - l0) (sz h.1 - z0) Q (F0 m pc ls (.long (Int64.ofBitVec y) :: .long (Int64.ofBitVec x) :: r.map (c_v b n0)))
    exact lv_lxor hx hb (ok_dec_n hdec rfl) (kk H locs ls hF hl)
  · cases hs
set_option maxHeartbeats 400000 in
theorem sg_lushr : SG (.lushr) := by
  intro b n0 l0 z0 D cA p l e R s m args below meth c Q M hC an ks val pc lo st h pc' lo' st' h' hok hs H locs ls hF hl hS hL hR1 hR2 kk
  obtain ⟨hx, hb, hml, hown, hts, hNB, hK, hret, hlk, hnm, hfr, hlc, hbn, hsz, hl0, hq0⟩ := hC
  obtain ⟨hP, hS0, hOK, hg1, hg2, L0, hk0, hL0, hX⟩ := id hF
  have hD := c_ws_D b n0 cA h
  have hkp := a_step_go hs hOK hS hL
  have hA : ∀ q, s.heap.size ≤ q → (fun q => n0 ≤ q) q := fun q hq => by show n0 ≤ q; omega
  obtain ⟨hdec, hlnk⟩ := ok_row_s hok
  simp only [a_step] at hs
  split at hs
  · rename_i y x r
    split at hs
    · rename_i hc
      cases hs
      show W p l e R s m args below meth c H locs (h.1.length - l0) (sz h.1 - z0) Q (F0 m pc ls (.int (Int32.ofInt y) :: .long (Int64.ofBitVec x) :: r.map (c_v b n0)))
      exact lv_lushr hx hb (ok_dec_n hdec rfl) (inR_ushr x hc.1 hc.2) (kk H locs ls hF hl)
    · cases hs
  · cases hs
set_option maxHeartbeats 400000 in
theorem sg_lshl : SG (.lshl) := by
  intro b n0 l0 z0 D cA p l e R s m args below meth c Q M hC an ks val pc lo st h pc' lo' st' h' hok hs H locs ls hF hl hS hL hR1 hR2 kk
  obtain ⟨hx, hb, hml, hown, hts, hNB, hK, hret, hlk, hnm, hfr, hlc, hbn, hsz, hl0, hq0⟩ := hC
  obtain ⟨hP, hS0, hOK, hg1, hg2, L0, hk0, hL0, hX⟩ := id hF
  have hD := c_ws_D b n0 cA h
  have hkp := a_step_go hs hOK hS hL
  have hA : ∀ q, s.heap.size ≤ q → (fun q => n0 ≤ q) q := fun q hq => by show n0 ≤ q; omega
  obtain ⟨hdec, hlnk⟩ := ok_row_s hok
  simp only [a_step] at hs
  split at hs
  · rename_i y x r
    split at hs
    · rename_i hc
      cases hs
      show W p l e R s m args below meth c H locs (h.1.length - l0) (sz h.1 - z0) Q (F0 m pc ls (.int (Int32.ofInt y) :: .long (Int64.ofBitVec x) :: r.map (c_v b n0)))
      exact lv_lshl hx hb (ok_dec_n hdec rfl) (inR_shl x hc.1 hc.2) (kk H locs ls hF hl)
    · cases hs
  · cases hs
set_option maxHeartbeats 400000 in
theorem sg_lcmp : SG (.lcmp) := by
  intro b n0 l0 z0 D cA p l e R s m args below meth c Q M hC an ks val pc lo st h pc' lo' st' h' hok hs H locs ls hF hl hS hL hR1 hR2 kk
  obtain ⟨hx, hb, hml, hown, hts, hNB, hK, hret, hlk, hnm, hfr, hlc, hbn, hsz, hl0, hq0⟩ := hC
  obtain ⟨hP, hS0, hOK, hg1, hg2, L0, hk0, hL0, hX⟩ := id hF
  have hD := c_ws_D b n0 cA h
  have hkp := a_step_go hs hOK hS hL
  have hA : ∀ q, s.heap.size ≤ q → (fun q => n0 ≤ q) q := fun q hq => by show n0 ≤ q; omega
  obtain ⟨hdec, hlnk⟩ := ok_row_s hok
  simp only [a_step] at hs
  split at hs
  · rename_i y x r
    cases hs
    show W p l e R s m args below meth c H locs (h.1.length - l0) (sz h.1 - z0) Q (F0 m pc ls (.long (Int64.ofBitVec y) :: .long (Int64.ofBitVec x) :: r.map (c_v b n0)))
    refine W.lcmp hx hb (ok_dec_n hdec rfl) ?_
    rw [inR_cmp]
    exact kk H locs ls hF hl
  · cases hs
set_option maxHeartbeats 400000 in
theorem sg_dup : SG (.dup) := by
  intro b n0 l0 z0 D cA p l e R s m args below meth c Q M hC an ks val pc lo st h pc' lo' st' h' hok hs H locs ls hF hl hS hL hR1 hR2 kk
  obtain ⟨hx, hb, hml, hown, hts, hNB, hK, hret, hlk, hnm, hfr, hlc, hbn, hsz, hl0, hq0⟩ := hC
  obtain ⟨hP, hS0, hOK, hg1, hg2, L0, hk0, hL0, hX⟩ := id hF
  have hD := c_ws_D b n0 cA h
  have hkp := a_step_go hs hOK hS hL
  have hA : ∀ q, s.heap.size ≤ q → (fun q => n0 ≤ q) q := fun q hq => by show n0 ≤ q; omega
  obtain ⟨hdec, hlnk⟩ := ok_row_s hok
  simp only [a_step] at hs
  split at hs
  · rename_i v r
    split at hs
    · rename_i hc
      cases hs
      show W p l e R s m args below meth c H locs (h.1.length - l0) (sz h.1 - z0) Q (F0 m pc ls (c_v b n0 v :: r.map (c_v b n0)))
      exact lv_dup hx hb (ok_dec_n hdec rfl) (c_v_cat hc) (kk H locs ls hF hl)
    · cases hs
  · cases hs
set_option maxHeartbeats 400000 in
theorem sg_pop : SG (.pop) := by
  intro b n0 l0 z0 D cA p l e R s m args below meth c Q M hC an ks val pc lo st h pc' lo' st' h' hok hs H locs ls hF hl hS hL hR1 hR2 kk
  obtain ⟨hx, hb, hml, hown, hts, hNB, hK, hret, hlk, hnm, hfr, hlc, hbn, hsz, hl0, hq0⟩ := hC
  obtain ⟨hP, hS0, hOK, hg1, hg2, L0, hk0, hL0, hX⟩ := id hF
  have hD := c_ws_D b n0 cA h
  have hkp := a_step_go hs hOK hS hL
  have hA : ∀ q, s.heap.size ≤ q → (fun q => n0 ≤ q) q := fun q hq => by show n0 ≤ q; omega
  obtain ⟨hdec, hlnk⟩ := ok_row_s hok
  simp only [a_step] at hs
  split at hs
  · rename_i v r
    split at hs
    · rename_i hc
      cases hs
      show W p l e R s m args below meth c H locs (h.1.length - l0) (sz h.1 - z0) Q (F0 m pc ls (c_v b n0 v :: st'.map (c_v b n0)))
      exact lv_pop hx hb (ok_dec_n hdec rfl) (c_v_cat hc) (kk H locs ls hF hl)
    · cases hs
  · cases hs
set_option maxHeartbeats 400000 in
theorem sg_goto (off : Int) : SG (.goto off) := by
  intro b n0 l0 z0 D cA p l e R s m args below meth c Q M hC an ks val pc lo st h pc' lo' st' h' hok hs H locs ls hF hl hS hL hR1 hR2 kk
  obtain ⟨hx, hb, hml, hown, hts, hNB, hK, hret, hlk, hnm, hfr, hlc, hbn, hsz, hl0, hq0⟩ := hC
  obtain ⟨hP, hS0, hOK, hg1, hg2, L0, hk0, hL0, hX⟩ := id hF
  have hD := c_ws_D b n0 cA h
  have hkp := a_step_go hs hOK hS hL
  have hA : ∀ q, s.heap.size ≤ q → (fun q => n0 ≤ q) q := fun q hq => by show n0 ≤ q; omega
  obtain ⟨hdec, hlnk⟩ := ok_row_s hok
  simp only [a_step] at hs
  split at hs
  · rename_i hc
    cases hs
    exact lv_goto hx hb (ok_dec_n hdec rfl) (tgt := a_tgt pc off) (by unfold a_tgt; omega) (kk H locs ls hF hl)
  · cases hs
set_option maxHeartbeats 400000 in
theorem sg_ifCond (cd : ClassFile.Cond) (off : Int) : SG (.ifCond cd off) := by
  intro b n0 l0 z0 D cA p l e R s m args below meth c Q M hC an ks val pc lo st h pc' lo' st' h' hok hs H locs ls hF hl hS hL hR1 hR2 kk
  obtain ⟨hx, hb, hml, hown, hts, hNB, hK, hret, hlk, hnm, hfr, hlc, hbn, hsz, hl0, hq0⟩ := hC
  obtain ⟨hP, hS0, hOK, hg1, hg2, L0, hk0, hL0, hX⟩ := id hF
  have hD := c_ws_D b n0 cA h
  have hkp := a_step_go hs hOK hS hL
  have hA : ∀ q, s.heap.size ≤ q → (fun q => n0 ≤ q) q := fun q hq => by show n0 ≤ q; omega
  obtain ⟨hdec, hlnk⟩ := ok_row_s hok
  simp only [a_step] at hs
  split at hs
  · rename_i x r
    have hxx : inR x := hS.hd
    have hy : inR 0 := ⟨by decide, by decide⟩
    split at hs
    · rename_i hc
      have htg : (pc : Int) + off = (a_tgt pc off : Nat) := by unfold a_tgt; omega
      show W p l e R s m args below meth c H locs (h.1.length - l0) (sz h.1 - z0) Q (F0 m pc ls (.int (Int32.ofInt x) :: r.map (c_v b n0)))
      cases cd
      case eq =>
        simp only [c_hold, decide_eq_true_eq] at hs
        refine lv_if_eq hx hb (ok_dec_n hdec rfl) htg (fun t => ?_) (fun t => ?_)
        · have t1 : x = 0 := (inR_eq hxx hy).mp t
          rw [if_pos t1] at hs
          cases hs
          exact kk H locs ls hF hl
        · have t1 : ¬ x = 0 := fun z => t ((inR_eq hxx hy).mpr z)
          rw [if_neg t1] at hs
          cases hs
          exact kk H locs ls hF hl
      case ne =>
        simp only [c_hold, decide_eq_true_eq] at hs
        refine lv_if_ne hx hb (ok_dec_n hdec rfl) htg (fun t => ?_) (fun t => ?_)
        · have t1 : ¬ x = 0 := fun z => t ((inR_eq hxx hy).mpr z)
          rw [if_pos t1] at hs
          cases hs
          exact kk H locs ls hF hl
        · have t1 : x = 0 := (inR_eq hxx hy).mp t
          rw [if_neg (fun z => z t1)] at hs
          cases hs
          exact kk H locs ls hF hl
      case lt =>
        simp only [c_hold, decide_eq_true_eq] at hs
        refine lv_if_lt hx hb (ok_dec_n hdec rfl) htg (fun t => ?_) (fun t => ?_)
        · have t1 : x < 0 := (inR_lt hxx hy).mp t
          rw [if_pos t1] at hs
          cases hs
          exact kk H locs ls hF hl
        · have t1 : ¬ x < 0 := fun z => t ((inR_lt hxx hy).mpr z)
          rw [if_neg t1] at hs
          cases hs
          exact kk H locs ls hF hl
      case ge =>
        simp only [c_hold, decide_eq_true_eq] at hs
        refine lv_if_ge hx hb (ok_dec_n hdec rfl) htg (fun t => ?_) (fun t => ?_)
        · have t1 : 0 ≤ x := (inR_le hy hxx).mp t
          rw [if_pos t1] at hs
          cases hs
          exact kk H locs ls hF hl
        · have t1 : ¬ 0 ≤ x := fun z => t ((inR_le hy hxx).mpr z)
          rw [if_neg t1] at hs
          cases hs
          exact kk H locs ls hF hl
      case gt =>
        simp only [c_hold, decide_eq_true_eq] at hs
        refine lv_if_gt hx hb (ok_dec_n hdec rfl) htg (fun t => ?_) (fun t => ?_)
        · have t1 : 0 < x := (inR_lt hy hxx).mp t
          rw [if_pos t1] at hs
          cases hs
          exact kk H locs ls hF hl
        · have t1 : ¬ 0 < x := fun z => t ((inR_lt hy hxx).mpr z)
          rw [if_neg t1] at hs
          cases hs
          exact kk H locs ls hF hl
      case le =>
        simp only [c_hold, decide_eq_true_eq] at hs
        refine lv_if_le hx hb (ok_dec_n hdec rfl) htg (fun t => ?_) (fun t => ?_)
        · have t1 : x ≤ 0 := (inR_le hxx hy).mp t
          rw [if_pos t1] at hs
          cases hs
          exact kk H locs ls hF hl
        · have t1 : ¬ x ≤ 0 := fun z => t ((inR_le hxx hy).mpr z)
          rw [if_neg t1] at hs
          cases hs
          exact kk H locs ls hF hl
    · cases hs
  · cases hs
set_option maxHeartbeats 400000 in
theorem sg_if_icmp (cd : ClassFile.Cond) (off : Int) : SG (.if_icmp cd off) := by
  intro b n0 l0 z0 D cA p l e R s m args below meth c Q M hC an ks val pc lo st h pc' lo' st' h' hok hs H locs ls hF hl hS hL hR1 hR2 kk
  obtain ⟨hx, hb, hml, hown, hts, hNB, hK, hret, hlk, hnm, hfr, hlc, hbn, hsz, hl0, hq0⟩ := hC
  obtain ⟨hP, hS0, hOK, hg1, hg2, L0, hk0, hL0, hX⟩ := id hF
  have hD := c_ws_D b n0 cA h
  have hkp := a_step_go hs hOK hS hL
  have hA : ∀ q, s.heap.size ≤ q → (fun q => n0 ≤ q) q := fun q hq => by show n0 ≤ q; omega
  obtain ⟨hdec, hlnk⟩ := ok_row_s hok
  simp only [a_step] at hs
  split at hs
  · rename_i y x r
    have hy : inR y := hS.hd
    have hxx : inR x := hS.tl.hd
    split at hs
    · rename_i hc
      have htg : (pc : Int) + off = (a_tgt pc off : Nat) := by unfold a_tgt; omega
      show W p l e R s m args below meth c H locs (h.1.length - l0) (sz h.1 - z0) Q (F0 m pc ls (.int (Int32.ofInt y) :: .int (Int32.ofInt x) :: r.map (c_v b n0)))
      cases cd
      case eq =>
        simp only [c_hold, decide_eq_true_eq] at hs
        refine lv_icmp_eq hx hb (ok_dec_n hdec rfl) htg (fun t => ?_) (fun t => ?_)
        · have t1 : x = y := (inR_eq hxx hy).mp t
          rw [if_pos t1] at hs
          cases hs
          exact kk H locs ls hF hl
        · have t1 : ¬ x = y := fun z => t ((inR_eq hxx hy).mpr z)
          rw [if_neg t1] at hs
          cases hs
          exact kk H locs ls hF hl
      case ne =>
        simp only [c_hold, decide_eq_true_eq] at hs
        refine lv_icmp_ne hx hb (ok_dec_n hdec rfl) htg (fun t => ?_) (fun t => ?_)
        · have t1 : ¬ x = y := fun z => t ((inR_eq hxx hy).mpr z)
          rw [if_pos t1] at hs
          cases hs
          exact kk H locs ls hF hl
        · have t1 : x = y := (inR_eq hxx hy).mp t
          rw [if_neg (fun z => z t1)] at hs
          cases hs
          exact kk H locs ls hF hl
      case lt =>
        simp only [c_hold, decide_eq_true_eq] at hs
        refine lv_icmp_lt hx hb (ok_dec_n hdec rfl) htg (fun t => ?_) (fun t => ?_)
        · have t1 : x < y := (inR_lt hxx hy).mp t
          rw [if_pos t1] at hs
          cases hs
          exact kk H locs ls hF hl
        · have t1 : ¬ x < y := fun z => t ((inR_lt hxx hy).mpr z)
          rw [if_neg t1] at hs
          cases hs
          exact kk H locs ls hF hl
      case ge =>
        simp only [c_hold, decide_eq_true_eq] at hs
        refine lv_icmp_ge hx hb (ok_dec_n hdec rfl) htg (fun t => ?_) (fun t => ?_)
        · have t1 : y ≤ x := (inR_le hy hxx).mp t
          rw [if_pos t1] at hs
          cases hs
          exact kk H locs ls hF hl
        · have t1 : ¬ y ≤ x := fun z => t ((inR_le hy hxx).mpr z)
          rw [if_neg t1] at hs
          cases hs
          exact kk H locs ls hF hl
      case gt =>
        simp only [c_hold, decide_eq_true_eq] at hs
        refine lv_icmp_gt hx hb (ok_dec_n hdec rfl) htg (fun t => ?_) (fun t => ?_)
        · have t1 : y < x := (inR_lt hy hxx).mp t
          rw [if_pos t1] at hs
          cases hs
          exact kk H locs ls hF hl
        · have t1 : ¬ y < x := fun z => t ((inR_lt hy hxx).mpr z)
          rw [if_neg t1] at hs
          cases hs
          exact kk H locs ls hF hl
      case le =>
        simp only [c_hold, decide_eq_true_eq] at hs
        refine lv_icmp_le hx hb (ok_dec_n hdec rfl) htg (fun t => ?_) (fun t => ?_)
        · have t1 : x ≤ y := (inR_le hxx hy).mp t
          rw [if_pos t1] at hs
          cases hs
          exact kk H locs ls hF hl
        · have t1 : ¬ x ≤ y := fun z => t ((inR_le hxx hy).mpr z)
          rw [if_neg t1] at hs
          cases hs
          exact kk H locs ls hF hl
    · cases hs
  · cases hs
set_option maxHeartbeats 400000 in
theorem sg_tableswitch (d lw hi : Int) (offs : Array Int) : SG (.tableswitch d lw hi offs) := by
  intro b n0 l0 z0 D cA p l e R s m args below meth c Q M hC an ks val pc lo st h pc' lo' st' h' hok hs H locs ls hF hl hS hL hR1 hR2 kk
  obtain ⟨hx, hb, hml, hown, hts, hNB, hK, hret, hlk, hnm, hfr, hlc, hbn, hsz, hl0, hq0⟩ := hC
  obtain ⟨hP, hS0, hOK, hg1, hg2, L0, hk0, hL0, hX⟩ := id hF
  have hD := c_ws_D b n0 cA h
  have hkp := a_step_go hs hOK hS hL
  have hA : ∀ q, s.heap.size ≤ q → (fun q => n0 ≤ q) q := fun q hq => by show n0 ≤ q; omega
  obtain ⟨hdec, hlnk⟩ := ok_row_s hok
  simp only [a_step] at hs
  obtain ⟨len, hdt, -⟩ := ok_dec_t hdec
  split at hs
  · rename_i x r
    have hxx : inR x := hS.hd
    show W p l e R s m args below meth c H locs (h.1.length - l0) (sz h.1 - z0) Q (F0 m pc ls (.int (Int32.ofInt x) :: r.map (c_v b n0)))
    split at hs
    · rename_i hc
      split at hs
      · rename_i hc2
        cases hs
        exact lv_tableOut hx hb hdt (by rw [inR_to hxx]; exact hc) (tgt := a_tgt pc d) (by unfold a_tgt; omega) (kk H locs ls hF hl)
      · cases hs
    · rename_i hc
      split at hs
      · rename_i o1 ho1
        split at hs
        · cases hs
          exact lv_tableIn hx hb hdt (by rw [inR_to hxx]; exact fun z => hc (Or.inl z)) (by rw [inR_to hxx]; exact fun z => hc (Or.inr z)) (by rw [inR_to hxx]; exact ho1) (tgt := a_tgt pc o1) (by unfold a_tgt; omega) (kk H locs ls hF hl)
        · cases hs
      · cases hs
  · cases hs
set_option maxHeartbeats 400000 in
theorem sg_getfield (ix : Nat) : SG (.getfield ix) := by
  intro b n0 l0 z0 D cA p l e R s m args below meth c Q M hC an ks val pc lo st h pc' lo' st' h' hok hs H locs ls hF hl hS hL hR1 hR2 kk
  obtain ⟨hx, hb, hml, hown, hts, hNB, hK, hret, hlk, hnm, hfr, hlc, hbn, hsz, hl0, hq0⟩ := hC
  obtain ⟨hP, hS0, hOK, hg1, hg2, L0, hk0, hL0, hX⟩ := id hF
  have hD := c_ws_D b n0 cA h
  have hkp := a_step_go hs hOK hS hL
  have hA : ∀ q, s.heap.size ≤ q → (fun q => n0 ≤ q) q := fun q hq => by show n0 ≤ q; omega
  obtain ⟨hdec, hlnk⟩ := ok_row_s hok
  simp only [a_step] at hs
  split at hs
  · rename_i a r ci k tl
    split at hs
    · rename_i v hv
      cases hs
      obtain ⟨f1, f2, f3, f4⟩ := f_get_some hv
      simp only [ok_link] at hlnk
      split at hlnk
      · rename_i ci2 k2 w ns he2
        cases he2
        obtain ⟨C, T, N, g1, g2, g3⟩ := ok_fld_s hlnk
        obtain ⟨v1, v2, v3, v4⟩ := vw_all g1
        have hfs : ((List.range (a_cls ci).1).map (fun j => c_f b n0 h ci a j))[k]? = some (c_v b n0 v) := by
          rw [List.getElem?_map, List.getElem?_range f2, f4]
          exact congrArg some (c_f_get ci a k)
        have hcg : c_v b n0 (Sum.inr (Sum.inr (some a))) = .ref (c_g b n0 a) := rfl
        show W p l e R s m args below meth c H locs (h.1.length - l0) (sz h.1 - z0) Q (F0 m pc ls (.ref (c_g b n0 a) :: r.map (c_v b n0)))
        rcases g3 with ⟨-, g3⟩ | ⟨-, g3⟩
        · exact va_get hx hb hts v1 hown hK hP (a - 1) (by rw [c_ws_get b n0 cA h f3 (kd_lt f1), c_e_obj f1]) g1 k g2 (hts _ g3) (fun _ e => e) hfs (ok_dec_n hdec rfl) (kk H locs ls hF hl)
        · exact va_getN hx hb hts v1 hown hK hP (a - 1) (by rw [c_ws_get b n0 cA h f3 (kd_lt f1), c_e_obj f1]) g1 k g2 (va_Nw.use rfl (hNB.1 _ g3 rfl)) (fun _ e => e) hfs (ok_dec_n hdec rfl) (kk H locs ls hF hl)
      · cases hlnk
    · cases hs
  · cases hs
set_option maxHeartbeats 400000 in
theorem sg_putfield (ix : Nat) : SG (.putfield ix) := by
  intro b n0 l0 z0 D cA p l e R s m args below meth c Q M hC an ks val pc lo st h pc' lo' st' h' hok hs H locs ls hF hl hS hL hR1 hR2 kk
  obtain ⟨hx, hb, hml, hown, hts, hNB, hK, hret, hlk, hnm, hfr, hlc, hbn, hsz, hl0, hq0⟩ := hC
  obtain ⟨hP, hS0, hOK, hg1, hg2, L0, hk0, hL0, hX⟩ := id hF
  have hD := c_ws_D b n0 cA h
  have hkp := a_step_go hs hOK hS hL
  have hA : ∀ q, s.heap.size ≤ q → (fun q => n0 ≤ q) q := fun q hq => by show n0 ≤ q; omega
  obtain ⟨hdec, hlnk⟩ := ok_row_s hok
  simp only [a_step] at hs
  split at hs
  · rename_i v a r ci k tl
    split at hs
    · rename_i h1 hv
      cases hs
      obtain ⟨f1, f2, f3, f4⟩ := f_put_some hv
      simp only [ok_link] at hlnk
      split at hlnk
      · rename_i ci2 k2 w ns he2
        cases he2
        rw [Bool.and_eq_true] at hlnk
        obtain ⟨hlnk, hfn⟩ := hlnk
        obtain ⟨C, T, N, g1, g2, g3⟩ := ok_fld_s hlnk
        obtain ⟨v1, v2, v3, v4⟩ := vw_all g1
        rcases f4 with ⟨x, rfl, t1, rfl⟩ | ⟨x, rfl, t1, rfl⟩ | ⟨x, rfl, t1, rfl⟩
        · show W p l e R s m args below meth c H locs (h.1.length - l0) (sz h.1 - z0) Q (F0 m pc ls (.int (Int32.ofInt x) :: .ref (c_g b n0 a) :: st'.map (c_v b n0)))
          have hnf : narrow ((a_cls ci).2 k) (.int (Int32.ofInt x)) = .int (Int32.ofInt x) ∧ fits ((a_cls ci).2 k) (.int (Int32.ofInt x)) = true := by
            rcases t1 with t1 | ⟨t1, t2⟩
            · rw [tyc_0 t1]; exact ⟨rfl, rfl⟩
            · rw [tyc_1 t1]; rcases t2 with rfl | rfl <;> exact ⟨by decide, by decide⟩
          rcases ok_fin_s g1 hfn with hfn | ⟨hf1, hf2, hf3, hf4⟩
          · rcases g3 with ⟨-, g3⟩ | ⟨-, g3⟩
            · exact va_put hx hb hts v1 (a_cls ci).2 v3 v4 hown hK hP hD hS0 (a - 1) (by rw [c_ws_get b n0 cA h f3 (kd_lt f1), c_e_obj f1]) g1 k g2 (hts _ g3) (fun _ e => e) hfn (v3 k g2) hnf.1 hnf.2 (by rw [List.length_map, List.length_range]; exact f2) (ok_dec_n hdec rfl) (fun H1 locs1 hP1 _ hS1 => kk H1 locs1 ls (hF.put f3 (kd_lt f1) rfl (fun j _ hj => c_e_upI hj) hkp.2.2 (c_e_fI f1 (t1.imp id And.left)) hP1 hS1) hl)
            · exact va_putN hx hb hts v1 (a_cls ci).2 v3 v4 hown hK hP hD hS0 (a - 1) (by rw [c_ws_get b n0 cA h f3 (kd_lt f1), c_e_obj f1]) g1 k g2 (va_Nw.use rfl (hNB.1 _ g3 rfl)) (fun _ e => e) hfn (v3 k g2) hnf.1 hnf.2 (by rw [List.length_map, List.length_range]; exact f2) (ok_dec_n hdec rfl) (fun H1 locs1 hP1 _ hS1 => kk H1 locs1 ls (hF.put f3 (kd_lt f1) rfl (fun j _ hj => c_e_upI hj) hkp.2.2 (c_e_fI f1 (t1.imp id And.left)) hP1 hS1) hl)
          · rcases g3 with ⟨-, g3⟩ | ⟨g3, -⟩
            · exact va_putF hx hb hts v1 (a_cls ci).2 v3 v4 hown hK hP hD hS0 (a - 1) (by rw [c_ws_get b n0 cA h f3 (kd_lt f1), c_e_obj f1]) g1 k g2 (hts _ g3) (fun _ e => e) hf1 (hnm hf2) hf3 (v3 k g2) hnf.1 hnf.2 (by rw [List.length_map, List.length_range]; exact f2) (ok_dec_n hdec rfl) (fun H1 locs1 hP1 _ hS1 => kk H1 locs1 ls (hF.put f3 (kd_lt f1) rfl (fun j _ hj => c_e_upI hj) hkp.2.2 (c_e_fI f1 (t1.imp id And.left)) hP1 hS1) hl)
            · exact absurd hf4 g3
        · show W p l e R s m args below meth c H locs (h.1.length - l0) (sz h.1 - z0) Q (F0 m pc ls (.long (Int64.ofBitVec x) :: .ref (c_g b n0 a) :: st'.map (c_v b n0)))
          have hnf : narrow ((a_cls ci).2 k) (.long (Int64.ofBitVec x)) = .long (Int64.ofBitVec x) ∧ fits ((a_cls ci).2 k) (.long (Int64.ofBitVec x)) = true := by
            rw [tyc_3 t1]; exact ⟨rfl, rfl⟩
          rcases ok_fin_s g1 hfn with hfn | ⟨hf1, hf2, hf3, hf4⟩
          · rcases g3 with ⟨-, g3⟩ | ⟨-, g3⟩
            · exact va_put hx hb hts v1 (a_cls ci).2 v3 v4 hown hK hP hD hS0 (a - 1) (by rw [c_ws_get b n0 cA h f3 (kd_lt f1), c_e_obj f1]) g1 k g2 (hts _ g3) (fun _ e => e) hfn (v3 k g2) hnf.1 hnf.2 (by rw [List.length_map, List.length_range]; exact f2) (ok_dec_n hdec rfl) (fun H1 locs1 hP1 _ hS1 => kk H1 locs1 ls (hF.put f3 (kd_lt f1) rfl (fun j _ hj => c_e_upJ hj) hkp.2.2 (c_e_fJ f1 t1) hP1 hS1) hl)
            · exact va_putN hx hb hts v1 (a_cls ci).2 v3 v4 hown hK hP hD hS0 (a - 1) (by rw [c_ws_get b n0 cA h f3 (kd_lt f1), c_e_obj f1]) g1 k g2 (va_Nw.use rfl (hNB.1 _ g3 rfl)) (fun _ e => e) hfn (v3 k g2) hnf.1 hnf.2 (by rw [List.length_map, List.length_range]; exact f2) (ok_dec_n hdec rfl) (fun H1 locs1 hP1 _ hS1 => kk H1 locs1 ls (hF.put f3 (kd_lt f1) rfl (fun j _ hj => c_e_upJ hj) hkp.2.2 (c_e_fJ f1 t1) hP1 hS1) hl)
          · rcases g3 with ⟨-, g3⟩ | ⟨g3, -⟩
            · exact va_putF hx hb hts v1 (a_cls ci).2 v3 v4 hown hK hP hD hS0 (a - 1) (by rw [c_ws_get b n0 cA h f3 (kd_lt f1), c_e_obj f1]) g1 k g2 (hts _ g3) (fun _ e => e) hf1 (hnm hf2) hf3 (v3 k g2) hnf.1 hnf.2 (by rw [List.length_map, List.length_range]; exact f2) (ok_dec_n hdec rfl) (fun H1 locs1 hP1 _ hS1 => kk H1 locs1 ls (hF.put f3 (kd_lt f1) rfl (fun j _ hj => c_e_upJ hj) hkp.2.2 (c_e_fJ f1 t1) hP1 hS1) hl)
            · exact absurd hf4 g3
        · show W p l e R s m args below meth c H locs (h.1.length - l0) (sz h.1 - z0) Q (F0 m pc ls (.ref (c_g b n0 x) :: .ref (c_g b n0 a) :: st'.map (c_v b n0)))
          have hnf : narrow ((a_cls ci).2 k) (.ref (c_g b n0 x)) = .ref (c_g b n0 x) ∧ fits ((a_cls ci).2 k) (.ref (c_g b n0 x)) = true := by
            rcases tyc_4 t1 with ⟨u, hu⟩ | ⟨u, hu⟩ <;> rw [hu] <;> exact ⟨rfl, rfl⟩
          rcases ok_fin_s g1 hfn with hfn | ⟨hf1, hf2, hf3, hf4⟩
          · rcases g3 with ⟨-, g3⟩ | ⟨-, g3⟩
            · exact va_put hx hb hts v1 (a_cls ci).2 v3 v4 hown hK hP hD hS0 (a - 1) (by rw [c_ws_get b n0 cA h f3 (kd_lt f1), c_e_obj f1]) g1 k g2 (hts _ g3) (fun _ e => e) hfn (v3 k g2) hnf.1 hnf.2 (by rw [List.length_map, List.length_range]; exact f2) (ok_dec_n hdec rfl) (fun H1 locs1 hP1 _ hS1 => kk H1 locs1 ls (hF.put f3 (kd_lt f1) rfl (fun j _ hj => c_e_upR hj) hkp.2.2 (c_e_fR f1 t1) hP1 hS1) hl)
            · exact va_putN hx hb hts v1 (a_cls ci).2 v3 v4 hown hK hP hD hS0 (a - 1) (by rw [c_ws_get b n0 cA h f3 (kd_lt f1), c_e_obj f1]) g1 k g2 (va_Nw.use rfl (hNB.1 _ g3 rfl)) (fun _ e => e) hfn (v3 k g2) hnf.1 hnf.2 (by rw [List.length_map, List.length_range]; exact f2) (ok_dec_n hdec rfl) (fun H1 locs1 hP1 _ hS1 => kk H1 locs1 ls (hF.put f3 (kd_lt f1) rfl (fun j _ hj => c_e_upR hj) hkp.2.2 (c_e_fR f1 t1) hP1 hS1) hl)
          · rcases g3 with ⟨-, g3⟩ | ⟨g3, -⟩
            · exact va_putF hx hb hts v1 (a_cls ci).2 v3 v4 hown hK hP hD hS0 (a - 1) (by rw [c_ws_get b n0 cA h f3 (kd_lt f1), c_e_obj f1]) g1 k g2 (hts _ g3) (fun _ e => e) hf1 (hnm hf2) hf3 (v3 k g2) hnf.1 hnf.2 (by rw [List.length_map, List.length_range]; exact f2) (ok_dec_n hdec rfl) (fun H1 locs1 hP1 _ hS1 => kk H1 locs1 ls (hF.put f3 (kd_lt f1) rfl (fun j _ hj => c_e_upR hj) hkp.2.2 (c_e_fR f1 t1) hP1 hS1) hl)
            · exact absurd hf4 g3
      · cases hlnk
    · cases hs
  · cases hs
set_option maxHeartbeats 400000 in
theorem sg_iaload : SG (.iaload) := by
  intro b n0 l0 z0 D cA p l e R s m args below meth c Q M hC an ks val pc lo st h pc' lo' st' h' hok hs H locs ls hF hl hS hL hR1 hR2 kk
  obtain ⟨hx, hb, hml, hown, hts, hNB, hK, hret, hlk, hnm, hfr, hlc, hbn, hsz, hl0, hq0⟩ := hC
  obtain ⟨hP, hS0, hOK, hg1, hg2, L0, hk0, hL0, hX⟩ := id hF
  have hD := c_ws_D b n0 cA h
  have hkp := a_step_go hs hOK hS hL
  have hA : ∀ q, s.heap.size ≤ q → (fun q => n0 ≤ q) q := fun q hq => by show n0 ≤ q; omega
  obtain ⟨hdec, hlnk⟩ := ok_row_s hok
  simp only [a_step] at hs
  split at hs
  · rename_i i a r
    split at hs
    · rename_i n hn
      have f1 := a_len_some hn
      split at hs
      · rename_i hc
        cases hs
        have hi : inR i := hS.hd
        show W p l e R s m args below meth c H locs (h.1.length - l0) (sz h.1 - z0) Q (F0 m pc ls (.int (Int32.ofInt i) :: .ref (c_g b n0 a) :: r.map (c_v b n0)))
        have e1 : ((i.toNat : Nat) : Int) = i := Int.toNat_of_nonneg hc.1
        rcases Nat.eq_zero_or_pos a with h0 | h0
        · subst h0
          have e0 : L0 = n := by have := hk0.symm.trans f1; cases this; rfl
          subst e0
          refine va_sld hx hb hX (by omega) (show ¬ n0 ≤ b by omega) hS0 (inR_in hi hc.1 hc.2) (ok_dec_n hdec rfl) ?_
          rw [inR_cl hi, e1]
          exact kk H locs ls hF hl
        · refine va_iald hx hb hK hP (a - 1) 0 (by rw [c_ws_get b n0 cA h h0 (kd_lt f1), c_e_int f1 (by decide)]) rfl (inR_in hi hc.1 hc.2) (ok_dec_n hdec rfl) ?_
          rw [inR_cl hi, e1]
          exact kk H locs ls hF hl
      · cases hs
    · cases hs
  · cases hs
set_option maxHeartbeats 400000 in
theorem sg_baload : SG (.baload) := by
  intro b n0 l0 z0 D cA p l e R s m args below meth c Q M hC an ks val pc lo st h pc' lo' st' h' hok hs H locs ls hF hl hS hL hR1 hR2 kk
  obtain ⟨hx, hb, hml, hown, hts, hNB, hK, hret, hlk, hnm, hfr, hlc, hbn, hsz, hl0, hq0⟩ := hC
  obtain ⟨hP, hS0, hOK, hg1, hg2, L0, hk0, hL0, hX⟩ := id hF
  have hD := c_ws_D b n0 cA h
  have hkp := a_step_go hs hOK hS hL
  have hA : ∀ q, s.heap.size ≤ q → (fun q => n0 ≤ q) q := fun q hq => by show n0 ≤ q; omega
  obtain ⟨hdec, hlnk⟩ := ok_row_s hok
  simp only [a_step] at hs
  split at hs
  · rename_i i a r
    split at hs
    · rename_i t n f1
      split at hs
      · rename_i hc
        cases hs
        obtain ⟨ht, h0, hc1, hc2⟩ := hc
        have hi : inR i := hS.hd
        show W p l e R s m args below meth c H locs (h.1.length - l0) (sz h.1 - z0) Q (F0 m pc ls (.int (Int32.ofInt i) :: .ref (c_g b n0 a) :: r.map (c_v b n0)))
        have e1 : ((i.toNat : Nat) : Int) = i := Int.toNat_of_nonneg hc1
        rcases ht with rfl | rfl
        · refine va_zald hx hb hK hP (a - 1) 1 (by rw [c_ws_get b n0 cA h h0 (kd_lt f1), c_e_int f1 (by decide)]) rfl (inR_in hi hc1 hc2) (ok_dec_n hdec rfl) ?_
          rw [inR_cl hi, e1]
          exact kk H locs ls hF hl
        · refine va_bald hx hb hK hP (a - 1) 2 (by rw [c_ws_get b n0 cA h h0 (kd_lt f1), c_e_int f1 (by decide)]) rfl (inR_in hi hc1 hc2) (ok_dec_n hdec rfl) ?_
          rw [inR_cl hi, e1]
          exact kk H locs ls hF hl
      · cases hs
    · cases hs
  · cases hs
set_option maxHeartbeats 400000 in
theorem sg_laload : SG (.laload) := by
  intro b n0 l0 z0 D cA p l e R s m args below meth c Q M hC an ks val pc lo st h pc' lo' st' h' hok hs H locs ls hF hl hS hL hR1 hR2 kk
  obtain ⟨hx, hb, hml, hown, hts, hNB, hK, hret, hlk, hnm, hfr, hlc, hbn, hsz, hl0, hq0⟩ := hC
  obtain ⟨hP, hS0, hOK, hg1, hg2, L0, hk0, hL0, hX⟩ := id hF
  have hD := c_ws_D b n0 cA h
  have hkp := a_step_go hs hOK hS hL
  have hA : ∀ q, s.heap.size ≤ q → (fun q => n0 ≤ q) q := fun q hq => by show n0 ≤ q; omega
  obtain ⟨hdec, hlnk⟩ := ok_row_s hok
  simp only [a_step] at hs
  split at hs
  · rename_i i a r
    split at hs
    · rename_i n hn
      have f1 := a_len_some hn
      split at hs
      · rename_i hc
        cases hs
        obtain ⟨h0, hc1, hc2⟩ := hc
        have hi : inR i := hS.hd
        show W p l e R s m args below meth c H locs (h.1.length - l0) (sz h.1 - z0) Q (F0 m pc ls (.int (Int32.ofInt i) :: .ref (c_g b n0 a) :: r.map (c_v b n0)))
        have e1 : ((i.toNat : Nat) : Int) = i := Int.toNat_of_nonneg hc1
        refine va_lald hx hb hK hP (a - 1) 3 (by rw [c_ws_get b n0 cA h h0 (kd_lt f1), c_e_lng f1]) rfl (inR_in hi hc1 hc2) (ok_dec_n hdec rfl) ?_
        rw [inR_cl hi, e1]
        exact kk H locs ls hF hl
      · cases hs
    · cases hs
  · cases hs
set_option maxHeartbeats 400000 in
theorem sg_aaload : SG (.aaload) := by
  intro b n0 l0 z0 D cA p l e R s m args below meth c Q M hC an ks val pc lo st h pc' lo' st' h' hok hs H locs ls hF hl hS hL hR1 hR2 kk
  obtain ⟨hx, hb, hml, hown, hts, hNB, hK, hret, hlk, hnm, hfr, hlc, hbn, hsz, hl0, hq0⟩ := hC
  obtain ⟨hP, hS0, hOK, hg1, hg2, L0, hk0, hL0, hX⟩ := id hF
  have hD := c_ws_D b n0 cA h
  have hkp := a_step_go hs hOK hS hL
  have hA : ∀ q, s.heap.size ≤ q → (fun q => n0 ≤ q) q := fun q hq => by show n0 ≤ q; omega
  obtain ⟨hdec, hlnk⟩ := ok_row_s hok
  simp only [a_step] at hs
  split at hs
  · rename_i i a r
    split at hs
    · rename_i n hn
      have f1 := a_len_some hn
      split at hs
      · rename_i hc
        cases hs
        obtain ⟨h0, hc1, hc2⟩ := hc
        have hi : inR i := hS.hd
        show W p l e R s m args below meth c H locs (h.1.length - l0) (sz h.1 - z0) Q (F0 m pc ls (.int (Int32.ofInt i) :: .ref (c_g b n0 a) :: r.map (c_v b n0)))
        have e1 : ((i.toNat : Nat) : Int) = i := Int.toNat_of_nonneg hc1
        refine va_aldq hx hb hK hP (a - 1) 4 (by rw [c_ws_get b n0 cA h h0 (kd_lt f1), c_e_ref f1]) rfl (inR_in hi hc1 hc2) (ok_dec_n hdec rfl) ?_
        rw [inR_cl hi, e1]
        exact kk H locs ls hF hl
      · cases hs
    · cases hs
  · cases hs
set_option maxHeartbeats 400000 in
theorem sg_iastore : SG (.iastore) := by
  intro b n0 l0 z0 D cA p l e R s m args below meth c Q M hC an ks val pc lo st h pc' lo' st' h' hok hs H locs ls hF hl hS hL hR1 hR2 kk
  obtain ⟨hx, hb, hml, hown, hts, hNB, hK, hret, hlk, hnm, hfr, hlc, hbn, hsz, hl0, hq0⟩ := hC
  obtain ⟨hP, hS0, hOK, hg1, hg2, L0, hk0, hL0, hX⟩ := id hF
  have hD := c_ws_D b n0 cA h
  have hkp := a_step_go hs hOK hS hL
  have hA : ∀ q, s.heap.size ≤ q → (fun q => n0 ≤ q) q := fun q hq => by show n0 ≤ q; omega
  obtain ⟨hdec, hlnk⟩ := ok_row_s hok
  simp only [a_step] at hs
  split at hs
  · rename_i x i a r
    split at hs
    · rename_i n hn
      have f1 := a_len_some hn
      split at hs
      · rename_i hc
        cases hs
        obtain ⟨h0, hc1, hc2⟩ := hc
        have hi : inR i := hS.tl.hd
        show W p l e R s m args below meth c H locs (h.1.length - l0) (sz h.1 - z0) Q (F0 m pc ls (.int (Int32.ofInt x) :: .int (Int32.ofInt i) :: .ref (c_g b n0 a) :: st'.map (c_v b n0)))
        exact va_iast hx hb hK hP hD hS0 (a - 1) 0 (by rw [c_ws_get b n0 cA h h0 (kd_lt f1), c_e_int f1 (by decide)]) rfl (inR_in hi hc1 hc2) (ok_dec_n hdec rfl) (fun H1 locs1 hP1 _ hS1 => kk H1 locs1 ls (hF.put h0 (kd_lt f1) rfl (fun j _ hj => c_e_upI hj) hkp.2.2 (c_e_aI f1 (by decide) hc1 hi) hP1 hS1) hl)
      · cases hs
    · cases hs
  · cases hs
set_option maxHeartbeats 400000 in
theorem sg_bastore : SG (.bastore) := by
  intro b n0 l0 z0 D cA p l e R s m args below meth c Q M hC an ks val pc lo st h pc' lo' st' h' hok hs H locs ls hF hl hS hL hR1 hR2 kk
  obtain ⟨hx, hb, hml, hown, hts, hNB, hK, hret, hlk, hnm, hfr, hlc, hbn, hsz, hl0, hq0⟩ := hC
  obtain ⟨hP, hS0, hOK, hg1, hg2, L0, hk0, hL0, hX⟩ := id hF
  have hD := c_ws_D b n0 cA h
  have hkp := a_step_go hs hOK hS hL
  have hA : ∀ q, s.heap.size ≤ q → (fun q => n0 ≤ q) q := fun q hq => by show n0 ≤ q; omega
  obtain ⟨hdec, hlnk⟩ := ok_row_s hok
  simp only [a_step] at hs
  split at hs
  · rename_i x i a r
    split at hs
    · rename_i t n f1
      split at hs
      · rename_i hc
        cases hs
        obtain ⟨ht, h0, hc1, hc2⟩ := hc
        have hi : inR i := hS.tl.hd
        show W p l e R s m args below meth c H locs (h.1.length - l0) (sz h.1 - z0) Q (F0 m pc ls (.int (Int32.ofInt x) :: .int (Int32.ofInt i) :: .ref (c_g b n0 a) :: st'.map (c_v b n0)))
        rcases ht with ⟨rfl, ht⟩ | ⟨rfl, ht1, ht2⟩
        · have e1 : vp_nar .boolean (Int32.ofInt x) = Int32.ofInt x := by rcases ht with rfl | rfl <;> decide
          refine va_zast hx hb hK hP hD hS0 (a - 1) 1 (by rw [c_ws_get b n0 cA h h0 (kd_lt f1), c_e_int f1 (by decide)]) rfl (inR_in hi hc1 hc2) (ok_dec_n hdec rfl) (fun H1 locs1 hP1 _ hS1 => ?_)
          rw [e1] at hP1
          exact kk H1 locs1 ls (hF.put h0 (kd_lt f1) rfl (fun j _ hj => c_e_upI hj) hkp.2.2 (c_e_aI f1 (by decide) hc1 hi) hP1 hS1) hl
        · have hxx : inR x := hS.hd
          have e1 : vp_nar .byte (Int32.ofInt x) = Int32.ofInt x := by
            rw [vp_nar_byte]
            apply Int32.toInt_inj.mp
            rw [Int8.toInt_toInt32, Int32.toInt_toInt8, inR_to hxx]
            rw [Int.bmod_eq_of_le] <;> omega
          refine va_bast hx hb hK hP hD hS0 (a - 1) 2 (by rw [c_ws_get b n0 cA h h0 (kd_lt f1), c_e_int f1 (by decide)]) rfl (inR_in hi hc1 hc2) (ok_dec_n hdec rfl) (fun H1 locs1 hP1 _ hS1 => ?_)
          rw [e1] at hP1
          exact kk H1 locs1 ls (hF.put h0 (kd_lt f1) rfl (fun j _ hj => c_e_upI hj) hkp.2.2 (c_e_aI f1 (by decide) hc1 hi) hP1 hS1) hl
      · cases hs
    · cases hs
  · cases hs
set_option maxHeartbeats 400000 in
theorem sg_lastore : SG (.lastore) := by
  intro b n0 l0 z0 D cA p l e R s m args below meth c Q M hC an ks val pc lo st h pc' lo' st' h' hok hs H locs ls hF hl hS hL hR1 hR2 kk
  obtain ⟨hx, hb, hml, hown, hts, hNB, hK, hret, hlk, hnm, hfr, hlc, hbn, hsz, hl0, hq0⟩ := hC
  obtain ⟨hP, hS0, hOK, hg1, hg2, L0, hk0, hL0, hX⟩ := id hF
  have hD := c_ws_D b n0 cA h
  have hkp := a_step_go hs hOK hS hL
  have hA : ∀ q, s.heap.size ≤ q → (fun q => n0 ≤ q) q := fun q hq => by show n0 ≤ q; omega
  obtain ⟨hdec, hlnk⟩ := ok_row_s hok
  simp only [a_step] at hs
  split at hs
  · rename_i x i a r
    split at hs
    · rename_i n hn
      have f1 := a_len_some hn
      split at hs
      · rename_i hc
        cases hs
        obtain ⟨h0, hc1, hc2⟩ := hc
        have hi : inR i := hS.tl.hd
        show W p l e R s m args below meth c H locs (h.1.length - l0) (sz h.1 - z0) Q (F0 m pc ls (.long (Int64.ofBitVec x) :: .int (Int32.ofInt i) :: .ref (c_g b n0 a) :: st'.map (c_v b n0)))
        exact va_last hx hb hK hP hD hS0 (a - 1) 3 (by rw [c_ws_get b n0 cA h h0 (kd_lt f1), c_e_lng f1]) rfl (inR_in hi hc1 hc2) (ok_dec_n hdec rfl) (fun H1 locs1 hP1 _ hS1 => kk H1 locs1 ls (hF.put h0 (kd_lt f1) rfl (fun j _ hj => c_e_upJ hj) hkp.2.2 (c_e_aJ f1 hc1 hi) hP1 hS1) hl)
      · cases hs
    · cases hs
  · cases hs
set_option maxHeartbeats 400000 in
theorem sg_aastore : SG (.aastore) := by
  intro b n0 l0 z0 D cA p l e R s m args below meth c Q M hC an ks val pc lo st h pc' lo' st' h' hok hs H locs ls hF hl hS hL hR1 hR2 kk
  obtain ⟨hx, hb, hml, hown, hts, hNB, hK, hret, hlk, hnm, hfr, hlc, hbn, hsz, hl0, hq0⟩ := hC
  obtain ⟨hP, hS0, hOK, hg1, hg2, L0, hk0, hL0, hX⟩ := id hF
  have hD := c_ws_D b n0 cA h
  have hkp := a_step_go hs hOK hS hL
  have hA : ∀ q, s.heap.size ≤ q → (fun q => n0 ≤ q) q := fun q hq => by show n0 ≤ q; omega
  obtain ⟨hdec, hlnk⟩ := ok_row_s hok
  simp only [a_step] at hs
  split at hs
  · rename_i v i a r
    split at hs
    · rename_i n t n2 hn hv
      have f1 := a_len_some hn
      split at hs
      · rename_i hc
        cases hs
        obtain ⟨rfl, rfl, hv0, h0, hc1, hc2⟩ := hc
        have hi : inR i := hS.tl.hd
        show W p l e R s m args below meth c H locs (h.1.length - l0) (sz h.1 - z0) Q (F0 m pc ls (.ref (c_g b n0 v) :: .int (Int32.ofInt i) :: .ref (c_g b n0 a) :: st'.map (c_v b n0)))
        exact va_astq hx hb hK hP hD hS0 (a - 1) 4 (v - 1) 4 (r := (RX4, TX4, 2)) (by rw [c_ws_get b n0 cA h h0 (kd_lt f1), c_e_ref f1]) rfl (by rw [c_ws_get b n0 cA h hv0 (kd_lt hv), c_e_obj (ci := 4) hv]) rfl (inR_in hi hc1 hc2) (ok_dec_n hdec rfl) (fun H1 locs1 hP1 _ hS1 => kk H1 locs1 ls (hF.put h0 (kd_lt f1) rfl (fun j _ hj => c_e_upR hj) hkp.2.2 (c_e_aR f1 hc1 hi) hP1 hS1) hl)
      · cases hs
    · cases hs
  · cases hs
set_option maxHeartbeats 400000 in
theorem sg_arraylength : SG (.arraylength) := by
  intro b n0 l0 z0 D cA p l e R s m args below meth c Q M hC an ks val pc lo st h pc' lo' st' h' hok hs H locs ls hF hl hS hL hR1 hR2 kk
  obtain ⟨hx, hb, hml, hown, hts, hNB, hK, hret, hlk, hnm, hfr, hlc, hbn, hsz, hl0, hq0⟩ := hC
  obtain ⟨hP, hS0, hOK, hg1, hg2, L0, hk0, hL0, hX⟩ := id hF
  have hD := c_ws_D b n0 cA h
  have hkp := a_step_go hs hOK hS hL
  have hA : ∀ q, s.heap.size ≤ q → (fun q => n0 ≤ q) q := fun q hq => by show n0 ≤ q; omega
  obtain ⟨hdec, hlnk⟩ := ok_row_s hok
  simp only [a_step] at hs
  split at hs
  · rename_i a r
    split at hs
    · rename_i t n f1
      split at hs
      · rename_i hc
        cases hs
        show W p l e R s m args below meth c H locs (h.1.length - l0) (sz h.1 - z0) Q (F0 m pc ls (.ref (c_g b n0 a) :: r.map (c_v b n0)))
        have e1 : Int32.ofNat n = Int32.ofInt (n : Int) := rfl
        rcases Nat.eq_zero_or_pos a with h0 | h0
        · subst h0
          have e0 : L0 = n := by have := hk0.symm.trans f1; cases this; rfl
          subst e0
          exact va_slen hx hb hX (show b < s.heap.size by omega) (show ¬ n0 ≤ b by omega) hS0 (ok_dec_n hdec rfl) (kk H locs ls hF hl)
        · have ht : t = 0 ∨ t = 1 ∨ t = 2 ∨ t = 3 ∨ t = 4 := by omega
          rcases ht with rfl | rfl | rfl | rfl | rfl
          · exact va_alen (x := ((n, .inl fun j : Nat => Int32.ofInt (h.2.1 a j)) : vp_A)) hx hb hK hP (a - 1) 0 (by rw [c_ws_get b n0 cA h h0 (kd_lt f1), c_e_int f1 (by decide)]) rfl rfl (ok_dec_n hdec rfl) (kk H locs ls hF hl)
          · exact va_alen (x := ((n, .inl fun j : Nat => Int32.ofInt (h.2.1 a j)) : vp_A)) hx hb hK hP (a - 1) 1 (by rw [c_ws_get b n0 cA h h0 (kd_lt f1), c_e_int f1 (by decide)]) rfl rfl (ok_dec_n hdec rfl) (kk H locs ls hF hl)
          · exact va_alen (x := ((n, .inl fun j : Nat => Int32.ofInt (h.2.1 a j)) : vp_A)) hx hb hK hP (a - 1) 2 (by rw [c_ws_get b n0 cA h h0 (kd_lt f1), c_e_int f1 (by decide)]) rfl rfl (ok_dec_n hdec rfl) (kk H locs ls hF hl)
          · exact va_alen (x := ((n, .inr (.inl fun j : Nat => Int64.ofBitVec (h.2.2.1 a j))) : vp_A)) hx hb hK hP (a - 1) 3 (by rw [c_ws_get b n0 cA h h0 (kd_lt f1), c_e_lng f1]) rfl rfl (ok_dec_n hdec rfl) (kk H locs ls hF hl)
          · exact va_alen (x := ((n, .inr (.inr (.inr (.inr fun j : Nat => (h.2.2.2 a j).map (c_g b n0))))) : vp_A)) hx hb hK hP (a - 1) 4 (by rw [c_ws_get b n0 cA h h0 (kd_lt f1), c_e_ref f1]) rfl rfl (ok_dec_n hdec rfl) (kk H locs ls hF hl)
      · cases hs
    · cases hs
  · cases hs
set_option maxHeartbeats 400000 in
theorem sg_newarray (t : ArrayType) : SG (.newarray t) := by
  intro b n0 l0 z0 D cA p l e R s m args below meth c Q M hC an ks val pc lo st h pc' lo' st' h' hok hs H locs ls hF hl hS hL hR1 hR2 kk
  obtain ⟨hx, hb, hml, hown, hts, hNB, hK, hret, hlk, hnm, hfr, hlc, hbn, hsz, hl0, hq0⟩ := hC
  obtain ⟨hP, hS0, hOK, hg1, hg2, L0, hk0, hL0, hX⟩ := id hF
  have hD := c_ws_D b n0 cA h
  have hkp := a_step_go hs hOK hS hL
  have hA : ∀ q, s.heap.size ≤ q → (fun q => n0 ≤ q) q := fun q hq => by show n0 ≤ q; omega
  obtain ⟨hdec, hlnk⟩ := ok_row_s hok
  simp only [a_step] at hs
  split at hs
  · rename_i n r
    split at hs
    · rename_i hc
      cases hs
      obtain ⟨hc1, hc2, hc3, hc4⟩ := hc
      have hi : inR n := hS.hd
      show W p l e R s m args below meth c H locs (h.1.length - l0) (sz h.1 - z0) Q (F0 m pc ls (.int (Int32.ofInt n) :: r.map (c_v b n0)))
      simp only [ok_link] at hlnk
      split at hlnk
      · rename_i w
        have hw := hts _ (w_ok_in hlnk)
        have hz1 : sz (h.1 ++ [(a_aty t, n.toNat)]) = sz h.1 + n.toNat := by unfold sz; rw [List.map_append, List.sum_append]; simp
        have hz2 : (h.1 ++ [(a_aty t, n.toNat)]).length = h.1.length + 1 := by rw [List.length_append]; rfl
        have hR1 : (h.1 ++ [(a_aty t, n.toNat)]).length - l0 ≤ R.cells := hR1
        have hR2 : sz (h.1 ++ [(a_aty t, n.toNat)]) - z0 ≤ R.slots := hR2
        rw [hz2] at hR1
        rw [hz1] at hR2
        have hcl : (Int32.ofInt n).toNatClampNeg = n.toNat := inR_cl hi
        have hn0 : ¬ Int32.ofInt n < 0 := fun z => by
          have := (inR_lt (y := 0) hi ⟨by decide, by decide⟩).mp z
          omega
        have hke : ∀ x : Nat × Nat, (h.1 ++ [x])[h.1.length]? = some x := fun x => by rw [List.getElem?_append_right (Nat.le_refl _), Nat.sub_self]; rfl
        have hzI : (fun j : Nat => Int32.ofInt (h.2.1 h.1.length j)) = fun _ => 0 := funext fun j => by rw [(hOK.2.2 _ (Nat.le_refl _) j).1]; rfl
        have hzJ : (fun j : Nat => Int64.ofBitVec (h.2.2.1 h.1.length j)) = fun _ => 0 := funext fun j => by rw [(hOK.2.2 _ (Nat.le_refl _) j).2.1]; rfl
        cases t
        case int =>
          refine va_newa (atype := .int) hx hb hw rfl hK hP hD hS0 hA (N' := n.toNat) (a0 := (n.toNat, .inl (fun _ => 0))) (fun _ => rfl) hn0 hcl (by show n.toNat * 4 ≤ 536870912; omega) (by omega) (by omega) (ok_dec_n hdec rfl) (fun q cA' H1 hK1 hP1 hD1 hS1 => ?_)
          have hcA : cA' = cA 0 := by
            have k1 : s.vm.findClass ("[" ++ (.int : FieldType).toString) = some cA' := (hK1.2 5 (cA', .int) rfl).2
            have k2 : s.vm.findClass ("[" ++ (.int : FieldType).toString) = some (cA 0) := (hK.2 0 (cA 0, .int) rfl).2
            exact Option.some.inj (k1.symm.trans k2)
          subst hcA
          refine W_size (fun hz => ?_)
          have hq := new_at hF hsz hl0 hP1 hD1 hz
          subst hq
          refine W.cs (show _ = (h.1 ++ [(0, n.toNat)]).length - l0 by rw [List.length_append]; show _ = h.1.length + 1 - l0; omega) (show _ = sz (h.1 ++ [(0, n.toNat)]) - z0 by rw [show sz (h.1 ++ [(0, n.toNat)]) = sz h.1 + n.toNat from hz1]; omega) ?_
          have hcg : c_g b n0 h.1.length = n0 + (h.1.length - 1) := by unfold c_g; rw [if_neg (by omega)]
          rw [← hcg]
          exact kk H1 locs ls (Fw.new (x := (0, n.toNat)) hF (by rw [c_e_int (h := (h.1 ++ [(0, n.toNat)], h.2.1, h.2.2.1, h.2.2.2)) (hke _) (by decide), show (h.1 ++ [(0, n.toNat)], h.2.1, h.2.2.1, h.2.2.2).2.1 = h.2.1 from rfl, hzI]) hP1 hS1) hl
        case boolean =>
          refine va_newa (atype := .boolean) hx hb hw rfl hK hP hD hS0 hA (N' := n.toNat) (a0 := (n.toNat, .inl (fun _ => 0))) (fun _ => rfl) hn0 hcl (by show n.toNat * 1 ≤ 536870912; omega) (by omega) (by omega) (ok_dec_n hdec rfl) (fun q cA' H1 hK1 hP1 hD1 hS1 => ?_)
          have hcA : cA' = cA 1 := by
            have k1 : s.vm.findClass ("[" ++ (.boolean : FieldType).toString) = some cA' := (hK1.2 5 (cA', .boolean) rfl).2
            have k2 : s.vm.findClass ("[" ++ (.boolean : FieldType).toString) = some (cA 1) := (hK.2 1 (cA 1, .boolean) rfl).2
            exact Option.some.inj (k1.symm.trans k2)
          subst hcA
          refine W_size (fun hz => ?_)
          have hq := new_at hF hsz hl0 hP1 hD1 hz
          subst hq
          refine W.cs (show _ = (h.1 ++ [(1, n.toNat)]).length - l0 by rw [List.length_append]; show _ = h.1.length + 1 - l0; omega) (show _ = sz (h.1 ++ [(1, n.toNat)]) - z0 by rw [show sz (h.1 ++ [(1, n.toNat)]) = sz h.1 + n.toNat from hz1]; omega) ?_
          have hcg : c_g b n0 h.1.length = n0 + (h.1.length - 1) := by unfold c_g; rw [if_neg (by omega)]
          rw [← hcg]
          exact kk H1 locs ls (Fw.new (x := (1, n.toNat)) hF (by rw [c_e_int (h := (h.1 ++ [(1, n.toNat)], h.2.1, h.2.2.1, h.2.2.2)) (hke _) (by decide), show (h.1 ++ [(1, n.toNat)], h.2.1, h.2.2.1, h.2.2.2).2.1 = h.2.1 from rfl, hzI]) hP1 hS1) hl
        case byte =>
          refine va_newa (atype := .byte) hx hb hw rfl hK hP hD hS0 hA (N' := n.toNat) (a0 := (n.toNat, .inl (fun _ => 0))) (fun _ => rfl) hn0 hcl (by show n.toNat * 1 ≤ 536870912; omega) (by omega) (by omega) (ok_dec_n hdec rfl) (fun q cA' H1 hK1 hP1 hD1 hS1 => ?_)
          have hcA : cA' = cA 2 := by
            have k1 : s.vm.findClass ("[" ++ (.byte : FieldType).toString) = some cA' := (hK1.2 5 (cA', .byte) rfl).2
            have k2 : s.vm.findClass ("[" ++ (.byte : FieldType).toString) = some (cA 2) := (hK.2 2 (cA 2, .byte) rfl).2
            exact Option.some.inj (k1.symm.trans k2)
          subst hcA
          refine W_size (fun hz => ?_)
          have hq := new_at hF hsz hl0 hP1 hD1 hz
          subst hq
          refine W.cs (show _ = (h.1 ++ [(2, n.toNat)]).length - l0 by rw [List.length_append]; show _ = h.1.length + 1 - l0; omega) (show _ = sz (h.1 ++ [(2, n.toNat)]) - z0 by rw [show sz (h.1 ++ [(2, n.toNat)]) = sz h.1 + n.toNat from hz1]; omega) ?_
          have hcg : c_g b n0 h.1.length = n0 + (h.1.length - 1) := by unfold c_g; rw [if_neg (by omega)]
          rw [← hcg]
          exact kk H1 locs ls (Fw.new (x := (2, n.toNat)) hF (by rw [c_e_int (h := (h.1 ++ [(2, n.toNat)], h.2.1, h.2.2.1, h.2.2.2)) (hke _) (by decide), show (h.1 ++ [(2, n.toNat)], h.2.1, h.2.2.1, h.2.2.2).2.1 = h.2.1 from rfl, hzI]) hP1 hS1) hl
        case long =>
          refine va_newa (atype := .long) hx hb hw rfl hK hP hD hS0 hA (N' := n.toNat) (a0 := (n.toNat, .inr (.inl (fun _ => 0)))) (fun _ => rfl) hn0 hcl (by show n.toNat * 8 ≤ 536870912; omega) (by omega) (by omega) (ok_dec_n hdec rfl) (fun q cA' H1 hK1 hP1 hD1 hS1 => ?_)
          have hcA : cA' = cA 3 := by
            have k1 : s.vm.findClass ("[" ++ (.long : FieldType).toString) = some cA' := (hK1.2 5 (cA', .long) rfl).2
            have k2 : s.vm.findClass ("[" ++ (.long : FieldType).toString) = some (cA 3) := (hK.2 3 (cA 3, .long) rfl).2
            exact Option.some.inj (k1.symm.trans k2)
          subst hcA
          refine W_size (fun hz => ?_)
          have hq := new_at hF hsz hl0 hP1 hD1 hz
          subst hq
          refine W.cs (show _ = (h.1 ++ [(3, n.toNat)]).length - l0 by rw [List.length_append]; show _ = h.1.length + 1 - l0; omega) (show _ = sz (h.1 ++ [(3, n.toNat)]) - z0 by rw [show sz (h.1 ++ [(3, n.toNat)]) = sz h.1 + n.toNat from hz1]; omega) ?_
          have hcg : c_g b n0 h.1.length = n0 + (h.1.length - 1) := by unfold c_g; rw [if_neg (by omega)]
          rw [← hcg]
          exact kk H1 locs ls (Fw.new (x := (3, n.toNat)) hF (by rw [c_e_lng (h := (h.1 ++ [(3, n.toNat)], h.2.1, h.2.2.1, h.2.2.2)) (hke _), show (h.1 ++ [(3, n.toNat)], h.2.1, h.2.2.1, h.2.2.2).2.2.1 = h.2.2.1 from rfl, hzJ]) hP1 hS1) hl
        all_goals (simp [a_aty] at hc3)
      · cases hlnk
    · cases hs
  · cases hs
set_option maxHeartbeats 400000 in
theorem sg_anewarray (ix : Nat) : SG (.anewarray ix) := by
  intro b n0 l0 z0 D cA p l e R s m args below meth c Q M hC an ks val pc lo st h pc' lo' st' h' hok hs H locs ls hF hl hS hL hR1 hR2 kk
  obtain ⟨hx, hb, hml, hown, hts, hNB, hK, hret, hlk, hnm, hfr, hlc, hbn, hsz, hl0, hq0⟩ := hC
  obtain ⟨hP, hS0, hOK, hg1, hg2, L0, hk0, hL0, hX⟩ := id hF
  have hD := c_ws_D b n0 cA h
  have hkp := a_step_go hs hOK hS hL
  have hA : ∀ q, s.heap.size ≤ q → (fun q => n0 ≤ q) q := fun q hq => by show n0 ≤ q; omega
  obtain ⟨hdec, hlnk⟩ := ok_row_s hok
  simp only [a_step] at hs
  split at hs
  · rename_i n r
    split at hs
    · rename_i hc
      cases hs
      obtain ⟨hc1, hc2, hc4⟩ := hc
      have hi : inR n := hS.hd
      show W p l e R s m args below meth c H locs (h.1.length - l0) (sz h.1 - z0) Q (F0 m pc ls (.int (Int32.ofInt n) :: r.map (c_v b n0)))
      simp only [ok_link] at hlnk
      split at hlnk
      · rename_i w w2
        have hw := hts _ (w_ok_in hlnk)
        have hz1 : sz (h.1 ++ [(4, n.toNat)]) = sz h.1 + n.toNat := by unfold sz; rw [List.map_append, List.sum_append]; simp
        have hz2 : (h.1 ++ [(4, n.toNat)]).length = h.1.length + 1 := by rw [List.length_append]; rfl
        have hR1 : (h.1 ++ [(4, n.toNat)]).length - l0 ≤ R.cells := hR1
        have hR2 : sz (h.1 ++ [(4, n.toNat)]) - z0 ≤ R.slots := hR2
        rw [hz2] at hR1
        rw [hz1] at hR2
        have hcl : (Int32.ofInt n).toNatClampNeg = n.toNat := inR_cl hi
        have hn0 : ¬ Int32.ofInt n < 0 := fun z => by
          have := (inR_lt (y := 0) hi ⟨by decide, by decide⟩).mp z
          omega
        have hke : ∀ x : Nat × Nat, (h.1 ++ [x])[h.1.length]? = some x := fun x => by rw [List.getElem?_append_right (Nat.le_refl _), Nat.sub_self]; rfl
        have hzR : (fun j : Nat => (h.2.2.2 h.1.length j).map (c_g b n0)) = fun _ => none := funext fun j => by rw [(hOK.2.2 _ (Nat.le_refl _) j).2.2]; rfl
        refine va_newq hx hb hown hw hNB.2 hK hP hD hS0 hA (N' := n.toNat) hn0 hcl (by omega) (by omega) (by omega) (ok_dec_n hdec rfl) (fun q cA' H1 hK1 hP1 hD1 hS1 => ?_)
        have hcA : cA' = cA 4 := by
          obtain ⟨_, _, _, _, _, k1⟩ := (hK1.2 5 (cA', .object "VersionVault$Row") rfl).2
          obtain ⟨_, _, _, _, _, k2⟩ := (hK.2 4 (cA 4, .object "VersionVault$Row") rfl).2
          exact Option.some.inj (k1.symm.trans k2)
        subst hcA
        refine W_size (fun hz => ?_)
        have hq := new_at hF hsz hl0 hP1 hD1 hz
        subst hq
        refine W.cs (show _ = (h.1 ++ [(4, n.toNat)]).length - l0 by rw [List.length_append]; show _ = h.1.length + 1 - l0; omega) (show _ = sz (h.1 ++ [(4, n.toNat)]) - z0 by rw [hz1]; omega) ?_
        have hcg : c_g b n0 h.1.length = n0 + (h.1.length - 1) := by unfold c_g; rw [if_neg (by omega)]
        rw [← hcg]
        exact kk H1 locs ls (Fw.new hF (by rw [c_e_ref (h := (h.1 ++ [(4, n.toNat)], h.2.1, h.2.2.1, h.2.2.2)) (hke _), show (h.1 ++ [(4, n.toNat)], h.2.1, h.2.2.1, h.2.2.2).2.2.2 = h.2.2.2 from rfl, hzR]) hP1 hS1) hl
      · cases hlnk
    · cases hs
  · cases hs
set_option maxHeartbeats 400000 in
theorem sg_new (ix : Nat) : SG (.new ix) := by
  intro b n0 l0 z0 D cA p l e R s m args below meth c Q M hC an ks val pc lo st h pc' lo' st' h' hok hs H locs ls hF hl hS hL hR1 hR2 kk
  obtain ⟨hx, hb, hml, hown, hts, hNB, hK, hret, hlk, hnm, hfr, hlc, hbn, hsz, hl0, hq0⟩ := hC
  obtain ⟨hP, hS0, hOK, hg1, hg2, L0, hk0, hL0, hX⟩ := id hF
  have hD := c_ws_D b n0 cA h
  have hkp := a_step_go hs hOK hS hL
  have hA : ∀ q, s.heap.size ≤ q → (fun q => n0 ≤ q) q := fun q hq => by show n0 ≤ q; omega
  obtain ⟨hdec, hlnk⟩ := ok_row_s hok
  simp only [a_step] at hs
  split at hs
  · rename_i ci tl
    split at hs
    · rename_i hc
      cases hs
      simp only [ok_link] at hlnk
      split at hlnk
      · rename_i ci2 w wt wn he2
        cases he2
        split at hlnk
        · rename_i C T N g1
          rw [Bool.and_eq_true, Bool.and_eq_true] at hlnk
          obtain ⟨⟨w1, w2⟩, w3⟩ := hlnk
          obtain ⟨v1, v2, v3, v4⟩ := vw_all g1
          have hz1 : sz (h.1 ++ [(10 + ci, (a_cls ci).1)]) = sz h.1 + (a_cls ci).1 := by unfold sz; rw [List.map_append, List.sum_append]; simp
          have hz2 : (h.1 ++ [(10 + ci, (a_cls ci).1)]).length = h.1.length + 1 := by rw [List.length_append]; rfl
          have hR1 : (h.1 ++ [(10 + ci, (a_cls ci).1)]).length - l0 ≤ R.cells := hR1
          have hR2 : sz (h.1 ++ [(10 + ci, (a_cls ci).1)]) - z0 ≤ R.slots := hR2
          rw [hz2] at hR1
          rw [hz1] at hR2
          have hke : ∀ x : Nat × Nat, (h.1 ++ [x])[h.1.length]? = some x := fun x => by rw [List.getElem?_append_right (Nat.le_refl _), Nat.sub_self]; rfl
          refine va_new (ci := ci) (fs := (List.range (a_cls ci).1).map (fun j => c_f b n0 h ci h.1.length j)) hx hb hts v1 (a_cls ci).2 v3 hown (hts _ (w_ok_in w1)) (hts _ (w_ok_in w2)) (hts _ (w_ok_in w3)) hK hP hD hS0 hA g1 (fun j hj => ?_) (by omega) (by omega) (ok_dec_n hdec rfl) (fun q H1 hP1 hD1 hS1 => ?_)
          · have z1 := hOK.2.2 h.1.length (Nat.le_refl _) (j : Int)
            have z2 := fty_ok ci (vw_lt g1) j (by rw [v2]; exact hj)
            unfold vp_V
            rw [List.getD_eq_getElem?_getD, List.getElem?_map, List.getElem?_range (by rw [v2]; exact hj)]
            show _ = c_f b n0 h ci h.1.length j
            unfold c_f
            rw [z1.1, z1.2.1, z1.2.2]
            rcases z2 with (z2 | z2) | z2 | z2
            · rw [z2, tyc_0 z2]; rfl
            · rw [z2, tyc_1 z2]; rfl
            · rw [z2, tyc_3 z2]; rfl
            · rw [z2]
              rcases tyc_4 z2 with ⟨u, hu⟩ | ⟨u, hu⟩ <;> rw [hu] <;> rfl
          · refine W_size (fun hz => ?_)
            have hq := new_at hF hsz hl0 hP1 hD1 hz
            subst hq
            refine W.cs (show _ = (h.1 ++ [(10 + ci, (a_cls ci).1)]).length - l0 by rw [List.length_append]; show _ = h.1.length + 1 - l0; omega) (show _ = sz (h.1 ++ [(10 + ci, (a_cls ci).1)]) - z0 by rw [hz1]; omega) ?_
            have hcg : c_g b n0 h.1.length = n0 + (h.1.length - 1) := by unfold c_g; rw [if_neg (by omega)]
            rw [← hcg]
            exact kk H1 locs ls (Fw.new hF (by rw [c_e_obj (h := (h.1 ++ [(10 + ci, (a_cls ci).1)], h.2.1, h.2.2.1, h.2.2.2)) (hke _)]; rfl) hP1 hS1) hl
        · cases hlnk
      · cases hlnk
    · cases hs
  · cases hs
set_option maxHeartbeats 400000 in
theorem sg_invokevirtual (ix : Nat) : SG (.invokevirtual ix) := by
  intro b n0 l0 z0 D cA p l e R s m args below meth c Q M hC an ks val pc lo st h pc' lo' st' h' hok hs H locs ls hF hl hS hL hR1 hR2 kk
  obtain ⟨hx, hb, hml, hown, hts, hNB, hK, hret, hlk, hnm, hfr, hlc, hbn, hsz, hl0, hq0⟩ := hC
  obtain ⟨hP, hS0, hOK, hg1, hg2, L0, hk0, hL0, hX⟩ := id hF
  have hD := c_ws_D b n0 cA h
  have hkp := a_step_go hs hOK hS hL
  have hA : ∀ q, s.heap.size ≤ q → (fun q => n0 ≤ q) q := fun q hq => by show n0 ≤ q; omega
  obtain ⟨hdec, hlnk⟩ := ok_row_s hok
  simp only [a_step] at hs
  split at hs
  · split at hs
    · unfold a_inv at hs
      split at hs <;> cases hs
    · cases hs
  · cases hs
set_option maxHeartbeats 400000 in
theorem sg_invokestatic (ix : Nat) : SG (.invokestatic ix) := by
  intro b n0 l0 z0 D cA p l e R s m args below meth c Q M hC an ks val pc lo st h pc' lo' st' h' hok hs H locs ls hF hl hS hL hR1 hR2 kk
  obtain ⟨hx, hb, hml, hown, hts, hNB, hK, hret, hlk, hnm, hfr, hlc, hbn, hsz, hl0, hq0⟩ := hC
  obtain ⟨hP, hS0, hOK, hg1, hg2, L0, hk0, hL0, hX⟩ := id hF
  have hD := c_ws_D b n0 cA h
  have hkp := a_step_go hs hOK hS hL
  have hA : ∀ q, s.heap.size ≤ q → (fun q => n0 ≤ q) q := fun q hq => by show n0 ≤ q; omega
  obtain ⟨hdec, hlnk⟩ := ok_row_s hok
  simp only [a_step] at hs
  split at hs
  · rename_i M2 tl
    simp only [ok_link] at hlnk
    split at hlnk
    · rename_i M3 w ns wt wn he2
      cases he2
      split at hs
      · rename_i hM
        subst hM
        split at hs
        · rename_i x r
          split at hs
          · rename_i hc
            cases hs
            have hxx : inR x := hS.hd
            rw [if_pos rfl, Bool.and_eq_true, Bool.and_eq_true, Bool.and_eq_true] at hlnk
            obtain ⟨⟨⟨w1, w2⟩, w3⟩, w4⟩ := hlnk
            have hrm : ((r.map (c_v b n0)).map fun v => v.category).sum ≤ 7 := cat_sum3 hc.1
            show W p l e R s m args below meth c H locs (h.1.length - l0) (sz h.1 - z0) Q (F0 m pc ls (.int (Int32.ofInt x) :: r.map (c_v b n0)))
            refine va_mabs hx hb (hml.trans hl.1.symm) hown (hts _ (w_ok_in w1)) (hts _ (w_ok_in w2)) (hts _ (w_ok_in w3)) (hts _ (w_ok_in w4)) (by omega) (by omega) (by exact hR1) (by exact hR2) (ok_dec_n hdec rfl) ?_
            have e1 : (if 0 ≤ Int32.ofInt x then Int32.ofInt x else 0 - Int32.ofInt x) = Int32.ofInt (if 0 ≤ x then x else -x) := by
              have k1 : (0 : Int32) ≤ Int32.ofInt x ↔ 0 ≤ x := inR_le (x := 0) ⟨by decide, by decide⟩ hxx
              by_cases k2 : 0 ≤ x
              · rw [if_pos (k1.mpr k2), if_pos k2]
              · rw [if_neg (fun z => k2 (k1.mp z)), if_neg k2]
                show Int32.ofInt 0 - Int32.ofInt x = _
                rw [inR_sub, Int.zero_sub]
            rw [e1]
            exact kk H locs ls hF hl
          · cases hs
        · cases hs
      · rename_i n1
        rw [if_neg n1] at hlnk
        split at hs
        · rename_i hM
          subst hM
          split at hs
          · rename_i y x r
            split at hs
            · rename_i hc
              cases hs
              have hy : inR y := hS.hd
              have hxx : inR x := hS.tl.hd
              rw [if_pos rfl, Bool.and_eq_true, Bool.and_eq_true, Bool.and_eq_true] at hlnk
              obtain ⟨⟨⟨w1, w2⟩, w3⟩, w4⟩ := hlnk
              have hrm : ((r.map (c_v b n0)).map fun v => v.category).sum ≤ 7 := cat_sum3 hc
              show W p l e R s m args below meth c H locs (h.1.length - l0) (sz h.1 - z0) Q (F0 m pc ls (.int (Int32.ofInt y) :: .int (Int32.ofInt x) :: r.map (c_v b n0)))
              refine va_mmax hx hb (hml.trans hl.1.symm) hown (hts _ (w_ok_in w1)) (hts _ (w_ok_in w2)) (hts _ (w_ok_in w3)) (hts _ (w_ok_in w4)) (by omega) (by omega) (by exact hR1) (by exact hR2) (ok_dec_n hdec rfl) ?_
              have k1 := inR_lt hxx hy
              have e1 : (if Int32.ofInt x < Int32.ofInt y then Int32.ofInt y else Int32.ofInt x) = Int32.ofInt (if x < y then y else x) := by
                by_cases k2 : x < y
                · rw [if_pos (k1.mpr k2), if_pos k2]
                · rw [if_neg (fun z => k2 (k1.mp z)), if_neg k2]
              rw [e1]
              exact kk H locs ls hF hl
            · cases hs
          · cases hs
        · rename_i n2
          rw [if_neg n2] at hlnk
          split at hs
          · rename_i hM
            subst hM
            split at hs
            · rename_i y x r
              split at hs
              · rename_i hc
                cases hs
                have hy : inR y := hS.hd
                have hxx : inR x := hS.tl.hd
                rw [if_pos rfl, Bool.and_eq_true, Bool.and_eq_true, Bool.and_eq_true] at hlnk
                obtain ⟨⟨⟨w1, w2⟩, w3⟩, w4⟩ := hlnk
                have hrm : ((r.map (c_v b n0)).map fun v => v.category).sum ≤ 7 := cat_sum3 hc
                show W p l e R s m args below meth c H locs (h.1.length - l0) (sz h.1 - z0) Q (F0 m pc ls (.int (Int32.ofInt y) :: .int (Int32.ofInt x) :: r.map (c_v b n0)))
                refine va_mmin hx hb (hml.trans hl.1.symm) hown (hts _ (w_ok_in w1)) (hts _ (w_ok_in w2)) (hts _ (w_ok_in w3)) (hts _ (w_ok_in w4)) (by omega) (by omega) (by exact hR1) (by exact hR2) (ok_dec_n hdec rfl) ?_
                have k1 := inR_lt hy hxx
                have e1 : (if Int32.ofInt y < Int32.ofInt x then Int32.ofInt y else Int32.ofInt x) = Int32.ofInt (if y < x then y else x) := by
                  by_cases k2 : y < x
                  · rw [if_pos (k1.mpr k2), if_pos k2]
                  · rw [if_neg (fun z => k2 (k1.mp z)), if_neg k2]
                rw [e1]
                exact kk H locs ls hF hl
              · cases hs
            · cases hs
          · rename_i n3
            rw [if_neg n3] at hlnk
            unfold a_inv at hs
            split at hs <;> cases hs
    · cases hlnk
  · cases hs
set_option maxHeartbeats 400000 in
theorem sg_invokespecial (ix : Nat) : SG (.invokespecial ix) := by
  intro b n0 l0 z0 D cA p l e R s m args below meth c Q M hC an ks val pc lo st h pc' lo' st' h' hok hs H locs ls hF hl hS hL hR1 hR2 kk
  obtain ⟨hx, hb, hml, hown, hts, hNB, hK, hret, hlk, hnm, hfr, hlc, hbn, hsz, hl0, hq0⟩ := hC
  obtain ⟨hP, hS0, hOK, hg1, hg2, L0, hk0, hL0, hX⟩ := id hF
  have hD := c_ws_D b n0 cA h
  have hkp := a_step_go hs hOK hS hL
  have hA : ∀ q, s.heap.size ≤ q → (fun q => n0 ≤ q) q := fun q hq => by show n0 ≤ q; omega
  obtain ⟨hdec, hlnk⟩ := ok_row_s hok
  simp only [a_step] at hs
  split at hs
  · rename_i M2 tl
    split at hs
    · rename_i hM
      subst hM
      split at hs
      · rename_i x r
        split at hs
        · rename_i hc
          cases hs
          simp only [ok_link] at hlnk
          have hrm : ((st'.map (c_v b n0)).map fun v => v.category).sum ≤ 8 := cat_sum hc
          have hrm2 : 2 * (F0 m pc ls (st'.map (c_v b n0))).monitorRoom + ((st'.map (c_v b n0)).map fun v => v.category).sum ≤ 8 := lv_room hrm
          split at hlnk
          · rename_i M3 w wi wc he2
            cases he2
            rw [Bool.and_eq_true, Bool.and_eq_true, Bool.and_eq_true] at hlnk
            obtain ⟨⟨⟨w1, w2⟩, w3⟩, w4⟩ := hlnk
            show W p l e R s m args below meth c H locs (h.1.length - l0) (sz h.1 - z0) Q (F0 m pc ls (.ref (c_g b n0 x) :: st'.map (c_v b n0)))
            exact W.objInit hx hb hown (hts _ (w_ok_in w1)) (hts _ (w_ok_in w2)) (hts _ (w_ok_in w3)) rfl (hl.1.trans hml.symm) rfl (ok_dec_n hdec rfl) (by omega) (by show 2 * (F0 m pc ls (st'.map (c_v b n0))).monitorRoom + ((st'.map (c_v b n0)).map fun v => v.category).sum + 12 ≤ _; omega) (kk H locs ls hF hl)
          · rename_i M3 w ns wi wn he2
            cases he2
            simp only [Bool.and_eq_true] at hlnk
            have := of_decide_eq_true hlnk.1.1.1.1.1.1.1
            omega
          · cases hlnk
        · cases hs
      · cases hs
    · split at hs
      · unfold a_inv at hs
        split at hs <;> cases hs
      · cases hs
  · cases hs
set_option maxHeartbeats 400000 in
theorem sg_ireturn : SG (.ireturn) := by
  intro b n0 l0 z0 D cA p l e R s m args below meth c Q M hC an ks val pc lo st h pc' lo' st' h' hok hs H locs ls hF hl hS hL hR1 hR2 kk
  obtain ⟨hx, hb, hml, hown, hts, hNB, hK, hret, hlk, hnm, hfr, hlc, hbn, hsz, hl0, hq0⟩ := hC
  obtain ⟨hP, hS0, hOK, hg1, hg2, L0, hk0, hL0, hX⟩ := id hF
  have hD := c_ws_D b n0 cA h
  have hkp := a_step_go hs hOK hS hL
  have hA : ∀ q, s.heap.size ≤ q → (fun q => n0 ≤ q) q := fun q hq => by show n0 ≤ q; omega
  obtain ⟨hdec, hlnk⟩ := ok_row_s hok
  simp only [a_step] at hs
  split at hs
  · split at hs <;> cases hs
  · cases hs
set_option maxHeartbeats 400000 in
theorem sg_areturn : SG (.areturn) := by
  intro b n0 l0 z0 D cA p l e R s m args below meth c Q M hC an ks val pc lo st h pc' lo' st' h' hok hs H locs ls hF hl hS hL hR1 hR2 kk
  obtain ⟨hx, hb, hml, hown, hts, hNB, hK, hret, hlk, hnm, hfr, hlc, hbn, hsz, hl0, hq0⟩ := hC
  obtain ⟨hP, hS0, hOK, hg1, hg2, L0, hk0, hL0, hX⟩ := id hF
  have hD := c_ws_D b n0 cA h
  have hkp := a_step_go hs hOK hS hL
  have hA : ∀ q, s.heap.size ≤ q → (fun q => n0 ≤ q) q := fun q hq => by show n0 ≤ q; omega
  obtain ⟨hdec, hlnk⟩ := ok_row_s hok
  simp only [a_step] at hs
  split at hs <;> cases hs
set_option maxHeartbeats 400000 in
theorem sg_return_ : SG (.return_) := by
  intro b n0 l0 z0 D cA p l e R s m args below meth c Q M hC an ks val pc lo st h pc' lo' st' h' hok hs H locs ls hF hl hS hL hR1 hR2 kk
  obtain ⟨hx, hb, hml, hown, hts, hNB, hK, hret, hlk, hnm, hfr, hlc, hbn, hsz, hl0, hq0⟩ := hC
  obtain ⟨hP, hS0, hOK, hg1, hg2, L0, hk0, hL0, hX⟩ := id hF
  have hD := c_ws_D b n0 cA h
  have hkp := a_step_go hs hOK hS hL
  have hA : ∀ q, s.heap.size ≤ q → (fun q => n0 ≤ q) q := fun q hq => by show n0 ≤ q; omega
  obtain ⟨hdec, hlnk⟩ := ok_row_s hok
  simp only [a_step] at hs
  split at hs <;> cases hs
theorem snd_go (i : Instr) : SG i := by
  cases i
  case iconst n => exact sg_iconst n
  case bipush n => exact sg_bipush n
  case sipush n => exact sg_sipush n
  case lconst n => exact sg_lconst n
  case ldc ix => exact sg_ldc ix
  case ldc_w ix => exact sg_ldc_w ix
  case ldc2_w ix => exact sg_ldc2_w ix
  case iload_n k => exact sg_iload_n k
  case lload_n k => exact sg_lload_n k
  case aload_n k => exact sg_aload_n k
  case iload k => exact sg_iload k
  case aload k => exact sg_aload k
  case istore_n k => exact sg_istore_n k
  case astore_n k => exact sg_astore_n k
  case istore k => exact sg_istore k
  case astore k => exact sg_astore k
  case lstore_n k => exact sg_lstore_n k
  case iinc k n => exact sg_iinc k n
  case iadd => exact sg_iadd
  case isub => exact sg_isub
  case imul => exact sg_imul
  case ineg => exact sg_ineg
  case idiv => exact sg_idiv
  case irem => exact sg_irem
  case iand => exact sg_iand
  case i2b => exact sg_i2b
  case l2i => exact sg_l2i
  case ladd => exact sg_ladd
  case lsub => exact sg_lsub
  case land => exact sg_land
  case lor => exact sg_lor
  case lxor => exact sg_lxor
  case lushr => exact sg_lushr
  case lshl => exact sg_lshl
  case lcmp => exact sg_lcmp
  case dup => exact sg_dup
  case pop => exact sg_pop
  case goto off => exact sg_goto off
  case ifCond cd off => exact sg_ifCond cd off
  case if_icmp cd off => exact sg_if_icmp cd off
  case tableswitch d lw hi offs => exact sg_tableswitch d lw hi offs
  case getfield ix => exact sg_getfield ix
  case putfield ix => exact sg_putfield ix
  case iaload => exact sg_iaload
  case baload => exact sg_baload
  case laload => exact sg_laload
  case aaload => exact sg_aaload
  case iastore => exact sg_iastore
  case bastore => exact sg_bastore
  case lastore => exact sg_lastore
  case aastore => exact sg_aastore
  case arraylength => exact sg_arraylength
  case newarray t => exact sg_newarray t
  case anewarray ix => exact sg_anewarray ix
  case new ix => exact sg_new ix
  case invokevirtual ix => exact sg_invokevirtual ix
  case invokestatic ix => exact sg_invokestatic ix
  case invokespecial ix => exact sg_invokespecial ix
  case ireturn => exact sg_ireturn
  case areturn => exact sg_areturn
  case return_ => exact sg_return_
  all_goals (intro b n0 l0 z0 D cA p l e R s m args below meth c Q M hC an ks val pc lo st h pc1 lo1 st1 h1 hok hs; simp only [a_step] at hs; cases hs)
