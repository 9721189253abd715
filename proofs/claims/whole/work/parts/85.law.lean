/-! the law's cases -/
abbrev LL (x : Int) : LO := [some (vr 0), some (vr 1), some (vr 115), some (vi x)]
section
variable {L : Nat} {b : Bool} {I : AI} {J : AJ} {x : Int}
theorem rcL1 (b : Bool) {t : List AV} : a_recv (hp L b I J) 10 (vr 1 :: t) = true := rcv_of b (hk_at b 0 (20, 11) rfl) (by decide) (by decide)
theorem rcL115 (b : Bool) {t : List AV} : a_recv (hp L b I J) 11 (vr 115 :: t) = true := rcv_of b (hk_at b 114 (21, 62) rfl) (by decide) (by decide)
theorem LA {p : Nat} {j : Int} {st : List AV} (h0 : a_code 234 p = some (.aload_n 0, [], [], 0)) (h1 : a_code 234 (p + 1) = some (.iload_n 3, [], [], 0)) (h2 : a_code 234 (p + 1 + 1) = some (.iconst j, [], [], 0)) (h3 : a_code 234 (p + 1 + 1 + 1) = some (.iadd, [], [], 0)) (h4 : a_code 234 (p + 1 + 1 + 1 + 1) = some (.iaload, [], [], 0)) (hj : 1 ≤ j ∧ j ≤ 3) (hx : 0 ≤ x ∧ x + 4 ≤ L) (hL : L ≤ 2048) : ev 234 p (LL x) st (hp L b I J) = ev 234 (p + 1 + 1 + 1 + 1 + 1) (LL x) (vi (I 0 (x + j)) :: st) (hp L b I J) := by
  refine (ev_go (l' := LL x) (st' := vr 0 :: st) (pc' := p + 1) (h' := hp L b I J) h0 rfl).trans ?_
  refine (ev_go (l' := LL x) (st' := vi x :: vr 0 :: st) (pc' := p + 1 + 1) (h' := hp L b I J) h1 rfl).trans ?_
  refine (ev_gd (l' := LL x) (st' := vi j :: vi x :: vr 0 :: st) (pc' := p + 1 + 1 + 1) (h' := hp L b I J) h2 rfl).trans ?_
  rw [gd_t (by omega)]
  refine (ev_gd (l' := LL x) (st' := vi (x + j) :: vr 0 :: st) (pc' := p + 1 + 1 + 1 + 1) (h' := hp L b I J) h3 rfl).trans ?_
  rw [gd_t (by omega)]
  refine (ev_iald (a := 0) (n := L) (i := x + j) h4 (show (hk L b)[0]? = some (0, L) from rfl)).trans ?_
  rw [gd_t (by omega)]
  rfl
set_option maxRecDepth 100000 in
theorem lw_0 (h : Rel I J I) (hx : 0 ≤ x ∧ x + 4 ≤ L) (hL : L ≤ 2048) : ∃ (b1 : Bool) (I1 : AI) (J1 : AJ), ev 234 216 (LL x) [] (hp L b I J) = ev 234 1302 (LL x) [] (hp L b1 I1 J1) ∧ Rel I1 J1 I1 ∧ I1 0 = I 0 := by
  obtain ⟨v, b1, I1, J1, I2, q1, q2, q3, q4⟩ := op_add (I 0 (x + 1)) L b I J h
  have z : I1 0 = I 0 := evc_0 q1
  refine ⟨b1, I2, J1, ?_, q3, q4⟩
  refine (ev_go rfl rfl : ev 234 216 (LL x) [] (hp L b I J) = ev 234 217 (LL x) [vr 1] (hp L b I J)).trans ?_
  refine (LA (p := 217) (j := 1) (st := [vr 1]) rfl rfl rfl rfl rfl (by decide) hx hL).trans ?_
  refine ((ev_callV (M := 234) (pc := 222) (l := LL x) (ks := []) (as := [vr 1, vi (I 0 (x + 1))]) (st := [vi (I 0 (x + 1)), vr 1]) (st' := []) rfl (rcL1 b) rfl) : ev 234 222 (LL x) [vi (I 0 (x + 1)), vr 1] (hp L b I J) = (evc 89 [vr 1, vi (I 0 (x + 1))] (hp L b I J)).bind (fun q => ev 234 225 (LL x) [q.1] q.2)).trans ?_
  rw [q1]
  refine (ev_go rfl rfl : ev 234 225 (LL x) [vi v] (hp L b1 I1 J1) = ev 234 226 (LL x) [vr 115, vi v] (hp L b1 I1 J1)).trans ?_
  refine (LA (p := 226) (j := 1) (st := [vr 115, vi v]) rfl rfl rfl rfl rfl (by decide) hx hL).trans ?_
  refine ((ev_callV (M := 234) (pc := 231) (l := LL x) (ks := []) (as := [vr 115, vi (I1 0 (x + 1))]) (st := [vi (I1 0 (x + 1)), vr 115, vi v]) (st' := [vi v]) rfl (rcL115 b1) rfl) : ev 234 231 (LL x) [vi (I1 0 (x + 1)), vr 115, vi v] (hp L b1 I1 J1) = (evc 138 [vr 115, vi (I1 0 (x + 1))] (hp L b1 I1 J1)).bind (fun q => ev 234 234 (LL x) [q.1, vi v] q.2)).trans ?_
  rw [z, q2]
  exact (ev_if (c := v = v) rfl rfl : ev 234 234 (LL x) [vi v, vi v] (hp L b1 I2 J1) = if v = v then ev 234 1302 (LL x) [] (hp L b1 I2 J1) else ev 234 237 (LL x) [] (hp L b1 I2 J1)).trans (if_pos rfl)
set_option maxRecDepth 100000 in
theorem lw_1 (h : Rel I J I) (hx : 0 ≤ x ∧ x + 4 ≤ L) (hL : L ≤ 2048) : ∃ (b1 : Bool) (I1 : AI) (J1 : AJ), ev 234 239 (LL x) [] (hp L b I J) = ev 234 1302 (LL x) [] (hp L b1 I1 J1) ∧ Rel I1 J1 I1 ∧ I1 0 = I 0 := by
  obtain ⟨v, b1, I1, J1, I2, q1, q2, q3, q4⟩ := op_wipe  L b I J h
  have z : I1 0 = I 0 := evc_0 q1
  refine ⟨b1, I2, J1, ?_, q3, q4⟩
  refine (ev_go rfl rfl : ev 234 239 (LL x) [] (hp L b I J) = ev 234 240 (LL x) [vr 1] (hp L b I J)).trans ?_
  refine ((ev_callV (M := 234) (pc := 240) (l := LL x) (ks := []) (as := [vr 1]) (st := [vr 1]) (st' := []) rfl (rcL1 b) rfl) : ev 234 240 (LL x) [vr 1] (hp L b I J) = (evc 90 [vr 1] (hp L b I J)).bind (fun q => ev 234 243 (LL x) [q.1] q.2)).trans ?_
  rw [q1]
  refine (ev_go rfl rfl : ev 234 243 (LL x) [vi v] (hp L b1 I1 J1) = ev 234 244 (LL x) [vr 115, vi v] (hp L b1 I1 J1)).trans ?_
  refine ((ev_callV (M := 234) (pc := 244) (l := LL x) (ks := []) (as := [vr 115]) (st := [vr 115, vi v]) (st' := [vi v]) rfl (rcL115 b1) rfl) : ev 234 244 (LL x) [vr 115, vi v] (hp L b1 I1 J1) = (evc 139 [vr 115] (hp L b1 I1 J1)).bind (fun q => ev 234 247 (LL x) [q.1, vi v] q.2)).trans ?_
  rw [q2]
  exact (ev_if (c := v = v) rfl rfl : ev 234 247 (LL x) [vi v, vi v] (hp L b1 I2 J1) = if v = v then ev 234 1302 (LL x) [] (hp L b1 I2 J1) else ev 234 250 (LL x) [] (hp L b1 I2 J1)).trans (if_pos rfl)
set_option maxRecDepth 100000 in
theorem lw_2 (h : Rel I J I) (hx : 0 ≤ x ∧ x + 4 ≤ L) (hL : L ≤ 2048) : ∃ (b1 : Bool) (I1 : AI) (J1 : AJ), ev 234 252 (LL x) [] (hp L b I J) = ev 234 1302 (LL x) [] (hp L b1 I1 J1) ∧ Rel I1 J1 I1 ∧ I1 0 = I 0 := by
  obtain ⟨v, b1, I1, J1, I2, q1, q2, q3, q4⟩ := op_draft (I 0 (x + 1)) L b I J h
  have z : I1 0 = I 0 := evc_0 q1
  refine ⟨b1, I2, J1, ?_, q3, q4⟩
  refine (ev_go rfl rfl : ev 234 252 (LL x) [] (hp L b I J) = ev 234 253 (LL x) [vr 1] (hp L b I J)).trans ?_
  refine (LA (p := 253) (j := 1) (st := [vr 1]) rfl rfl rfl rfl rfl (by decide) hx hL).trans ?_
  refine ((ev_callV (M := 234) (pc := 258) (l := LL x) (ks := []) (as := [vr 1, vi (I 0 (x + 1))]) (st := [vi (I 0 (x + 1)), vr 1]) (st' := []) rfl (rcL1 b) rfl) : ev 234 258 (LL x) [vi (I 0 (x + 1)), vr 1] (hp L b I J) = (evc 91 [vr 1, vi (I 0 (x + 1))] (hp L b I J)).bind (fun q => ev 234 261 (LL x) [q.1] q.2)).trans ?_
  rw [q1]
  refine (ev_go rfl rfl : ev 234 261 (LL x) [vi v] (hp L b1 I1 J1) = ev 234 262 (LL x) [vr 115, vi v] (hp L b1 I1 J1)).trans ?_
  refine (LA (p := 262) (j := 1) (st := [vr 115, vi v]) rfl rfl rfl rfl rfl (by decide) hx hL).trans ?_
  refine ((ev_callV (M := 234) (pc := 267) (l := LL x) (ks := []) (as := [vr 115, vi (I1 0 (x + 1))]) (st := [vi (I1 0 (x + 1)), vr 115, vi v]) (st' := [vi v]) rfl (rcL115 b1) rfl) : ev 234 267 (LL x) [vi (I1 0 (x + 1)), vr 115, vi v] (hp L b1 I1 J1) = (evc 140 [vr 115, vi (I1 0 (x + 1))] (hp L b1 I1 J1)).bind (fun q => ev 234 270 (LL x) [q.1, vi v] q.2)).trans ?_
  rw [z, q2]
  exact (ev_if (c := v = v) rfl rfl : ev 234 270 (LL x) [vi v, vi v] (hp L b1 I2 J1) = if v = v then ev 234 1302 (LL x) [] (hp L b1 I2 J1) else ev 234 273 (LL x) [] (hp L b1 I2 J1)).trans (if_pos rfl)
set_option maxRecDepth 100000 in
theorem lw_3 (h : Rel I J I) (hx : 0 ≤ x ∧ x + 4 ≤ L) (hL : L ≤ 2048) : ∃ (b1 : Bool) (I1 : AI) (J1 : AJ), ev 234 275 (LL x) [] (hp L b I J) = ev 234 1302 (LL x) [] (hp L b1 I1 J1) ∧ Rel I1 J1 I1 ∧ I1 0 = I 0 := by
  obtain ⟨v, b1, I1, J1, I2, q1, q2, q3, q4⟩ := op_text  L b I J h
  have z : I1 0 = I 0 := evc_0 q1
  refine ⟨b1, I2, J1, ?_, q3, q4⟩
  refine (ev_go rfl rfl : ev 234 275 (LL x) [] (hp L b I J) = ev 234 276 (LL x) [vr 1] (hp L b I J)).trans ?_
  refine ((ev_callV (M := 234) (pc := 276) (l := LL x) (ks := []) (as := [vr 1]) (st := [vr 1]) (st' := []) rfl (rcL1 b) rfl) : ev 234 276 (LL x) [vr 1] (hp L b I J) = (evc 92 [vr 1] (hp L b I J)).bind (fun q => ev 234 279 (LL x) [q.1] q.2)).trans ?_
  rw [q1]
  refine (ev_go rfl rfl : ev 234 279 (LL x) [vi v] (hp L b1 I1 J1) = ev 234 280 (LL x) [vr 115, vi v] (hp L b1 I1 J1)).trans ?_
  refine ((ev_callV (M := 234) (pc := 280) (l := LL x) (ks := []) (as := [vr 115]) (st := [vr 115, vi v]) (st' := [vi v]) rfl (rcL115 b1) rfl) : ev 234 280 (LL x) [vr 115, vi v] (hp L b1 I1 J1) = (evc 143 [vr 115] (hp L b1 I1 J1)).bind (fun q => ev 234 283 (LL x) [q.1, vi v] q.2)).trans ?_
  rw [q2]
  exact (ev_if (c := v = v) rfl rfl : ev 234 283 (LL x) [vi v, vi v] (hp L b1 I2 J1) = if v = v then ev 234 1302 (LL x) [] (hp L b1 I2 J1) else ev 234 286 (LL x) [] (hp L b1 I2 J1)).trans (if_pos rfl)
set_option maxRecDepth 100000 in
theorem lw_4 (h : Rel I J I) (hx : 0 ≤ x ∧ x + 4 ≤ L) (hL : L ≤ 2048) : ∃ (b1 : Bool) (I1 : AI) (J1 : AJ), ev 234 288 (LL x) [] (hp L b I J) = ev 234 1302 (LL x) [] (hp L b1 I1 J1) ∧ Rel I1 J1 I1 ∧ I1 0 = I 0 := by
  obtain ⟨v, b1, I1, J1, I2, q1, q2, q3, q4⟩ := op_size (I 0 (x + 1)) L b I J h
  have z : I1 0 = I 0 := evc_0 q1
  refine ⟨b1, I2, J1, ?_, q3, q4⟩
  refine (ev_go rfl rfl : ev 234 288 (LL x) [] (hp L b I J) = ev 234 289 (LL x) [vr 1] (hp L b I J)).trans ?_
  refine (LA (p := 289) (j := 1) (st := [vr 1]) rfl rfl rfl rfl rfl (by decide) hx hL).trans ?_
  refine ((ev_callV (M := 234) (pc := 294) (l := LL x) (ks := []) (as := [vr 1, vi (I 0 (x + 1))]) (st := [vi (I 0 (x + 1)), vr 1]) (st' := []) rfl (rcL1 b) rfl) : ev 234 294 (LL x) [vi (I 0 (x + 1)), vr 1] (hp L b I J) = (evc 93 [vr 1, vi (I 0 (x + 1))] (hp L b I J)).bind (fun q => ev 234 297 (LL x) [q.1] q.2)).trans ?_
  rw [q1]
  refine (ev_go rfl rfl : ev 234 297 (LL x) [vi v] (hp L b1 I1 J1) = ev 234 298 (LL x) [vr 115, vi v] (hp L b1 I1 J1)).trans ?_
  refine (LA (p := 298) (j := 1) (st := [vr 115, vi v]) rfl rfl rfl rfl rfl (by decide) hx hL).trans ?_
  refine ((ev_callV (M := 234) (pc := 303) (l := LL x) (ks := []) (as := [vr 115, vi (I1 0 (x + 1))]) (st := [vi (I1 0 (x + 1)), vr 115, vi v]) (st' := [vi v]) rfl (rcL115 b1) rfl) : ev 234 303 (LL x) [vi (I1 0 (x + 1)), vr 115, vi v] (hp L b1 I1 J1) = (evc 144 [vr 115, vi (I1 0 (x + 1))] (hp L b1 I1 J1)).bind (fun q => ev 234 306 (LL x) [q.1, vi v] q.2)).trans ?_
  rw [z, q2]
  exact (ev_if (c := v = v) rfl rfl : ev 234 306 (LL x) [vi v, vi v] (hp L b1 I2 J1) = if v = v then ev 234 1302 (LL x) [] (hp L b1 I2 J1) else ev 234 309 (LL x) [] (hp L b1 I2 J1)).trans (if_pos rfl)
set_option maxRecDepth 100000 in
theorem lw_5 (h : Rel I J I) (hx : 0 ≤ x ∧ x + 4 ≤ L) (hL : L ≤ 2048) : ∃ (b1 : Bool) (I1 : AI) (J1 : AJ), ev 234 311 (LL x) [] (hp L b I J) = ev 234 1302 (LL x) [] (hp L b1 I1 J1) ∧ Rel I1 J1 I1 ∧ I1 0 = I 0 := by
  obtain ⟨v, b1, I1, J1, I2, q1, q2, q3, q4⟩ := op_line (I 0 (x + 1)) (I 0 (x + 2)) L b I J h
  have z : I1 0 = I 0 := evc_0 q1
  refine ⟨b1, I2, J1, ?_, q3, q4⟩
  refine (ev_go rfl rfl : ev 234 311 (LL x) [] (hp L b I J) = ev 234 312 (LL x) [vr 1] (hp L b I J)).trans ?_
  refine (LA (p := 312) (j := 1) (st := [vr 1]) rfl rfl rfl rfl rfl (by decide) hx hL).trans ?_
  refine (LA (p := 317) (j := 2) (st := [vi (I 0 (x + 1)), vr 1]) rfl rfl rfl rfl rfl (by decide) hx hL).trans ?_
  refine ((ev_callV (M := 234) (pc := 322) (l := LL x) (ks := []) (as := [vr 1, vi (I 0 (x + 1)), vi (I 0 (x + 2))]) (st := [vi (I 0 (x + 2)), vi (I 0 (x + 1)), vr 1]) (st' := []) rfl (rcL1 b) rfl) : ev 234 322 (LL x) [vi (I 0 (x + 2)), vi (I 0 (x + 1)), vr 1] (hp L b I J) = (evc 94 [vr 1, vi (I 0 (x + 1)), vi (I 0 (x + 2))] (hp L b I J)).bind (fun q => ev 234 325 (LL x) [q.1] q.2)).trans ?_
  rw [q1]
  refine (ev_go rfl rfl : ev 234 325 (LL x) [vi v] (hp L b1 I1 J1) = ev 234 326 (LL x) [vr 115, vi v] (hp L b1 I1 J1)).trans ?_
  refine (LA (p := 326) (j := 1) (st := [vr 115, vi v]) rfl rfl rfl rfl rfl (by decide) hx hL).trans ?_
  refine (LA (p := 331) (j := 2) (st := [vi (I1 0 (x + 1)), vr 115, vi v]) rfl rfl rfl rfl rfl (by decide) hx hL).trans ?_
  refine ((ev_callV (M := 234) (pc := 336) (l := LL x) (ks := []) (as := [vr 115, vi (I1 0 (x + 1)), vi (I1 0 (x + 2))]) (st := [vi (I1 0 (x + 2)), vi (I1 0 (x + 1)), vr 115, vi v]) (st' := [vi v]) rfl (rcL115 b1) rfl) : ev 234 336 (LL x) [vi (I1 0 (x + 2)), vi (I1 0 (x + 1)), vr 115, vi v] (hp L b1 I1 J1) = (evc 145 [vr 115, vi (I1 0 (x + 1)), vi (I1 0 (x + 2))] (hp L b1 I1 J1)).bind (fun q => ev 234 339 (LL x) [q.1, vi v] q.2)).trans ?_
  rw [z, q2]
  exact (ev_if (c := v = v) rfl rfl : ev 234 339 (LL x) [vi v, vi v] (hp L b1 I2 J1) = if v = v then ev 234 1302 (LL x) [] (hp L b1 I2 J1) else ev 234 342 (LL x) [] (hp L b1 I2 J1)).trans (if_pos rfl)
set_option maxRecDepth 100000 in
theorem lw_6 (h : Rel I J I) (hx : 0 ≤ x ∧ x + 4 ≤ L) (hL : L ≤ 2048) : ∃ (b1 : Bool) (I1 : AI) (J1 : AJ), ev 234 344 (LL x) [] (hp L b I J) = ev 234 1302 (LL x) [] (hp L b1 I1 J1) ∧ Rel I1 J1 I1 ∧ I1 0 = I 0 := by
  obtain ⟨v, b1, I1, J1, I2, q1, q2, q3, q4⟩ := op_copy (I 0 (x + 1)) L b I J h
  have z : I1 0 = I 0 := evc_0 q1
  refine ⟨b1, I2, J1, ?_, q3, q4⟩
  refine (ev_go rfl rfl : ev 234 344 (LL x) [] (hp L b I J) = ev 234 345 (LL x) [vr 1] (hp L b I J)).trans ?_
  refine (LA (p := 345) (j := 1) (st := [vr 1]) rfl rfl rfl rfl rfl (by decide) hx hL).trans ?_
  refine ((ev_callV (M := 234) (pc := 350) (l := LL x) (ks := []) (as := [vr 1, vi (I 0 (x + 1))]) (st := [vi (I 0 (x + 1)), vr 1]) (st' := []) rfl (rcL1 b) rfl) : ev 234 350 (LL x) [vi (I 0 (x + 1)), vr 1] (hp L b I J) = (evc 95 [vr 1, vi (I 0 (x + 1))] (hp L b I J)).bind (fun q => ev 234 353 (LL x) [q.1] q.2)).trans ?_
  rw [q1]
  refine (ev_go rfl rfl : ev 234 353 (LL x) [vi v] (hp L b1 I1 J1) = ev 234 354 (LL x) [vr 115, vi v] (hp L b1 I1 J1)).trans ?_
  refine (LA (p := 354) (j := 1) (st := [vr 115, vi v]) rfl rfl rfl rfl rfl (by decide) hx hL).trans ?_
  refine ((ev_callV (M := 234) (pc := 359) (l := LL x) (ks := []) (as := [vr 115, vi (I1 0 (x + 1))]) (st := [vi (I1 0 (x + 1)), vr 115, vi v]) (st' := [vi v]) rfl (rcL115 b1) rfl) : ev 234 359 (LL x) [vi (I1 0 (x + 1)), vr 115, vi v] (hp L b1 I1 J1) = (evc 146 [vr 115, vi (I1 0 (x + 1))] (hp L b1 I1 J1)).bind (fun q => ev 234 362 (LL x) [q.1, vi v] q.2)).trans ?_
  rw [z, q2]
  exact (ev_if (c := v = v) rfl rfl : ev 234 362 (LL x) [vi v, vi v] (hp L b1 I2 J1) = if v = v then ev 234 1302 (LL x) [] (hp L b1 I2 J1) else ev 234 365 (LL x) [] (hp L b1 I2 J1)).trans (if_pos rfl)
set_option maxRecDepth 100000 in
theorem lw_7 (h : Rel I J I) (hx : 0 ≤ x ∧ x + 4 ≤ L) (hL : L ≤ 2048) : ∃ (b1 : Bool) (I1 : AI) (J1 : AJ), ev 234 367 (LL x) [] (hp L b I J) = ev 234 1302 (LL x) [] (hp L b1 I1 J1) ∧ Rel I1 J1 I1 ∧ I1 0 = I 0 := by
  obtain ⟨v, b1, I1, J1, I2, q1, q2, q3, q4⟩ := op_state (I 0 (x + 1)) L b I J h
  have z : I1 0 = I 0 := evc_0 q1
  refine ⟨b1, I2, J1, ?_, q3, q4⟩
  refine (ev_go rfl rfl : ev 234 367 (LL x) [] (hp L b I J) = ev 234 368 (LL x) [vr 1] (hp L b I J)).trans ?_
  refine (LA (p := 368) (j := 1) (st := [vr 1]) rfl rfl rfl rfl rfl (by decide) hx hL).trans ?_
  refine ((ev_callV (M := 234) (pc := 373) (l := LL x) (ks := []) (as := [vr 1, vi (I 0 (x + 1))]) (st := [vi (I 0 (x + 1)), vr 1]) (st' := []) rfl (rcL1 b) rfl) : ev 234 373 (LL x) [vi (I 0 (x + 1)), vr 1] (hp L b I J) = (evc 96 [vr 1, vi (I 0 (x + 1))] (hp L b I J)).bind (fun q => ev 234 376 (LL x) [q.1] q.2)).trans ?_
  rw [q1]
  refine (ev_go rfl rfl : ev 234 376 (LL x) [vi v] (hp L b1 I1 J1) = ev 234 377 (LL x) [vr 115, vi v] (hp L b1 I1 J1)).trans ?_
  refine (LA (p := 377) (j := 1) (st := [vr 115, vi v]) rfl rfl rfl rfl rfl (by decide) hx hL).trans ?_
  refine ((ev_callV (M := 234) (pc := 382) (l := LL x) (ks := []) (as := [vr 115, vi (I1 0 (x + 1))]) (st := [vi (I1 0 (x + 1)), vr 115, vi v]) (st' := [vi v]) rfl (rcL115 b1) rfl) : ev 234 382 (LL x) [vi (I1 0 (x + 1)), vr 115, vi v] (hp L b1 I1 J1) = (evc 147 [vr 115, vi (I1 0 (x + 1))] (hp L b1 I1 J1)).bind (fun q => ev 234 385 (LL x) [q.1, vi v] q.2)).trans ?_
  rw [z, q2]
  exact (ev_if (c := v = v) rfl rfl : ev 234 385 (LL x) [vi v, vi v] (hp L b1 I2 J1) = if v = v then ev 234 1302 (LL x) [] (hp L b1 I2 J1) else ev 234 388 (LL x) [] (hp L b1 I2 J1)).trans (if_pos rfl)
set_option maxRecDepth 100000 in
theorem lw_8 (h : Rel I J I) (hx : 0 ≤ x ∧ x + 4 ≤ L) (hL : L ≤ 2048) : ∃ (b1 : Bool) (I1 : AI) (J1 : AJ), ev 234 390 (LL x) [] (hp L b I J) = ev 234 1302 (LL x) [] (hp L b1 I1 J1) ∧ Rel I1 J1 I1 ∧ I1 0 = I 0 := by
  obtain ⟨v, b1, I1, J1, I2, q1, q2, q3, q4⟩ := op_missing (I 0 (x + 1)) L b I J h
  have z : I1 0 = I 0 := evc_0 q1
  refine ⟨b1, I2, J1, ?_, q3, q4⟩
  refine (ev_go rfl rfl : ev 234 390 (LL x) [] (hp L b I J) = ev 234 391 (LL x) [vr 1] (hp L b I J)).trans ?_
  refine (LA (p := 391) (j := 1) (st := [vr 1]) rfl rfl rfl rfl rfl (by decide) hx hL).trans ?_
  refine ((ev_callV (M := 234) (pc := 396) (l := LL x) (ks := []) (as := [vr 1, vi (I 0 (x + 1))]) (st := [vi (I 0 (x + 1)), vr 1]) (st' := []) rfl (rcL1 b) rfl) : ev 234 396 (LL x) [vi (I 0 (x + 1)), vr 1] (hp L b I J) = (evc 97 [vr 1, vi (I 0 (x + 1))] (hp L b I J)).bind (fun q => ev 234 399 (LL x) [q.1] q.2)).trans ?_
  rw [q1]
  refine (ev_go rfl rfl : ev 234 399 (LL x) [vi v] (hp L b1 I1 J1) = ev 234 400 (LL x) [vr 115, vi v] (hp L b1 I1 J1)).trans ?_
  refine (LA (p := 400) (j := 1) (st := [vr 115, vi v]) rfl rfl rfl rfl rfl (by decide) hx hL).trans ?_
  refine ((ev_callV (M := 234) (pc := 405) (l := LL x) (ks := []) (as := [vr 115, vi (I1 0 (x + 1))]) (st := [vi (I1 0 (x + 1)), vr 115, vi v]) (st' := [vi v]) rfl (rcL115 b1) rfl) : ev 234 405 (LL x) [vi (I1 0 (x + 1)), vr 115, vi v] (hp L b1 I1 J1) = (evc 148 [vr 115, vi (I1 0 (x + 1))] (hp L b1 I1 J1)).bind (fun q => ev 234 408 (LL x) [q.1, vi v] q.2)).trans ?_
  rw [z, q2]
  exact (ev_if (c := v = v) rfl rfl : ev 234 408 (LL x) [vi v, vi v] (hp L b1 I2 J1) = if v = v then ev 234 1302 (LL x) [] (hp L b1 I2 J1) else ev 234 411 (LL x) [] (hp L b1 I2 J1)).trans (if_pos rfl)
set_option maxRecDepth 100000 in
theorem lw_9 (h : Rel I J I) (hx : 0 ≤ x ∧ x + 4 ≤ L) (hL : L ≤ 2048) : ∃ (b1 : Bool) (I1 : AI) (J1 : AJ), ev 234 413 (LL x) [] (hp L b I J) = ev 234 1302 (LL x) [] (hp L b1 I1 J1) ∧ Rel I1 J1 I1 ∧ I1 0 = I 0 := by
  obtain ⟨v, b1, I1, J1, I2, q1, q2, q3, q4⟩ := op_lay (I 0 (x + 1)) (I 0 (x + 2)) L b I J h
  have z : I1 0 = I 0 := evc_0 q1
  refine ⟨b1, I2, J1, ?_, q3, q4⟩
  refine (ev_go rfl rfl : ev 234 413 (LL x) [] (hp L b I J) = ev 234 414 (LL x) [vr 1] (hp L b I J)).trans ?_
  refine (LA (p := 414) (j := 1) (st := [vr 1]) rfl rfl rfl rfl rfl (by decide) hx hL).trans ?_
  refine (LA (p := 419) (j := 2) (st := [vi (I 0 (x + 1)), vr 1]) rfl rfl rfl rfl rfl (by decide) hx hL).trans ?_
  refine ((ev_callV (M := 234) (pc := 424) (l := LL x) (ks := []) (as := [vr 1, vi (I 0 (x + 1)), vi (I 0 (x + 2))]) (st := [vi (I 0 (x + 2)), vi (I 0 (x + 1)), vr 1]) (st' := []) rfl (rcL1 b) rfl) : ev 234 424 (LL x) [vi (I 0 (x + 2)), vi (I 0 (x + 1)), vr 1] (hp L b I J) = (evc 98 [vr 1, vi (I 0 (x + 1)), vi (I 0 (x + 2))] (hp L b I J)).bind (fun q => ev 234 427 (LL x) [q.1] q.2)).trans ?_
  rw [q1]
  refine (ev_go rfl rfl : ev 234 427 (LL x) [vi v] (hp L b1 I1 J1) = ev 234 428 (LL x) [vr 115, vi v] (hp L b1 I1 J1)).trans ?_
  refine (LA (p := 428) (j := 1) (st := [vr 115, vi v]) rfl rfl rfl rfl rfl (by decide) hx hL).trans ?_
  refine (LA (p := 433) (j := 2) (st := [vi (I1 0 (x + 1)), vr 115, vi v]) rfl rfl rfl rfl rfl (by decide) hx hL).trans ?_
  refine ((ev_callV (M := 234) (pc := 438) (l := LL x) (ks := []) (as := [vr 115, vi (I1 0 (x + 1)), vi (I1 0 (x + 2))]) (st := [vi (I1 0 (x + 2)), vi (I1 0 (x + 1)), vr 115, vi v]) (st' := [vi v]) rfl (rcL115 b1) rfl) : ev 234 438 (LL x) [vi (I1 0 (x + 2)), vi (I1 0 (x + 1)), vr 115, vi v] (hp L b1 I1 J1) = (evc 151 [vr 115, vi (I1 0 (x + 1)), vi (I1 0 (x + 2))] (hp L b1 I1 J1)).bind (fun q => ev 234 441 (LL x) [q.1, vi v] q.2)).trans ?_
  rw [z, q2]
  exact (ev_if (c := v = v) rfl rfl : ev 234 441 (LL x) [vi v, vi v] (hp L b1 I2 J1) = if v = v then ev 234 1302 (LL x) [] (hp L b1 I2 J1) else ev 234 444 (LL x) [] (hp L b1 I2 J1)).trans (if_pos rfl)
set_option maxRecDepth 100000 in
theorem lw_10 (h : Rel I J I) (hx : 0 ≤ x ∧ x + 4 ≤ L) (hL : L ≤ 2048) : ∃ (b1 : Bool) (I1 : AI) (J1 : AJ), ev 234 446 (LL x) [] (hp L b I J) = ev 234 1302 (LL x) [] (hp L b1 I1 J1) ∧ Rel I1 J1 I1 ∧ I1 0 = I 0 := by
  obtain ⟨v, b1, I1, J1, I2, q1, q2, q3, q4⟩ := op_take (I 0 (x + 1)) L b I J h
  have z : I1 0 = I 0 := evc_0 q1
  refine ⟨b1, I2, J1, ?_, q3, q4⟩
  refine (ev_go rfl rfl : ev 234 446 (LL x) [] (hp L b I J) = ev 234 447 (LL x) [vr 1] (hp L b I J)).trans ?_
  refine (LA (p := 447) (j := 1) (st := [vr 1]) rfl rfl rfl rfl rfl (by decide) hx hL).trans ?_
  refine ((ev_callV (M := 234) (pc := 452) (l := LL x) (ks := []) (as := [vr 1, vi (I 0 (x + 1))]) (st := [vi (I 0 (x + 1)), vr 1]) (st' := []) rfl (rcL1 b) rfl) : ev 234 452 (LL x) [vi (I 0 (x + 1)), vr 1] (hp L b I J) = (evc 99 [vr 1, vi (I 0 (x + 1))] (hp L b I J)).bind (fun q => ev 234 455 (LL x) [q.1] q.2)).trans ?_
  rw [q1]
  refine (ev_go rfl rfl : ev 234 455 (LL x) [vi v] (hp L b1 I1 J1) = ev 234 456 (LL x) [vr 115, vi v] (hp L b1 I1 J1)).trans ?_
  refine (LA (p := 456) (j := 1) (st := [vr 115, vi v]) rfl rfl rfl rfl rfl (by decide) hx hL).trans ?_
  refine ((ev_callV (M := 234) (pc := 461) (l := LL x) (ks := []) (as := [vr 115, vi (I1 0 (x + 1))]) (st := [vi (I1 0 (x + 1)), vr 115, vi v]) (st' := [vi v]) rfl (rcL115 b1) rfl) : ev 234 461 (LL x) [vi (I1 0 (x + 1)), vr 115, vi v] (hp L b1 I1 J1) = (evc 152 [vr 115, vi (I1 0 (x + 1))] (hp L b1 I1 J1)).bind (fun q => ev 234 464 (LL x) [q.1, vi v] q.2)).trans ?_
  rw [z, q2]
  exact (ev_if (c := v = v) rfl rfl : ev 234 464 (LL x) [vi v, vi v] (hp L b1 I2 J1) = if v = v then ev 234 1302 (LL x) [] (hp L b1 I2 J1) else ev 234 467 (LL x) [] (hp L b1 I2 J1)).trans (if_pos rfl)
set_option maxRecDepth 100000 in
theorem lw_11 (h : Rel I J I) (hx : 0 ≤ x ∧ x + 4 ≤ L) (hL : L ≤ 2048) : ∃ (b1 : Bool) (I1 : AI) (J1 : AJ), ev 234 469 (LL x) [] (hp L b I J) = ev 234 1302 (LL x) [] (hp L b1 I1 J1) ∧ Rel I1 J1 I1 ∧ I1 0 = I 0 := by
  obtain ⟨v, b1, I1, J1, I2, q1, q2, q3, q4⟩ := op_load (I 0 (x + 1)) L b I J h
  have z : I1 0 = I 0 := evc_0 q1
  refine ⟨b1, I2, J1, ?_, q3, q4⟩
  refine (ev_go rfl rfl : ev 234 469 (LL x) [] (hp L b I J) = ev 234 470 (LL x) [vr 1] (hp L b I J)).trans ?_
  refine (LA (p := 470) (j := 1) (st := [vr 1]) rfl rfl rfl rfl rfl (by decide) hx hL).trans ?_
  refine ((ev_callV (M := 234) (pc := 475) (l := LL x) (ks := []) (as := [vr 1, vi (I 0 (x + 1))]) (st := [vi (I 0 (x + 1)), vr 1]) (st' := []) rfl (rcL1 b) rfl) : ev 234 475 (LL x) [vi (I 0 (x + 1)), vr 1] (hp L b I J) = (evc 100 [vr 1, vi (I 0 (x + 1))] (hp L b I J)).bind (fun q => ev 234 478 (LL x) [q.1] q.2)).trans ?_
  rw [q1]
  refine (ev_go rfl rfl : ev 234 478 (LL x) [vi v] (hp L b1 I1 J1) = ev 234 479 (LL x) [vr 115, vi v] (hp L b1 I1 J1)).trans ?_
  refine (LA (p := 479) (j := 1) (st := [vr 115, vi v]) rfl rfl rfl rfl rfl (by decide) hx hL).trans ?_
  refine ((ev_callV (M := 234) (pc := 484) (l := LL x) (ks := []) (as := [vr 115, vi (I1 0 (x + 1))]) (st := [vi (I1 0 (x + 1)), vr 115, vi v]) (st' := [vi v]) rfl (rcL115 b1) rfl) : ev 234 484 (LL x) [vi (I1 0 (x + 1)), vr 115, vi v] (hp L b1 I1 J1) = (evc 154 [vr 115, vi (I1 0 (x + 1))] (hp L b1 I1 J1)).bind (fun q => ev 234 487 (LL x) [q.1, vi v] q.2)).trans ?_
  rw [z, q2]
  exact (ev_if (c := v = v) rfl rfl : ev 234 487 (LL x) [vi v, vi v] (hp L b1 I2 J1) = if v = v then ev 234 1302 (LL x) [] (hp L b1 I2 J1) else ev 234 490 (LL x) [] (hp L b1 I2 J1)).trans (if_pos rfl)
set_option maxRecDepth 100000 in
theorem lw_12 (h : Rel I J I) (hx : 0 ≤ x ∧ x + 4 ≤ L) (hL : L ≤ 2048) : ∃ (b1 : Bool) (I1 : AI) (J1 : AJ), ev 234 492 (LL x) [] (hp L b I J) = ev 234 1302 (LL x) [] (hp L b1 I1 J1) ∧ Rel I1 J1 I1 ∧ I1 0 = I 0 := by
  obtain ⟨v, b1, I1, J1, I2, q1, q2, q3, q4⟩ := op_shelf  L b I J h
  have z : I1 0 = I 0 := evc_0 q1
  refine ⟨b1, I2, J1, ?_, q3, q4⟩
  refine (ev_go rfl rfl : ev 234 492 (LL x) [] (hp L b I J) = ev 234 493 (LL x) [vr 1] (hp L b I J)).trans ?_
  refine ((ev_callV (M := 234) (pc := 493) (l := LL x) (ks := []) (as := [vr 1]) (st := [vr 1]) (st' := []) rfl (rcL1 b) rfl) : ev 234 493 (LL x) [vr 1] (hp L b I J) = (evc 101 [vr 1] (hp L b I J)).bind (fun q => ev 234 496 (LL x) [q.1] q.2)).trans ?_
  rw [q1]
  refine (ev_go rfl rfl : ev 234 496 (LL x) [vi v] (hp L b1 I1 J1) = ev 234 497 (LL x) [vr 115, vi v] (hp L b1 I1 J1)).trans ?_
  refine ((ev_callV (M := 234) (pc := 497) (l := LL x) (ks := []) (as := [vr 115]) (st := [vr 115, vi v]) (st' := [vi v]) rfl (rcL115 b1) rfl) : ev 234 497 (LL x) [vr 115, vi v] (hp L b1 I1 J1) = (evc 158 [vr 115] (hp L b1 I1 J1)).bind (fun q => ev 234 500 (LL x) [q.1, vi v] q.2)).trans ?_
  rw [q2]
  exact (ev_if (c := v = v) rfl rfl : ev 234 500 (LL x) [vi v, vi v] (hp L b1 I2 J1) = if v = v then ev 234 1302 (LL x) [] (hp L b1 I2 J1) else ev 234 503 (LL x) [] (hp L b1 I2 J1)).trans (if_pos rfl)
set_option maxRecDepth 100000 in
theorem lw_13 (h : Rel I J I) (hx : 0 ≤ x ∧ x + 4 ≤ L) (hL : L ≤ 2048) : ∃ (b1 : Bool) (I1 : AI) (J1 : AJ), ev 234 505 (LL x) [] (hp L b I J) = ev 234 1302 (LL x) [] (hp L b1 I1 J1) ∧ Rel I1 J1 I1 ∧ I1 0 = I 0 := by
  obtain ⟨v, b1, I1, J1, I2, q1, q2, q3, q4⟩ := op_on (I 0 (x + 1)) (I 0 (x + 2)) L b I J h
  have z : I1 0 = I 0 := evc_0 q1
  refine ⟨b1, I2, J1, ?_, q3, q4⟩
  refine (ev_go rfl rfl : ev 234 505 (LL x) [] (hp L b I J) = ev 234 506 (LL x) [vr 1] (hp L b I J)).trans ?_
  refine (LA (p := 506) (j := 1) (st := [vr 1]) rfl rfl rfl rfl rfl (by decide) hx hL).trans ?_
  refine (LA (p := 511) (j := 2) (st := [vi (I 0 (x + 1)), vr 1]) rfl rfl rfl rfl rfl (by decide) hx hL).trans ?_
  refine ((ev_callV (M := 234) (pc := 516) (l := LL x) (ks := []) (as := [vr 1, vi (I 0 (x + 1)), vi (I 0 (x + 2))]) (st := [vi (I 0 (x + 2)), vi (I 0 (x + 1)), vr 1]) (st' := []) rfl (rcL1 b) rfl) : ev 234 516 (LL x) [vi (I 0 (x + 2)), vi (I 0 (x + 1)), vr 1] (hp L b I J) = (evc 102 [vr 1, vi (I 0 (x + 1)), vi (I 0 (x + 2))] (hp L b I J)).bind (fun q => ev 234 519 (LL x) [q.1] q.2)).trans ?_
  rw [q1]
  refine (ev_go rfl rfl : ev 234 519 (LL x) [vi v] (hp L b1 I1 J1) = ev 234 520 (LL x) [vr 115, vi v] (hp L b1 I1 J1)).trans ?_
  refine (LA (p := 520) (j := 1) (st := [vr 115, vi v]) rfl rfl rfl rfl rfl (by decide) hx hL).trans ?_
  refine (LA (p := 525) (j := 2) (st := [vi (I1 0 (x + 1)), vr 115, vi v]) rfl rfl rfl rfl rfl (by decide) hx hL).trans ?_
  refine ((ev_callV (M := 234) (pc := 530) (l := LL x) (ks := []) (as := [vr 115, vi (I1 0 (x + 1)), vi (I1 0 (x + 2))]) (st := [vi (I1 0 (x + 2)), vi (I1 0 (x + 1)), vr 115, vi v]) (st' := [vi v]) rfl (rcL115 b1) rfl) : ev 234 530 (LL x) [vi (I1 0 (x + 2)), vi (I1 0 (x + 1)), vr 115, vi v] (hp L b1 I1 J1) = (evc 159 [vr 115, vi (I1 0 (x + 1)), vi (I1 0 (x + 2))] (hp L b1 I1 J1)).bind (fun q => ev 234 533 (LL x) [q.1, vi v] q.2)).trans ?_
  rw [z, q2]
  exact (ev_if (c := v = v) rfl rfl : ev 234 533 (LL x) [vi v, vi v] (hp L b1 I2 J1) = if v = v then ev 234 1302 (LL x) [] (hp L b1 I2 J1) else ev 234 536 (LL x) [] (hp L b1 I2 J1)).trans (if_pos rfl)
set_option maxRecDepth 100000 in
theorem lw_14 (h : Rel I J I) (hx : 0 ≤ x ∧ x + 4 ≤ L) (hL : L ≤ 2048) : ∃ (b1 : Bool) (I1 : AI) (J1 : AJ), ev 234 538 (LL x) [] (hp L b I J) = ev 234 1302 (LL x) [] (hp L b1 I1 J1) ∧ Rel I1 J1 I1 ∧ I1 0 = I 0 := by
  obtain ⟨v, b1, I1, J1, I2, q1, q2, q3, q4⟩ := op_step (I 0 (x + 1)) (I 0 (x + 2)) (I 0 (x + 3)) L b I J h
  have z : I1 0 = I 0 := evc_0 q1
  refine ⟨b1, I2, J1, ?_, q3, q4⟩
  refine (ev_go rfl rfl : ev 234 538 (LL x) [] (hp L b I J) = ev 234 539 (LL x) [vr 1] (hp L b I J)).trans ?_
  refine (LA (p := 539) (j := 1) (st := [vr 1]) rfl rfl rfl rfl rfl (by decide) hx hL).trans ?_
  refine (LA (p := 544) (j := 2) (st := [vi (I 0 (x + 1)), vr 1]) rfl rfl rfl rfl rfl (by decide) hx hL).trans ?_
  refine (LA (p := 549) (j := 3) (st := [vi (I 0 (x + 2)), vi (I 0 (x + 1)), vr 1]) rfl rfl rfl rfl rfl (by decide) hx hL).trans ?_
  refine ((ev_callV (M := 234) (pc := 554) (l := LL x) (ks := []) (as := [vr 1, vi (I 0 (x + 1)), vi (I 0 (x + 2)), vi (I 0 (x + 3))]) (st := [vi (I 0 (x + 3)), vi (I 0 (x + 2)), vi (I 0 (x + 1)), vr 1]) (st' := []) rfl (rcL1 b) rfl) : ev 234 554 (LL x) [vi (I 0 (x + 3)), vi (I 0 (x + 2)), vi (I 0 (x + 1)), vr 1] (hp L b I J) = (evc 103 [vr 1, vi (I 0 (x + 1)), vi (I 0 (x + 2)), vi (I 0 (x + 3))] (hp L b I J)).bind (fun q => ev 234 557 (LL x) [q.1] q.2)).trans ?_
  rw [q1]
  refine (ev_go rfl rfl : ev 234 557 (LL x) [vi v] (hp L b1 I1 J1) = ev 234 558 (LL x) [vr 115, vi v] (hp L b1 I1 J1)).trans ?_
  refine (LA (p := 558) (j := 1) (st := [vr 115, vi v]) rfl rfl rfl rfl rfl (by decide) hx hL).trans ?_
  refine (LA (p := 563) (j := 2) (st := [vi (I1 0 (x + 1)), vr 115, vi v]) rfl rfl rfl rfl rfl (by decide) hx hL).trans ?_
  refine (LA (p := 568) (j := 3) (st := [vi (I1 0 (x + 2)), vi (I1 0 (x + 1)), vr 115, vi v]) rfl rfl rfl rfl rfl (by decide) hx hL).trans ?_
  refine ((ev_callV (M := 234) (pc := 573) (l := LL x) (ks := []) (as := [vr 115, vi (I1 0 (x + 1)), vi (I1 0 (x + 2)), vi (I1 0 (x + 3))]) (st := [vi (I1 0 (x + 3)), vi (I1 0 (x + 2)), vi (I1 0 (x + 1)), vr 115, vi v]) (st' := [vi v]) rfl (rcL115 b1) rfl) : ev 234 573 (LL x) [vi (I1 0 (x + 3)), vi (I1 0 (x + 2)), vi (I1 0 (x + 1)), vr 115, vi v] (hp L b1 I1 J1) = (evc 162 [vr 115, vi (I1 0 (x + 1)), vi (I1 0 (x + 2)), vi (I1 0 (x + 3))] (hp L b1 I1 J1)).bind (fun q => ev 234 576 (LL x) [q.1, vi v] q.2)).trans ?_
  rw [z, q2]
  exact (ev_if (c := v = v) rfl rfl : ev 234 576 (LL x) [vi v, vi v] (hp L b1 I2 J1) = if v = v then ev 234 1302 (LL x) [] (hp L b1 I2 J1) else ev 234 579 (LL x) [] (hp L b1 I2 J1)).trans (if_pos rfl)
set_option maxRecDepth 100000 in
theorem lw_15 (h : Rel I J I) (hx : 0 ≤ x ∧ x + 4 ≤ L) (hL : L ≤ 2048) : ∃ (b1 : Bool) (I1 : AI) (J1 : AJ), ev 234 581 (LL x) [] (hp L b I J) = ev 234 1302 (LL x) [] (hp L b1 I1 J1) ∧ Rel I1 J1 I1 ∧ I1 0 = I 0 := by
  obtain ⟨v, b1, I1, J1, I2, q1, q2, q3, q4⟩ := op_of (I 0 (x + 1)) (I 0 (x + 2)) L b I J h
  have z : I1 0 = I 0 := evc_0 q1
  refine ⟨b1, I2, J1, ?_, q3, q4⟩
  refine (ev_go rfl rfl : ev 234 581 (LL x) [] (hp L b I J) = ev 234 582 (LL x) [vr 1] (hp L b I J)).trans ?_
  refine (LA (p := 582) (j := 1) (st := [vr 1]) rfl rfl rfl rfl rfl (by decide) hx hL).trans ?_
  refine (LA (p := 587) (j := 2) (st := [vi (I 0 (x + 1)), vr 1]) rfl rfl rfl rfl rfl (by decide) hx hL).trans ?_
  refine ((ev_callV (M := 234) (pc := 592) (l := LL x) (ks := []) (as := [vr 1, vi (I 0 (x + 1)), vi (I 0 (x + 2))]) (st := [vi (I 0 (x + 2)), vi (I 0 (x + 1)), vr 1]) (st' := []) rfl (rcL1 b) rfl) : ev 234 592 (LL x) [vi (I 0 (x + 2)), vi (I 0 (x + 1)), vr 1] (hp L b I J) = (evc 104 [vr 1, vi (I 0 (x + 1)), vi (I 0 (x + 2))] (hp L b I J)).bind (fun q => ev 234 595 (LL x) [q.1] q.2)).trans ?_
  rw [q1]
  refine (ev_go rfl rfl : ev 234 595 (LL x) [vi v] (hp L b1 I1 J1) = ev 234 596 (LL x) [vr 115, vi v] (hp L b1 I1 J1)).trans ?_
  refine (LA (p := 596) (j := 1) (st := [vr 115, vi v]) rfl rfl rfl rfl rfl (by decide) hx hL).trans ?_
  refine (LA (p := 601) (j := 2) (st := [vi (I1 0 (x + 1)), vr 115, vi v]) rfl rfl rfl rfl rfl (by decide) hx hL).trans ?_
  refine ((ev_callV (M := 234) (pc := 606) (l := LL x) (ks := []) (as := [vr 115, vi (I1 0 (x + 1)), vi (I1 0 (x + 2))]) (st := [vi (I1 0 (x + 2)), vi (I1 0 (x + 1)), vr 115, vi v]) (st' := [vi v]) rfl (rcL115 b1) rfl) : ev 234 606 (LL x) [vi (I1 0 (x + 2)), vi (I1 0 (x + 1)), vr 115, vi v] (hp L b1 I1 J1) = (evc 167 [vr 115, vi (I1 0 (x + 1)), vi (I1 0 (x + 2))] (hp L b1 I1 J1)).bind (fun q => ev 234 609 (LL x) [q.1, vi v] q.2)).trans ?_
  rw [z, q2]
  exact (ev_if (c := v = v) rfl rfl : ev 234 609 (LL x) [vi v, vi v] (hp L b1 I2 J1) = if v = v then ev 234 1302 (LL x) [] (hp L b1 I2 J1) else ev 234 612 (LL x) [] (hp L b1 I2 J1)).trans (if_pos rfl)
set_option maxRecDepth 100000 in
theorem lw_16 (h : Rel I J I) (hx : 0 ≤ x ∧ x + 4 ≤ L) (hL : L ≤ 2048) : ∃ (b1 : Bool) (I1 : AI) (J1 : AJ), ev 234 614 (LL x) [] (hp L b I J) = ev 234 1302 (LL x) [] (hp L b1 I1 J1) ∧ Rel I1 J1 I1 ∧ I1 0 = I 0 := by
  obtain ⟨v, b1, I1, J1, I2, q1, q2, q3, q4⟩ := op_reaches (I 0 (x + 1)) (I 0 (x + 2)) L b I J h
  have z : I1 0 = I 0 := evc_0 q1
  refine ⟨b1, I2, J1, ?_, q3, q4⟩
  refine (ev_go rfl rfl : ev 234 614 (LL x) [] (hp L b I J) = ev 234 615 (LL x) [vr 1] (hp L b I J)).trans ?_
  refine (LA (p := 615) (j := 1) (st := [vr 1]) rfl rfl rfl rfl rfl (by decide) hx hL).trans ?_
  refine (LA (p := 620) (j := 2) (st := [vi (I 0 (x + 1)), vr 1]) rfl rfl rfl rfl rfl (by decide) hx hL).trans ?_
  refine ((ev_callV (M := 234) (pc := 625) (l := LL x) (ks := []) (as := [vr 1, vi (I 0 (x + 1)), vi (I 0 (x + 2))]) (st := [vi (I 0 (x + 2)), vi (I 0 (x + 1)), vr 1]) (st' := []) rfl (rcL1 b) rfl) : ev 234 625 (LL x) [vi (I 0 (x + 2)), vi (I 0 (x + 1)), vr 1] (hp L b I J) = (evc 105 [vr 1, vi (I 0 (x + 1)), vi (I 0 (x + 2))] (hp L b I J)).bind (fun q => ev 234 628 (LL x) [q.1] q.2)).trans ?_
  rw [q1]
  refine (ev_go rfl rfl : ev 234 628 (LL x) [vi v] (hp L b1 I1 J1) = ev 234 629 (LL x) [vr 115, vi v] (hp L b1 I1 J1)).trans ?_
  refine (LA (p := 629) (j := 1) (st := [vr 115, vi v]) rfl rfl rfl rfl rfl (by decide) hx hL).trans ?_
  refine (LA (p := 634) (j := 2) (st := [vi (I1 0 (x + 1)), vr 115, vi v]) rfl rfl rfl rfl rfl (by decide) hx hL).trans ?_
  refine ((ev_callV (M := 234) (pc := 639) (l := LL x) (ks := []) (as := [vr 115, vi (I1 0 (x + 1)), vi (I1 0 (x + 2))]) (st := [vi (I1 0 (x + 2)), vi (I1 0 (x + 1)), vr 115, vi v]) (st' := [vi v]) rfl (rcL115 b1) rfl) : ev 234 639 (LL x) [vi (I1 0 (x + 2)), vi (I1 0 (x + 1)), vr 115, vi v] (hp L b1 I1 J1) = (evc 168 [vr 115, vi (I1 0 (x + 1)), vi (I1 0 (x + 2))] (hp L b1 I1 J1)).bind (fun q => ev 234 642 (LL x) [q.1, vi v] q.2)).trans ?_
  rw [z, q2]
  exact (ev_if (c := v = v) rfl rfl : ev 234 642 (LL x) [vi v, vi v] (hp L b1 I2 J1) = if v = v then ev 234 1302 (LL x) [] (hp L b1 I2 J1) else ev 234 645 (LL x) [] (hp L b1 I2 J1)).trans (if_pos rfl)
set_option maxRecDepth 100000 in
theorem lw_17 (h : Rel I J I) (hx : 0 ≤ x ∧ x + 4 ≤ L) (hL : L ≤ 2048) : ∃ (b1 : Bool) (I1 : AI) (J1 : AJ), ev 234 647 (LL x) [] (hp L b I J) = ev 234 1302 (LL x) [] (hp L b1 I1 J1) ∧ Rel I1 J1 I1 ∧ I1 0 = I 0 := by
  obtain ⟨v, b1, I1, J1, I2, q1, q2, q3, q4⟩ := op_base (I 0 (x + 1)) (I 0 (x + 2)) (I 0 (x + 3)) L b I J h
  have z : I1 0 = I 0 := evc_0 q1
  refine ⟨b1, I2, J1, ?_, q3, q4⟩
  refine (ev_go rfl rfl : ev 234 647 (LL x) [] (hp L b I J) = ev 234 648 (LL x) [vr 1] (hp L b I J)).trans ?_
  refine (LA (p := 648) (j := 1) (st := [vr 1]) rfl rfl rfl rfl rfl (by decide) hx hL).trans ?_
  refine (LA (p := 653) (j := 2) (st := [vi (I 0 (x + 1)), vr 1]) rfl rfl rfl rfl rfl (by decide) hx hL).trans ?_
  refine (LA (p := 658) (j := 3) (st := [vi (I 0 (x + 2)), vi (I 0 (x + 1)), vr 1]) rfl rfl rfl rfl rfl (by decide) hx hL).trans ?_
  refine ((ev_callV (M := 234) (pc := 663) (l := LL x) (ks := []) (as := [vr 1, vi (I 0 (x + 1)), vi (I 0 (x + 2)), vi (I 0 (x + 3))]) (st := [vi (I 0 (x + 3)), vi (I 0 (x + 2)), vi (I 0 (x + 1)), vr 1]) (st' := []) rfl (rcL1 b) rfl) : ev 234 663 (LL x) [vi (I 0 (x + 3)), vi (I 0 (x + 2)), vi (I 0 (x + 1)), vr 1] (hp L b I J) = (evc 106 [vr 1, vi (I 0 (x + 1)), vi (I 0 (x + 2)), vi (I 0 (x + 3))] (hp L b I J)).bind (fun q => ev 234 666 (LL x) [q.1] q.2)).trans ?_
  rw [q1]
  refine (ev_go rfl rfl : ev 234 666 (LL x) [vi v] (hp L b1 I1 J1) = ev 234 667 (LL x) [vr 115, vi v] (hp L b1 I1 J1)).trans ?_
  refine (LA (p := 667) (j := 1) (st := [vr 115, vi v]) rfl rfl rfl rfl rfl (by decide) hx hL).trans ?_
  refine (LA (p := 672) (j := 2) (st := [vi (I1 0 (x + 1)), vr 115, vi v]) rfl rfl rfl rfl rfl (by decide) hx hL).trans ?_
  refine (LA (p := 677) (j := 3) (st := [vi (I1 0 (x + 2)), vi (I1 0 (x + 1)), vr 115, vi v]) rfl rfl rfl rfl rfl (by decide) hx hL).trans ?_
  refine ((ev_callV (M := 234) (pc := 682) (l := LL x) (ks := []) (as := [vr 115, vi (I1 0 (x + 1)), vi (I1 0 (x + 2)), vi (I1 0 (x + 3))]) (st := [vi (I1 0 (x + 3)), vi (I1 0 (x + 2)), vi (I1 0 (x + 1)), vr 115, vi v]) (st' := [vi v]) rfl (rcL115 b1) rfl) : ev 234 682 (LL x) [vi (I1 0 (x + 3)), vi (I1 0 (x + 2)), vi (I1 0 (x + 1)), vr 115, vi v] (hp L b1 I1 J1) = (evc 170 [vr 115, vi (I1 0 (x + 1)), vi (I1 0 (x + 2)), vi (I1 0 (x + 3))] (hp L b1 I1 J1)).bind (fun q => ev 234 685 (LL x) [q.1, vi v] q.2)).trans ?_
  rw [z, q2]
  exact (ev_if (c := v = v) rfl rfl : ev 234 685 (LL x) [vi v, vi v] (hp L b1 I2 J1) = if v = v then ev 234 1302 (LL x) [] (hp L b1 I2 J1) else ev 234 688 (LL x) [] (hp L b1 I2 J1)).trans (if_pos rfl)
set_option maxRecDepth 100000 in
theorem lw_18 (h : Rel I J I) (hx : 0 ≤ x ∧ x + 4 ≤ L) (hL : L ≤ 2048) : ∃ (b1 : Bool) (I1 : AI) (J1 : AJ), ev 234 690 (LL x) [] (hp L b I J) = ev 234 1302 (LL x) [] (hp L b1 I1 J1) ∧ Rel I1 J1 I1 ∧ I1 0 = I 0 := by
  obtain ⟨v, b1, I1, J1, I2, q1, q2, q3, q4⟩ := op_head (I 0 (x + 1)) (I 0 (x + 2)) L b I J h
  have z : I1 0 = I 0 := evc_0 q1
  refine ⟨b1, I2, J1, ?_, q3, q4⟩
  refine (ev_go rfl rfl : ev 234 690 (LL x) [] (hp L b I J) = ev 234 691 (LL x) [vr 1] (hp L b I J)).trans ?_
  refine (LA (p := 691) (j := 1) (st := [vr 1]) rfl rfl rfl rfl rfl (by decide) hx hL).trans ?_
  refine (LA (p := 696) (j := 2) (st := [vi (I 0 (x + 1)), vr 1]) rfl rfl rfl rfl rfl (by decide) hx hL).trans ?_
  refine ((ev_callV (M := 234) (pc := 701) (l := LL x) (ks := []) (as := [vr 1, vi (I 0 (x + 1)), vi (I 0 (x + 2))]) (st := [vi (I 0 (x + 2)), vi (I 0 (x + 1)), vr 1]) (st' := []) rfl (rcL1 b) rfl) : ev 234 701 (LL x) [vi (I 0 (x + 2)), vi (I 0 (x + 1)), vr 1] (hp L b I J) = (evc 107 [vr 1, vi (I 0 (x + 1)), vi (I 0 (x + 2))] (hp L b I J)).bind (fun q => ev 234 704 (LL x) [q.1] q.2)).trans ?_
  rw [q1]
  refine (ev_go rfl rfl : ev 234 704 (LL x) [vi v] (hp L b1 I1 J1) = ev 234 705 (LL x) [vr 115, vi v] (hp L b1 I1 J1)).trans ?_
  refine (LA (p := 705) (j := 1) (st := [vr 115, vi v]) rfl rfl rfl rfl rfl (by decide) hx hL).trans ?_
  refine (LA (p := 710) (j := 2) (st := [vi (I1 0 (x + 1)), vr 115, vi v]) rfl rfl rfl rfl rfl (by decide) hx hL).trans ?_
  refine ((ev_callV (M := 234) (pc := 715) (l := LL x) (ks := []) (as := [vr 115, vi (I1 0 (x + 1)), vi (I1 0 (x + 2))]) (st := [vi (I1 0 (x + 2)), vi (I1 0 (x + 1)), vr 115, vi v]) (st' := [vi v]) rfl (rcL115 b1) rfl) : ev 234 715 (LL x) [vi (I1 0 (x + 2)), vi (I1 0 (x + 1)), vr 115, vi v] (hp L b1 I1 J1) = (evc 171 [vr 115, vi (I1 0 (x + 1)), vi (I1 0 (x + 2))] (hp L b1 I1 J1)).bind (fun q => ev 234 718 (LL x) [q.1, vi v] q.2)).trans ?_
  rw [z, q2]
  exact (ev_if (c := v = v) rfl rfl : ev 234 718 (LL x) [vi v, vi v] (hp L b1 I2 J1) = if v = v then ev 234 1302 (LL x) [] (hp L b1 I2 J1) else ev 234 721 (LL x) [] (hp L b1 I2 J1)).trans (if_pos rfl)
set_option maxRecDepth 100000 in
theorem lw_19 (h : Rel I J I) (hx : 0 ≤ x ∧ x + 4 ≤ L) (hL : L ≤ 2048) : ∃ (b1 : Bool) (I1 : AI) (J1 : AJ), ev 234 723 (LL x) [] (hp L b I J) = ev 234 1302 (LL x) [] (hp L b1 I1 J1) ∧ Rel I1 J1 I1 ∧ I1 0 = I 0 := by
  obtain ⟨v, b1, I1, J1, I2, q1, q2, q3, q4⟩ := op_diff (I 0 (x + 1)) (I 0 (x + 2)) L b I J h
  have z : I1 0 = I 0 := evc_0 q1
  refine ⟨b1, I2, J1, ?_, q3, q4⟩
  refine (ev_go rfl rfl : ev 234 723 (LL x) [] (hp L b I J) = ev 234 724 (LL x) [vr 1] (hp L b I J)).trans ?_
  refine (LA (p := 724) (j := 1) (st := [vr 1]) rfl rfl rfl rfl rfl (by decide) hx hL).trans ?_
  refine (LA (p := 729) (j := 2) (st := [vi (I 0 (x + 1)), vr 1]) rfl rfl rfl rfl rfl (by decide) hx hL).trans ?_
  refine ((ev_callV (M := 234) (pc := 734) (l := LL x) (ks := []) (as := [vr 1, vi (I 0 (x + 1)), vi (I 0 (x + 2))]) (st := [vi (I 0 (x + 2)), vi (I 0 (x + 1)), vr 1]) (st' := []) rfl (rcL1 b) rfl) : ev 234 734 (LL x) [vi (I 0 (x + 2)), vi (I 0 (x + 1)), vr 1] (hp L b I J) = (evc 108 [vr 1, vi (I 0 (x + 1)), vi (I 0 (x + 2))] (hp L b I J)).bind (fun q => ev 234 737 (LL x) [q.1] q.2)).trans ?_
  rw [q1]
  refine (ev_go rfl rfl : ev 234 737 (LL x) [vi v] (hp L b1 I1 J1) = ev 234 738 (LL x) [vr 115, vi v] (hp L b1 I1 J1)).trans ?_
  refine (LA (p := 738) (j := 1) (st := [vr 115, vi v]) rfl rfl rfl rfl rfl (by decide) hx hL).trans ?_
  refine (LA (p := 743) (j := 2) (st := [vi (I1 0 (x + 1)), vr 115, vi v]) rfl rfl rfl rfl rfl (by decide) hx hL).trans ?_
  refine ((ev_callV (M := 234) (pc := 748) (l := LL x) (ks := []) (as := [vr 115, vi (I1 0 (x + 1)), vi (I1 0 (x + 2))]) (st := [vi (I1 0 (x + 2)), vi (I1 0 (x + 1)), vr 115, vi v]) (st' := [vi v]) rfl (rcL115 b1) rfl) : ev 234 748 (LL x) [vi (I1 0 (x + 2)), vi (I1 0 (x + 1)), vr 115, vi v] (hp L b1 I1 J1) = (evc 176 [vr 115, vi (I1 0 (x + 1)), vi (I1 0 (x + 2))] (hp L b1 I1 J1)).bind (fun q => ev 234 751 (LL x) [q.1, vi v] q.2)).trans ?_
  rw [z, q2]
  exact (ev_if (c := v = v) rfl rfl : ev 234 751 (LL x) [vi v, vi v] (hp L b1 I2 J1) = if v = v then ev 234 1302 (LL x) [] (hp L b1 I2 J1) else ev 234 754 (LL x) [] (hp L b1 I2 J1)).trans (if_pos rfl)
set_option maxRecDepth 100000 in
theorem lw_20 (h : Rel I J I) (hx : 0 ≤ x ∧ x + 4 ≤ L) (hL : L ≤ 2048) : ∃ (b1 : Bool) (I1 : AI) (J1 : AJ), ev 234 756 (LL x) [] (hp L b I J) = ev 234 1302 (LL x) [] (hp L b1 I1 J1) ∧ Rel I1 J1 I1 ∧ I1 0 = I 0 := by
  obtain ⟨v, b1, I1, J1, I2, q1, q2, q3, q4⟩ := op_kept (I 0 (x + 1)) (I 0 (x + 2)) L b I J h
  have z : I1 0 = I 0 := evc_0 q1
  refine ⟨b1, I2, J1, ?_, q3, q4⟩
  refine (ev_go rfl rfl : ev 234 756 (LL x) [] (hp L b I J) = ev 234 757 (LL x) [vr 1] (hp L b I J)).trans ?_
  refine (LA (p := 757) (j := 1) (st := [vr 1]) rfl rfl rfl rfl rfl (by decide) hx hL).trans ?_
  refine (LA (p := 762) (j := 2) (st := [vi (I 0 (x + 1)), vr 1]) rfl rfl rfl rfl rfl (by decide) hx hL).trans ?_
  refine ((ev_callV (M := 234) (pc := 767) (l := LL x) (ks := []) (as := [vr 1, vi (I 0 (x + 1)), vi (I 0 (x + 2))]) (st := [vi (I 0 (x + 2)), vi (I 0 (x + 1)), vr 1]) (st' := []) rfl (rcL1 b) rfl) : ev 234 767 (LL x) [vi (I 0 (x + 2)), vi (I 0 (x + 1)), vr 1] (hp L b I J) = (evc 109 [vr 1, vi (I 0 (x + 1)), vi (I 0 (x + 2))] (hp L b I J)).bind (fun q => ev 234 770 (LL x) [q.1] q.2)).trans ?_
  rw [q1]
  refine (ev_go rfl rfl : ev 234 770 (LL x) [vi v] (hp L b1 I1 J1) = ev 234 771 (LL x) [vr 115, vi v] (hp L b1 I1 J1)).trans ?_
  refine (LA (p := 771) (j := 1) (st := [vr 115, vi v]) rfl rfl rfl rfl rfl (by decide) hx hL).trans ?_
  refine (LA (p := 776) (j := 2) (st := [vi (I1 0 (x + 1)), vr 115, vi v]) rfl rfl rfl rfl rfl (by decide) hx hL).trans ?_
  refine ((ev_callV (M := 234) (pc := 781) (l := LL x) (ks := []) (as := [vr 115, vi (I1 0 (x + 1)), vi (I1 0 (x + 2))]) (st := [vi (I1 0 (x + 2)), vi (I1 0 (x + 1)), vr 115, vi v]) (st' := [vi v]) rfl (rcL115 b1) rfl) : ev 234 781 (LL x) [vi (I1 0 (x + 2)), vi (I1 0 (x + 1)), vr 115, vi v] (hp L b1 I1 J1) = (evc 177 [vr 115, vi (I1 0 (x + 1)), vi (I1 0 (x + 2))] (hp L b1 I1 J1)).bind (fun q => ev 234 784 (LL x) [q.1, vi v] q.2)).trans ?_
  rw [z, q2]
  exact (ev_if (c := v = v) rfl rfl : ev 234 784 (LL x) [vi v, vi v] (hp L b1 I2 J1) = if v = v then ev 234 1302 (LL x) [] (hp L b1 I2 J1) else ev 234 787 (LL x) [] (hp L b1 I2 J1)).trans (if_pos rfl)
set_option maxRecDepth 100000 in
theorem lw_21 (h : Rel I J I) (hx : 0 ≤ x ∧ x + 4 ≤ L) (hL : L ≤ 2048) : ∃ (b1 : Bool) (I1 : AI) (J1 : AJ), ev 234 789 (LL x) [] (hp L b I J) = ev 234 1302 (LL x) [] (hp L b1 I1 J1) ∧ Rel I1 J1 I1 ∧ I1 0 = I 0 := by
  obtain ⟨v, b1, I1, J1, I2, q1, q2, q3, q4⟩ := op_merge (I 0 (x + 1)) (I 0 (x + 2)) (I 0 (x + 3)) L b I J h
  have z : I1 0 = I 0 := evc_0 q1
  refine ⟨b1, I2, J1, ?_, q3, q4⟩
  refine (ev_go rfl rfl : ev 234 789 (LL x) [] (hp L b I J) = ev 234 790 (LL x) [vr 1] (hp L b I J)).trans ?_
  refine (LA (p := 790) (j := 1) (st := [vr 1]) rfl rfl rfl rfl rfl (by decide) hx hL).trans ?_
  refine (LA (p := 795) (j := 2) (st := [vi (I 0 (x + 1)), vr 1]) rfl rfl rfl rfl rfl (by decide) hx hL).trans ?_
  refine (LA (p := 800) (j := 3) (st := [vi (I 0 (x + 2)), vi (I 0 (x + 1)), vr 1]) rfl rfl rfl rfl rfl (by decide) hx hL).trans ?_
  refine ((ev_callV (M := 234) (pc := 805) (l := LL x) (ks := []) (as := [vr 1, vi (I 0 (x + 1)), vi (I 0 (x + 2)), vi (I 0 (x + 3))]) (st := [vi (I 0 (x + 3)), vi (I 0 (x + 2)), vi (I 0 (x + 1)), vr 1]) (st' := []) rfl (rcL1 b) rfl) : ev 234 805 (LL x) [vi (I 0 (x + 3)), vi (I 0 (x + 2)), vi (I 0 (x + 1)), vr 1] (hp L b I J) = (evc 110 [vr 1, vi (I 0 (x + 1)), vi (I 0 (x + 2)), vi (I 0 (x + 3))] (hp L b I J)).bind (fun q => ev 234 808 (LL x) [q.1] q.2)).trans ?_
  rw [q1]
  refine (ev_go rfl rfl : ev 234 808 (LL x) [vi v] (hp L b1 I1 J1) = ev 234 809 (LL x) [vr 115, vi v] (hp L b1 I1 J1)).trans ?_
  refine (LA (p := 809) (j := 1) (st := [vr 115, vi v]) rfl rfl rfl rfl rfl (by decide) hx hL).trans ?_
  refine (LA (p := 814) (j := 2) (st := [vi (I1 0 (x + 1)), vr 115, vi v]) rfl rfl rfl rfl rfl (by decide) hx hL).trans ?_
  refine (LA (p := 819) (j := 3) (st := [vi (I1 0 (x + 2)), vi (I1 0 (x + 1)), vr 115, vi v]) rfl rfl rfl rfl rfl (by decide) hx hL).trans ?_
  refine ((ev_callV (M := 234) (pc := 824) (l := LL x) (ks := []) (as := [vr 115, vi (I1 0 (x + 1)), vi (I1 0 (x + 2)), vi (I1 0 (x + 3))]) (st := [vi (I1 0 (x + 3)), vi (I1 0 (x + 2)), vi (I1 0 (x + 1)), vr 115, vi v]) (st' := [vi v]) rfl (rcL115 b1) rfl) : ev 234 824 (LL x) [vi (I1 0 (x + 3)), vi (I1 0 (x + 2)), vi (I1 0 (x + 1)), vr 115, vi v] (hp L b1 I1 J1) = (evc 184 [vr 115, vi (I1 0 (x + 1)), vi (I1 0 (x + 2)), vi (I1 0 (x + 3))] (hp L b1 I1 J1)).bind (fun q => ev 234 827 (LL x) [q.1, vi v] q.2)).trans ?_
  rw [z, q2]
  exact (ev_if (c := v = v) rfl rfl : ev 234 827 (LL x) [vi v, vi v] (hp L b1 I2 J1) = if v = v then ev 234 1302 (LL x) [] (hp L b1 I2 J1) else ev 234 830 (LL x) [] (hp L b1 I2 J1)).trans (if_pos rfl)
set_option maxRecDepth 100000 in
theorem lw_22 (h : Rel I J I) (hx : 0 ≤ x ∧ x + 4 ≤ L) (hL : L ≤ 2048) : ∃ (b1 : Bool) (I1 : AI) (J1 : AJ), ev 234 832 (LL x) [] (hp L b I J) = ev 234 1302 (LL x) [] (hp L b1 I1 J1) ∧ Rel I1 J1 I1 ∧ I1 0 = I 0 := by
  obtain ⟨v, b1, I1, J1, I2, q1, q2, q3, q4⟩ := op_conflict (I 0 (x + 1)) (I 0 (x + 2)) (I 0 (x + 3)) L b I J h
  have z : I1 0 = I 0 := evc_0 q1
  refine ⟨b1, I2, J1, ?_, q3, q4⟩
  refine (ev_go rfl rfl : ev 234 832 (LL x) [] (hp L b I J) = ev 234 833 (LL x) [vr 1] (hp L b I J)).trans ?_
  refine (LA (p := 833) (j := 1) (st := [vr 1]) rfl rfl rfl rfl rfl (by decide) hx hL).trans ?_
  refine (LA (p := 838) (j := 2) (st := [vi (I 0 (x + 1)), vr 1]) rfl rfl rfl rfl rfl (by decide) hx hL).trans ?_
  refine (LA (p := 843) (j := 3) (st := [vi (I 0 (x + 2)), vi (I 0 (x + 1)), vr 1]) rfl rfl rfl rfl rfl (by decide) hx hL).trans ?_
  refine ((ev_callV (M := 234) (pc := 848) (l := LL x) (ks := []) (as := [vr 1, vi (I 0 (x + 1)), vi (I 0 (x + 2)), vi (I 0 (x + 3))]) (st := [vi (I 0 (x + 3)), vi (I 0 (x + 2)), vi (I 0 (x + 1)), vr 1]) (st' := []) rfl (rcL1 b) rfl) : ev 234 848 (LL x) [vi (I 0 (x + 3)), vi (I 0 (x + 2)), vi (I 0 (x + 1)), vr 1] (hp L b I J) = (evc 111 [vr 1, vi (I 0 (x + 1)), vi (I 0 (x + 2)), vi (I 0 (x + 3))] (hp L b I J)).bind (fun q => ev 234 851 (LL x) [q.1] q.2)).trans ?_
  rw [q1]
  refine (ev_go rfl rfl : ev 234 851 (LL x) [vi v] (hp L b1 I1 J1) = ev 234 852 (LL x) [vr 115, vi v] (hp L b1 I1 J1)).trans ?_
  refine (LA (p := 852) (j := 1) (st := [vr 115, vi v]) rfl rfl rfl rfl rfl (by decide) hx hL).trans ?_
  refine (LA (p := 857) (j := 2) (st := [vi (I1 0 (x + 1)), vr 115, vi v]) rfl rfl rfl rfl rfl (by decide) hx hL).trans ?_
  refine (LA (p := 862) (j := 3) (st := [vi (I1 0 (x + 2)), vi (I1 0 (x + 1)), vr 115, vi v]) rfl rfl rfl rfl rfl (by decide) hx hL).trans ?_
  refine ((ev_callV (M := 234) (pc := 867) (l := LL x) (ks := []) (as := [vr 115, vi (I1 0 (x + 1)), vi (I1 0 (x + 2)), vi (I1 0 (x + 3))]) (st := [vi (I1 0 (x + 3)), vi (I1 0 (x + 2)), vi (I1 0 (x + 1)), vr 115, vi v]) (st' := [vi v]) rfl (rcL115 b1) rfl) : ev 234 867 (LL x) [vi (I1 0 (x + 3)), vi (I1 0 (x + 2)), vi (I1 0 (x + 1)), vr 115, vi v] (hp L b1 I1 J1) = (evc 186 [vr 115, vi (I1 0 (x + 1)), vi (I1 0 (x + 2)), vi (I1 0 (x + 3))] (hp L b1 I1 J1)).bind (fun q => ev 234 870 (LL x) [q.1, vi v] q.2)).trans ?_
  rw [z, q2]
  exact (ev_if (c := v = v) rfl rfl : ev 234 870 (LL x) [vi v, vi v] (hp L b1 I2 J1) = if v = v then ev 234 1302 (LL x) [] (hp L b1 I2 J1) else ev 234 873 (LL x) [] (hp L b1 I2 J1)).trans (if_pos rfl)
set_option maxRecDepth 100000 in
theorem lw_23 (h : Rel I J I) (hx : 0 ≤ x ∧ x + 4 ≤ L) (hL : L ≤ 2048) : ∃ (b1 : Bool) (I1 : AI) (J1 : AJ), ev 234 875 (LL x) [] (hp L b I J) = ev 234 1302 (LL x) [] (hp L b1 I1 J1) ∧ Rel I1 J1 I1 ∧ I1 0 = I 0 := by
  obtain ⟨v, b1, I1, J1, I2, q1, q2, q3, q4⟩ := op_settle (I 0 (x + 1)) (I 0 (x + 2)) L b I J h
  have z : I1 0 = I 0 := evc_0 q1
  refine ⟨b1, I2, J1, ?_, q3, q4⟩
  refine (ev_go rfl rfl : ev 234 875 (LL x) [] (hp L b I J) = ev 234 876 (LL x) [vr 1] (hp L b I J)).trans ?_
  refine (LA (p := 876) (j := 1) (st := [vr 1]) rfl rfl rfl rfl rfl (by decide) hx hL).trans ?_
  refine (LA (p := 881) (j := 2) (st := [vi (I 0 (x + 1)), vr 1]) rfl rfl rfl rfl rfl (by decide) hx hL).trans ?_
  refine ((ev_callV (M := 234) (pc := 886) (l := LL x) (ks := []) (as := [vr 1, vi (I 0 (x + 1)), vi (I 0 (x + 2))]) (st := [vi (I 0 (x + 2)), vi (I 0 (x + 1)), vr 1]) (st' := []) rfl (rcL1 b) rfl) : ev 234 886 (LL x) [vi (I 0 (x + 2)), vi (I 0 (x + 1)), vr 1] (hp L b I J) = (evc 112 [vr 1, vi (I 0 (x + 1)), vi (I 0 (x + 2))] (hp L b I J)).bind (fun q => ev 234 889 (LL x) [q.1] q.2)).trans ?_
  rw [q1]
  refine (ev_go rfl rfl : ev 234 889 (LL x) [vi v] (hp L b1 I1 J1) = ev 234 890 (LL x) [vr 115, vi v] (hp L b1 I1 J1)).trans ?_
  refine (LA (p := 890) (j := 1) (st := [vr 115, vi v]) rfl rfl rfl rfl rfl (by decide) hx hL).trans ?_
  refine (LA (p := 895) (j := 2) (st := [vi (I1 0 (x + 1)), vr 115, vi v]) rfl rfl rfl rfl rfl (by decide) hx hL).trans ?_
  refine ((ev_callV (M := 234) (pc := 900) (l := LL x) (ks := []) (as := [vr 115, vi (I1 0 (x + 1)), vi (I1 0 (x + 2))]) (st := [vi (I1 0 (x + 2)), vi (I1 0 (x + 1)), vr 115, vi v]) (st' := [vi v]) rfl (rcL115 b1) rfl) : ev 234 900 (LL x) [vi (I1 0 (x + 2)), vi (I1 0 (x + 1)), vr 115, vi v] (hp L b1 I1 J1) = (evc 187 [vr 115, vi (I1 0 (x + 1)), vi (I1 0 (x + 2))] (hp L b1 I1 J1)).bind (fun q => ev 234 903 (LL x) [q.1, vi v] q.2)).trans ?_
  rw [z, q2]
  exact (ev_if (c := v = v) rfl rfl : ev 234 903 (LL x) [vi v, vi v] (hp L b1 I2 J1) = if v = v then ev 234 1302 (LL x) [] (hp L b1 I2 J1) else ev 234 906 (LL x) [] (hp L b1 I2 J1)).trans (if_pos rfl)
set_option maxRecDepth 100000 in
theorem lw_24 (h : Rel I J I) (hx : 0 ≤ x ∧ x + 4 ≤ L) (hL : L ≤ 2048) : ∃ (b1 : Bool) (I1 : AI) (J1 : AJ), ev 234 908 (LL x) [] (hp L b I J) = ev 234 1302 (LL x) [] (hp L b1 I1 J1) ∧ Rel I1 J1 I1 ∧ I1 0 = I 0 := by
  obtain ⟨v, b1, I1, J1, I2, q1, q2, q3, q4⟩ := op_merged  L b I J h
  have z : I1 0 = I 0 := evc_0 q1
  refine ⟨b1, I2, J1, ?_, q3, q4⟩
  refine (ev_go rfl rfl : ev 234 908 (LL x) [] (hp L b I J) = ev 234 909 (LL x) [vr 1] (hp L b I J)).trans ?_
  refine ((ev_callV (M := 234) (pc := 909) (l := LL x) (ks := []) (as := [vr 1]) (st := [vr 1]) (st' := []) rfl (rcL1 b) rfl) : ev 234 909 (LL x) [vr 1] (hp L b I J) = (evc 113 [vr 1] (hp L b I J)).bind (fun q => ev 234 912 (LL x) [q.1] q.2)).trans ?_
  rw [q1]
  refine (ev_go rfl rfl : ev 234 912 (LL x) [vi v] (hp L b1 I1 J1) = ev 234 913 (LL x) [vr 115, vi v] (hp L b1 I1 J1)).trans ?_
  refine ((ev_callV (M := 234) (pc := 913) (l := LL x) (ks := []) (as := [vr 115]) (st := [vr 115, vi v]) (st' := [vi v]) rfl (rcL115 b1) rfl) : ev 234 913 (LL x) [vr 115, vi v] (hp L b1 I1 J1) = (evc 191 [vr 115] (hp L b1 I1 J1)).bind (fun q => ev 234 916 (LL x) [q.1, vi v] q.2)).trans ?_
  rw [q2]
  exact (ev_if (c := v = v) rfl rfl : ev 234 916 (LL x) [vi v, vi v] (hp L b1 I2 J1) = if v = v then ev 234 1302 (LL x) [] (hp L b1 I2 J1) else ev 234 919 (LL x) [] (hp L b1 I2 J1)).trans (if_pos rfl)
set_option maxRecDepth 100000 in
theorem lw_25 (h : Rel I J I) (hx : 0 ≤ x ∧ x + 4 ≤ L) (hL : L ≤ 2048) : ∃ (b1 : Bool) (I1 : AI) (J1 : AJ), ev 234 921 (LL x) [] (hp L b I J) = ev 234 1302 (LL x) [] (hp L b1 I1 J1) ∧ Rel I1 J1 I1 ∧ I1 0 = I 0 := by
  obtain ⟨v, b1, I1, J1, I2, q1, q2, q3, q4⟩ := op_join (I 0 (x + 1)) (I 0 (x + 2)) L b I J h
  have z : I1 0 = I 0 := evc_0 q1
  refine ⟨b1, I2, J1, ?_, q3, q4⟩
  refine (ev_go rfl rfl : ev 234 921 (LL x) [] (hp L b I J) = ev 234 922 (LL x) [vr 1] (hp L b I J)).trans ?_
  refine (LA (p := 922) (j := 1) (st := [vr 1]) rfl rfl rfl rfl rfl (by decide) hx hL).trans ?_
  refine (LA (p := 927) (j := 2) (st := [vi (I 0 (x + 1)), vr 1]) rfl rfl rfl rfl rfl (by decide) hx hL).trans ?_
  refine ((ev_callV (M := 234) (pc := 932) (l := LL x) (ks := []) (as := [vr 1, vi (I 0 (x + 1)), vi (I 0 (x + 2))]) (st := [vi (I 0 (x + 2)), vi (I 0 (x + 1)), vr 1]) (st' := []) rfl (rcL1 b) rfl) : ev 234 932 (LL x) [vi (I 0 (x + 2)), vi (I 0 (x + 1)), vr 1] (hp L b I J) = (evc 114 [vr 1, vi (I 0 (x + 1)), vi (I 0 (x + 2))] (hp L b I J)).bind (fun q => ev 234 935 (LL x) [q.1] q.2)).trans ?_
  rw [q1]
  refine (ev_go rfl rfl : ev 234 935 (LL x) [vi v] (hp L b1 I1 J1) = ev 234 936 (LL x) [vr 115, vi v] (hp L b1 I1 J1)).trans ?_
  refine (LA (p := 936) (j := 1) (st := [vr 115, vi v]) rfl rfl rfl rfl rfl (by decide) hx hL).trans ?_
  refine (LA (p := 941) (j := 2) (st := [vi (I1 0 (x + 1)), vr 115, vi v]) rfl rfl rfl rfl rfl (by decide) hx hL).trans ?_
  refine ((ev_callV (M := 234) (pc := 946) (l := LL x) (ks := []) (as := [vr 115, vi (I1 0 (x + 1)), vi (I1 0 (x + 2))]) (st := [vi (I1 0 (x + 2)), vi (I1 0 (x + 1)), vr 115, vi v]) (st' := [vi v]) rfl (rcL115 b1) rfl) : ev 234 946 (LL x) [vi (I1 0 (x + 2)), vi (I1 0 (x + 1)), vr 115, vi v] (hp L b1 I1 J1) = (evc 198 [vr 115, vi (I1 0 (x + 1)), vi (I1 0 (x + 2))] (hp L b1 I1 J1)).bind (fun q => ev 234 949 (LL x) [q.1, vi v] q.2)).trans ?_
  rw [z, q2]
  exact (ev_if (c := v = v) rfl rfl : ev 234 949 (LL x) [vi v, vi v] (hp L b1 I2 J1) = if v = v then ev 234 1302 (LL x) [] (hp L b1 I2 J1) else ev 234 952 (LL x) [] (hp L b1 I2 J1)).trans (if_pos rfl)
set_option maxRecDepth 100000 in
theorem lw_26 (h : Rel I J I) (hx : 0 ≤ x ∧ x + 4 ≤ L) (hL : L ≤ 2048) : ∃ (b1 : Bool) (I1 : AI) (J1 : AJ), ev 234 954 (LL x) [] (hp L b I J) = ev 234 1302 (LL x) [] (hp L b1 I1 J1) ∧ Rel I1 J1 I1 ∧ I1 0 = I 0 := by
  obtain ⟨v, b1, I1, J1, I2, q1, q2, q3, q4⟩ := op_joining (I 0 (x + 1)) L b I J h
  have z : I1 0 = I 0 := evc_0 q1
  refine ⟨b1, I2, J1, ?_, q3, q4⟩
  refine (ev_go rfl rfl : ev 234 954 (LL x) [] (hp L b I J) = ev 234 955 (LL x) [vr 1] (hp L b I J)).trans ?_
  refine (LA (p := 955) (j := 1) (st := [vr 1]) rfl rfl rfl rfl rfl (by decide) hx hL).trans ?_
  refine ((ev_callV (M := 234) (pc := 960) (l := LL x) (ks := []) (as := [vr 1, vi (I 0 (x + 1))]) (st := [vi (I 0 (x + 1)), vr 1]) (st' := []) rfl (rcL1 b) rfl) : ev 234 960 (LL x) [vi (I 0 (x + 1)), vr 1] (hp L b I J) = (evc 115 [vr 1, vi (I 0 (x + 1))] (hp L b I J)).bind (fun q => ev 234 963 (LL x) [q.1] q.2)).trans ?_
  rw [q1]
  refine (ev_go rfl rfl : ev 234 963 (LL x) [vi v] (hp L b1 I1 J1) = ev 234 964 (LL x) [vr 115, vi v] (hp L b1 I1 J1)).trans ?_
  refine (LA (p := 964) (j := 1) (st := [vr 115, vi v]) rfl rfl rfl rfl rfl (by decide) hx hL).trans ?_
  refine ((ev_callV (M := 234) (pc := 969) (l := LL x) (ks := []) (as := [vr 115, vi (I1 0 (x + 1))]) (st := [vi (I1 0 (x + 1)), vr 115, vi v]) (st' := [vi v]) rfl (rcL115 b1) rfl) : ev 234 969 (LL x) [vi (I1 0 (x + 1)), vr 115, vi v] (hp L b1 I1 J1) = (evc 200 [vr 115, vi (I1 0 (x + 1))] (hp L b1 I1 J1)).bind (fun q => ev 234 972 (LL x) [q.1, vi v] q.2)).trans ?_
  rw [z, q2]
  exact (ev_if (c := v = v) rfl rfl : ev 234 972 (LL x) [vi v, vi v] (hp L b1 I2 J1) = if v = v then ev 234 1302 (LL x) [] (hp L b1 I2 J1) else ev 234 975 (LL x) [] (hp L b1 I2 J1)).trans (if_pos rfl)
set_option maxRecDepth 100000 in
theorem lw_27 (h : Rel I J I) (hx : 0 ≤ x ∧ x + 4 ≤ L) (hL : L ≤ 2048) : ∃ (b1 : Bool) (I1 : AI) (J1 : AJ), ev 234 977 (LL x) [] (hp L b I J) = ev 234 1302 (LL x) [] (hp L b1 I1 J1) ∧ Rel I1 J1 I1 ∧ I1 0 = I 0 := by
  obtain ⟨v, b1, I1, J1, I2, q1, q2, q3, q4⟩ := op_becomes (I 0 (x + 1)) L b I J h
  have z : I1 0 = I 0 := evc_0 q1
  refine ⟨b1, I2, J1, ?_, q3, q4⟩
  refine (ev_go rfl rfl : ev 234 977 (LL x) [] (hp L b I J) = ev 234 978 (LL x) [vr 1] (hp L b I J)).trans ?_
  refine (LA (p := 978) (j := 1) (st := [vr 1]) rfl rfl rfl rfl rfl (by decide) hx hL).trans ?_
  refine ((ev_callV (M := 234) (pc := 983) (l := LL x) (ks := []) (as := [vr 1, vi (I 0 (x + 1))]) (st := [vi (I 0 (x + 1)), vr 1]) (st' := []) rfl (rcL1 b) rfl) : ev 234 983 (LL x) [vi (I 0 (x + 1)), vr 1] (hp L b I J) = (evc 116 [vr 1, vi (I 0 (x + 1))] (hp L b I J)).bind (fun q => ev 234 986 (LL x) [q.1] q.2)).trans ?_
  rw [q1]
  refine (ev_go rfl rfl : ev 234 986 (LL x) [vi v] (hp L b1 I1 J1) = ev 234 987 (LL x) [vr 115, vi v] (hp L b1 I1 J1)).trans ?_
  refine (LA (p := 987) (j := 1) (st := [vr 115, vi v]) rfl rfl rfl rfl rfl (by decide) hx hL).trans ?_
  refine ((ev_callV (M := 234) (pc := 992) (l := LL x) (ks := []) (as := [vr 115, vi (I1 0 (x + 1))]) (st := [vi (I1 0 (x + 1)), vr 115, vi v]) (st' := [vi v]) rfl (rcL115 b1) rfl) : ev 234 992 (LL x) [vi (I1 0 (x + 1)), vr 115, vi v] (hp L b1 I1 J1) = (evc 201 [vr 115, vi (I1 0 (x + 1))] (hp L b1 I1 J1)).bind (fun q => ev 234 995 (LL x) [q.1, vi v] q.2)).trans ?_
  rw [z, q2]
  exact (ev_if (c := v = v) rfl rfl : ev 234 995 (LL x) [vi v, vi v] (hp L b1 I2 J1) = if v = v then ev 234 1302 (LL x) [] (hp L b1 I2 J1) else ev 234 998 (LL x) [] (hp L b1 I2 J1)).trans (if_pos rfl)
set_option maxRecDepth 100000 in
theorem lw_28 (h : Rel I J I) (hx : 0 ≤ x ∧ x + 4 ≤ L) (hL : L ≤ 2048) : ∃ (b1 : Bool) (I1 : AI) (J1 : AJ), ev 234 1000 (LL x) [] (hp L b I J) = ev 234 1302 (LL x) [] (hp L b1 I1 J1) ∧ Rel I1 J1 I1 ∧ I1 0 = I 0 := by
  obtain ⟨v, b1, I1, J1, I2, q1, q2, q3, q4⟩ := op_mend (I 0 (x + 1)) (I 0 (x + 2)) L b I J h
  have z : I1 0 = I 0 := evc_0 q1
  refine ⟨b1, I2, J1, ?_, q3, q4⟩
  refine (ev_go rfl rfl : ev 234 1000 (LL x) [] (hp L b I J) = ev 234 1001 (LL x) [vr 1] (hp L b I J)).trans ?_
  refine (LA (p := 1001) (j := 1) (st := [vr 1]) rfl rfl rfl rfl rfl (by decide) hx hL).trans ?_
  refine (LA (p := 1006) (j := 2) (st := [vi (I 0 (x + 1)), vr 1]) rfl rfl rfl rfl rfl (by decide) hx hL).trans ?_
  refine ((ev_callV (M := 234) (pc := 1011) (l := LL x) (ks := []) (as := [vr 1, vi (I 0 (x + 1)), vi (I 0 (x + 2))]) (st := [vi (I 0 (x + 2)), vi (I 0 (x + 1)), vr 1]) (st' := []) rfl (rcL1 b) rfl) : ev 234 1011 (LL x) [vi (I 0 (x + 2)), vi (I 0 (x + 1)), vr 1] (hp L b I J) = (evc 117 [vr 1, vi (I 0 (x + 1)), vi (I 0 (x + 2))] (hp L b I J)).bind (fun q => ev 234 1014 (LL x) [q.1] q.2)).trans ?_
  rw [q1]
  refine (ev_go rfl rfl : ev 234 1014 (LL x) [vi v] (hp L b1 I1 J1) = ev 234 1015 (LL x) [vr 115, vi v] (hp L b1 I1 J1)).trans ?_
  refine (LA (p := 1015) (j := 1) (st := [vr 115, vi v]) rfl rfl rfl rfl rfl (by decide) hx hL).trans ?_
  refine (LA (p := 1020) (j := 2) (st := [vi (I1 0 (x + 1)), vr 115, vi v]) rfl rfl rfl rfl rfl (by decide) hx hL).trans ?_
  refine ((ev_callV (M := 234) (pc := 1025) (l := LL x) (ks := []) (as := [vr 115, vi (I1 0 (x + 1)), vi (I1 0 (x + 2))]) (st := [vi (I1 0 (x + 2)), vi (I1 0 (x + 1)), vr 115, vi v]) (st' := [vi v]) rfl (rcL115 b1) rfl) : ev 234 1025 (LL x) [vi (I1 0 (x + 2)), vi (I1 0 (x + 1)), vr 115, vi v] (hp L b1 I1 J1) = (evc 202 [vr 115, vi (I1 0 (x + 1)), vi (I1 0 (x + 2))] (hp L b1 I1 J1)).bind (fun q => ev 234 1028 (LL x) [q.1, vi v] q.2)).trans ?_
  rw [z, q2]
  exact (ev_if (c := v = v) rfl rfl : ev 234 1028 (LL x) [vi v, vi v] (hp L b1 I2 J1) = if v = v then ev 234 1302 (LL x) [] (hp L b1 I2 J1) else ev 234 1031 (LL x) [] (hp L b1 I2 J1)).trans (if_pos rfl)
set_option maxRecDepth 100000 in
theorem lw_29 (h : Rel I J I) (hx : 0 ≤ x ∧ x + 4 ≤ L) (hL : L ≤ 2048) : ∃ (b1 : Bool) (I1 : AI) (J1 : AJ), ev 234 1033 (LL x) [] (hp L b I J) = ev 234 1302 (LL x) [] (hp L b1 I1 J1) ∧ Rel I1 J1 I1 ∧ I1 0 = I 0 := by
  obtain ⟨v, b1, I1, J1, I2, q1, q2, q3, q4⟩ := op_joined  L b I J h
  have z : I1 0 = I 0 := evc_0 q1
  refine ⟨b1, I2, J1, ?_, q3, q4⟩
  refine (ev_go rfl rfl : ev 234 1033 (LL x) [] (hp L b I J) = ev 234 1034 (LL x) [vr 1] (hp L b I J)).trans ?_
  refine ((ev_callV (M := 234) (pc := 1034) (l := LL x) (ks := []) (as := [vr 1]) (st := [vr 1]) (st' := []) rfl (rcL1 b) rfl) : ev 234 1034 (LL x) [vr 1] (hp L b I J) = (evc 118 [vr 1] (hp L b I J)).bind (fun q => ev 234 1037 (LL x) [q.1] q.2)).trans ?_
  rw [q1]
  refine (ev_go rfl rfl : ev 234 1037 (LL x) [vi v] (hp L b1 I1 J1) = ev 234 1038 (LL x) [vr 115, vi v] (hp L b1 I1 J1)).trans ?_
  refine ((ev_callV (M := 234) (pc := 1038) (l := LL x) (ks := []) (as := [vr 115]) (st := [vr 115, vi v]) (st' := [vi v]) rfl (rcL115 b1) rfl) : ev 234 1038 (LL x) [vr 115, vi v] (hp L b1 I1 J1) = (evc 203 [vr 115] (hp L b1 I1 J1)).bind (fun q => ev 234 1041 (LL x) [q.1, vi v] q.2)).trans ?_
  rw [q2]
  exact (ev_if (c := v = v) rfl rfl : ev 234 1041 (LL x) [vi v, vi v] (hp L b1 I2 J1) = if v = v then ev 234 1302 (LL x) [] (hp L b1 I2 J1) else ev 234 1044 (LL x) [] (hp L b1 I2 J1)).trans (if_pos rfl)
set_option maxRecDepth 100000 in
theorem lw_30 (h : Rel I J I) (hx : 0 ≤ x ∧ x + 4 ≤ L) (hL : L ≤ 2048) : ∃ (b1 : Bool) (I1 : AI) (J1 : AJ), ev 234 1046 (LL x) [] (hp L b I J) = ev 234 1302 (LL x) [] (hp L b1 I1 J1) ∧ Rel I1 J1 I1 ∧ I1 0 = I 0 := by
  obtain ⟨v, b1, I1, J1, I2, q1, q2, q3, q4⟩ := op_blame (I 0 (x + 1)) (I 0 (x + 2)) (I 0 (x + 3)) L b I J h
  have z : I1 0 = I 0 := evc_0 q1
  refine ⟨b1, I2, J1, ?_, q3, q4⟩
  refine (ev_go rfl rfl : ev 234 1046 (LL x) [] (hp L b I J) = ev 234 1047 (LL x) [vr 1] (hp L b I J)).trans ?_
  refine (LA (p := 1047) (j := 1) (st := [vr 1]) rfl rfl rfl rfl rfl (by decide) hx hL).trans ?_
  refine (LA (p := 1052) (j := 2) (st := [vi (I 0 (x + 1)), vr 1]) rfl rfl rfl rfl rfl (by decide) hx hL).trans ?_
  refine (LA (p := 1057) (j := 3) (st := [vi (I 0 (x + 2)), vi (I 0 (x + 1)), vr 1]) rfl rfl rfl rfl rfl (by decide) hx hL).trans ?_
  refine ((ev_callV (M := 234) (pc := 1062) (l := LL x) (ks := []) (as := [vr 1, vi (I 0 (x + 1)), vi (I 0 (x + 2)), vi (I 0 (x + 3))]) (st := [vi (I 0 (x + 3)), vi (I 0 (x + 2)), vi (I 0 (x + 1)), vr 1]) (st' := []) rfl (rcL1 b) rfl) : ev 234 1062 (LL x) [vi (I 0 (x + 3)), vi (I 0 (x + 2)), vi (I 0 (x + 1)), vr 1] (hp L b I J) = (evc 119 [vr 1, vi (I 0 (x + 1)), vi (I 0 (x + 2)), vi (I 0 (x + 3))] (hp L b I J)).bind (fun q => ev 234 1065 (LL x) [q.1] q.2)).trans ?_
  rw [q1]
  refine (ev_go rfl rfl : ev 234 1065 (LL x) [vi v] (hp L b1 I1 J1) = ev 234 1066 (LL x) [vr 115, vi v] (hp L b1 I1 J1)).trans ?_
  refine (LA (p := 1066) (j := 1) (st := [vr 115, vi v]) rfl rfl rfl rfl rfl (by decide) hx hL).trans ?_
  refine (LA (p := 1071) (j := 2) (st := [vi (I1 0 (x + 1)), vr 115, vi v]) rfl rfl rfl rfl rfl (by decide) hx hL).trans ?_
  refine (LA (p := 1076) (j := 3) (st := [vi (I1 0 (x + 2)), vi (I1 0 (x + 1)), vr 115, vi v]) rfl rfl rfl rfl rfl (by decide) hx hL).trans ?_
  refine ((ev_callV (M := 234) (pc := 1081) (l := LL x) (ks := []) (as := [vr 115, vi (I1 0 (x + 1)), vi (I1 0 (x + 2)), vi (I1 0 (x + 3))]) (st := [vi (I1 0 (x + 3)), vi (I1 0 (x + 2)), vi (I1 0 (x + 1)), vr 115, vi v]) (st' := [vi v]) rfl (rcL115 b1) rfl) : ev 234 1081 (LL x) [vi (I1 0 (x + 3)), vi (I1 0 (x + 2)), vi (I1 0 (x + 1)), vr 115, vi v] (hp L b1 I1 J1) = (evc 204 [vr 115, vi (I1 0 (x + 1)), vi (I1 0 (x + 2)), vi (I1 0 (x + 3))] (hp L b1 I1 J1)).bind (fun q => ev 234 1084 (LL x) [q.1, vi v] q.2)).trans ?_
  rw [z, q2]
  exact (ev_if (c := v = v) rfl rfl : ev 234 1084 (LL x) [vi v, vi v] (hp L b1 I2 J1) = if v = v then ev 234 1302 (LL x) [] (hp L b1 I2 J1) else ev 234 1087 (LL x) [] (hp L b1 I2 J1)).trans (if_pos rfl)
set_option maxRecDepth 100000 in
theorem lw_31 (h : Rel I J I) (hx : 0 ≤ x ∧ x + 4 ≤ L) (hL : L ≤ 2048) : ∃ (b1 : Bool) (I1 : AI) (J1 : AJ), ev 234 1089 (LL x) [] (hp L b I J) = ev 234 1302 (LL x) [] (hp L b1 I1 J1) ∧ Rel I1 J1 I1 ∧ I1 0 = I 0 := by
  obtain ⟨v, b1, I1, J1, I2, q1, q2, q3, q4⟩ := op_renamed (I 0 (x + 1)) (I 0 (x + 2)) L b I J h
  have z : I1 0 = I 0 := evc_0 q1
  refine ⟨b1, I2, J1, ?_, q3, q4⟩
  refine (ev_go rfl rfl : ev 234 1089 (LL x) [] (hp L b I J) = ev 234 1090 (LL x) [vr 1] (hp L b I J)).trans ?_
  refine (LA (p := 1090) (j := 1) (st := [vr 1]) rfl rfl rfl rfl rfl (by decide) hx hL).trans ?_
  refine (LA (p := 1095) (j := 2) (st := [vi (I 0 (x + 1)), vr 1]) rfl rfl rfl rfl rfl (by decide) hx hL).trans ?_
  refine ((ev_callV (M := 234) (pc := 1100) (l := LL x) (ks := []) (as := [vr 1, vi (I 0 (x + 1)), vi (I 0 (x + 2))]) (st := [vi (I 0 (x + 2)), vi (I 0 (x + 1)), vr 1]) (st' := []) rfl (rcL1 b) rfl) : ev 234 1100 (LL x) [vi (I 0 (x + 2)), vi (I 0 (x + 1)), vr 1] (hp L b I J) = (evc 120 [vr 1, vi (I 0 (x + 1)), vi (I 0 (x + 2))] (hp L b I J)).bind (fun q => ev 234 1103 (LL x) [q.1] q.2)).trans ?_
  rw [q1]
  refine (ev_go rfl rfl : ev 234 1103 (LL x) [vi v] (hp L b1 I1 J1) = ev 234 1104 (LL x) [vr 115, vi v] (hp L b1 I1 J1)).trans ?_
  refine (LA (p := 1104) (j := 1) (st := [vr 115, vi v]) rfl rfl rfl rfl rfl (by decide) hx hL).trans ?_
  refine (LA (p := 1109) (j := 2) (st := [vi (I1 0 (x + 1)), vr 115, vi v]) rfl rfl rfl rfl rfl (by decide) hx hL).trans ?_
  refine ((ev_callV (M := 234) (pc := 1114) (l := LL x) (ks := []) (as := [vr 115, vi (I1 0 (x + 1)), vi (I1 0 (x + 2))]) (st := [vi (I1 0 (x + 2)), vi (I1 0 (x + 1)), vr 115, vi v]) (st' := [vi v]) rfl (rcL115 b1) rfl) : ev 234 1114 (LL x) [vi (I1 0 (x + 2)), vi (I1 0 (x + 1)), vr 115, vi v] (hp L b1 I1 J1) = (evc 209 [vr 115, vi (I1 0 (x + 1)), vi (I1 0 (x + 2))] (hp L b1 I1 J1)).bind (fun q => ev 234 1117 (LL x) [q.1, vi v] q.2)).trans ?_
  rw [z, q2]
  exact (ev_if (c := v = v) rfl rfl : ev 234 1117 (LL x) [vi v, vi v] (hp L b1 I2 J1) = if v = v then ev 234 1302 (LL x) [] (hp L b1 I2 J1) else ev 234 1120 (LL x) [] (hp L b1 I2 J1)).trans (if_pos rfl)
set_option maxRecDepth 100000 in
theorem lw_32 (h : Rel I J I) (hx : 0 ≤ x ∧ x + 4 ≤ L) (hL : L ≤ 2048) : ∃ (b1 : Bool) (I1 : AI) (J1 : AJ), ev 234 1122 (LL x) [] (hp L b I J) = ev 234 1302 (LL x) [] (hp L b1 I1 J1) ∧ Rel I1 J1 I1 ∧ I1 0 = I 0 := by
  obtain ⟨v, b1, I1, J1, I2, q1, q2, q3, q4⟩ := op_mark (I 0 (x + 1)) (I 0 (x + 2)) L b I J h
  have z : I1 0 = I 0 := evc_0 q1
  refine ⟨b1, I2, J1, ?_, q3, q4⟩
  refine (ev_go rfl rfl : ev 234 1122 (LL x) [] (hp L b I J) = ev 234 1123 (LL x) [vr 1] (hp L b I J)).trans ?_
  refine (LA (p := 1123) (j := 1) (st := [vr 1]) rfl rfl rfl rfl rfl (by decide) hx hL).trans ?_
  refine (LA (p := 1128) (j := 2) (st := [vi (I 0 (x + 1)), vr 1]) rfl rfl rfl rfl rfl (by decide) hx hL).trans ?_
  refine ((ev_callV (M := 234) (pc := 1133) (l := LL x) (ks := []) (as := [vr 1, vi (I 0 (x + 1)), vi (I 0 (x + 2))]) (st := [vi (I 0 (x + 2)), vi (I 0 (x + 1)), vr 1]) (st' := []) rfl (rcL1 b) rfl) : ev 234 1133 (LL x) [vi (I 0 (x + 2)), vi (I 0 (x + 1)), vr 1] (hp L b I J) = (evc 121 [vr 1, vi (I 0 (x + 1)), vi (I 0 (x + 2))] (hp L b I J)).bind (fun q => ev 234 1136 (LL x) [q.1] q.2)).trans ?_
  rw [q1]
  refine (ev_go rfl rfl : ev 234 1136 (LL x) [vi v] (hp L b1 I1 J1) = ev 234 1137 (LL x) [vr 115, vi v] (hp L b1 I1 J1)).trans ?_
  refine (LA (p := 1137) (j := 1) (st := [vr 115, vi v]) rfl rfl rfl rfl rfl (by decide) hx hL).trans ?_
  refine (LA (p := 1142) (j := 2) (st := [vi (I1 0 (x + 1)), vr 115, vi v]) rfl rfl rfl rfl rfl (by decide) hx hL).trans ?_
  refine ((ev_callV (M := 234) (pc := 1147) (l := LL x) (ks := []) (as := [vr 115, vi (I1 0 (x + 1)), vi (I1 0 (x + 2))]) (st := [vi (I1 0 (x + 2)), vi (I1 0 (x + 1)), vr 115, vi v]) (st' := [vi v]) rfl (rcL115 b1) rfl) : ev 234 1147 (LL x) [vi (I1 0 (x + 2)), vi (I1 0 (x + 1)), vr 115, vi v] (hp L b1 I1 J1) = (evc 211 [vr 115, vi (I1 0 (x + 1)), vi (I1 0 (x + 2))] (hp L b1 I1 J1)).bind (fun q => ev 234 1150 (LL x) [q.1, vi v] q.2)).trans ?_
  rw [z, q2]
  exact (ev_if (c := v = v) rfl rfl : ev 234 1150 (LL x) [vi v, vi v] (hp L b1 I2 J1) = if v = v then ev 234 1302 (LL x) [] (hp L b1 I2 J1) else ev 234 1153 (LL x) [] (hp L b1 I2 J1)).trans (if_pos rfl)
set_option maxRecDepth 100000 in
theorem lw_33 (h : Rel I J I) (hx : 0 ≤ x ∧ x + 4 ≤ L) (hL : L ≤ 2048) : ∃ (b1 : Bool) (I1 : AI) (J1 : AJ), ev 234 1155 (LL x) [] (hp L b I J) = ev 234 1302 (LL x) [] (hp L b1 I1 J1) ∧ Rel I1 J1 I1 ∧ I1 0 = I 0 := by
  obtain ⟨v, b1, I1, J1, I2, q1, q2, q3, q4⟩ := op_question  L b I J h
  have z : I1 0 = I 0 := evc_0 q1
  refine ⟨b1, I2, J1, ?_, q3, q4⟩
  refine (ev_go rfl rfl : ev 234 1155 (LL x) [] (hp L b I J) = ev 234 1156 (LL x) [vr 1] (hp L b I J)).trans ?_
  refine ((ev_callV (M := 234) (pc := 1156) (l := LL x) (ks := []) (as := [vr 1]) (st := [vr 1]) (st' := []) rfl (rcL1 b) rfl) : ev 234 1156 (LL x) [vr 1] (hp L b I J) = (evc 122 [vr 1] (hp L b I J)).bind (fun q => ev 234 1159 (LL x) [q.1] q.2)).trans ?_
  rw [q1]
  refine (ev_go rfl rfl : ev 234 1159 (LL x) [vi v] (hp L b1 I1 J1) = ev 234 1160 (LL x) [vr 115, vi v] (hp L b1 I1 J1)).trans ?_
  refine ((ev_callV (M := 234) (pc := 1160) (l := LL x) (ks := []) (as := [vr 115]) (st := [vr 115, vi v]) (st' := [vi v]) rfl (rcL115 b1) rfl) : ev 234 1160 (LL x) [vr 115, vi v] (hp L b1 I1 J1) = (evc 214 [vr 115] (hp L b1 I1 J1)).bind (fun q => ev 234 1163 (LL x) [q.1, vi v] q.2)).trans ?_
  rw [q2]
  exact (ev_if (c := v = v) rfl rfl : ev 234 1163 (LL x) [vi v, vi v] (hp L b1 I2 J1) = if v = v then ev 234 1302 (LL x) [] (hp L b1 I2 J1) else ev 234 1166 (LL x) [] (hp L b1 I2 J1)).trans (if_pos rfl)
set_option maxRecDepth 100000 in
theorem lw_34 (h : Rel I J I) (hx : 0 ≤ x ∧ x + 4 ≤ L) (hL : L ≤ 2048) : ∃ (b1 : Bool) (I1 : AI) (J1 : AJ), ev 234 1168 (LL x) [] (hp L b I J) = ev 234 1302 (LL x) [] (hp L b1 I1 J1) ∧ Rel I1 J1 I1 ∧ I1 0 = I 0 := by
  obtain ⟨v, b1, I1, J1, I2, q1, q2, q3, q4⟩ := op_ask  L b I J h
  have z : I1 0 = I 0 := evc_0 q1
  refine ⟨b1, I2, J1, ?_, q3, q4⟩
  refine (ev_go rfl rfl : ev 234 1168 (LL x) [] (hp L b I J) = ev 234 1169 (LL x) [vr 1] (hp L b I J)).trans ?_
  refine ((ev_callV (M := 234) (pc := 1169) (l := LL x) (ks := []) (as := [vr 1]) (st := [vr 1]) (st' := []) rfl (rcL1 b) rfl) : ev 234 1169 (LL x) [vr 1] (hp L b I J) = (evc 123 [vr 1] (hp L b I J)).bind (fun q => ev 234 1172 (LL x) [q.1] q.2)).trans ?_
  rw [q1]
  refine (ev_go rfl rfl : ev 234 1172 (LL x) [vi v] (hp L b1 I1 J1) = ev 234 1173 (LL x) [vr 115, vi v] (hp L b1 I1 J1)).trans ?_
  refine ((ev_callV (M := 234) (pc := 1173) (l := LL x) (ks := []) (as := [vr 115]) (st := [vr 115, vi v]) (st' := [vi v]) rfl (rcL115 b1) rfl) : ev 234 1173 (LL x) [vr 115, vi v] (hp L b1 I1 J1) = (evc 215 [vr 115] (hp L b1 I1 J1)).bind (fun q => ev 234 1176 (LL x) [q.1, vi v] q.2)).trans ?_
  rw [q2]
  exact (ev_if (c := v = v) rfl rfl : ev 234 1176 (LL x) [vi v, vi v] (hp L b1 I2 J1) = if v = v then ev 234 1302 (LL x) [] (hp L b1 I2 J1) else ev 234 1179 (LL x) [] (hp L b1 I2 J1)).trans (if_pos rfl)
set_option maxRecDepth 100000 in
theorem lw_35 (h : Rel I J I) (hx : 0 ≤ x ∧ x + 4 ≤ L) (hL : L ≤ 2048) : ∃ (b1 : Bool) (I1 : AI) (J1 : AJ), ev 234 1181 (LL x) [] (hp L b I J) = ev 234 1302 (LL x) [] (hp L b1 I1 J1) ∧ Rel I1 J1 I1 ∧ I1 0 = I 0 := by
  obtain ⟨v, b1, I1, J1, I2, q1, q2, q3, q4⟩ := op_found  L b I J h
  have z : I1 0 = I 0 := evc_0 q1
  refine ⟨b1, I2, J1, ?_, q3, q4⟩
  refine (ev_go rfl rfl : ev 234 1181 (LL x) [] (hp L b I J) = ev 234 1182 (LL x) [vr 1] (hp L b I J)).trans ?_
  refine ((ev_callV (M := 234) (pc := 1182) (l := LL x) (ks := []) (as := [vr 1]) (st := [vr 1]) (st' := []) rfl (rcL1 b) rfl) : ev 234 1182 (LL x) [vr 1] (hp L b I J) = (evc 124 [vr 1] (hp L b I J)).bind (fun q => ev 234 1185 (LL x) [q.1] q.2)).trans ?_
  rw [q1]
  refine (ev_go rfl rfl : ev 234 1185 (LL x) [vi v] (hp L b1 I1 J1) = ev 234 1186 (LL x) [vr 115, vi v] (hp L b1 I1 J1)).trans ?_
  refine ((ev_callV (M := 234) (pc := 1186) (l := LL x) (ks := []) (as := [vr 115]) (st := [vr 115, vi v]) (st' := [vi v]) rfl (rcL115 b1) rfl) : ev 234 1186 (LL x) [vr 115, vi v] (hp L b1 I1 J1) = (evc 216 [vr 115] (hp L b1 I1 J1)).bind (fun q => ev 234 1189 (LL x) [q.1, vi v] q.2)).trans ?_
  rw [q2]
  exact (ev_if (c := v = v) rfl rfl : ev 234 1189 (LL x) [vi v, vi v] (hp L b1 I2 J1) = if v = v then ev 234 1302 (LL x) [] (hp L b1 I2 J1) else ev 234 1192 (LL x) [] (hp L b1 I2 J1)).trans (if_pos rfl)
set_option maxRecDepth 100000 in
theorem lw_36 (h : Rel I J I) (hx : 0 ≤ x ∧ x + 4 ≤ L) (hL : L ≤ 2048) : ∃ (b1 : Bool) (I1 : AI) (J1 : AJ), ev 234 1194 (LL x) [] (hp L b I J) = ev 234 1302 (LL x) [] (hp L b1 I1 J1) ∧ Rel I1 J1 I1 ∧ I1 0 = I 0 := by
  obtain ⟨v, b1, I1, J1, I2, q1, q2, q3, q4⟩ := op_pack  L b I J h
  have z : I1 0 = I 0 := evc_0 q1
  refine ⟨b1, I2, J1, ?_, q3, q4⟩
  refine (ev_go rfl rfl : ev 234 1194 (LL x) [] (hp L b I J) = ev 234 1195 (LL x) [vr 1] (hp L b I J)).trans ?_
  refine ((ev_callV (M := 234) (pc := 1195) (l := LL x) (ks := []) (as := [vr 1]) (st := [vr 1]) (st' := []) rfl (rcL1 b) rfl) : ev 234 1195 (LL x) [vr 1] (hp L b I J) = (evc 125 [vr 1] (hp L b I J)).bind (fun q => ev 234 1198 (LL x) [q.1] q.2)).trans ?_
  rw [q1]
  refine (ev_go rfl rfl : ev 234 1198 (LL x) [vi v] (hp L b1 I1 J1) = ev 234 1199 (LL x) [vr 115, vi v] (hp L b1 I1 J1)).trans ?_
  refine ((ev_callV (M := 234) (pc := 1199) (l := LL x) (ks := []) (as := [vr 115]) (st := [vr 115, vi v]) (st' := [vi v]) rfl (rcL115 b1) rfl) : ev 234 1199 (LL x) [vr 115, vi v] (hp L b1 I1 J1) = (evc 220 [vr 115] (hp L b1 I1 J1)).bind (fun q => ev 234 1202 (LL x) [q.1, vi v] q.2)).trans ?_
  rw [q2]
  exact (ev_if (c := v = v) rfl rfl : ev 234 1202 (LL x) [vi v, vi v] (hp L b1 I2 J1) = if v = v then ev 234 1302 (LL x) [] (hp L b1 I2 J1) else ev 234 1205 (LL x) [] (hp L b1 I2 J1)).trans (if_pos rfl)
set_option maxRecDepth 100000 in
theorem lw_37 (h : Rel I J I) (hx : 0 ≤ x ∧ x + 4 ≤ L) (hL : L ≤ 2048) : ∃ (b1 : Bool) (I1 : AI) (J1 : AJ), ev 234 1207 (LL x) [] (hp L b I J) = ev 234 1302 (LL x) [] (hp L b1 I1 J1) ∧ Rel I1 J1 I1 ∧ I1 0 = I 0 := by
  obtain ⟨v, b1, I1, J1, I2, q1, q2, q3, q4⟩ := op_stem (I 0 (x + 1)) L b I J h
  have z : I1 0 = I 0 := evc_0 q1
  refine ⟨b1, I2, J1, ?_, q3, q4⟩
  refine (ev_go rfl rfl : ev 234 1207 (LL x) [] (hp L b I J) = ev 234 1208 (LL x) [vr 1] (hp L b I J)).trans ?_
  refine (LA (p := 1208) (j := 1) (st := [vr 1]) rfl rfl rfl rfl rfl (by decide) hx hL).trans ?_
  refine ((ev_callV (M := 234) (pc := 1213) (l := LL x) (ks := []) (as := [vr 1, vi (I 0 (x + 1))]) (st := [vi (I 0 (x + 1)), vr 1]) (st' := []) rfl (rcL1 b) rfl) : ev 234 1213 (LL x) [vi (I 0 (x + 1)), vr 1] (hp L b I J) = (evc 126 [vr 1, vi (I 0 (x + 1))] (hp L b I J)).bind (fun q => ev 234 1216 (LL x) [q.1] q.2)).trans ?_
  rw [q1]
  refine (ev_go rfl rfl : ev 234 1216 (LL x) [vi v] (hp L b1 I1 J1) = ev 234 1217 (LL x) [vr 115, vi v] (hp L b1 I1 J1)).trans ?_
  refine (LA (p := 1217) (j := 1) (st := [vr 115, vi v]) rfl rfl rfl rfl rfl (by decide) hx hL).trans ?_
  refine ((ev_callV (M := 234) (pc := 1222) (l := LL x) (ks := []) (as := [vr 115, vi (I1 0 (x + 1))]) (st := [vi (I1 0 (x + 1)), vr 115, vi v]) (st' := [vi v]) rfl (rcL115 b1) rfl) : ev 234 1222 (LL x) [vi (I1 0 (x + 1)), vr 115, vi v] (hp L b1 I1 J1) = (evc 221 [vr 115, vi (I1 0 (x + 1))] (hp L b1 I1 J1)).bind (fun q => ev 234 1225 (LL x) [q.1, vi v] q.2)).trans ?_
  rw [z, q2]
  exact (ev_if (c := v = v) rfl rfl : ev 234 1225 (LL x) [vi v, vi v] (hp L b1 I2 J1) = if v = v then ev 234 1302 (LL x) [] (hp L b1 I2 J1) else ev 234 1228 (LL x) [] (hp L b1 I2 J1)).trans (if_pos rfl)
set_option maxRecDepth 100000 in
theorem lw_38 (h : Rel I J I) (hx : 0 ≤ x ∧ x + 4 ≤ L) (hL : L ≤ 2048) : ∃ (b1 : Bool) (I1 : AI) (J1 : AJ), ev 234 1230 (LL x) [] (hp L b I J) = ev 234 1302 (LL x) [] (hp L b1 I1 J1) ∧ Rel I1 J1 I1 ∧ I1 0 = I 0 := by
  obtain ⟨v, b1, I1, J1, I2, q1, q2, q3, q4⟩ := op_units  L b I J h
  have z : I1 0 = I 0 := evc_0 q1
  refine ⟨b1, I2, J1, ?_, q3, q4⟩
  refine (ev_go rfl rfl : ev 234 1230 (LL x) [] (hp L b I J) = ev 234 1231 (LL x) [vr 1] (hp L b I J)).trans ?_
  refine ((ev_callV (M := 234) (pc := 1231) (l := LL x) (ks := []) (as := [vr 1]) (st := [vr 1]) (st' := []) rfl (rcL1 b) rfl) : ev 234 1231 (LL x) [vr 1] (hp L b I J) = (evc 127 [vr 1] (hp L b I J)).bind (fun q => ev 234 1234 (LL x) [q.1] q.2)).trans ?_
  rw [q1]
  refine (ev_go rfl rfl : ev 234 1234 (LL x) [vi v] (hp L b1 I1 J1) = ev 234 1235 (LL x) [vr 115, vi v] (hp L b1 I1 J1)).trans ?_
  refine ((ev_callV (M := 234) (pc := 1235) (l := LL x) (ks := []) (as := [vr 115]) (st := [vr 115, vi v]) (st' := [vi v]) rfl (rcL115 b1) rfl) : ev 234 1235 (LL x) [vr 115, vi v] (hp L b1 I1 J1) = (evc 222 [vr 115] (hp L b1 I1 J1)).bind (fun q => ev 234 1238 (LL x) [q.1, vi v] q.2)).trans ?_
  rw [q2]
  exact (ev_if (c := v = v) rfl rfl : ev 234 1238 (LL x) [vi v, vi v] (hp L b1 I2 J1) = if v = v then ev 234 1302 (LL x) [] (hp L b1 I2 J1) else ev 234 1241 (LL x) [] (hp L b1 I2 J1)).trans (if_pos rfl)
set_option maxRecDepth 100000 in
theorem lw_39 (h : Rel I J I) (hx : 0 ≤ x ∧ x + 4 ≤ L) (hL : L ≤ 2048) : ∃ (b1 : Bool) (I1 : AI) (J1 : AJ), ev 234 1243 (LL x) [] (hp L b I J) = ev 234 1302 (LL x) [] (hp L b1 I1 J1) ∧ Rel I1 J1 I1 ∧ I1 0 = I 0 := by
  obtain ⟨v, b1, I1, J1, I2, q1, q2, q3, q4⟩ := op_sweep  L b I J h
  have z : I1 0 = I 0 := evc_0 q1
  refine ⟨b1, I2, J1, ?_, q3, q4⟩
  refine (ev_go rfl rfl : ev 234 1243 (LL x) [] (hp L b I J) = ev 234 1244 (LL x) [vr 1] (hp L b I J)).trans ?_
  refine ((ev_callV (M := 234) (pc := 1244) (l := LL x) (ks := []) (as := [vr 1]) (st := [vr 1]) (st' := []) rfl (rcL1 b) rfl) : ev 234 1244 (LL x) [vr 1] (hp L b I J) = (evc 128 [vr 1] (hp L b I J)).bind (fun q => ev 234 1247 (LL x) [q.1] q.2)).trans ?_
  rw [q1]
  refine (ev_go rfl rfl : ev 234 1247 (LL x) [vi v] (hp L b1 I1 J1) = ev 234 1248 (LL x) [vr 115, vi v] (hp L b1 I1 J1)).trans ?_
  refine ((ev_callV (M := 234) (pc := 1248) (l := LL x) (ks := []) (as := [vr 115]) (st := [vr 115, vi v]) (st' := [vi v]) rfl (rcL115 b1) rfl) : ev 234 1248 (LL x) [vr 115, vi v] (hp L b1 I1 J1) = (evc 225 [vr 115] (hp L b1 I1 J1)).bind (fun q => ev 234 1251 (LL x) [q.1, vi v] q.2)).trans ?_
  rw [q2]
  exact (ev_if (c := v = v) rfl rfl : ev 234 1251 (LL x) [vi v, vi v] (hp L b1 I2 J1) = if v = v then ev 234 1302 (LL x) [] (hp L b1 I2 J1) else ev 234 1254 (LL x) [] (hp L b1 I2 J1)).trans (if_pos rfl)
set_option maxRecDepth 100000 in
theorem lw_40 (h : Rel I J I) (hx : 0 ≤ x ∧ x + 4 ≤ L) (hL : L ≤ 2048) : ∃ (b1 : Bool) (I1 : AI) (J1 : AJ), ev 234 1256 (LL x) [] (hp L b I J) = ev 234 1302 (LL x) [] (hp L b1 I1 J1) ∧ Rel I1 J1 I1 ∧ I1 0 = I 0 := by
  obtain ⟨v, b1, I1, J1, I2, q1, q2, q3, q4⟩ := op_lose (I 0 (x + 1)) L b I J h
  have z : I1 0 = I 0 := evc_0 q1
  refine ⟨b1, I2, J1, ?_, q3, q4⟩
  refine (ev_go rfl rfl : ev 234 1256 (LL x) [] (hp L b I J) = ev 234 1257 (LL x) [vr 1] (hp L b I J)).trans ?_
  refine (LA (p := 1257) (j := 1) (st := [vr 1]) rfl rfl rfl rfl rfl (by decide) hx hL).trans ?_
  refine ((ev_callV (M := 234) (pc := 1262) (l := LL x) (ks := []) (as := [vr 1, vi (I 0 (x + 1))]) (st := [vi (I 0 (x + 1)), vr 1]) (st' := []) rfl (rcL1 b) rfl) : ev 234 1262 (LL x) [vi (I 0 (x + 1)), vr 1] (hp L b I J) = (evc 129 [vr 1, vi (I 0 (x + 1))] (hp L b I J)).bind (fun q => ev 234 1265 (LL x) [q.1] q.2)).trans ?_
  rw [q1]
  refine (ev_go rfl rfl : ev 234 1265 (LL x) [vi v] (hp L b1 I1 J1) = ev 234 1266 (LL x) [vr 115, vi v] (hp L b1 I1 J1)).trans ?_
  refine (LA (p := 1266) (j := 1) (st := [vr 115, vi v]) rfl rfl rfl rfl rfl (by decide) hx hL).trans ?_
  refine ((ev_callV (M := 234) (pc := 1271) (l := LL x) (ks := []) (as := [vr 115, vi (I1 0 (x + 1))]) (st := [vi (I1 0 (x + 1)), vr 115, vi v]) (st' := [vi v]) rfl (rcL115 b1) rfl) : ev 234 1271 (LL x) [vi (I1 0 (x + 1)), vr 115, vi v] (hp L b1 I1 J1) = (evc 226 [vr 115, vi (I1 0 (x + 1))] (hp L b1 I1 J1)).bind (fun q => ev 234 1274 (LL x) [q.1, vi v] q.2)).trans ?_
  rw [z, q2]
  exact (ev_if (c := v = v) rfl rfl : ev 234 1274 (LL x) [vi v, vi v] (hp L b1 I2 J1) = if v = v then ev 234 1302 (LL x) [] (hp L b1 I2 J1) else ev 234 1277 (LL x) [] (hp L b1 I2 J1)).trans (if_pos rfl)
set_option maxRecDepth 100000 in
theorem lw_41 (h : Rel I J I) (hx : 0 ≤ x ∧ x + 4 ≤ L) (hL : L ≤ 2048) : ∃ (b1 : Bool) (I1 : AI) (J1 : AJ), ev 234 1279 (LL x) [] (hp L b I J) = ev 234 1302 (LL x) [] (hp L b1 I1 J1) ∧ Rel I1 J1 I1 ∧ I1 0 = I 0 := by
  obtain ⟨v, b1, I1, J1, I2, q1, q2, q3, q4⟩ := op_count (I 0 (x + 1)) L b I J h
  have z : I1 0 = I 0 := evc_0 q1
  refine ⟨b1, I2, J1, ?_, q3, q4⟩
  refine (ev_go rfl rfl : ev 234 1279 (LL x) [] (hp L b I J) = ev 234 1280 (LL x) [vr 1] (hp L b I J)).trans ?_
  refine (LA (p := 1280) (j := 1) (st := [vr 1]) rfl rfl rfl rfl rfl (by decide) hx hL).trans ?_
  refine ((ev_callV (M := 234) (pc := 1285) (l := LL x) (ks := []) (as := [vr 1, vi (I 0 (x + 1))]) (st := [vi (I 0 (x + 1)), vr 1]) (st' := []) rfl (rcL1 b) rfl) : ev 234 1285 (LL x) [vi (I 0 (x + 1)), vr 1] (hp L b I J) = (evc 130 [vr 1, vi (I 0 (x + 1))] (hp L b I J)).bind (fun q => ev 234 1288 (LL x) [q.1] q.2)).trans ?_
  rw [q1]
  refine (ev_go rfl rfl : ev 234 1288 (LL x) [vi v] (hp L b1 I1 J1) = ev 234 1289 (LL x) [vr 115, vi v] (hp L b1 I1 J1)).trans ?_
  refine (LA (p := 1289) (j := 1) (st := [vr 115, vi v]) rfl rfl rfl rfl rfl (by decide) hx hL).trans ?_
  refine ((ev_callV (M := 234) (pc := 1294) (l := LL x) (ks := []) (as := [vr 115, vi (I1 0 (x + 1))]) (st := [vi (I1 0 (x + 1)), vr 115, vi v]) (st' := [vi v]) rfl (rcL115 b1) rfl) : ev 234 1294 (LL x) [vi (I1 0 (x + 1)), vr 115, vi v] (hp L b1 I1 J1) = (evc 228 [vr 115, vi (I1 0 (x + 1))] (hp L b1 I1 J1)).bind (fun q => ev 234 1297 (LL x) [q.1, vi v] q.2)).trans ?_
  rw [z, q2]
  exact (ev_if (c := v = v) rfl rfl : ev 234 1297 (LL x) [vi v, vi v] (hp L b1 I2 J1) = if v = v then ev 234 1302 (LL x) [] (hp L b1 I2 J1) else ev 234 1300 (LL x) [] (hp L b1 I2 J1)).trans (if_pos rfl)
end
