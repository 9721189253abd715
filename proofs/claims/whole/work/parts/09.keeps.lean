def sz (l : List (Nat × Nat)) : Nat := (l.map Prod.snd).sum
/-- what a step keeps -/
def Kp (h h' : Hp) : Prop := HpOK h' ∧ (∃ x, h'.1 = h.1 ++ x) ∧ ∀ j, h'.2.1 0 j = h.2.1 0 j
theorem Kp.rf {h : Hp} (hh : HpOK h) : Kp h h := ⟨hh, ⟨[], (List.append_nil _).symm⟩, fun _ => rfl⟩
theorem Kp.tr {a b c : Hp} (h1 : Kp a b) (h2 : Kp b c) : Kp a c := by
  obtain ⟨-, ⟨x, hx⟩, h3⟩ := h1
  obtain ⟨q, ⟨y, hy⟩, h4⟩ := h2
  exact ⟨q, ⟨x ++ y, by rw [hy, hx, List.append_assoc]⟩, fun j => (h4 j).trans (h3 j)⟩
theorem Kp.upI {h : Hp} (hh : HpOK h) {a : Nat} {i x : Int} (h0 : 0 < a) (ha : a < h.1.length) (hx : inR x) : Kp h (h.1, upI h.2.1 a i x, h.2.2.1, h.2.2.2) := by
  refine ⟨⟨hh.1, fun k j => ?_, fun k hk j => ?_⟩, ⟨[], (List.append_nil _).symm⟩, fun j => ?_⟩
  · show inR (if k = a ∧ j = i then x else h.2.1 k j)
    split
    · exact hx
    · exact hh.2.1 k j
  · have hk : h.1.length ≤ k := hk
    refine ⟨?_, (hh.2.2 k hk j).2⟩
    show (if k = a ∧ j = i then x else h.2.1 k j) = 0
    rw [if_neg (fun e => by have := e.1; omega)]
    exact (hh.2.2 k hk j).1
  · show (if 0 = a ∧ j = i then x else h.2.1 0 j) = h.2.1 0 j
    rw [if_neg (fun e => by have := e.1; omega)]
theorem Kp.upJ {h : Hp} (hh : HpOK h) {a : Nat} {i : Int} {x : BitVec 64} (ha : a < h.1.length) : Kp h (h.1, h.2.1, upJ h.2.2.1 a i x, h.2.2.2) := by
  refine ⟨⟨hh.1, hh.2.1, fun k hk j => ?_⟩, ⟨[], (List.append_nil _).symm⟩, fun j => rfl⟩
  have hk : h.1.length ≤ k := hk
  refine ⟨(hh.2.2 k hk j).1, ?_, (hh.2.2 k hk j).2.2⟩
  show (if k = a ∧ j = i then x else h.2.2.1 k j) = 0
  rw [if_neg (fun e => by have := e.1; omega)]
  exact (hh.2.2 k hk j).2.1
theorem Kp.upR {h : Hp} (hh : HpOK h) {a : Nat} {i : Int} {x : Option Nat} (ha : a < h.1.length) : Kp h (h.1, h.2.1, h.2.2.1, upR h.2.2.2 a i x) := by
  refine ⟨⟨hh.1, hh.2.1, fun k hk j => ?_⟩, ⟨[], (List.append_nil _).symm⟩, fun j => rfl⟩
  have hk : h.1.length ≤ k := hk
  refine ⟨(hh.2.2 k hk j).1, (hh.2.2 k hk j).2.1, ?_⟩
  show (if k = a ∧ j = i then x else h.2.2.2 k j) = none
  rw [if_neg (fun e => by have := e.1; omega)]
  exact (hh.2.2 k hk j).2.2
theorem Kp.new {h : Hp} (hh : HpOK h) (x : Nat × Nat) : Kp h (h.1 ++ [x], h.2.1, h.2.2.1, h.2.2.2) := by
  refine ⟨⟨by simp, hh.2.1, fun k hk j => hh.2.2 k ?_ j⟩, ⟨[x], rfl⟩, fun j => rfl⟩
  have hk : (h.1 ++ [x]).length ≤ k := hk
  simp at hk
  omega
theorem kd_lt {l : List (Nat × Nat)} {a : Nat} {q : Nat × Nat} (h : l[a]? = some q) : a < l.length := (List.getElem?_eq_some_iff.mp h).1
theorem a_len_some {h : Hp} {t a n : Nat} (e : a_len h t a = some n) : h.1[a]? = some (t, n) := by
  unfold a_len at e
  split at e
  · rename_i t' n' hq
    split at e
    · rename_i ht; cases e; rw [hq, ht]
    · cases e
  · cases e
theorem f_get_some {h : Hp} {ci k a : Nat} {v : AV} (e : f_get h ci k a = some v) : h.1[a]? = some (10 + ci, (a_cls ci).1) ∧ k < (a_cls ci).1 ∧ 0 < a ∧ v = (match a_fty ci k with
        | 3 => vl (h.2.2.1 a k)
        | 4 => vq (h.2.2.2 a k)
        | _ => vi (h.2.1 a k)) := by
  unfold f_get at e
  split at e
  · rename_i t n hq
    split at e
    · rename_i hc
      obtain ⟨e1, e2, e3, e4⟩ := hc
      subst e1; subst e2
      refine ⟨hq, e3, e4, ?_⟩
      generalize a_fty ci k = t at e ⊢
      match t, e with
      | 0, e => cases e; rfl
      | 1, e => cases e; rfl
      | 2, e => cases e; rfl
      | 3, e => cases e; rfl
      | 4, e => cases e; rfl
      | t + 5, e => cases e; rfl
    · cases e
  · cases e
theorem f_put_some {h h' : Hp} {ci k a : Nat} {v : AV} (e : f_put h ci k a v = some h') : h.1[a]? = some (10 + ci, (a_cls ci).1) ∧ k < (a_cls ci).1 ∧ 0 < a ∧
    ((∃ x, v = vi x ∧ (a_fty ci k = 0 ∨ (a_fty ci k = 1 ∧ (x = 0 ∨ x = 1))) ∧ h' = (h.1, upI h.2.1 a k x, h.2.2.1, h.2.2.2)) ∨
     (∃ x, v = vl x ∧ a_fty ci k = 3 ∧ h' = (h.1, h.2.1, upJ h.2.2.1 a k x, h.2.2.2)) ∨
     (∃ x, v = vr x ∧ a_fty ci k = 4 ∧ h' = (h.1, h.2.1, h.2.2.1, upR h.2.2.2 a k (some x)))) := by
  unfold f_put at e
  split at e
  · rename_i t n hq
    split at e
    · rename_i hc
      obtain ⟨e1, e2, e3, e4⟩ := hc
      subst e1; subst e2
      refine ⟨hq, e3, e4, ?_⟩
      split at e
      · rename_i hf; cases e; exact Or.inl ⟨_, rfl, Or.inl hf, rfl⟩
      · rename_i hf
        split at e
        · rename_i hx; cases e; exact Or.inl ⟨_, rfl, Or.inr ⟨hf, hx⟩, rfl⟩
        · cases e
      · rename_i hf; cases e; exact Or.inr (Or.inl ⟨_, rfl, hf, rfl⟩)
      · rename_i hf; cases e; exact Or.inr (Or.inr ⟨_, rfl, hf, rfl⟩)
      · cases e
    · cases e
  · cases e
theorem VOK.cat {v : AV} (h : VOK v) : VOK v := h
set_option maxHeartbeats 4000000 in
/-- a step that goes on keeps ranges, script and heap -/
theorem a_step_go {mi : Nat → MI} {E : Ent} {pc : Nat} {lo : LO} {st : List AV} {h : Hp} {pc' : Nat} {lo' : LO} {st' : List AV} {h' : Hp} (hs : a_step mi E pc lo st h = r_go pc' lo' st' h') (hh : HpOK h) (hS : SOK st) (hL : LOK lo) : SOK st' ∧ LOK lo' ∧ Kp h h' := by
  obtain ⟨i, an, ks, val⟩ := E
  cases i
  case iconst n =>
    simp only [a_step] at hs
    split at hs
    · rename_i hc
      cases hs
      exact ⟨SOK.cs (show inR _ from ⟨by omega, by omega⟩) hS, hL, Kp.rf hh⟩
    · cases hs
  case bipush n =>
    simp only [a_step] at hs
    split at hs
    · rename_i hc
      cases hs
      exact ⟨SOK.cs (show inR _ from ⟨by omega, by omega⟩) hS, hL, Kp.rf hh⟩
    · cases hs
  case sipush n =>
    simp only [a_step] at hs
    split at hs
    · rename_i hc
      cases hs
      exact ⟨SOK.cs (show inR _ from ⟨by omega, by omega⟩) hS, hL, Kp.rf hh⟩
    · cases hs
  case ldc ix =>
    simp only [a_step] at hs
    split at hs
    · rename_i hc
      cases hs
      exact ⟨SOK.cs (show inR _ from ⟨by omega, by omega⟩) hS, hL, Kp.rf hh⟩
    · cases hs
  case ldc_w ix =>
    simp only [a_step] at hs
    split at hs
    · rename_i hc
      cases hs
      exact ⟨SOK.cs (show inR _ from ⟨by omega, by omega⟩) hS, hL, Kp.rf hh⟩
    · cases hs
  case lconst n =>
    simp only [a_step] at hs
    cases hs
    exact ⟨SOK.cs trivial hS, hL, Kp.rf hh⟩
  case ldc2_w ix =>
    simp only [a_step] at hs
    cases hs
    exact ⟨SOK.cs trivial hS, hL, Kp.rf hh⟩
  case iload_n k =>
    simp only [a_step] at hs
    split at hs
    · rename_i x hx
      cases hs
      exact ⟨SOK.cs (hL.gi hx) hS, hL, Kp.rf hh⟩
    · cases hs
  case iload k =>
    simp only [a_step] at hs
    split at hs
    · rename_i x hx
      cases hs
      exact ⟨SOK.cs (hL.gi hx) hS, hL, Kp.rf hh⟩
    · cases hs
  case lload_n k =>
    simp only [a_step] at hs
    split at hs
    · cases hs
      exact ⟨SOK.cs trivial hS, hL, Kp.rf hh⟩
    · cases hs
  case aload_n k =>
    simp only [a_step] at hs
    split at hs
    · cases hs
      exact ⟨SOK.cs trivial hS, hL, Kp.rf hh⟩
    · cases hs
  case aload k =>
    simp only [a_step] at hs
    split at hs
    · cases hs
      exact ⟨SOK.cs trivial hS, hL, Kp.rf hh⟩
    · cases hs
  case istore_n k =>
    simp only [a_step] at hs
    split at hs
    · split at hs
      · cases hs
        exact ⟨hS.tl, hL.set _ (fun v e => by cases e; exact (SOK.hd hS : inR _)), Kp.rf hh⟩
      · cases hs
    · cases hs
  case istore k =>
    simp only [a_step] at hs
    split at hs
    · split at hs
      · cases hs
        exact ⟨hS.tl, hL.set _ (fun v e => by cases e; exact (SOK.hd hS : inR _)), Kp.rf hh⟩
      · cases hs
    · cases hs
  case astore_n k =>
    simp only [a_step] at hs
    split at hs
    · split at hs
      · cases hs
        exact ⟨hS.tl, hL.set _ (fun v e => by cases e; exact trivial), Kp.rf hh⟩
      · cases hs
    · cases hs
  case astore k =>
    simp only [a_step] at hs
    split at hs
    · split at hs
      · cases hs
        exact ⟨hS.tl, hL.set _ (fun v e => by cases e; exact trivial), Kp.rf hh⟩
      · cases hs
    · cases hs
  case lstore_n k =>
    simp only [a_step] at hs
    split at hs
    · split at hs
      · cases hs
        exact ⟨hS.tl, (hL.set _ (fun v e => by cases e; exact trivial)).set _ (fun v e => by cases e), Kp.rf hh⟩
      · cases hs
    · cases hs
  case iinc k n =>
    simp only [a_step] at hs
    split at hs
    · split at hs
      · rename_i hc
        cases hs
        exact ⟨hS, hL.set _ (fun v e => by cases e; exact (show inR _ from ⟨hc.2.1.1, hc.2.1.2⟩)), Kp.rf hh⟩
      · cases hs
    · cases hs
  case iadd =>
    simp only [a_step] at hs
    split at hs
    · split at hs
      · rename_i hc
        cases hs
        exact ⟨SOK.cs (show inR _ from hc) hS.tl.tl, hL, Kp.rf hh⟩
      · cases hs
    · cases hs
  case isub =>
    simp only [a_step] at hs
    split at hs
    · split at hs
      · rename_i hc
        cases hs
        exact ⟨SOK.cs (show inR _ from hc) hS.tl.tl, hL, Kp.rf hh⟩
      · cases hs
    · cases hs
  case imul =>
    simp only [a_step] at hs
    split at hs
    · split at hs
      · rename_i hc
        cases hs
        exact ⟨SOK.cs (show inR _ from hc) hS.tl.tl, hL, Kp.rf hh⟩
      · cases hs
    · cases hs
  case ineg =>
    simp only [a_step] at hs
    split at hs
    · split at hs
      · rename_i hc
        cases hs
        exact ⟨SOK.cs (show inR _ from ⟨by omega, by omega⟩) hS.tl, hL, Kp.rf hh⟩
      · cases hs
    · cases hs
  case i2b =>
    simp only [a_step] at hs
    split at hs
    · split at hs
      · rename_i hc
        cases hs
        exact ⟨SOK.cs (show inR _ from ⟨by omega, by omega⟩) hS.tl, hL, Kp.rf hh⟩
      · cases hs
    · cases hs
  case idiv =>
    simp only [a_step] at hs
    split at hs
    · rename_i y x r
      split at hs
      · rename_i hc
        cases hs
        have hx : inR x := hS.tl.hd
        exact ⟨SOK.cs (show inR _ from ⟨by have := Int.ediv_nonneg hc.1 (Int.le_of_lt hc.2); omega, by have := Int.ediv_le_self y hc.1; have := hx.2; omega⟩) hS.tl.tl, hL, Kp.rf hh⟩
      · cases hs
    · cases hs
  case irem =>
    simp only [a_step] at hs
    split at hs
    · rename_i y x r
      split at hs
      · rename_i hc
        cases hs
        have hy : inR y := hS.hd
        exact ⟨SOK.cs (show inR _ from ⟨by have := Int.emod_nonneg x (Int.ne_of_gt hc.2); omega, by have := Int.emod_lt_of_pos x hc.2; have := hy.2; omega⟩) hS.tl.tl, hL, Kp.rf hh⟩
      · cases hs
    · cases hs
  case iand =>
    simp only [a_step] at hs
    split at hs
    · split at hs
      · cases hs
        exact ⟨SOK.cs (show inR _ from ⟨by omega, by omega⟩) hS.tl.tl, hL, Kp.rf hh⟩
      · split at hs
        · cases hs
          exact ⟨SOK.cs (show inR _ from ⟨by omega, by omega⟩) hS.tl.tl, hL, Kp.rf hh⟩
        · cases hs
    · cases hs
  case l2i =>
    simp only [a_step] at hs
    split at hs
    · rename_i x r
      cases hs
      exact ⟨SOK.cs (show inR _ from ⟨by have := BitVec.le_toInt (x.signExtend 32); omega, by have := BitVec.toInt_lt (x := x.signExtend 32); omega⟩) hS.tl, hL, Kp.rf hh⟩
    · cases hs
  case ladd =>
    simp only [a_step] at hs
    split at hs
    · cases hs
      exact ⟨SOK.cs trivial hS.tl.tl, hL, Kp.rf hh⟩
    · cases hs
  case lsub =>
    simp only [a_step] at hs
    split at hs
    · cases hs
      exact ⟨SOK.cs trivial hS.tl.tl, hL, Kp.rf hh⟩
    · cases hs
  case land =>
    simp only [a_step] at hs
    split at hs
    · cases hs
      exact ⟨SOK.cs trivial hS.tl.tl, hL, Kp.rf hh⟩
    · cases hs
  case lor =>
    simp only [a_step] at hs
    split at hs
    · cases hs
      exact ⟨SOK.cs trivial hS.tl.tl, hL, Kp.rf hh⟩
    · cases hs
  case lxor =>
    simp only [a_step] at hs
    split at hs
    · cases hs
      exact ⟨SOK.cs trivial hS.tl.tl, hL, Kp.rf hh⟩
    · cases hs
  case lushr =>
    simp only [a_step] at hs
    split at hs
    · split at hs
      · cases hs
        exact ⟨SOK.cs trivial hS.tl.tl, hL, Kp.rf hh⟩
      · cases hs
    · cases hs
  case lshl =>
    simp only [a_step] at hs
    split at hs
    · split at hs
      · cases hs
        exact ⟨SOK.cs trivial hS.tl.tl, hL, Kp.rf hh⟩
      · cases hs
    · cases hs
  case lcmp =>
    simp only [a_step] at hs
    split at hs
    · cases hs
      exact ⟨SOK.cs (show inR _ from by unfold inR; split <;> (try split) <;> omega) hS.tl.tl, hL, Kp.rf hh⟩
    · cases hs
  case dup =>
    simp only [a_step] at hs
    split at hs
    · split at hs
      · cases hs
        exact ⟨SOK.cs (hS _ List.mem_cons_self) hS, hL, Kp.rf hh⟩
      · cases hs
    · cases hs
  case pop =>
    simp only [a_step] at hs
    split at hs
    · split at hs
      · cases hs
        exact ⟨hS.tl, hL, Kp.rf hh⟩
      · cases hs
    · cases hs
  case goto off =>
    simp only [a_step] at hs
    split at hs
    · cases hs
      exact ⟨hS, hL, Kp.rf hh⟩
    · cases hs
  case ifCond cd off =>
    simp only [a_step] at hs
    split at hs
    · split at hs
      · split at hs <;> cases hs <;> exact ⟨hS.tl, hL, Kp.rf hh⟩
      · cases hs
    · cases hs
  case if_icmp cd off =>
    simp only [a_step] at hs
    split at hs
    · split at hs
      · split at hs <;> cases hs <;> exact ⟨hS.tl.tl, hL, Kp.rf hh⟩
      · cases hs
    · cases hs
  case tableswitch d lw hi offs =>
    simp only [a_step] at hs
    split at hs
    · split at hs
      · split at hs
        · cases hs
          exact ⟨hS.tl, hL, Kp.rf hh⟩
        · cases hs
      · split at hs
        · split at hs
          · cases hs
            exact ⟨hS.tl, hL, Kp.rf hh⟩
          · cases hs
        · cases hs
    · cases hs
  case getfield ix =>
    simp only [a_step] at hs
    split at hs
    · rename_i a r ci k _
      split at hs
      · rename_i v hv
        cases hs
        obtain ⟨h1, h2, h3, h4⟩ := f_get_some hv
        refine ⟨SOK.cs ?_ hS.tl, hL, Kp.rf hh⟩
        rw [h4]
        split
        · trivial
        · trivial
        · exact hh.2.1 _ _
      · cases hs
    · cases hs
  case putfield ix =>
    simp only [a_step] at hs
    split at hs
    · rename_i v a r ci k _
      split at hs
      · rename_i h1 hv
        cases hs
        obtain ⟨h1, h2, h3, h4⟩ := f_put_some hv
        refine ⟨hS.tl.tl, hL, ?_⟩
        rcases h4 with ⟨x, rfl, -, rfl⟩ | ⟨x, rfl, -, rfl⟩ | ⟨x, rfl, -, rfl⟩
        · exact Kp.upI hh h3 (kd_lt h1) hS.hd
        · exact Kp.upJ hh (kd_lt h1)
        · exact Kp.upR hh (kd_lt h1)
      · cases hs
    · cases hs
  case iaload =>
    simp only [a_step] at hs
    split at hs
    · split at hs
      · split at hs
        · cases hs
          exact ⟨SOK.cs (hh.2.1 _ _ : inR _) hS.tl.tl, hL, Kp.rf hh⟩
        · cases hs
      · cases hs
    · cases hs
  case baload =>
    simp only [a_step] at hs
    split at hs
    · split at hs
      · split at hs
        · cases hs
          exact ⟨SOK.cs (hh.2.1 _ _ : inR _) hS.tl.tl, hL, Kp.rf hh⟩
        · cases hs
      · cases hs
    · cases hs
  case laload =>
    simp only [a_step] at hs
    split at hs
    · split at hs
      · split at hs
        · cases hs
          exact ⟨SOK.cs trivial hS.tl.tl, hL, Kp.rf hh⟩
        · cases hs
      · cases hs
    · cases hs
  case aaload =>
    simp only [a_step] at hs
    split at hs
    · split at hs
      · split at hs
        · cases hs
          exact ⟨SOK.cs trivial hS.tl.tl, hL, Kp.rf hh⟩
        · cases hs
      · cases hs
    · cases hs
  case iastore =>
    simp only [a_step] at hs
    split at hs
    · split at hs
      · rename_i n hn
        split at hs
        · rename_i hc
          cases hs
          exact ⟨hS.tl.tl.tl, hL, Kp.upI hh hc.1 (kd_lt (a_len_some hn)) hS.hd⟩
        · cases hs
      · cases hs
    · cases hs
  case bastore =>
    simp only [a_step] at hs
    split at hs
    · split at hs
      · rename_i t n hn
        split at hs
        · rename_i hc
          cases hs
          exact ⟨hS.tl.tl.tl, hL, Kp.upI hh hc.2.1 (kd_lt hn) hS.hd⟩
        · cases hs
      · cases hs
    · cases hs
  case lastore =>
    simp only [a_step] at hs
    split at hs
    · split at hs
      · rename_i n hn
        split at hs
        · rename_i hc
          cases hs
          exact ⟨hS.tl.tl.tl, hL, Kp.upJ hh (kd_lt (a_len_some hn))⟩
        · cases hs
      · cases hs
    · cases hs
  case aastore =>
    simp only [a_step] at hs
    split at hs
    · split at hs
      · rename_i n t n2 hn hv
        split at hs
        · rename_i hc
          cases hs
          exact ⟨hS.tl.tl.tl, hL, Kp.upR hh (kd_lt (a_len_some hn))⟩
        · cases hs
      · cases hs
    · cases hs
  case arraylength =>
    simp only [a_step] at hs
    split at hs
    · split at hs
      · split at hs
        · rename_i hc
          cases hs
          exact ⟨SOK.cs (show inR _ from ⟨by omega, by omega⟩) hS.tl, hL, Kp.rf hh⟩
        · cases hs
      · cases hs
    · cases hs
  case newarray t =>
    simp only [a_step] at hs
    split at hs
    · split at hs
      · cases hs
        exact ⟨SOK.cs trivial hS.tl, hL, Kp.new hh _⟩
      · cases hs
    · cases hs
  case anewarray ix =>
    simp only [a_step] at hs
    split at hs
    · split at hs
      · cases hs
        exact ⟨SOK.cs trivial hS.tl, hL, Kp.new hh _⟩
      · cases hs
    · cases hs
  case new ix =>
    simp only [a_step] at hs
    split at hs
    · split at hs
      · cases hs
        exact ⟨SOK.cs trivial hS, hL, Kp.new hh _⟩
      · cases hs
    · cases hs
  case invokevirtual ix =>
    simp only [a_step] at hs
    split at hs
    · split at hs
      · unfold a_inv at hs
        split at hs <;> cases hs
      · cases hs
    · cases hs
  case invokestatic ix =>
    simp only [a_step] at hs
    split at hs
    · split at hs
      · split at hs
        · rename_i x r
          split at hs
          · rename_i hc
            cases hs
            have hx : inR x := hS.hd
            refine ⟨SOK.cs (show inR _ from ?_) hS.tl, hL, Kp.rf hh⟩
            unfold inR at hx ⊢
            split <;> omega
          · cases hs
        · cases hs
      · split at hs
        · split at hs
          · rename_i y x r
            split at hs
            · cases hs
              have hy : inR y := hS.hd
              have hx : inR x := hS.tl.hd
              refine ⟨SOK.cs (show inR _ from ?_) hS.tl.tl, hL, Kp.rf hh⟩
              split <;> assumption
            · cases hs
          · cases hs
        · split at hs
          · split at hs
            · rename_i y x r
              split at hs
              · cases hs
                have hy : inR y := hS.hd
                have hx : inR x := hS.tl.hd
                refine ⟨SOK.cs (show inR _ from ?_) hS.tl.tl, hL, Kp.rf hh⟩
                split <;> assumption
              · cases hs
            · cases hs
          · unfold a_inv at hs
            split at hs <;> cases hs
    · cases hs
  case invokespecial ix =>
    simp only [a_step] at hs
    split at hs
    · split at hs
      · split at hs
        · split at hs
          · cases hs
            exact ⟨hS.tl, hL, Kp.rf hh⟩
          · cases hs
        · cases hs
      · split at hs
        · unfold a_inv at hs
          split at hs <;> cases hs
        · cases hs
    · cases hs
  case ireturn =>
    simp only [a_step] at hs
    split at hs
    · split at hs <;> cases hs
    · cases hs
  case areturn =>
    simp only [a_step] at hs
    split at hs <;> cases hs
  case return_ =>
    simp only [a_step] at hs
    split at hs <;> cases hs
  all_goals (simp only [a_step] at hs; cases hs)
/-- a step that returns -/
theorem a_step_ret {mi : Nat → MI} {E : Ent} {pc : Nat} {lo : LO} {st : List AV} {h : Hp} {r : AV} {h' : Hp} (hs : a_step mi E pc lo st h = r_ret r h') (hS : SOK st) : h' = h ∧ VOK r ∧ ((∃ x, E.1 = .ireturn ∧ st = [vi x] ∧ r = vi x ∧ (E.2.1 = [0] ∨ (E.2.1 = [1] ∧ (x = 0 ∨ x = 1)))) ∨ (∃ x, E.1 = .areturn ∧ st = [vr x] ∧ r = vr x) ∨ (E.1 = .return_ ∧ st = [] ∧ r = vi 0)) := by
  obtain ⟨i, an, ks, val⟩ := E
  cases i
  case ireturn =>
    simp only [a_step] at hs
    split at hs
    · split at hs
      · rename_i hc
        cases hs
        exact ⟨rfl, (hS.hd : inR _), Or.inl ⟨_, rfl, rfl, rfl, hc⟩⟩
      · cases hs
    · cases hs
  case areturn =>
    simp only [a_step] at hs
    split at hs
    · cases hs
      exact ⟨rfl, trivial, Or.inr (Or.inl ⟨_, rfl, rfl, rfl⟩)⟩
    · cases hs
  case return_ =>
    simp only [a_step] at hs
    split at hs
    · cases hs
      exact ⟨rfl, (show inR 0 from ⟨by decide, by decide⟩), Or.inr (Or.inr ⟨rfl, rfl, rfl⟩)⟩
    · cases hs
  all_goals (simp only [a_step] at hs; repeat' (split at hs))
  all_goals first | (cases hs; done) | (unfold a_inv at hs; split at hs <;> cases hs)
/-- a step that calls -/
theorem a_step_call {mi : Nat → MI} {E : Ent} {pc : Nat} {lo : LO} {st : List AV} {h : Hp} {M : Nat} {as : List AV} {vd : Bool} {pc' : Nat} {lo' : LO} {st' : List AV} {h' : Hp} (hs : a_step mi E pc lo st h = r_call M as vd pc' lo' st' h') : h' = h ∧ lo' = lo ∧ pc' = pc + 3 ∧ vd = (mi M).2.1 ∧ st = as.reverse ++ st' ∧ as.length = (mi M).1 ∧ a_rest M pc' st' = true ∧ M < 231 ∧ (∃ t, E.2.1 = M :: t) ∧
    (((∃ ix, E.1 = .invokevirtual ix) ∧ a_recv h ((mi M).2.2 - 1) as = true) ∨ ((∃ ix, E.1 = .invokestatic ix) ∧ M ≠ 1001 ∧ M ≠ 1002 ∧ M ≠ 1003) ∨ ((∃ ix, E.1 = .invokespecial ix) ∧ M ≠ 999 ∧ a_recv h ((mi M).2.2 - 1) as = true)) := by
  have key : ∀ {M2 n : Nat} {v2 : Bool} {p2 : Nat}, a_inv M2 n v2 p2 lo st h = r_call M as vd pc' lo' st' h' → M2 = M ∧ as = (st.take n).reverse ∧ v2 = vd ∧ p2 = pc' ∧ lo = lo' ∧ st' = st.drop n ∧ h = h' ∧ n ≤ st.length ∧ a_rest M2 pc' st' = true ∧ M2 < 231 := by
    intro M2 n v2 p2 e
    unfold a_inv at e
    split at e
    · rename_i hc
      cases e
      exact ⟨rfl, rfl, rfl, rfl, rfl, rfl, rfl, hc.1, hc.2.1, hc.2.2⟩
    · cases e
  obtain ⟨i, an, ks, val⟩ := E
  cases i
  case invokevirtual ix =>
    simp only [a_step] at hs
    split at hs
    · rename_i M2 t
      split at hs
      · rename_i hr
        obtain ⟨rfl, e2, e3, e4, e5, e6, e7, e8, e9, e10⟩ := key hs
        refine ⟨e7.symm, e5.symm, e4.symm, e3.symm, by rw [e2, e6, List.reverse_reverse, List.take_append_drop], by rw [e2, List.length_reverse, List.length_take]; omega, e9, e10, ⟨t, rfl⟩, Or.inl ⟨⟨ix, rfl⟩, by rw [e2]; exact hr⟩⟩
      · cases hs
    · cases hs
  case invokestatic ix =>
    simp only [a_step] at hs
    split at hs
    · rename_i M2 t
      split at hs
      · split at hs
        · split at hs <;> cases hs
        · cases hs
      · rename_i n1
        split at hs
        · split at hs
          · split at hs <;> cases hs
          · cases hs
        · rename_i n2
          split at hs
          · split at hs
            · split at hs <;> cases hs
            · cases hs
          · rename_i n3
            obtain ⟨rfl, e2, e3, e4, e5, e6, e7, e8, e9, e10⟩ := key hs
            refine ⟨e7.symm, e5.symm, e4.symm, e3.symm, by rw [e2, e6, List.reverse_reverse, List.take_append_drop], by rw [e2, List.length_reverse, List.length_take]; omega, e9, e10, ⟨t, rfl⟩, Or.inr (Or.inl ⟨⟨ix, rfl⟩, n1, n2, n3⟩)⟩
    · cases hs
  case invokespecial ix =>
    simp only [a_step] at hs
    split at hs
    · rename_i M2 t
      split at hs
      · split at hs
        · split at hs <;> cases hs
        · cases hs
      · rename_i n1
        split at hs
        · rename_i hr
          obtain ⟨rfl, e2, e3, e4, e5, e6, e7, e8, e9, e10⟩ := key hs
          refine ⟨e7.symm, e5.symm, e4.symm, e3.symm, by rw [e2, e6, List.reverse_reverse, List.take_append_drop], by rw [e2, List.length_reverse, List.length_take]; omega, e9, e10, ⟨t, rfl⟩, Or.inr (Or.inr ⟨⟨ix, rfl⟩, n1, by rw [e2]; exact hr⟩)⟩
        · cases hs
    · cases hs
  all_goals (simp only [a_step] at hs; repeat' (split at hs))
  all_goals (cases hs)
theorem a_sl_ok {as : List AV} (h : SOK as) : LOK (a_sl as) := by
  intro v hv
  unfold a_sl at hv
  obtain ⟨w, hw, h1⟩ := List.mem_flatMap.mp hv
  have h2 := h w hw
  rcases w with x | x | x
  · simp at h1; subst h1; exact h2
  · simp at h1; subst h1; trivial
  · simp at h1; subst h1; trivial
theorem a_ent_ok {mL : Nat} {as : List AV} (h : SOK as) : LOK (a_ent mL as) := by
  intro v hv
  rcases List.mem_append.mp hv with h1 | h1
  · exact a_sl_ok h v h1
  · have := (List.mem_replicate.mp h1).2
    cases this
/-- a run keeps ranges, script and heap -/
theorem a_run_ok (P : Prg) : ∀ (n M pc : Nat) (l : LO) (st : List AV) (h : Hp) (r : AV) (h' : Hp), a_run P n M pc l st h = some (r, h') → HpOK h → SOK st → LOK l → VOK r ∧ Kp h h' := by
  intro n
  induction n with
  | zero => intro M pc l st h r h' hr; simp [a_run] at hr
  | succ n ih =>
    intro M pc l st h r h' hr hh hS hL
    rw [a_run] at hr
    cases hE : P.1 M pc with
    | none => rw [hE] at hr; simp at hr
    | some E =>
      rw [hE] at hr
      dsimp only at hr
      cases hs : a_step P.2.1 E pc (a_kill E.2.2.1 l) st h with
      | none => rw [hs] at hr; simp at hr
      | some x =>
        rw [hs] at hr
        rcases x with r' | g | k
        · cases hr
          obtain ⟨e1, e2, -⟩ := a_step_ret hs hS
          rw [e1]
          exact ⟨e2, Kp.rf hh⟩
        · obtain ⟨pc1, l1, st1, h1⟩ := g
          obtain ⟨k1, k2, k3⟩ := a_step_go hs hh hS (LOK.kill _ hL)
          obtain ⟨k4, k5⟩ := ih _ _ _ _ _ _ _ hr k3.1 k1 k2
          exact ⟨k4, k3.tr k5⟩
        · obtain ⟨M2, as, vd, pc1, l1, st1, h1⟩ := k
          obtain ⟨e1, e2, -, -, e5, -⟩ := a_step_call hs
          subst e1; subst e2
          dsimp only at hr
          by_cases hf : (a_sl as).length ≤ P.2.2 M2
          case neg => rw [if_neg hf] at hr; cases hr
          rw [if_pos hf] at hr
          cases hc : a_run P n M2 0 (a_ent (P.2.2 M2) as) [] h1 with
          | none => rw [hc] at hr; simp at hr
          | some q =>
            rw [hc] at hr
            obtain ⟨r2, h2⟩ := q
            have hSa : SOK as := fun v hv => hS v (by rw [e5]; exact List.mem_append_left _ (List.mem_reverse.mpr hv))
            have hSr : SOK st1 := fun v hv => hS v (by rw [e5]; exact List.mem_append_right _ hv)
            obtain ⟨k1, k2⟩ := ih _ _ _ _ _ _ _ hc hh (fun v hv => by cases hv) (a_ent_ok hSa)
            obtain ⟨k4, k5⟩ := ih _ _ _ _ _ _ _ hr k2.1 (by
              dsimp only
              split
              · exact hSr
              · exact SOK.cs k1 hSr) (LOK.kill _ hL)
            exact ⟨k4, k2.tr k5⟩
