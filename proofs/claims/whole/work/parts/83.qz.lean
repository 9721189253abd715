/-! behind the constructors -/
theorem q_start (L : Nat) (f : Int → Int) : ev 234 0 [some (vr 0), none, none, none] [] (hq L 0 (iq_0 f) jq_0 rq_0) = ev 234 18 [some (vr 0), some (vr 1), some (vr 115), some (vi 0)] [] (hq L 160 (iq_91 f) jq_8 rq_173) := q_1801 L f
