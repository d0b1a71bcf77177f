section R6
variable {m : XX} {w : Nat → Int64} {x : XX} {y : YY} {z : Nat → Int64} {n : Nat}
theorem gf (h : Rel m w x y z n) {c : Nat} (hc : c < y 20 1) : s_X0_giftsOut x c = s_X8_giftsOf m (-1) (nI c) := by
  unfold s_X0_giftsOut
  rw [gOc h hc, (h.g.2.2.2.1 c hc).1]
theorem tj (h : Rel m w x y z n) {c : Nat} (hc : c < y 20 1) : s_X0_timesJudged x y c = m 21 c := by
  unfold s_X0_timesJudged
  rcases h.s c hc with ⟨-, b, o, t, -⟩ | ⟨-, b, o, t, -⟩ | ⟨-, b, o, o2, t, -⟩ | ⟨-, b, o, o2, t, -⟩
  · rw [if_pos b, o, t]; decide
  · rw [if_pos b, o, t]; decide
  · rw [if_neg b, o, o2, t]; decide
  · rw [if_neg b, o, o2, t]; decide
theorem e_about (h : Rel m w x y z n) (c q : Int32) : s_X7_about x y c q = s_X8_about m c q := by
  unfold s_X7_about s_X8_about
  rw [is_c h]
  by_cases c1 : s_X7_within c 0 ((nI (y 20 1)) - 1) = 0
  · rw [if_pos c1, if_pos c1]
  · rw [if_neg c1, if_neg c1]
    obtain ⟨ec, hc⟩ := case_tn h c1
    have rc := h.c.2 _ hc
    have e5 : s_X8_giftsOf m (-1) c = s_X0_giftsOut x (tn c) := by rw [gf h hc, ← ec]
    rw [rc.1, rc.2.1, rc.2.2.1, rc.2.2.2.1, asO h hc, rc.2.2.2.2.2.2.2.1, e5, tm_hh, e_lb h hc, tj h hc]
theorem e_judged (h : Rel m w x y z n) (c q : Int32) : s_X7_judged x y c q = s_X8_judged m c q := by
  unfold s_X7_judged s_X8_judged
  rw [is_c h, wi_e]
  by_cases c1 : s_X7_within c 0 ((nI (y 20 1)) - 1) = 0
  · rw [if_pos c1, if_pos c1]
  · rw [if_neg c1, if_neg c1]
    by_cases c2 : s_X7_within q 0 2 = 0
    · rw [if_pos c2, if_pos c2]
    · rw [if_neg c2, if_neg c2]
      obtain ⟨ec, hc⟩ := case_tn h c1
      generalize tn c = k at hc
      have key : ∀ hh, i_X0_latestJudgement x y k = hh + 1 → ¬ m 21 k = 0 → LA m x k hh → (if (i_X0_latestJudgement x y k) = 0 then (-4) else (if q = 0 then s_X2_votes x ((i_X0_latestJudgement x y k) - 1) else (if q = 1 then x 26 ((i_X0_latestJudgement x y k) - 1) else x 27 ((i_X0_latestJudgement x y k) - 1))) : Int32) = (if (m 21 k) = 0 then (-4) else (if q = 0 then m 24 k else (if q = 1 then m 25 k else m 26 k : Int32) : Int32)) := by
        intro hh e1 e2 l
        rw [e1, if_neg (Nat.succ_ne_zero hh), if_neg e2, l.1, l.2.1, l.2.2, Nat.add_sub_cancel]
        rfl
      rcases h.s k hc with ⟨-, b, o, t, -⟩ | ⟨-, b, o, t, -, -, l⟩ | ⟨-, b, o, o2, t, -, -, l⟩ | ⟨-, b, o, o2, t, -, -, l⟩
      · have e1 : i_X0_latestJudgement x y k = 0 := by unfold i_X0_latestJudgement; rw [if_pos b, if_pos o]
        rw [if_pos e1, if_pos t]
      · exact key (2 * k) (by unfold i_X0_latestJudgement; rw [if_pos b, o, if_neg (by decide)]) (by rw [t]; decide) l
      · exact key (2 * k) (by unfold i_X0_latestJudgement; rw [if_neg b, if_pos o2, o, if_neg (by decide)]) (by rw [t]; decide) l
      · exact key (2 * k + 1) (by unfold i_X0_latestJudgement; rw [if_neg b, o2, if_neg (by decide)]) (by rw [t]; decide) l
end R6
