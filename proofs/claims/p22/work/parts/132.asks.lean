/-! the questions: both sides answer alike -/
theorem dB_ne {p : Int32} {N j : Nat} (h : dB p N = false) (hj : j < N) (hN : N < 2 ^ 31) : ¬ p = nI j := by
  intro e
  rw [e, dB_nI (by omega), decide_eq_true hj] at h
  cases h
section QQ
variable {n : Nat} {K V G T : Nat → Nat} {b : Bool} {nr : Int32} {ks vs wg ts al : Nat → Int32}
theorem c_choices (h : TF n K V G T nr ks vs wg ts) (b : Bool) (oc os sd tg : Nat → Int32) : ∃ mn' oc' os' sd' tg', f_X5_choicesNow nr (bI b) ks wg ts oc os sd tg = some (mn', oc', os', sd', tg') ∧ CH n K T (Of n K G b none) mn' oc' os' sd' tg' := by
  obtain ⟨mn', oc', os', sd', tg', h1, h2⟩ := c_update h b oc os sd tg
  refine ⟨mn', oc', os', sd', tg', ?_, h2⟩
  unfold f_X5_choicesNow
  rw [h1, bs]
theorem hTT (h : TF n K V G T nr ks vs wg ts) : ∀ k, k < 10 → ∀ j, j ∈ Of n K G b none k → T j ≤ 10 := fun k _ j hj => (h.2.2 j ((op_mem n).mp hj).1).2.2.2.2.2.2.2
theorem five {w : Nat} (h : w < 5) : w = 0 ∨ w = 1 ∨ w = 2 ∨ w = 3 ∨ w = 4 := by omega
theorem pos_if {x : Nat} (h : x < 2 ^ 31) : (if nI x ≤ 0 then some (0 : Int32) else some 1) = some (bI (decide (0 < x))) := by
  by_cases q : 0 < x
  · rw [if_neg (nI_nle q h), decide_eq_true q]; rfl
  · rw [if_pos (by rw [show x = 0 by omega]; decide), decide_eq_false q]; rfl
end QQ
