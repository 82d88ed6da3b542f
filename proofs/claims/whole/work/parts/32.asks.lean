/-! the questions: both sides answer alike -/
theorem dB_ne {p : Int32} {N j : Nat} (h : dB p N = false) (hj : j < N) (hN : N < 2 ^ 31) : ¬ p = nI j := by
  intro e
  rw [e, dB_nI (by omega), decide_eq_true hj] at h
  cases h
theorem in_lit (p : Int32) (hi : Int64) (N : Nat) (h : hi.toInt = (N : Int) - 1) : f_X6_in (Int32.toInt64 p) 0 hi = some (bI (dB p N)) := by
  rw [m_in]
  unfold dB
  congr 2
  apply decide_eq_decide.mpr
  rw [h, show (0 : Int64).toInt = 0 from by decide]
  omega
theorem in_1 (p : Int32) : f_X6_in (Int32.toInt64 p) 0 1 = some (bI (dB p 2)) := in_lit p 1 2 (by decide)
theorem in_2 (p : Int32) : f_X6_in (Int32.toInt64 p) 0 2 = some (bI (dB p 3)) := in_lit p 2 3 (by decide)
theorem in_3 (p : Int32) : f_X6_in (Int32.toInt64 p) 0 3 = some (bI (dB p 4)) := in_lit p 3 4 (by decide)
theorem in_4 (p : Int32) : f_X6_in (Int32.toInt64 p) 0 4 = some (bI (dB p 5)) := in_lit p 4 5 (by decide)
theorem in_99 (p : Int32) : f_X6_in (Int32.toInt64 p) 0 99 = some (bI (dB p 100)) := in_lit p 99 100 (by decide)
theorem in_sub (p : Int32) {M : Nat} (hM : M < 2 ^ 30) : f_X6_in (Int32.toInt64 p) 0 (Int32.toInt64 (nI M) - 1) = some (bI (dB p M)) := by
  refine in_lit p _ M ?_
  rw [Int64.toInt_sub, Int32.toInt_toInt64, nI_toInt (by omega), show (1 : Int64).toInt = 1 from by decide, Int.bmod_eq_of_le (by omega) (by omega)]
section QQ
variable {n : Nat} {K V G T : Nat → Nat} {b : Bool} {nr : Int32} {ks vs wg ts al : Nat → Int32}
theorem c_choices (h : TF n K V G T nr ks vs wg ts) (b : Bool) (oc os sd tg : Nat → Int32) : ∃ mn' oc' os' sd' tg', f_X5_choicesNow nr (bI b) ks wg ts oc os sd tg = some (mn', oc', os', sd', tg') ∧ CH n K T (Of n K G b none) mn' oc' os' sd' tg' := by
  obtain ⟨mn', oc', os', sd', tg', h1, h2⟩ := c_update h b oc os sd tg
  refine ⟨mn', oc', os', sd', tg', ?_, h2⟩
  unfold f_X5_choicesNow
  rw [h1, bs]
theorem hTT (h : TF n K V G T nr ks vs wg ts) : ∀ k, k < 10 → ∀ j, j ∈ Of n K G b none k → T j ≤ 10 := fun k _ j hj => (h.2.2 j ((op_mem n).mp hj).1).2.2.2.2.2.2.2
theorem s_row (h : TF n K V G T nr ks vs wg ts) (hm : MF n K V G T b al) (mn : Int32) (oc os sd tg ch my : Nat → Int32) (p0 p1 : Int32) :
    ∃ out a1 a2 a3 a4 a5 b1 b2, f_X5_row nr (bI b) ks vs wg ts mn oc os sd tg p0 p1 = some (out, a1, a2, a3, a4, a5) ∧ f_X6_row (-5) al ch my p0 p1 = some (out, b1, b2) := by
  have hn := h.2.1
  unfold f_X5_row f_X6_row
  rw [c_has h, hm.isRow, bs, bs]
  cases hd : dB p0 n with
  | false =>
    rw [if_pos (show bI false = 0 from rfl), if_pos (show bI false = 0 from rfl)]
    exact ⟨_, _, _, _, _, _, _, _, rfl, rfl⟩
  | true =>
    obtain ⟨j, hj, rfl⟩ := dB_of hd (by omega)
    rw [if_neg (show ¬ bI true = 0 by decide), if_neg (show ¬ bI true = 0 by decide)]
    by_cases e0 : p1 = 0
    · subst e0
      rw [if_pos rfl, if_pos rfl, h.keyAt hj, hm.key hj, bs, bs]
      exact ⟨_, _, _, _, _, _, _, _, rfl, rfl⟩
    · rw [if_neg e0, if_neg e0]
      by_cases e1 : p1 = 1
      · subst e1
        rw [if_pos rfl, if_pos rfl, h.valueAt hj, hm.val hj, bs, bs, show (97 : Int32) = nI 97 from rfl, nI_add]
        exact ⟨_, _, _, _, _, _, _, _, rfl, rfl⟩
      · rw [if_neg e1, if_neg e1]
        by_cases e2 : p1 = 2
        · subst e2
          rw [if_pos rfl, if_pos rfl, h.weightAt hj, hm.wgt hj, bs, bs]
          exact ⟨_, _, _, _, _, _, _, _, rfl, rfl⟩
        · rw [if_neg e2, if_neg e2]
          by_cases e3 : p1 = 3
          · subst e3
            rw [if_pos rfl, if_pos rfl, h.targetAt hj, hm.tgt hj, bs, bs]
            exact ⟨_, _, _, _, _, _, _, _, rfl, rfl⟩
          · rw [if_neg e3, if_neg e3]
            by_cases e4 : p1 = 4
            · subst e4
              rw [if_pos rfl, if_pos rfl, h.canBeKept b hj, hm.canBeKept hj, bs, bs, c_oneIf, bs]
              cases can n K G b j <;> exact ⟨_, _, _, _, _, _, _, _, rfl, rfl⟩
            · rw [if_neg e4, if_neg e4]
              by_cases e5 : p1 = 5
              · subst e5
                obtain ⟨mn', oc', os', sd', tg', q1, q2⟩ := c_choices h b oc os sd tg
                obtain ⟨ch', my', q3⟩ := m_isSure hm ch my hj
                rw [if_pos rfl, if_pos rfl, q1, q3, bs, bs]
                try dsimp only
                rw [c_isSureRow h q2.1 q2.2.1 hj, bs, c_oneIf, bs]
                cases srB (Of n K G b none) n K G b j <;> exact ⟨_, _, _, _, _, _, _, _, rfl, rfl⟩
              · rw [if_neg e5, if_neg e5]
                exact ⟨_, _, _, _, _, _, _, _, rfl, rfl⟩
theorem s_key (h : TF n K V G T nr ks vs wg ts) (hm : MF n K V G T b al) (mn : Int32) (oc os sd tg ch my : Nat → Int32) (p0 p1 : Int32) :
    ∃ out a1 a2 a3 a4 a5 b1 b2, f_X5_key nr (bI b) ks wg ts mn oc os sd tg p0 p1 = some (out, a1, a2, a3, a4, a5) ∧ f_X6_key (-5) al ch my p0 p1 = some (out, b1, b2) := by
  have hn := h.2.1
  unfold f_X5_key f_X6_key
  rw [c_isKey, m_isKey, bs, bs]
  cases hd : dB p0 10 with
  | false =>
    rw [if_pos (show bI false = 0 from rfl), if_pos (show bI false = 0 from rfl)]
    exact ⟨_, _, _, _, _, _, _, _, rfl, rfl⟩
  | true =>
    obtain ⟨k, hk, rfl⟩ := dB_of hd (by omega)
    obtain ⟨ch', my', g1, g2⟩ := m_finds hm none (fun r hr => by cases hr) ch my
    rw [show oI none = -5 from rfl] at g1
    rw [if_neg (show ¬ bI true = 0 by decide), if_neg (show ¬ bI true = 0 by decide), g1, bs]
    try dsimp only
    by_cases e0 : p1 = 0
    · subst e0
      rw [if_pos rfl, if_pos rfl, h.rowsWith k hk, hm.rowsOf k hk, bs, bs]
      exact ⟨_, _, _, _, _, _, _, _, rfl, rfl⟩
    · rw [if_neg e0, if_neg e0]
      by_cases e1 : p1 = 1
      · subst e1
        obtain ⟨mn', oc', os', sd', tg', q1, q2⟩ := c_choices h b oc os sd tg
        rw [if_pos rfl, if_pos rfl, q1, bs]
        try dsimp only
        rw [q2.2.1.optionsOf hk, bs, if_pos (nI_in hk (by omega)), nI_clamp (by omega), (g2 k hk).1]
        exact ⟨_, _, _, _, _, _, _, _, rfl, rfl⟩
      · rw [if_neg e1, if_neg e1]
        by_cases e2 : p1 = 2
        · subst e2
          have := hm.outermost false k hk
          rw [show bI false = 0 from rfl] at this
          rw [if_pos rfl, if_pos rfl, h.lightestWith k hk, this, bs, bs]
          exact ⟨_, _, _, _, _, _, _, _, rfl, rfl⟩
        · rw [if_neg e2, if_neg e2]
          by_cases e3 : p1 = 3
          · subst e3
            have := hm.outermost true k hk
            rw [show bI true = 1 from rfl] at this
            rw [if_pos rfl, if_pos rfl, h.heaviestWith k hk, this, bs, bs]
            exact ⟨_, _, _, _, _, _, _, _, rfl, rfl⟩
          · rw [if_neg e3, if_neg e3]
            by_cases e4 : p1 = 4
            · subst e4
              rw [if_pos rfl, if_pos rfl, h.rowsPointingTo k hk, hm.pointing k hk, bs, bs]
              exact ⟨_, _, _, _, _, _, _, _, rfl, rfl⟩
            · rw [if_neg e4, if_neg e4]
              exact ⟨_, _, _, _, _, _, _, _, rfl, rfl⟩
theorem five {w : Nat} (h : w < 5) : w = 0 ∨ w = 1 ∨ w = 2 ∨ w = 3 ∨ w = 4 := by omega
theorem pos_if {x : Nat} (h : x < 2 ^ 31) : (if nI x ≤ 0 then some (0 : Int32) else some 1) = some (bI (decide (0 < x))) := by
  by_cases q : 0 < x
  · rw [if_neg (nI_nle q h), decide_eq_true q]; rfl
  · rw [if_pos (by rw [show x = 0 by omega]; decide), decide_eq_false q]; rfl
theorem s_value (h : TF n K V G T nr ks vs wg ts) (hm : MF n K V G T b al) (mn : Int32) (oc os sd tg : Nat → Int32) (hd fe ms fa : Int32) (ch my kp : Nat → Int32) (p0 p1 : Int32) :
    ∃ out a1 a2 a3 a4 a5 b1 b2 b3 b4 b5 b6 b7, f_X5_value nr (bI b) ks vs wg ts mn oc os sd tg p0 p1 = some (out, a1, a2, a3, a4, a5) ∧ f_X6_value (-5) hd fe ms fa al ch my kp p0 p1 = some (out, b1, b2, b3, b4, b5, b6, b7) := by
  have hn := h.2.1
  unfold f_X5_value f_X6_value
  rw [c_isValue, m_isValue, bs, bs]
  cases hv : vB p0 with
  | false =>
    rw [if_pos (show bI false = 0 from rfl), if_pos (show bI false = 0 from rfl)]
    exact ⟨_, _, _, _, _, _, _, _, _, _, _, _, _, rfl, rfl⟩
  | true =>
    obtain ⟨v, hv8, rfl⟩ := vB_of hv
    obtain ⟨mn', oc', os', sd', tg', q1, q2⟩ := c_choices h b oc os sd tg
    have hO := q2.1
    have hmn : mn' = nI (prd (bas (Of n K G b none)) 10) := q2.2.2.2.2
    have hp := hO.prd_le (k := 10) (Nat.le_refl _)
    rw [if_neg (show ¬ bI true = 0 by decide), if_neg (show ¬ bI true = 0 by decide), q1, bs, in_4, bs]
    try dsimp only
    cases hw : dB p1 5 with
    | false =>
      have z := fun j hj => dB_ne hw (j := j) hj (by omega)
      rw [if_neg (show ¬ p1 = 0 from z 0 (by omega)), if_neg (show ¬ p1 = 1 from z 1 (by omega)), if_neg (show ¬ p1 = 2 from z 2 (by omega)), if_neg (show ¬ p1 = 3 from z 3 (by omega)), if_neg (show ¬ p1 = 4 from z 4 (by omega)), if_pos (show bI false = 0 from rfl)]
      exact ⟨_, _, _, _, _, _, _, _, _, _, _, _, _, rfl, rfl⟩
    | true =>
      obtain ⟨w, hw5, rfl⟩ := dB_of hw (by omega)
      obtain ⟨ch', my', kp', g1⟩ := m_asksValue hm ch my kp hv8
      have hs := val_sure (O := Of n K G b none) (V := V) (v := v)
      have hq := val_poss (O := Of n K G b none) (V := V) (v := v)
      have ho := val_out (O := Of n K G b none) (V := V) (v := v)
      have hcl := cntP_le (fun m => decide (0 < vkp (Of n K G b none) V v m)) (prd (bas (Of n K G b none)) 10)
      have hf10 : vfew (Of n K G b none) V v ≤ 10 := cntP_le _ 10
      have hm10 : vmost (Of n K G b none) V v ≤ 10 := cntP_le _ 10
      have h5 := oI_m5 (o := lowP (fun m => !decide (0 < vkp (Of n K G b none) V v m)) (prd (bas (Of n K G b none)) 10)) (fun y hy => by have := lowP_lt hy; omega)
      rw [show (fun k => op K (can n K G b) k n) = Of n K G b none from rfl] at g1
      rw [if_neg (show ¬ bI true = 0 by decide), show nI (97 + v) - 97 = nI v from by rw [s97 (by omega)]; exact nI_ext (by omega), g1, bs]
      try dsimp only
      rcases five hw5 with rfl | rfl | rfl | rfl | rfl
      · rw [if_pos (show nI 0 = 0 from rfl), if_pos (show nI 0 = 0 from rfl), c_fewestKept h hO q2.2.1 hv8, bs, pos_if (by omega), bs, c_oneIf, bs]
        by_cases e : 0 < vfew (Of n K G b none) V v
        · rw [decide_eq_true e, if_pos (h5.mpr (hs.mp e))]
          exact ⟨_, _, _, _, _, _, _, _, _, _, _, _, _, rfl, rfl⟩
        · rw [decide_eq_false e, if_neg (fun q => e (hs.mpr (h5.mp q)))]
          exact ⟨_, _, _, _, _, _, _, _, _, _, _, _, _, rfl, rfl⟩
      · rw [if_neg (show ¬ nI 1 = 0 by decide), if_neg (show ¬ nI 1 = 0 by decide), if_pos (show nI 1 = 1 from rfl), if_pos (show nI 1 = 1 from rfl), c_mostKept h hO q2.2.1 hv8, bs, pos_if (by omega), bs, c_oneIf, bs]
        by_cases e : 0 < vmost (Of n K G b none) V v
        · rw [decide_eq_true e, if_neg (nI_nle (hq.mp e) (by omega))]
          exact ⟨_, _, _, _, _, _, _, _, _, _, _, _, _, rfl, rfl⟩
        · have h0 : cntP (fun m => decide (0 < vkp (Of n K G b none) V v m)) (prd (bas (Of n K G b none)) 10) = 0 := by
            rcases Nat.eq_zero_or_pos (cntP (fun m => decide (0 < vkp (Of n K G b none) V v m)) (prd (bas (Of n K G b none)) 10)) with z | z
            · exact z
            · exact absurd (hq.mpr z) e
          rw [decide_eq_false e, if_pos (by rw [h0]; decide)]
          exact ⟨_, _, _, _, _, _, _, _, _, _, _, _, _, rfl, rfl⟩
      · rw [if_neg (show ¬ nI 2 = 0 by decide), if_neg (show ¬ nI 2 = 0 by decide), if_neg (show ¬ nI 2 = 1 by decide), if_neg (show ¬ nI 2 = 1 by decide), if_pos (show nI 2 = 2 from rfl), if_pos (show nI 2 = 2 from rfl)]
        unfold f_X0_mendings
        rw [bs, c_without h hO q2.2.1 hv8, bs, hmn, nI_subO (by omega), show prd (bas (Of n K G b none)) 10 - vout (Of n K G b none) V v = cntP (fun m => decide (0 < vkp (Of n K G b none) V v m)) (prd (bas (Of n K G b none)) 10) by omega]
        exact ⟨_, _, _, _, _, _, _, _, _, _, _, _, _, rfl, rfl⟩
      · rw [if_neg (show ¬ nI 3 = 0 by decide), if_neg (show ¬ nI 3 = 0 by decide), if_neg (show ¬ nI 3 = 1 by decide), if_neg (show ¬ nI 3 = 1 by decide), if_neg (show ¬ nI 3 = 2 by decide), if_neg (show ¬ nI 3 = 2 by decide), if_pos (show nI 3 = 3 from rfl), if_pos (show nI 3 = 3 from rfl), c_fewestKept h hO q2.2.1 hv8, bs]
        exact ⟨_, _, _, _, _, _, _, _, _, _, _, _, _, rfl, rfl⟩
      · rw [if_neg (show ¬ nI 4 = 0 by decide), if_neg (show ¬ nI 4 = 0 by decide), if_neg (show ¬ nI 4 = 1 by decide), if_neg (show ¬ nI 4 = 1 by decide), if_neg (show ¬ nI 4 = 2 by decide), if_neg (show ¬ nI 4 = 2 by decide), if_neg (show ¬ nI 4 = 3 by decide), if_neg (show ¬ nI 4 = 3 by decide), if_pos (show nI 4 = 4 from rfl), c_mostKept h hO q2.2.1 hv8, bs]
        exact ⟨_, _, _, _, _, _, _, _, _, _, _, _, _, rfl, rfl⟩
theorem s_way (h : TF n K V G T nr ks vs wg ts) (hm : MF n K V G T b al) (mn : Int32) (oc os sd tg : Nat → Int32) (hd fe ms fa : Int32) (ch my kp : Nat → Int32) (p0 p1 p2 : Int32) :
    ∃ out a1 a2 a3 a4 a5 b1 b2 b3 b4 b5 b6 b7, f_X5_way nr (bI b) ks wg ts mn oc os sd tg p0 p1 p2 = some (out, a1, a2, a3, a4, a5) ∧ f_X6_way (-5) hd fe ms fa al ch my kp p0 p1 p2 = some (out, b1, b2, b3, b4, b5, b6, b7) := by
  have hn := h.2.1
  unfold f_X5_way f_X6_way
  rw [c_isKey, m_isKey, bs, bs]
  cases hd0 : dB p0 10 with
  | false =>
    rw [if_pos (show bI false = 0 from rfl), if_pos (show bI false = 0 from rfl)]
    exact ⟨_, _, _, _, _, _, _, _, _, _, _, _, _, rfl, rfl⟩
  | true =>
    rw [if_neg (show ¬ bI true = 0 by decide), if_neg (show ¬ bI true = 0 by decide), c_isKey, m_isKey, bs, bs]
    cases hd1 : dB p1 10 with
    | false =>
      rw [if_pos (show bI false = 0 from rfl), if_pos (show bI false = 0 from rfl)]
      exact ⟨_, _, _, _, _, _, _, _, _, _, _, _, _, rfl, rfl⟩
    | true =>
      obtain ⟨x, hx, rfl⟩ := dB_of hd0 (by omega)
      obtain ⟨y, hy, rfl⟩ := dB_of hd1 (by omega)
      obtain ⟨mn', oc', os', sd', tg', q1, q2⟩ := c_choices h b oc os sd tg
      have hO := q2.1
      have hl := fun k hk => (hO.2.1 k hk).1
      have hT := hTT (b := b) h
      have hp := hO.prd_le (k := 10) (Nat.le_refl _)
      rw [if_neg (show ¬ bI true = 0 by decide), if_neg (show ¬ bI true = 0 by decide), q1, bs, in_4, bs]
      try dsimp only
      cases hw : dB p2 5 with
      | false =>
        have z := fun j hj => dB_ne hw (j := j) hj (by omega)
        rw [if_neg (show ¬ p2 = 0 from z 0 (by omega)), if_neg (show ¬ p2 = 1 from z 1 (by omega)), if_neg (show ¬ p2 = 2 from z 2 (by omega)), if_neg (show ¬ p2 = 3 from z 3 (by omega)), if_neg (show ¬ p2 = 4 from z 4 (by omega)), if_pos (show bI false = 0 from rfl)]
        exact ⟨_, _, _, _, _, _, _, _, _, _, _, _, _, rfl, rfl⟩
      | true =>
        obtain ⟨w, hw5, rfl⟩ := dB_of hw (by omega)
        obtain ⟨mst', ch', my', kp', g1⟩ := m_asksWay hm none (fun r hr => by cases hr) ch my kp hx hy
        rw [show (fun k => op K (cnF n K G b none) k n) = Of n K G b none from rfl, show oI none = -5 from rfl] at g1
        have hs := sure_iff (O := Of n K G b none) (T := T) (a := x) (b := y)
        rw [← lowP_fail] at hs
        have hq := poss_iff (O := Of n K G b none) (T := T) (a := x) (b := y)
        have hfe := few_eq (O := Of n K G b none) (T := T) (a := x) (b := y)
        have hcl := cntP_le (fun m => (wl (Of n K G b none) T x y m).isSome) (prd (bas (Of n K G b none)) 10)
        have h5 := oI_m5 (o := lowP (fun m => !(wl (Of n K G b none) T x y m).isSome) (prd (bas (Of n K G b none)) 10)) (fun y hy => by have := lowP_lt hy; omega)
        rw [if_neg (show ¬ bI true = 0 by decide), g1, bs]
        try dsimp only
        rcases five hw5 with rfl | rfl | rfl | rfl | rfl
        · rw [if_pos (show nI 0 = 0 from rfl), if_pos (show nI 0 = 0 from rfl), c_isSureWay q2.2.1 hl q2.2.2.1 hT hx hy, bs, c_oneIf, bs]
          by_cases e : SG (thO (Of n K G b none)) (tsO (Of n K G b none) T) y 9 x
          · rw [cb_iff.mpr e, if_pos (h5.mpr (hs.mp e))]
            exact ⟨_, _, _, _, _, _, _, _, _, _, _, _, _, rfl, rfl⟩
          · rw [cb_false.mpr e, if_neg (fun q => e (hs.mpr (h5.mp q)))]
            exact ⟨_, _, _, _, _, _, _, _, _, _, _, _, _, rfl, rfl⟩
        · rw [if_neg (show ¬ nI 1 = 0 by decide), if_neg (show ¬ nI 1 = 0 by decide), if_pos (show nI 1 = 1 from rfl), if_pos (show nI 1 = 1 from rfl), c_fewest q2.2.1 hl q2.2.2.1 hx hy, bs]
          cases hl0 : lowP (fun p => cb (RG (thO (Of n K G b none)) (tsO (Of n K G b none) T) y p x)) 10 with
          | none =>
            have hno : ¬ RG (thO (Of n K G b none)) (tsO (Of n K G b none) T) y 9 x := cb_false.mp (lowP_none.mp hl0 9 (by omega))
            have h0 : cntP (fun m => (wl (Of n K G b none) T x y m).isSome) (prd (bas (Of n K G b none)) 10) = 0 := by
              rcases Nat.eq_zero_or_pos (cntP (fun m => (wl (Of n K G b none) T x y m).isSome) (prd (bas (Of n K G b none)) 10)) with z | z
              · exact z
              · exact absurd (hq.mpr z) hno
            rw [if_pos (show oI none = -5 from rfl), bs, show (0 : Int32) = bI false from rfl, c_oneIf, bs, h0, show bI false = (0 : Int32) from rfl, if_pos (show nI 0 ≤ 0 by decide)]
            exact ⟨_, _, _, _, _, _, _, _, _, _, _, _, _, rfl, rfl⟩
          | some p =>
            obtain ⟨l1, l2, _⟩ := lowP_some.mp hl0
            have hyes := RG_mono (cb_iff.mp l2) (9 - p)
            rw [show p + (9 - p) = 9 by omega] at hyes
            rw [if_neg (show ¬ oI (some p) = -5 from nI_ne5 (by omega)), bs, show (1 : Int32) = bI true from rfl, c_oneIf, bs, if_neg (nI_nle (hq.mp hyes) (by omega))]
            exact ⟨_, _, _, _, _, _, _, _, _, _, _, _, _, rfl, rfl⟩
        · rw [if_neg (show ¬ nI 2 = 0 by decide), if_neg (show ¬ nI 2 = 0 by decide), if_neg (show ¬ nI 2 = 1 by decide), if_neg (show ¬ nI 2 = 1 by decide), if_pos (show nI 2 = 2 from rfl), if_pos (show nI 2 = 2 from rfl), c_withWay h q2 hx hy, bs]
          exact ⟨_, _, _, _, _, _, _, _, _, _, _, _, _, rfl, rfl⟩
        · rw [if_neg (show ¬ nI 3 = 0 by decide), if_neg (show ¬ nI 3 = 0 by decide), if_neg (show ¬ nI 3 = 1 by decide), if_neg (show ¬ nI 3 = 1 by decide), if_neg (show ¬ nI 3 = 2 by decide), if_neg (show ¬ nI 3 = 2 by decide), if_pos (show nI 3 = 3 from rfl), if_pos (show nI 3 = 3 from rfl), c_withoutWay h q2 hx hy, bs]
          exact ⟨_, _, _, _, _, _, _, _, _, _, _, _, _, rfl, rfl⟩
        · rw [if_neg (show ¬ nI 4 = 0 by decide), if_neg (show ¬ nI 4 = 0 by decide), if_neg (show ¬ nI 4 = 1 by decide), if_neg (show ¬ nI 4 = 1 by decide), if_neg (show ¬ nI 4 = 2 by decide), if_neg (show ¬ nI 4 = 2 by decide), if_neg (show ¬ nI 4 = 3 by decide), if_neg (show ¬ nI 4 = 3 by decide), if_pos (show nI 4 = 4 from rfl), c_fewest q2.2.1 hl q2.2.2.1 hx hy, bs, hfe]
          exact ⟨_, _, _, _, _, _, _, _, _, _, _, _, _, rfl, rfl⟩
theorem s_kept (h : TF n K V G T nr ks vs wg ts) (hm : MF n K V G T b al) (mn : Int32) (oc os sd tg : Nat → Int32) (ch my kp : Nat → Int32) (p0 p1 : Int32) :
    ∃ out a1 a2 a3 a4 a5 b1 b2 b3, f_X5_kept nr (bI b) ks wg ts mn oc os sd tg p0 p1 = some (out, a1, a2, a3, a4, a5) ∧ f_X6_kept_ (-5) al ch my kp p0 p1 = some (out, b1, b2, b3) := by
  have hn := h.2.1
  unfold f_X5_kept f_X6_kept_
  rw [c_isKey, m_isKey, bs, bs]
  cases hd0 : dB p1 10 with
  | false =>
    rw [if_pos (show bI false = 0 from rfl), if_pos (show bI false = 0 from rfl)]
    exact ⟨_, _, _, _, _, _, _, _, _, rfl, rfl⟩
  | true =>
    obtain ⟨k, hk, rfl⟩ := dB_of hd0 (by omega)
    obtain ⟨mn', oc', os', sd', tg', q1, q2⟩ := c_choices h b oc os sd tg
    obtain ⟨ch', my', g1, g2⟩ := m_finds hm none (fun r hr => by cases hr) ch my
    rw [show (fun k => op K (cnF n K G b none) k n) = Of n K G b none from rfl] at g2
    rw [show oI none = -5 from rfl] at g1
    have hO := q2.1
    have hmn : mn' = nI (prd (bas (Of n K G b none)) 10) := q2.2.2.2.2
    have hp := hO.prd_le (k := 10) (Nat.le_refl _)
    rw [if_neg (show ¬ bI true = 0 by decide), if_neg (show ¬ bI true = 0 by decide), q1, g1, bs, bs]
    try dsimp only
    rw [m_mendings g2 hO, bs, in_sub p0 (by omega), bs]
    have z0 : (0 : Int32).toInt = 0 := by decide
    have zm : (nI (prd (bas (Of n K G b none)) 10)).toInt = ((prd (bas (Of n K G b none)) 10 : Nat) : Int) := nI_toInt (by omega)
    unfold f_X0_mendings
    cases hw : dB p0 (prd (bas (Of n K G b none)) 10) with
    | false =>
      have hw2 := of_decide_eq_false hw
      rw [if_pos (show bI false = 0 from rfl)]
      by_cases e : p0 < 0
      · rw [if_pos e]
        exact ⟨_, _, _, _, _, _, _, _, _, rfl, rfl⟩
      · rw [if_neg e, bs, hmn, if_neg (by rw [Int32.lt_iff_toInt_lt] at e ⊢; omega)]
        exact ⟨_, _, _, _, _, _, _, _, _, rfl, rfl⟩
    | true =>
      obtain ⟨m, hm', rfl⟩ := dB_of hw (by omega)
      obtain ⟨kp', t1, t2⟩ := m_takes g2 hO kp (m := m) (by omega)
      rw [if_neg (show ¬ bI true = 0 by decide), t1, bs, bs, if_pos (nI_in hk (by omega)), nI_clamp (by omega), t2 k hk, if_neg (nI_pos (by omega)), hmn, if_pos (nI_lt hm' (by omega)), c_rowKeptBy q2 (by omega) hk, bs]
      exact ⟨_, _, _, _, _, _, _, _, _, rfl, rfl⟩
theorem s_sum (h : TF n K V G T nr ks vs wg ts) (hm : MF n K V G T b al) (oc os sd tg : Nat → Int32) (ch my kp : Nat → Int32) (p0 : Int32) :
    ∃ out a1 a2 a3 a4 a5 b1 b2 b3, f_X5_sum nr (bI b) ks wg ts oc os sd tg p0 = some (out, a1, a2, a3, a4, a5) ∧ f_X6_sum (-5) al ch my kp p0 = some (out, b1, b2, b3) := by
  have hn := h.2.1
  obtain ⟨mn', oc', os', sd', tg', q1, q2⟩ := c_choices h b oc os sd tg
  have hO := q2.1
  have hp := hO.prd_le (k := 10) (Nat.le_refl _)
  have hlo : f_X0_firstMendingByWeight oc' os' sd' wg (-1) = some (nI (bm (Of n K G b none) G false)) := c_byWeight h q2 false
  have hhi : f_X0_firstMendingByWeight oc' os' sd' wg 1 = some (nI (bm (Of n K G b none) G true)) := c_byWeight h q2 true
  have bl := bm_lt (O := Of n K G b none) (G := G) (up := false)
  have bh := bm_lt (O := Of n K G b none) (G := G) (up := true)
  cases hw : dB p0 4 with
  | false =>
    have z := fun j hj => dB_ne hw (j := j) hj (by omega)
    unfold f_X5_sum f_X6_sum
    rw [q1, bs, in_3, bs, hw]
    try dsimp only
    rw [if_neg (show ¬ p0 = 0 from z 0 (by omega)), if_neg (show ¬ p0 = 1 from z 1 (by omega)), if_neg (show ¬ p0 = 2 from z 2 (by omega)), if_neg (show ¬ p0 = 3 from z 3 (by omega)), if_pos (show bI false = 0 from rfl)]
    exact ⟨_, _, _, _, _, _, _, _, _, rfl, rfl⟩
  | true =>
    obtain ⟨w, hw4, rfl⟩ := dB_of hw (by omega)
    obtain ⟨ch', my', kp', g1⟩ := m_sum hm ch my kp hw4
    rw [show (fun k => op K (can n K G b) k n) = Of n K G b none from rfl] at g1
    rw [g1]
    unfold f_X5_sum f_X0_firstLightestMending f_X0_firstHeaviestMending
    rw [q1, bs]
    try dsimp only
    rcases (show w = 0 ∨ w = 1 ∨ w = 2 ∨ w = 3 by omega) with rfl | rfl | rfl | rfl
    · rw [if_pos (show nI 0 = 0 from rfl), hlo, bs, bs, c_sumKept h q2 (by omega), bs]
      exact ⟨_, _, _, _, _, _, _, _, _, rfl, rfl⟩
    · rw [if_neg (show ¬ nI 1 = 0 by decide), if_pos (show nI 1 = 1 from rfl), hhi, bs, bs, c_sumKept h q2 (by omega), bs]
      exact ⟨_, _, _, _, _, _, _, _, _, rfl, rfl⟩
    · rw [if_neg (show ¬ nI 2 = 0 by decide), if_neg (show ¬ nI 2 = 1 by decide), if_pos (show nI 2 = 2 from rfl), hlo, bs, bs]
      exact ⟨_, _, _, _, _, _, _, _, _, rfl, rfl⟩
    · rw [if_neg (show ¬ nI 3 = 0 by decide), if_neg (show ¬ nI 3 = 1 by decide), if_neg (show ¬ nI 3 = 2 by decide), if_pos (show nI 3 = 3 from rfl), hhi, bs, bs]
      exact ⟨_, _, _, _, _, _, _, _, _, rfl, rfl⟩
theorem s_best (h : TF n K V G T nr ks vs wg ts) (hm : MF n K V G T b al) (mn : Int32) (oc os sd tg : Nat → Int32) (hd fe ms fa : Int32) (ch my kp : Nat → Int32) (p0 p1 p2 : Int32) :
    ∃ out a1 a2 a3 a4 a5 b1 b2 b3 b4 b5 b6 b7, f_X5_bestMended nr (bI b) ks wg ts mn oc os sd tg p0 p1 p2 = some (out, a1, a2, a3, a4, a5) ∧ f_X6_bestMended (-5) hd fe ms fa al ch my kp p0 p1 p2 = some (out, -5, b1, b2, b3, b4, b5, b6, b7) := by
  have hn := h.2.1
  unfold f_X5_bestMended f_X6_bestMended
  rw [c_isKey, m_isKey, bs, bs]
  cases hd0 : dB p0 10 with
  | false =>
    rw [if_pos (show bI false = 0 from rfl), if_pos (show bI false = 0 from rfl)]
    exact ⟨_, _, _, _, _, _, _, _, _, _, _, _, _, rfl, rfl⟩
  | true =>
    rw [if_neg (show ¬ bI true = 0 by decide), if_neg (show ¬ bI true = 0 by decide), c_isKey, m_isKey, bs, bs]
    cases hd1 : dB p1 10 with
    | false =>
      rw [if_pos (show bI false = 0 from rfl), if_pos (show bI false = 0 from rfl)]
      exact ⟨_, _, _, _, _, _, _, _, _, _, _, _, _, rfl, rfl⟩
    | true =>
      obtain ⟨x, hx, rfl⟩ := dB_of hd0 (by omega)
      obtain ⟨y, hy, rfl⟩ := dB_of hd1 (by omega)
      rw [if_neg (show ¬ bI true = 0 by decide), if_neg (show ¬ bI true = 0 by decide), in_1, bs]
      cases hw : dB p2 2 with
      | false =>
        have z := fun j hj => dB_ne hw (j := j) hj (by omega)
        rw [if_neg (show ¬ p2 = 0 from z 0 (by omega)), if_neg (show ¬ p2 = 1 from z 1 (by omega)), if_pos (show bI false = 0 from rfl)]
        exact ⟨_, _, _, _, _, _, _, _, _, _, _, _, _, rfl, rfl⟩
      | true =>
        obtain ⟨w, hw2, rfl⟩ := dB_of hw (by omega)
        obtain ⟨mn', oc', os', sd', tg', q1, q2⟩ := c_choices h b oc os sd tg
        obtain ⟨hd', fe', ms', fa', ch', my', kp', g1⟩ := m_best hm hx hy ch my kp
        rw [if_neg (show ¬ bI true = 0 by decide), g1, bs]
        try dsimp only
        rcases (show w = 0 ∨ w = 1 by omega) with rfl | rfl
        · rw [if_pos (show nI 0 = 0 from rfl), q1, bs]
          try dsimp only
          rw [c_best h q2 hx hy, bs]
          try dsimp only
          cases hb : bst n K G T b x y with
          | none =>
            rw [if_pos (show oI none = -5 from rfl), if_pos (show oI none = -5 from rfl)]
            exact ⟨_, _, _, _, _, _, _, _, _, _, _, _, _, rfl, rfl⟩
          | some r =>
            have hr := bst_lt hb
            rw [if_neg (show ¬ oI (some r) = -5 from nI_ne5 (by omega)), if_neg (show ¬ oI (some r) = -5 from nI_ne5 (by omega)), if_neg (show ¬ nI 0 = 1 by decide), show oI (some r) = nI r from rfl, h.keyAt hr, hm.key hr, bs, bs]
            exact ⟨_, _, _, _, _, _, _, _, _, _, _, _, _, rfl, rfl⟩
        · rw [if_neg (show ¬ nI 1 = 0 by decide), if_pos (show nI 1 = 1 from rfl), q1, bs]
          try dsimp only
          rw [c_best h q2 hx hy, bs]
          try dsimp only
          cases hb : bst n K G T b x y with
          | none =>
            rw [if_pos (show oI none = -5 from rfl), if_pos (show oI none = -5 from rfl)]
            exact ⟨_, _, _, _, _, _, _, _, _, _, _, _, _, rfl, rfl⟩
          | some r =>
            have hr := bst_lt hb
            rw [if_neg (show ¬ oI (some r) = -5 from nI_ne5 (by omega)), if_neg (show ¬ oI (some r) = -5 from nI_ne5 (by omega)), if_pos (show nI 1 = 1 from rfl)]
            exact ⟨_, _, _, _, _, _, _, _, _, _, _, _, _, rfl, rfl⟩
theorem s_count (h : TF n K V G T nr ks vs wg ts) (hm : MF n K V G T b al) (mn nz tl : Int32) (oc os sd tg : Nat → Int32) (hd fe ms fa : Int32) (ch my kp wy : Nat → Int32) (p0 : Int32) :
    ∃ out a1 a2 a3 a4 a5 b1 b2 b3 b4 b5 b6 b7 b8, f_X5_count nr (bI b) ks vs wg ts mn oc os sd tg nz tl p0 = some (out, a1, a2, a3, a4, a5) ∧ f_X6_count nz (-5) tl hd fe ms fa al ch my kp wy p0 = some (out, b1, b2, b3, b4, b5, b6, b7, b8) := by
  have hn := h.2.1
  obtain ⟨mn', oc', os', sd', tg', q1, q2⟩ := c_choices h b oc os sd tg
  have hO := q2.1
  have hl := fun k hk => (hO.2.1 k hk).1
  have hT := hTT (b := b) h
  have hmn : mn' = nI (prd (bas (Of n K G b none)) 10) := q2.2.2.2.2
  unfold f_X5_count f_X6_count
  by_cases e0 : p0 = 0
  · subst e0
    unfold f_X3_size
    rw [if_pos rfl, if_pos rfl, bs, h.1, hm.1]
    exact ⟨_, _, _, _, _, _, _, _, _, _, _, _, _, _, rfl, rfl⟩
  rw [if_neg e0, if_neg e0]
  by_cases e1 : p0 = 1
  · subst e1
    have a1 : f_X3_keysThere nr ks = some (nI (cntP (fun k => decide (1 ≤ cntP (fun j => K j == k) n)) 10)) := by
      unfold f_X3_keysThere
      rw [show (1 : Int32) = nI 1 from rfl, h.keysWith 1 (by omega), bs]
    have a2 : f_X6_keysWith al 1 = some (nI (cntP (fun k => decide (1 ≤ cntP (fun j => K j == k) n)) 10)) := hm.keysWith 1 (by omega)
    rw [if_pos rfl, if_pos rfl, a1, a2, bs, bs]
    exact ⟨_, _, _, _, _, _, _, _, _, _, _, _, _, _, rfl, rfl⟩
  rw [if_neg e1, if_neg e1]
  by_cases e2 : p0 = 2
  · subst e2
    have a1 : f_X3_doubledKeys nr ks = some (nI (cntP (fun k => decide (2 ≤ cntP (fun j => K j == k) n)) 10)) := by
      unfold f_X3_doubledKeys
      rw [show (2 : Int32) = nI 2 from rfl, h.keysWith 2 (by omega), bs]
    have a2 : f_X6_keysWith al 2 = some (nI (cntP (fun k => decide (2 ≤ cntP (fun j => K j == k) n)) 10)) := hm.keysWith 2 (by omega)
    rw [if_pos rfl, if_pos rfl, a1, a2, bs, bs]
    exact ⟨_, _, _, _, _, _, _, _, _, _, _, _, _, _, rfl, rfl⟩
  rw [if_neg e2, if_neg e2]
  by_cases e3 : p0 = 3
  · subst e3
    obtain ⟨ch', my', g1, g2⟩ := m_finds hm none (fun r hr => by cases hr) ch my
    rw [show (fun k => op K (cnF n K G b none) k n) = Of n K G b none from rfl] at g2
    rw [show oI none = -5 from rfl] at g1
    rw [if_pos rfl, if_pos rfl, q1, g1, bs, bs]
    try dsimp only
    unfold f_X0_mendings
    rw [bs, m_mendings g2 hO, bs, hmn]
    exact ⟨_, _, _, _, _, _, _, _, _, _, _, _, _, _, rfl, rfl⟩
  rw [if_neg e3, if_neg e3]
  by_cases e4 : p0 = 4
  · subst e4
    obtain ⟨ch', my', g1⟩ := m_sureRows hm ch my
    rw [if_pos rfl, if_pos rfl, q1, g1, bs, bs]
    try dsimp only
    rw [c_sureRows h hO q2.2.1, bs]
    exact ⟨_, _, _, _, _, _, _, _, _, _, _, _, _, _, rfl, rfl⟩
  rw [if_neg e4, if_neg e4]
  by_cases e5 : p0 = 5
  · subst e5
    obtain ⟨hd', fe', ms', fa', ch', my', kp', g1⟩ := m_values hm true hd fe ms fa ch my kp
    rw [show bI true = 1 from rfl] at g1
    rw [if_pos rfl, if_pos rfl, q1, g1, bs, bs]
    try dsimp only
    rw [c_sureValues h hO q2.2.1, bs]
    exact ⟨_, _, _, _, _, _, _, _, _, _, _, _, _, _, rfl, rfl⟩
  rw [if_neg e5, if_neg e5]
  by_cases e6 : p0 = 6
  · subst e6
    obtain ⟨hd', fe', ms', fa', ch', my', kp', g1⟩ := m_values hm false hd fe ms fa ch my kp
    rw [show bI false = 0 from rfl] at g1
    rw [if_pos rfl, if_pos rfl, if_neg (show ¬ (6 : Int32) = 5 by decide), bs, q1, g1, bs, bs]
    try dsimp only
    rw [c_possibleValues h hO q2.2.1, bs]
    exact ⟨_, _, _, _, _, _, _, _, _, _, _, _, _, _, rfl, rfl⟩
  rw [if_neg e6, if_neg e6]
  by_cases e7 : p0 = 7
  · subst e7
    obtain ⟨ch', my', kp', wy', g1⟩ := m_waysThat hm true ch my kp wy
    rw [show bI true = 1 from rfl, ways_eq true] at g1
    rw [if_pos rfl, if_pos rfl, q1, g1, bs, bs]
    try dsimp only
    rw [c_sureWays q2.2.1 hl q2.2.2.1 hT, bs]
    exact ⟨_, _, _, _, _, _, _, _, _, _, _, _, _, _, rfl, rfl⟩
  rw [if_neg e7, if_neg e7]
  by_cases e8 : p0 = 8
  · subst e8
    obtain ⟨ch', my', kp', wy', g1⟩ := m_waysThat hm false ch my kp wy
    rw [show bI false = 0 from rfl, ways_eq false] at g1
    rw [if_pos rfl, if_pos rfl, if_neg (show ¬ (8 : Int32) = 7 by decide), bs, q1, g1, bs, bs]
    try dsimp only
    rw [c_possibleWays q2.2.1 hl q2.2.2.1, bs]
    exact ⟨_, _, _, _, _, _, _, _, _, _, _, _, _, _, rfl, rfl⟩
  rw [if_neg e8, if_neg e8]
  by_cases e9 : p0 = 9
  · subst e9
    unfold f_X3_prefersHeaviest
    rw [if_pos rfl, if_pos rfl, if_pos (isB_bI b), bs, c_oneIf, bs, hm.2.1]
    exact ⟨_, _, _, _, _, _, _, _, _, _, _, _, _, _, rfl, rfl⟩
  rw [if_neg e9, if_neg e9]
  by_cases e10 : p0 = 10
  · subst e10
    unfold f_X1_size
    rw [if_pos rfl, if_pos rfl, bs]
    exact ⟨_, _, _, _, _, _, _, _, _, _, _, _, _, _, rfl, rfl⟩
  rw [if_neg e10, if_neg e10]
  by_cases e11 : p0 = 11
  · subst e11
    unfold f_X4_length
    rw [if_pos rfl, if_pos rfl, bs]
    exact ⟨_, _, _, _, _, _, _, _, _, _, _, _, _, _, rfl, rfl⟩
  rw [if_neg e11, if_neg e11]
  exact ⟨_, _, _, _, _, _, _, _, _, _, _, _, _, _, rfl, rfl⟩
end QQ
