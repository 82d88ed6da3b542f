/-! values: how many kept rows have one, at least, at most, in how many mendings; both sides -/
theorem cntP_not (p : Nat → Bool) (n : Nat) : cntP p n + cntP (fun i => !p i) n = n := by
  induction n with
  | zero => rfl
  | succ n ih =>
    unfold cntP
    cases hp : p n with
    | true => simp only [if_true]; simp; omega
    | false => simp; omega
def vfb (O : Nat → List Nat) (V : Nat → Nat) (v k d : Nat) : Bool := decide (0 < (O k).length) && (V ((O k).getD d 0) == v)
def vkp (O : Nat → List Nat) (V : Nat → Nat) (v m : Nat) : Nat := cntP (fun k => vfb O V v k (dg (bas O) m k)) 10
def vfew (O : Nat → List Nat) (V : Nat → Nat) (v : Nat) : Nat := cntP (fun k => decide (0 < (O k).length) && decide (cntP (fun d => V ((O k).getD d 0) == v) (O k).length = (O k).length)) 10
def vmost (O : Nat → List Nat) (V : Nat → Nat) (v : Nat) : Nat := cntP (fun k => decide (0 < cntP (fun d => V ((O k).getD d 0) == v) (O k).length)) 10
def vout (O : Nat → List Nat) (V : Nat → Nat) (v : Nat) : Nat := prd (fun k => cntP (fun d => !vfb O V v k d) (bas O k)) 10
section VALP
variable {O : Nat → List Nat} {V : Nat → Nat} {v : Nat}
theorem bas_len {k : Nat} (h : 0 < (O k).length) : bas O k = (O k).length := by
  unfold bas
  rw [if_neg (by omega)]
theorem val_min : minP (vkp O V v) 10 (prd (bas O) 10) = vfew O V v := by
  refine minP_eq (fun m hm => ?_) ?_ (cntP_le _ 10)
  · refine cntP_le_of (fun k _ hk => ?_)
    rw [Bool.and_eq_true] at hk
    obtain ⟨h1, h2⟩ := hk
    have h1' := of_decide_eq_true h1
    unfold vfb
    rw [h1, Bool.true_and]
    exact cntP_all.mp (of_decide_eq_true h2) _ (dg_len (by omega))
  · have hx : ∀ k, ∃ d, d < bas O k ∧ vfb O V v k d = (decide (0 < (O k).length) && decide (cntP (fun d => V ((O k).getD d 0) == v) (O k).length = (O k).length)) := by
      intro k
      by_cases h : 0 < (O k).length
      · by_cases e : ∀ d, d < (O k).length → (V ((O k).getD d 0) == v) = true
        · refine ⟨0, bas_pos O k, ?_⟩
          unfold vfb
          rw [e 0 h, decide_eq_true (cntP_all.mpr e)]
        · have : ∃ d, d < (O k).length ∧ (V ((O k).getD d 0) == v) = false := by
            refine Classical.byContradiction fun hn => e (fun d hd => ?_)
            cases hb : (V ((O k).getD d 0) == v) with
            | true => rfl
            | false => exact absurd ⟨d, hd, hb⟩ hn
          obtain ⟨d, hd, hb⟩ := this
          refine ⟨d, by rw [bas_len h]; exact hd, ?_⟩
          unfold vfb
          rw [hb, Bool.and_false, decide_eq_false (fun q => e (cntP_all.mp q)), Bool.and_false]
      · refine ⟨0, bas_pos O k, ?_⟩
        unfold vfb
        rw [decide_eq_false h, Bool.false_and, Bool.false_and]
    obtain ⟨c, hc⟩ := Classical.axiomOfChoice hx
    refine ⟨enc (bas O) c 10, enc_lt (fun k _ => (hc k).1), cntP_congr (fun k hk => ?_)⟩
    rw [dg_enc (fun k _ => (hc k).1) k hk]
    exact (hc k).2
theorem val_max : maxP (vkp O V v) 0 (prd (bas O) 10) = vmost O V v := by
  refine maxP_eq (fun m hm => ?_) ?_ (Nat.zero_le _)
  · refine cntP_le_of (fun k _ hk => ?_)
    unfold vfb at hk
    rw [Bool.and_eq_true] at hk
    obtain ⟨h1, h2⟩ := hk
    have h1' := of_decide_eq_true h1
    exact decide_eq_true (cntP_pos.mpr ⟨_, dg_len (by omega), h2⟩)
  · have hx : ∀ k, ∃ d, d < bas O k ∧ vfb O V v k d = decide (0 < cntP (fun d => V ((O k).getD d 0) == v) (O k).length) := by
      intro k
      by_cases e : 0 < cntP (fun d => V ((O k).getD d 0) == v) (O k).length
      · obtain ⟨d, hd, hb⟩ := cntP_pos.mp e
        refine ⟨d, by rw [bas_len (by omega)]; exact hd, ?_⟩
        unfold vfb
        rw [hb, decide_eq_true e, decide_eq_true (by omega)]
        rfl
      · refine ⟨0, bas_pos O k, ?_⟩
        rw [decide_eq_false e]
        cases hb : vfb O V v k 0 with
        | false => rfl
        | true =>
          unfold vfb at hb
          rw [Bool.and_eq_true] at hb
          exact absurd (cntP_pos.mpr ⟨0, of_decide_eq_true hb.1, hb.2⟩) e
    obtain ⟨c, hc⟩ := Classical.axiomOfChoice hx
    refine ⟨enc (bas O) c 10, enc_lt (fun k _ => (hc k).1), cntP_congr (fun k hk => ?_)⟩
    rw [dg_enc (fun k _ => (hc k).1) k hk]
    exact (hc k).2
theorem val_out : cntP (fun m => decide (0 < vkp O V v m)) (prd (bas O) 10) + vout O V v = prd (bas O) 10 := by
  have h1 := cntP_digits (bas O) (fun k d => !vfb O V v k d) 10 (fun k _ => bas_pos O k)
  have h2 : cntP (fun m => !decide (0 < vkp O V v m)) (prd (bas O) 10) = vout O V v := by
    rw [show vout O V v = prd (fun k => cntP (fun d => !vfb O V v k d) (bas O k)) 10 from rfl, ← h1]
    refine cntP_congr (fun m _ => ?_)
    by_cases e : 0 < vkp O V v m
    · rw [decide_eq_true e]
      obtain ⟨k, hk, hb⟩ := cntP_pos.mp e
      cases ha : allK (fun k d => !vfb O V v k d) (dg (bas O) m) 10 with
      | false => rfl
      | true =>
        have := allK_iff.mp ha k hk
        try dsimp only at this hb
        rw [hb] at this
        cases this
    · rw [decide_eq_false e]
      symm
      refine allK_iff.mpr (fun k hk => ?_)
      cases hb : vfb O V v k (dg (bas O) m k) with
      | false => rfl
      | true => exact absurd (cntP_pos.mpr ⟨k, hk, hb⟩) e
  rw [← h2]
  exact cntP_not _ _
theorem val_sure : 0 < vfew O V v ↔ lowP (fun m => !decide (0 < vkp O V v m)) (prd (bas O) 10) = none := by
  rw [lowP_none]
  have hmin := val_min (O := O) (V := V) (v := v)
  constructor
  · intro h m hm
    have h1 : vfew O V v ≤ vkp O V v m := by
      refine cntP_le_of (fun k _ hk => ?_)
      rw [Bool.and_eq_true] at hk
      obtain ⟨h1, h2⟩ := hk
      have h1' := of_decide_eq_true h1
      unfold vfb
      rw [h1, Bool.true_and]
      exact cntP_all.mp (of_decide_eq_true h2) _ (dg_len (by omega))
    rw [decide_eq_true (by omega)]
    rfl
  · intro h
    rcases Nat.eq_zero_or_pos (vfew O V v) with e | e
    · have hge : ∀ i, i ≤ prd (bas O) 10 → 0 < minP (vkp O V v) 10 i := by
        intro i
        induction i with
        | zero => intro _; show 0 < 10; omega
        | succ i ih =>
          intro hi
          have h1 := h i (by omega)
          unfold minP
          split
          · simpa using h1
          · exact ih (by omega)
      have := hge _ (Nat.le_refl _)
      rw [hmin] at this
      omega
    · exact e
theorem val_poss : 0 < vmost O V v ↔ 0 < cntP (fun m => decide (0 < vkp O V v m)) (prd (bas O) 10) := by
  rw [cntP_pos (n := prd (bas O) 10), ← val_max]
  constructor
  · intro h
    have hx : ∀ i, 0 < maxP (vkp O V v) 0 i → ∃ j, j < i ∧ decide (0 < vkp O V v j) = true := by
      intro i
      induction i with
      | zero => intro h; exact absurd h (Nat.lt_irrefl 0)
      | succ i ih =>
        intro h
        unfold maxP at h
        split at h
        · exact ⟨i, by omega, decide_eq_true h⟩
        · obtain ⟨j, hj, hb⟩ := ih h
          exact ⟨j, by omega, hb⟩
    exact hx _ h
  · rintro ⟨m, hm, hb⟩
    have hb' := of_decide_eq_true hb
    have hx : ∀ i, m < i → 0 < maxP (vkp O V v) 0 i := by
      intro i
      induction i with
      | zero => intro h; omega
      | succ i ih =>
        intro h
        unfold maxP
        split
        · omega
        · rename_i hn
          by_cases e : m = i
          · subst e; omega
          · exact ih (by omega)
    exact hx _ hm
end VALP
section VALC
variable {n : Nat} {K V G T : Nat → Nat} {nr : Int32} {ks vs wg ts : Nat → Int32} {O : Nat → List Nat} {oc os : Nat → Int32}
theorem c_optionsWith (h : TF n K V G T nr ks vs wg ts) (hO : OK n K O) (h1 : CHo O 10 oc os) {k v : Nat} (hk : k < 10) (hv : v < 8) : f_X0_optionsWith oc os vs (nI k) (nI (97 + v)) = some (nI (cntP (fun d => V ((O k).getD d 0) == v) (O k).length)) := by
  have hl := (hO.2.1 k hk).1
  unfold f_X0_optionsWith
  refine iter_go _ (fun i => (nI (cntP (fun d => V ((O k).getD d 0) == v) i), nI i)) (O k).length (by omega) rfl (fun i hi => ?_) ?_
  · have hr := ((hO.2.1 k hk).2 _ (getD_mem hi)).1
    have hV := (h.2.2 _ hr).2.2.2.2.2.1
    simp only [b_X0_optionsWith_1]
    rw [h1.optionsOf hk, bs, if_neg (nI_ge hi (by omega)), h1.option hk hi hl, bs, h.valueAt hr, bs]
    by_cases e : V ((O k).getD i 0) = v
    · rw [if_pos (by rw [e]), bs, nI_1, nI_1]
      simp only [cntP, e, beq_self_eq_true, if_true]
    · have e2 : (V ((O k).getD i 0) == v) = false := by simpa using e
      rw [if_neg (fun q => e (by have := (nI_eq (by omega) (by omega)).mp q; omega)), bs, nI_1]
      simp only [cntP, e2]
      rfl
  · simp only [b_X0_optionsWith_1]
    rw [h1.optionsOf hk, bs, if_pos (nI_le (Nat.le_refl _) (by omega))]
theorem c_fewestKept (h : TF n K V G T nr ks vs wg ts) (hO : OK n K O) (h1 : CHo O 10 oc os) {v : Nat} (hv : v < 8) : f_X0_fewestKeptWith oc os vs (nI (97 + v)) = some (nI (vfew O V v)) := by
  unfold f_X0_fewestKeptWith vfew
  refine iter_go _ (fun i => (nI (cntP (fun k => decide (0 < (O k).length) && decide (cntP (fun d => V ((O k).getD d 0) == v) (O k).length = (O k).length)) i), nI i)) 10 (by omega) rfl (fun i hi => ?_) ?_
  · have hl := (hO.2.1 i hi).1
    have hc := cntP_le (fun d => V ((O i).getD d 0) == v) (O i).length
    simp only [b_X0_fewestKeptWith_1]
    rw [show (10 : Int32) = nI 10 from rfl, if_neg (nI_ge hi (by omega)), h1.isThere hi hl, bs]
    by_cases e : 0 < (O i).length
    · rw [decide_eq_true e, if_neg (by decide), c_optionsWith h hO h1 hi hv, bs, h1.optionsOf hi, bs]
      by_cases e2 : cntP (fun d => V ((O i).getD d 0) == v) (O i).length = (O i).length
      · rw [if_pos (by rw [e2]), bs, nI_1, nI_1]
        simp only [cntP, e, e2, decide_true, Bool.and_self, if_true]
      · rw [if_neg (fun q => e2 ((nI_eq (by omega) (by omega)).mp q)), bs, nI_1]
        simp only [cntP, e, e2, decide_true, decide_false, Bool.and_false]
        rfl
    · rw [decide_eq_false e, if_pos (by decide), bs, nI_1]
      simp only [cntP, e, decide_false, Bool.false_and]
      rfl
  · simp only [b_X0_fewestKeptWith_1]
    rw [show (10 : Int32) = nI 10 from rfl, if_pos (nI_le (Nat.le_refl _) (by omega))]
theorem c_mostKept (h : TF n K V G T nr ks vs wg ts) (hO : OK n K O) (h1 : CHo O 10 oc os) {v : Nat} (hv : v < 8) : f_X0_mostKeptWith oc os vs (nI (97 + v)) = some (nI (vmost O V v)) := by
  unfold f_X0_mostKeptWith vmost
  refine iter_go _ (fun i => (nI (cntP (fun k => decide (0 < cntP (fun d => V ((O k).getD d 0) == v) (O k).length)) i), nI i)) 10 (by omega) rfl (fun i hi => ?_) ?_
  · have hl := (hO.2.1 i hi).1
    have hc := cntP_le (fun d => V ((O i).getD d 0) == v) (O i).length
    simp only [b_X0_mostKeptWith_1]
    rw [show (10 : Int32) = nI 10 from rfl, if_neg (nI_ge hi (by omega)), c_optionsWith h hO h1 hi hv, bs]
    by_cases e : 0 < cntP (fun d => V ((O i).getD d 0) == v) (O i).length
    · rw [if_neg (nI_nle e (by omega)), bs, nI_1, nI_1]
      simp only [cntP, e, decide_true, if_true]
    · rw [if_pos (by rw [show cntP (fun d => V ((O i).getD d 0) == v) (O i).length = 0 by omega]; decide), bs, nI_1]
      simp only [cntP, e, decide_false]
      rfl
  · simp only [b_X0_mostKeptWith_1]
    rw [show (10 : Int32) = nI 10 from rfl, if_pos (nI_le (Nat.le_refl _) (by omega))]
theorem c_without (h : TF n K V G T nr ks vs wg ts) (hO : OK n K O) (h1 : CHo O 10 oc os) {v : Nat} (hv : v < 8) : f_X0_mendingsWithout oc os vs (nI (97 + v)) = some (nI (vout O V v)) := by
  unfold f_X0_mendingsWithout vout
  refine iter_go _ (fun i => (nI (prd (fun k => cntP (fun d => !vfb O V v k d) (bas O k)) i), nI i)) 10 (by omega) rfl (fun i hi => ?_) ?_
  · have hl := (hO.2.1 i hi).1
    have hc := cntP_le (fun d => V ((O i).getD d 0) == v) (O i).length
    simp only [b_X0_mendingsWithout_1]
    rw [show (10 : Int32) = nI 10 from rfl, if_neg (nI_ge hi (by omega)), h1.isThere hi hl, bs]
    have hstep : prd (fun k => cntP (fun d => !vfb O V v k d) (bas O k)) (i + 1) = prd (fun k => cntP (fun d => !vfb O V v k d) (bas O k)) i * cntP (fun d => !vfb O V v i d) (bas O i) := rfl
    by_cases e : 0 < (O i).length
    · have hx : cntP (fun d => !vfb O V v i d) (bas O i) = (O i).length - cntP (fun d => V ((O i).getD d 0) == v) (O i).length := by
        have := cntP_not (fun d => V ((O i).getD d 0) == v) (O i).length
        have h2 : cntP (fun d => !vfb O V v i d) (bas O i) = cntP (fun d => !(V ((O i).getD d 0) == v)) (O i).length := by
          rw [bas_len e]
          refine cntP_congr (fun d _ => ?_)
          unfold vfb
          rw [decide_eq_true e, Bool.true_and]
        rw [h2]
        omega
      rw [decide_eq_true e, if_neg (by decide), h1.optionsOf hi, bs, c_optionsWith h hO h1 hi hv, bs, nI_subO hc, nI_mulO, bs, nI_1, hstep, hx]
    · have hx : cntP (fun d => !vfb O V v i d) (bas O i) = 1 := by
        unfold bas
        rw [if_pos (by omega)]
        unfold cntP cntP vfb
        rw [decide_eq_false e, Bool.false_and]
        rfl
      rw [decide_eq_false e, if_pos (by decide), bs, nI_1, hstep, hx, Nat.mul_one]
  · simp only [b_X0_mendingsWithout_1]
    rw [show (10 : Int32) = nI 10 from rfl, if_pos (nI_le (Nat.le_refl _) (by omega))]
theorem c_sureValues (h : TF n K V G T nr ks vs wg ts) (hO : OK n K O) (h1 : CHo O 10 oc os) : f_X0_sureValues oc os vs = some (nI (cntP (fun v => decide (0 < vfew O V v)) 8)) := by
  unfold f_X0_sureValues
  refine iter_go _ (fun i => (nI (cntP (fun v => decide (0 < vfew O V v)) i), nI (97 + i))) 8 (by omega) rfl (fun i hi => ?_) ?_
  · have hc : vfew O V i ≤ 10 := cntP_le _ 10
    simp only [b_X0_sureValues_1]
    rw [show (104 : Int32) = nI 104 from rfl, if_neg (nI_nlt (by omega) (by omega)), c_fewestKept h hO h1 hi, bs]
    by_cases e : 0 < vfew O V i
    · rw [if_neg (nI_nle e (by omega)), bs, nI_1, nI_1]
      simp only [cntP, e, decide_true, if_true]
      rfl
    · rw [if_pos (by rw [show vfew O V i = 0 by omega]; decide), bs, nI_1]
      simp only [cntP, e, decide_false]
      rfl
  · simp only [b_X0_sureValues_1]
    rw [show (104 : Int32) = nI 104 from rfl, if_pos (nI_lt (by omega) (by omega))]
theorem c_possibleValues (h : TF n K V G T nr ks vs wg ts) (hO : OK n K O) (h1 : CHo O 10 oc os) : f_X0_possibleValues oc os vs = some (nI (cntP (fun v => decide (0 < vmost O V v)) 8)) := by
  unfold f_X0_possibleValues
  refine iter_go _ (fun i => (nI (cntP (fun v => decide (0 < vmost O V v)) i), nI (97 + i))) 8 (by omega) rfl (fun i hi => ?_) ?_
  · have hc : vmost O V i ≤ 10 := cntP_le _ 10
    simp only [b_X0_possibleValues_1]
    rw [show (104 : Int32) = nI 104 from rfl, if_neg (nI_nlt (by omega) (by omega)), c_mostKept h hO h1 hi, bs]
    by_cases e : 0 < vmost O V i
    · rw [if_neg (nI_nle e (by omega)), bs, nI_1, nI_1]
      simp only [cntP, e, decide_true, if_true]
      rfl
    · rw [if_pos (by rw [show vmost O V i = 0 by omega]; decide), bs, nI_1]
      simp only [cntP, e, decide_false]
      rfl
  · simp only [b_X0_possibleValues_1]
    rw [show (104 : Int32) = nI 104 from rfl, if_pos (nI_lt (by omega) (by omega))]
end VALC
section VALM
variable {n : Nat} {K V G T : Nat → Nat} {O : Nat → List Nat} {pf : Bool} {al my ch kp : Nat → Int32}
theorem low_step {p : Nat → Bool} {i : Nat} (hi : i < 2000000) : (if (!p i) then oI (lowP p i) else if oI (lowP p i) = -5 then nI i else oI (lowP p i)) = oI (lowP p (i + 1)) := by
  show _ = oI (match lowP p i with | some j => some j | none => if p i then some i else none)
  cases hl : lowP p i with
  | none =>
    cases hp : p i with
    | true => rfl
    | false => rfl
  | some j =>
    have := lowP_lt hl
    rw [show oI (some j) = nI j from rfl, if_neg (nI_ne5 (by omega))]
    simp
def mstV (f : Nat → Nat) (i : Nat) : Int32 := if i = 0 then -5 else nI (maxP f 0 i)
theorem mst_step {f : Nat → Nat} (hf : ∀ i, f i < 1000) (i : Nat) : (if nI (f i) ≤ mstV f i then mstV f i else nI (f i)) = mstV f (i + 1) := by
  have hmx : ∀ i, maxP f 0 i < 1000 := by
    intro i
    induction i with
    | zero => show 0 < 1000; omega
    | succ i ih =>
      unfold maxP
      split
      · exact hf i
      · exact ih
  unfold mstV
  rw [if_neg (Nat.succ_ne_zero i)]
  have h1 := hf i
  by_cases e : i = 0
  · subst e
    rw [if_pos rfl, if_neg]
    · show _ = nI (if maxP f 0 0 < f 0 then f 0 else maxP f 0 0)
      show _ = nI (if 0 < f 0 then f 0 else 0)
      by_cases q : 0 < f 0
      · rw [if_pos q]
      · rw [if_neg q, show f 0 = 0 by omega]
    · intro q
      have := Int32.le_iff_toInt_le.mp q
      rw [nI_toInt (by omega), show (-5 : Int32).toInt = -5 from by decide] at this
      omega
  · have h2 := hmx i
    rw [if_neg e]
    show _ = nI (if maxP f 0 i < f i then f i else maxP f 0 i)
    by_cases q : maxP f 0 i < f i
    · rw [if_neg (nI_ge q (by omega)), if_pos q]
    · rw [if_pos (nI_le (by omega) (by omega)), if_neg q]
theorem min_step {f : Nat → Nat} (hf : ∀ i, f i < 1000) {i : Nat} : (if nI (minP f 10 i) ≤ nI (f i) then some (nI (minP f 10 i)) else some (nI (f i))) = some (nI (minP f 10 (i + 1))) := by
  have hmn : ∀ i, minP f 10 i < 1000 := by
    intro i
    induction i with
    | zero => show 10 < 1000; omega
    | succ i ih =>
      unfold minP
      split
      · exact hf i
      · exact ih
  have h1 := hf i
  have h2 := hmn i
  show _ = some (nI (if f i < minP f 10 i then f i else minP f 10 i))
  by_cases q : f i < minP f 10 i
  · rw [if_neg (nI_ge q (by omega)), if_pos q]
  · rw [if_pos (nI_le (by omega) (by omega)), if_neg q]
theorem cnt_step (p : Nat → Bool) (i : Nat) : nI (cntP p i) + bI (p i) = nI (cntP p (i + 1)) := by
  show _ = nI (cntP p i + if p i then 1 else 0)
  cases p i with
  | true => rw [show bI true = nI 1 from rfl, nI_add]; rfl
  | false => rw [show bI false = nI 0 from rfl, nI_add]; rfl
end VALM
