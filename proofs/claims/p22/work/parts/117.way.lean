/-! ways through a mending, both sides -/
def thO (O : Nat → List Nat) (k : Nat) : Prop := k < 10 ∧ 0 < (O k).length
def tauO (O : Nat → List Nat) (T : Nat → Nat) (m k : Nat) : Nat := T ((O k).getD (dg (bas O) m k) 0)
noncomputable def wl (O : Nat → List Nat) (T : Nat → Nat) (a b m : Nat) : Option Nat := lowP (fun i => cb (PT (thO O) (tauO O T m) a i b)) 10
theorem cb_false {P : Prop} : cb P = false ↔ ¬ P := by
  constructor
  · intro h hp
    rw [cb_iff.mpr hp] at h
    cases h
  · intro h
    cases hc : cb P with
    | false => rfl
    | true => exact absurd (cb_iff.mp hc) h
theorem PT_none {th : Nat → Prop} {tx : Nat → Nat} {a i : Nat} (h : ∀ k, ¬ PT th tx a i k) : ∀ d k, ¬ PT th tx a (i + d) k := by
  intro d
  induction d with
  | zero => exact h
  | succ d ih =>
    rintro k ⟨j, h1, _, _⟩
    exact ih j h1
section WAY
variable {n : Nat} {K V G T : Nat → Nat} {O : Nat → List Nat} {pf : Bool} {al kp : Nat → Int32}
/-- step i of the way: either lost, or at the key t -/
def wS (O : Nat → List Nat) (T : Nat → Nat) (a b m i t : Nat) : Prop := t ≤ 10 ∧ (∀ k, PT (thO O) (tauO O T m) a i k ↔ (thO O k ∧ k = t)) ∧ ∀ j, j < i → ¬ PT (thO O) (tauO O T m) a j b
theorem wS_zero {a b m : Nat} (ha : a < 10) : wS O T a b m 0 a :=
  ⟨by omega, fun k => ⟨fun ⟨h1, h2⟩ => by subst h2; exact ⟨h1, rfl⟩, fun ⟨h1, h2⟩ => by subst h2; exact ⟨h1, rfl⟩⟩, fun j hj => by omega⟩
theorem wS_lost {a b m i t : Nat} (h : wS O T a b m i t) (ht : ¬ thO O t) : wl O T a b m = none := by
  obtain ⟨_, h2, h3⟩ := h
  have h4 : ∀ k, ¬ PT (thO O) (tauO O T m) a i k := fun k hk => by
    obtain ⟨h5, h6⟩ := (h2 k).mp hk
    subst h6
    exact ht h5
  refine lowP_none.mpr (fun j _ => cb_false.mpr ?_)
  rcases Nat.lt_or_ge j i with q | q
  · exact h3 j q
  · have := PT_none h4 (j - i) b
    rw [show i + (j - i) = j by omega] at this
    exact this
theorem wS_found {a b m i : Nat} (hi : i < 10) (h : wS O T a b m i b) (ht : thO O b) : wl O T a b m = some i :=
  lowP_some.mpr ⟨hi, cb_iff.mpr ((h.2.1 b).mpr ⟨ht, rfl⟩), fun j hj => cb_false.mpr (h.2.2 j hj)⟩
theorem wS_next {a b m i t : Nat} (h : wS O T a b m i t) (ht : thO O t) (hb : t ≠ b) (hT : tauO O T m t ≤ 10) : wS O T a b m (i + 1) (tauO O T m t) := by
  obtain ⟨h1, h2, h3⟩ := h
  refine ⟨hT, fun k => ⟨?_, ?_⟩, fun j hj => ?_⟩
  · rintro ⟨j, g1, g2, g3⟩
    obtain ⟨_, g5⟩ := (h2 j).mp g1
    subst g5
    exact ⟨g3, g2.symm⟩
  · rintro ⟨g1, g2⟩
    exact ⟨t, (h2 t).mpr ⟨ht, rfl⟩, g2.symm, g1⟩
  · rcases Nat.lt_or_ge j i with q | q
    · exact h3 j q
    · have : j = i := by omega
      subst this
      intro g
      exact hb ((h2 b).mp g).2.symm
theorem wS_end {a b m t : Nat} (h : wS O T a b m 10 t) : wl O T a b m = none := lowP_none.mpr (fun j hj => cb_false.mpr (h.2.2 j hj))
theorem tI_ne5 {t : Nat} (h : t < 10) : ¬ tI t = -5 := by
  unfold tI
  rw [if_pos h]
  exact nI_ne5 (by omega)
theorem tI_10 {t : Nat} (h : ¬ t < 10) : tI t = -5 := by
  unfold tI
  rw [if_neg h]
theorem tI_lt {t : Nat} (h : t < 10) : tI t = nI t := by
  unfold tI
  rw [if_pos h]
theorem optionsOf_m5 {oc : Nat → Int32} : f_X0_optionsOf oc (-5) = some (-5) := by
  unfold f_X0_optionsOf
  rw [at_m5, bs]
theorem isThere_m5 {oc : Nat → Int32} : f_X0_isThere oc (-5) = some 0 := by
  unfold f_X0_isThere
  rw [optionsOf_m5, bs]
  rfl
theorem c_holdsIn {nr : Int32} {ks vs wg ts : Nat → Int32} (h : TF n K V G T nr ks vs wg ts) {mn : Int32} {oc os sd tg : Nat → Int32} (hC : CH n K T O mn oc os sd tg) {m a b : Nat} (hm : m < 2 ^ 30) (ha : a < 10) (hb : b < 10) : f_X0_holdsIn oc os sd ts (nI m) (nI a) (nI b) = some (bI (wl O T a b m).isSome) := by
  have hO := hC.1
  unfold f_X0_holdsIn
  obtain ⟨r, h1, h2⟩ := iter_inv2 (b_X0_holdsIn_1 oc os sd ts (nI m) (nI b)) (fun i s => s.2 = nI i ∧ ∃ t, s.1 = tI t ∧ wS O T a b m i t) 10 (fun r => r = bI (wl O T a b m).isSome) (by omega) (by
    rintro i ⟨x, v⟩ hi ⟨e1, t, e2, e3⟩
    dsimp only at e1 e2
    subst e1
    subst e2
    simp only [b_X0_holdsIn_1]
    rw [show (10 : Int32) = nI 10 from rfl, if_neg (nI_ge hi (by omega))]
    by_cases ht : t < 10
    · rw [tI_lt ht, hC.2.1.isThere ht (hO.2.1 t ht).1, bs]
      by_cases hth : (O t).length = 0
      · rw [decide_eq_false (by omega), if_pos (by decide)]
        refine Or.inr ⟨_, rfl, ?_⟩
        rw [wS_lost e3 (fun q => by have := q.2; omega)]
        rfl
      · have hth2 : thO O t := ⟨ht, by omega⟩
        have hkv : kpt O m t = some ((O t).getD (dg (bas O) m t) 0) := by unfold kpt; rw [if_neg hth]
        have hmem := (hO.2.1 t ht).2 _ (getD_mem (dg_len (m := m) hth))
        have hrow : (O t).getD (dg (bas O) m t) 0 < n := hmem.1
        rw [decide_eq_true (by omega), if_neg (by decide)]
        by_cases q : t = b
        · subst q
          rw [if_pos rfl]
          refine Or.inr ⟨_, rfl, ?_⟩
          rw [wS_found hi e3 hth2]
          rfl
        · rw [if_neg (fun z => q ((nI_eq (by omega) (by omega)).mp z)), c_rowKeptBy hC hm ht, bs, hkv, show oI (some ((O t).getD (dg (bas O) m t) 0)) = nI ((O t).getD (dg (bas O) m t) 0) from rfl, h.targetAt hrow, bs, nI_1]
          refine Or.inl ⟨_, rfl, rfl, tauO O T m t, rfl, wS_next e3 hth2 q ?_⟩
          exact (h.2.2 _ hrow).2.2.2.2.2.2.2
    · rw [tI_10 ht, isThere_m5, bs, if_pos rfl]
      refine Or.inr ⟨_, rfl, ?_⟩
      rw [wS_lost e3 (fun q => ht q.1)]
      rfl) (by
    rintro ⟨x, v⟩ ⟨e1, t, e2, e3⟩
    dsimp only at e1 e2
    subst e1
    simp only [b_X0_holdsIn_1]
    rw [show (10 : Int32) = nI 10 from rfl, if_pos (nI_le (Nat.le_refl _) (by omega))]
    refine ⟨_, rfl, ?_⟩
    rw [wS_end e3]
    rfl) (s0 := (nI a, 0)) ⟨rfl, a, (tI_lt ha).symm, wS_zero ha⟩
  rw [h1, h2]
theorem c_withWay {nr : Int32} {ks vs wg ts : Nat → Int32} (h : TF n K V G T nr ks vs wg ts) {mn : Int32} {oc os sd tg : Nat → Int32} (hC : CH n K T O mn oc os sd tg) {a b : Nat} (ha : a < 10) (hb : b < 10) : f_X0_mendingsWithWay mn oc os sd ts (nI a) (nI b) = some (nI (cntP (fun m => (wl O T a b m).isSome) (prd (bas O) 10))) := by
  have hp := hC.1.prd_le (k := 10) (Nat.le_refl _)
  unfold f_X0_mendingsWithWay
  refine iter_inv_eq _ (fun i => (nI (cntP (fun m => (wl O T a b m).isSome) i), nI i)) (prd (bas O) 10) (by omega) rfl (fun i hi => ?_) ?_
  · simp only [b_X0_mendingsWithWay_1]
    rw [hC.2.2.2.2, if_neg (nI_ge hi (by omega)), c_holdsIn h hC (by omega) ha hb, bs]
    cases hw : (wl O T a b i).isSome with
    | true =>
      rw [if_neg (by decide), bs, nI_1, nI_1]
      simp only [cntP, hw, if_true]
    | false =>
      rw [if_pos (by decide), bs, nI_1]
      simp only [cntP, hw]
      rfl
  · simp only [b_X0_mendingsWithWay_1]
    rw [hC.2.2.2.2, if_pos (nI_le (Nat.le_refl _) (by omega))]
theorem c_withoutWay {nr : Int32} {ks vs wg ts : Nat → Int32} (h : TF n K V G T nr ks vs wg ts) {mn : Int32} {oc os sd tg : Nat → Int32} (hC : CH n K T O mn oc os sd tg) {a b : Nat} (ha : a < 10) (hb : b < 10) : f_X0_firstMendingWithoutWay mn oc os sd ts (nI a) (nI b) = some (oI (lowP (fun m => !(wl O T a b m).isSome) (prd (bas O) 10))) := by
  have hp := hC.1.prd_le (k := 10) (Nat.le_refl _)
  unfold f_X0_firstMendingWithoutWay
  cases hl : lowP (fun m => !(wl O T a b m).isSome) (prd (bas O) 10) with
  | none =>
    have hn := lowP_none.mp hl
    refine iter_inv_eq _ (fun i => nI i) (prd (bas O) 10) (by omega) rfl (fun i hi => ?_) ?_
    · have := hn i hi
      simp only [b_X0_firstMendingWithoutWay_1]
      rw [hC.2.2.2.2, if_neg (nI_ge hi (by omega)), c_holdsIn h hC (by omega) ha hb, bs]
      have e : (wl O T a b i).isSome = true := by simpa using this
      rw [e, if_neg (by decide), nI_1]
    · simp only [b_X0_firstMendingWithoutWay_1]
      rw [hC.2.2.2.2, if_pos (nI_le (Nat.le_refl _) (by omega))]
      rfl
  | some x =>
    obtain ⟨hx, hx1, hx2⟩ := lowP_some.mp hl
    refine iter_inv_eq _ (fun i => nI i) x (by omega) rfl (fun i hi => ?_) ?_
    · have := hx2 i hi
      simp only [b_X0_firstMendingWithoutWay_1]
      rw [hC.2.2.2.2, if_neg (nI_ge (show i < prd (bas O) 10 by omega) (by omega)), c_holdsIn h hC (by omega) ha hb, bs]
      have e : (wl O T a b i).isSome = true := by simpa using this
      rw [e, if_neg (by decide), nI_1]
    · simp only [b_X0_firstMendingWithoutWay_1]
      rw [hC.2.2.2.2, if_neg (nI_ge hx (by omega)), c_holdsIn h hC (by omega) ha hb, bs]
      have e : (wl O T a b x).isSome = false := by simpa using hx1
      rw [e, if_pos (by decide)]
      rfl
end WAY
