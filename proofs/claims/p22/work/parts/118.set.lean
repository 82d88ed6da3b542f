/-! sets of keys, class side; what they say of the ways -/
def tsO (O : Nat → List Nat) (T : Nat → Nat) (k t : Nat) : Prop := k < 10 ∧ ∃ j, j ∈ O k ∧ T j = t
theorem tsO_th {O : Nat → List Nat} {T : Nat → Nat} {k t : Nat} (h : tsO O T k t) : thO O k := by
  obtain ⟨h1, j, h2, _⟩ := h
  refine ⟨h1, ?_⟩
  cases hO : O k with
  | nil => rw [hO] at h2; cases h2
  | cons a l => exact Nat.succ_pos _
theorem thO_ne {O : Nat → List Nat} {T : Nat → Nat} {k : Nat} (h : thO O k) : ∃ t, tsO O T k t := by
  obtain ⟨h1, h2⟩ := h
  exact ⟨T ((O k).getD 0 0), h1, (O k).getD 0 0, getD_mem h2, rfl⟩
theorem tauO_ts {O : Nat → List Nat} {T : Nat → Nat} (m k : Nat) (h : thO O k) : tsO O T k (tauO O T m k) :=
  ⟨h.1, _, getD_mem (dg_len (by have := h.2; omega)), rfl⟩
theorem tauO_all {O : Nat → List Nat} {T : Nat → Nat} (s : Nat → Nat) (hs : ∀ k, thO O k → tsO O T k (s k)) : ∃ m, m < prd (bas O) 10 ∧ ∀ k, thO O k → tauO O T m k = s k := by
  have hx : ∀ k, ∃ d, d < bas O k ∧ (thO O k → T ((O k).getD d 0) = s k) := by
    intro k
    by_cases h : thO O k
    · obtain ⟨_, j, hj, e⟩ := hs k h
      obtain ⟨t, ht, e2⟩ := mem_getD hj
      refine ⟨t, ?_, fun _ => by rw [e2]; exact e⟩
      have := h.2
      unfold bas
      rw [if_neg (by omega)]
      exact ht
    · exact ⟨0, bas_pos O k, fun q => absurd q h⟩
  obtain ⟨c, hc⟩ := Classical.axiomOfChoice hx
  refine ⟨enc (bas O) c 10, enc_lt (fun k _ => (hc k).1), fun k hk => ?_⟩
  unfold tauO
  rw [dg_enc (fun k _ => (hc k).1) k hk.1]
  exact (hc k).2 hk
section SETS
variable {O : Nat → List Nat} {T : Nat → Nat} {oc os tg : Nat → Int32}
theorem c_setOf (h : CHo O 10 oc os) {k : Nat} (hk : k < 10) (hl : (O k).length ≤ 20) : ∃ x, f_X0_setOf oc (nI k) = some x ∧ MB x (fun i => thO O k ∧ i = k) := by
  unfold f_X0_setOf
  rw [h.isThere hk hl, bs]
  by_cases e : 0 < (O k).length
  · rw [decide_eq_true e, if_neg (by decide), shl_val k hk]
    exact ⟨_, rfl, MB_congr (MB_bit (by omega)) (fun i _ => ⟨fun q => ⟨⟨hk, e⟩, q⟩, fun q => q.2⟩)⟩
  · rw [decide_eq_false e, if_pos (by decide)]
    exact ⟨_, rfl, MB_congr MB_zero (fun i _ => ⟨False.elim, fun q => e q.1.2⟩)⟩
theorem c_contains {x : Int32} {s : Nat → Prop} (h : MB x s) {k : Nat} (hk : k < 10) : f_X0_contains x (nI k) = some (bI (cb (s k))) := by
  unfold f_X0_contains
  rw [shl_val k hk]
  have h0 := MB_eq0 (MB_and h (MB_bit (t := k) (by omega)))
  by_cases e : s k
  · rw [if_neg (fun q => (h0.mp q) k (by omega) ⟨e, rfl⟩), cb_iff.mpr e]
    rfl
  · rw [if_pos (h0.mpr (fun i _ q => e (by obtain ⟨a, b⟩ := q; subst b; exact a))), cb_false.mpr e]
    rfl
theorem c_canPoint (h : CHt O T tg) {set : Int32} {s : Nat → Prop} (hs : MB set s) (hs10 : ∀ t, s t → t < 10) : ∃ x, f_X0_keysThatCanPointInto tg set = some x ∧ MB x (fun k => ∃ t, tsO O T k t ∧ s t) := by
  unfold f_X0_keysThatCanPointInto
  refine iter_inv _ (fun i z => z.2 = nI i ∧ MB z.1 (fun k => k < i ∧ ∃ t, tsO O T k t ∧ s t)) 10 _ (by omega) ?_ ?_ ⟨rfl, MB_congr MB_zero (fun i _ => ⟨False.elim, fun q => by have := q.1; omega⟩)⟩
  · rintro i ⟨x, v⟩ hi ⟨e1, e2⟩
    dsimp only at e1 e2
    subst e1
    simp only [b_X0_keysThatCanPointInto_1]
    rw [show (10 : Int32) = nI 10 from rfl, if_neg (nI_ge hi (by omega)), at_in hi (by omega), bs, shl_val i hi]
    have h0 := MB_eq0 (MB_and (h i hi) hs)
    by_cases e : ∃ t, tsO O T i t ∧ s t
    · rw [if_neg (fun q => by
        obtain ⟨t, ⟨_, ht1⟩, ht2⟩ := e
        exact (h0.mp q) t (by have := hs10 t ht2; omega) ⟨ht1, ht2⟩), bs, nI_1]
      refine ⟨_, rfl, rfl, MB_congr (MB_or e2 (MB_bit (t := i) (by omega))) (fun k _ => ⟨?_, ?_⟩)⟩
      · rintro (⟨q1, q2⟩ | q)
        · exact ⟨by omega, q2⟩
        · subst q; exact ⟨by omega, e⟩
      · rintro ⟨q1, q2⟩
        by_cases q : k = i
        · exact Or.inr q
        · exact Or.inl ⟨by omega, q2⟩
    · rw [if_pos (h0.mpr (fun t _ q => e ⟨t, ⟨hi, q.1⟩, q.2⟩)), bs, nI_1]
      refine ⟨_, rfl, rfl, MB_congr e2 (fun k _ => ⟨?_, ?_⟩)⟩
      · rintro ⟨q1, q2⟩
        exact ⟨by omega, q2⟩
      · rintro ⟨q1, q2⟩
        by_cases q : k = i
        · subst q; exact absurd q2 e
        · exact ⟨by omega, q2⟩
  · rintro ⟨x, v⟩ ⟨e1, e2⟩
    dsimp only at e1 e2
    subst e1
    refine ⟨x, ?_, MB_congr e2 (fun k _ => ⟨fun q => q.2, fun q => ⟨?_, q⟩⟩)⟩
    · simp only [b_X0_keysThatCanPointInto_1]
      rw [show (10 : Int32) = nI 10 from rfl, if_pos (nI_le (Nat.le_refl _) (by omega))]
    · obtain ⟨t, ht, _⟩ := q
      exact ht.1
theorem c_mustPoint (h : CHt O T tg) (hT : ∀ k, k < 10 → ∀ j, j ∈ O k → T j ≤ 10) {set : Int32} {s : Nat → Prop} (hs : MB set s) : ∃ x, f_X0_keysThatMustPointInto tg set = some x ∧ MB x (fun k => thO O k ∧ ∀ t, tsO O T k t → s t) := by
  unfold f_X0_keysThatMustPointInto
  refine iter_inv _ (fun i z => z.2 = nI i ∧ MB z.1 (fun k => k < i ∧ thO O k ∧ ∀ t, tsO O T k t → s t)) 10 _ (by omega) ?_ ?_ ⟨rfl, MB_congr MB_zero (fun i _ => ⟨False.elim, fun q => by have := q.1; omega⟩)⟩
  · rintro i ⟨x, v⟩ hi ⟨e1, e2⟩
    dsimp only at e1 e2
    subst e1
    simp only [b_X0_keysThatMustPointInto_1]
    rw [show (10 : Int32) = nI 10 from rfl, if_neg (nI_ge hi (by omega)), at_in hi (by omega), bs, shl_val i hi]
    have h0 := MB_eq0 (h i hi)
    have h1 := MB_eq0 (MB_and (h i hi) (MB_not hs))
    have hno : ∀ {x' : Int32}, x' = x → (¬ (thO O i ∧ ∀ t, tsO O T i t → s t)) → MB x' (fun k => k < i + 1 ∧ thO O k ∧ ∀ t, tsO O T k t → s t) := by
      intro x' hx' e
      rw [hx']
      refine MB_congr e2 (fun k _ => ⟨?_, ?_⟩)
      · rintro ⟨q1, q2⟩
        exact ⟨by omega, q2⟩
      · rintro ⟨q1, q2⟩
        by_cases q : k = i
        · subst q; exact absurd q2 e
        · exact ⟨by omega, q2⟩
    by_cases z : thO O i
    · rw [if_neg (fun q => by
        obtain ⟨t, _, j, hj, e⟩ := thO_ne (T := T) z
        have := hT i hi j hj
        exact (h0.mp q) t (by omega) ⟨j, hj, e⟩)]
      by_cases e : ∀ t, tsO O T i t → s t
      · rw [if_pos (h1.mpr (fun t _ q => q.2 (e t ⟨hi, q.1⟩))), bs, nI_1]
        refine ⟨_, rfl, rfl, MB_congr (MB_or e2 (MB_bit (t := i) (by omega))) (fun k _ => ⟨?_, ?_⟩)⟩
        · rintro (⟨q1, q2⟩ | q)
          · exact ⟨by omega, q2⟩
          · subst q; exact ⟨by omega, z, e⟩
        · rintro ⟨q1, q2⟩
          by_cases q : k = i
          · exact Or.inr q
          · exact Or.inl ⟨by omega, q2⟩
      · rw [if_neg (fun q => e (fun t ht => by
          obtain ⟨_, j, hj, e3⟩ := ht
          have := hT i hi j hj
          exact Classical.byContradiction fun hn => (h1.mp q) t (by omega) ⟨⟨j, hj, e3⟩, hn⟩)), bs, nI_1]
        exact ⟨_, rfl, rfl, hno rfl (fun q => e q.2)⟩
    · rw [if_pos (h0.mpr (fun t _ q => z (tsO_th (T := T) (t := t) ⟨hi, q⟩))), bs, nI_1]
      exact ⟨_, rfl, rfl, hno rfl (fun q => z q.1)⟩
  · rintro ⟨x, v⟩ ⟨e1, e2⟩
    dsimp only at e1 e2
    subst e1
    refine ⟨x, ?_, MB_congr e2 (fun k _ => ⟨fun q => q.2, fun q => ⟨q.1.1, q⟩⟩)⟩
    simp only [b_X0_keysThatMustPointInto_1]
    rw [show (10 : Int32) = nI 10 from rfl, if_pos (nI_le (Nat.le_refl _) (by omega))]
theorem c_sureReach0 {O0 : Nat → List Nat} (h1 : CHo O0 10 oc os) (hl : ∀ k, k < 10 → (O0 k).length ≤ 20) (h0 : ∀ k, thO O0 k ↔ thO O k) (h : CHt O T tg) (hT : ∀ k, k < 10 → ∀ j, j ∈ O k → T j ≤ 10) {b : Nat} (hb : b < 10) : ∃ x, f_X0_keysSureToReach oc tg (nI b) = some x ∧ MB x (SG (thO O) (tsO O T) b 9) := by
  unfold f_X0_keysSureToReach
  obtain ⟨x0, g1, g2⟩ := c_setOf h1 hb (hl b hb)
  rw [g1, bs]
  refine iter_inv _ (fun i z => z.2 = nI (i + 1) ∧ MB z.1 (SG (thO O) (tsO O T) b i)) 9 _ (by omega) ?_ ?_ ⟨rfl, MB_congr g2 (fun i _ => ⟨fun q => ⟨(h0 b).mp q.1, q.2⟩, fun q => ⟨(h0 b).mpr q.1, q.2⟩⟩)⟩
  · rintro i ⟨x, v⟩ hi ⟨e1, e2⟩
    dsimp only at e1 e2
    subst e1
    obtain ⟨y, g3, g4⟩ := c_mustPoint h hT e2
    simp only [b_X0_keysSureToReach_1]
    rw [show (10 : Int32) = nI 10 from rfl, if_neg (nI_ge (by omega) (by omega)), g3, bs, nI_1]
    exact ⟨_, rfl, rfl, MB_or e2 g4⟩
  · rintro ⟨x, v⟩ ⟨e1, e2⟩
    dsimp only at e1 e2
    subst e1
    refine ⟨x, ?_, e2⟩
    simp only [b_X0_keysSureToReach_1]
    rw [show (10 : Int32) = nI 10 from rfl, if_pos (nI_le (Nat.le_refl _) (by omega))]
theorem c_sureReach (h1 : CHo O 10 oc os) (hl : ∀ k, k < 10 → (O k).length ≤ 20) (h : CHt O T tg) (hT : ∀ k, k < 10 → ∀ j, j ∈ O k → T j ≤ 10) {b : Nat} (hb : b < 10) : ∃ x, f_X0_keysSureToReach oc tg (nI b) = some x ∧ MB x (SG (thO O) (tsO O T) b 9) := c_sureReach0 h1 hl (fun _ => Iff.rfl) h hT hb
theorem RG_lt {b : Nat} : ∀ r k, RG (thO O) (tsO O T) b r k → k < 10 := by
  intro r
  induction r with
  | zero => rintro k ⟨h, rfl⟩; exact h.1
  | succ r ih =>
    rintro k (h | ⟨t, h, _⟩)
    · exact ih k h
    · exact h.1
theorem c_canReach (h1 : CHo O 10 oc os) (hl : ∀ k, k < 10 → (O k).length ≤ 20) (h : CHt O T tg) {b : Nat} (hb : b < 10) : ∃ x, f_X0_keysThatCanReach oc tg (nI b) = some x ∧ MB x (RG (thO O) (tsO O T) b 9) := by
  unfold f_X0_keysThatCanReach
  obtain ⟨x0, g1, g2⟩ := c_setOf h1 hb (hl b hb)
  rw [g1, bs]
  refine iter_inv _ (fun i z => z.2 = nI (i + 1) ∧ MB z.1 (RG (thO O) (tsO O T) b i)) 9 _ (by omega) ?_ ?_ ⟨rfl, g2⟩
  · rintro i ⟨x, v⟩ hi ⟨e1, e2⟩
    dsimp only at e1 e2
    subst e1
    obtain ⟨y, g3, g4⟩ := c_canPoint h e2 (RG_lt i)
    simp only [b_X0_keysThatCanReach_1]
    rw [show (10 : Int32) = nI 10 from rfl, if_neg (nI_ge (by omega) (by omega)), g3, bs, nI_1]
    exact ⟨_, rfl, rfl, MB_or e2 g4⟩
  · rintro ⟨x, v⟩ ⟨e1, e2⟩
    dsimp only at e1 e2
    subst e1
    refine ⟨x, ?_, e2⟩
    simp only [b_X0_keysThatCanReach_1]
    rw [show (10 : Int32) = nI 10 from rfl, if_pos (nI_le (Nat.le_refl _) (by omega))]
theorem c_fewest (h1 : CHo O 10 oc os) (hl : ∀ k, k < 10 → (O k).length ≤ 20) (h : CHt O T tg) {a b : Nat} (ha : a < 10) (hb : b < 10) : f_X0_fewestPointers oc tg (nI a) (nI b) = some (oI (lowP (fun p => cb (RG (thO O) (tsO O T) b p a)) 10)) := by
  unfold f_X0_fewestPointers
  obtain ⟨x0, g1, g2⟩ := c_setOf h1 hb (hl b hb)
  rw [g1, bs]
  obtain ⟨r, h2, h3⟩ := iter_inv2 (b_X0_fewestPointers_1 tg (nI a)) (fun i z => z.2 = nI i ∧ MB z.1 (RG (thO O) (tsO O T) b i) ∧ ∀ j, j < i → ¬ RG (thO O) (tsO O T) b j a) 10 (fun r => r = oI (lowP (fun p => cb (RG (thO O) (tsO O T) b p a)) 10)) (by omega) (by
    rintro i ⟨x, v⟩ hi ⟨e1, e2, e3⟩
    dsimp only at e1 e2
    subst e1
    simp only [b_X0_fewestPointers_1]
    rw [show (10 : Int32) = nI 10 from rfl, if_neg (nI_ge hi (by omega)), c_contains e2 ha, bs]
    by_cases e : RG (thO O) (tsO O T) b i a
    · rw [cb_iff.mpr e, if_neg (by decide)]
      refine Or.inr ⟨_, rfl, ?_⟩
      rw [lowP_some.mpr ⟨hi, cb_iff.mpr e, fun j hj => cb_false.mpr (e3 j hj)⟩]
      rfl
    · rw [cb_false.mpr e, if_pos (by decide)]
      obtain ⟨y, g3, g4⟩ := c_canPoint h e2 (RG_lt i)
      rw [g3, bs, nI_1]
      refine Or.inl ⟨_, rfl, rfl, MB_or e2 g4, fun j hj => ?_⟩
      rcases Nat.lt_or_ge j i with q | q
      · exact e3 j q
      · have : j = i := by omega
        subst this
        exact e) (by
    rintro ⟨x, v⟩ ⟨e1, e2, e3⟩
    dsimp only at e1 e2
    subst e1
    simp only [b_X0_fewestPointers_1]
    rw [show (10 : Int32) = nI 10 from rfl, if_pos (nI_le (Nat.le_refl _) (by omega))]
    refine ⟨_, rfl, ?_⟩
    rw [lowP_none.mpr (fun j hj => cb_false.mpr (e3 j hj))]
    rfl) (s0 := (x0, 0)) ⟨rfl, g2, fun j hj => by omega⟩
  rw [h2, h3]
theorem c_isSureWay (h1 : CHo O 10 oc os) (hl : ∀ k, k < 10 → (O k).length ≤ 20) (h : CHt O T tg) (hT : ∀ k, k < 10 → ∀ j, j ∈ O k → T j ≤ 10) {a b : Nat} (ha : a < 10) (hb : b < 10) : f_X0_isSureWay oc tg (nI a) (nI b) = some (bI (cb (SG (thO O) (tsO O T) b 9 a))) := by
  unfold f_X0_isSureWay
  obtain ⟨x, g1, g2⟩ := c_sureReach h1 hl h hT hb
  rw [g1, bs, c_contains g2 ha, bs, if_pos (isB_bI _)]
end SETS
/-! what the sets say of the mendings -/
section SAY
variable {O : Nat → List Nat} {T : Nat → Nat} {a b : Nat}
theorem wl_some {m x : Nat} (h : wl O T a b m = some x) : x < 10 ∧ PT (thO O) (tauO O T m) a x b ∧ ∀ j, j < x → ¬ PT (thO O) (tauO O T m) a j b := by
  obtain ⟨h1, h2, h3⟩ := lowP_some.mp h
  exact ⟨h1, cb_iff.mp h2, fun j hj => cb_false.mp (h3 j hj)⟩
theorem wl_of {m i : Nat} (hi : i < 10) (h : PT (thO O) (tauO O T m) a i b) : ∃ x, wl O T a b m = some x ∧ x ≤ i := by
  cases hw : wl O T a b m with
  | none => exact absurd h (cb_false.mp (lowP_none.mp hw i hi))
  | some x =>
    refine ⟨x, rfl, ?_⟩
    rcases Nat.lt_or_ge i x with q | q
    · exact absurd h ((wl_some hw).2.2 i q)
    · exact q
theorem sure_iff : SG (thO O) (tsO O T) b 9 a ↔ ∀ m, m < prd (bas O) 10 → (wl O T a b m).isSome = true := by
  constructor
  · intro h m hm
    obtain ⟨i, hi, hp⟩ := sure_all (M := prd (bas O) 10) (tau := tauO O T) (fun m _ k hk => tauO_ts m k hk) 9 a h m hm
    obtain ⟨x, hx, _⟩ := wl_of (by omega) hp
    rw [hx]
    rfl
  · intro h
    refine Classical.byContradiction fun hn => ?_
    obtain ⟨m, hm, hp⟩ := unsure_ex (M := prd (bas O) 10) (tau := tauO O T) (b := b) (fun k hk => hk.1) (fun k hk => thO_ne hk) tauO_all a hn
    have h1 := h m hm
    cases hw : wl O T a b m with
    | none => rw [hw] at h1; cases h1
    | some x => exact hp x (wl_some hw).2.1
theorem few_eq : lowP (fun p => cb (RG (thO O) (tsO O T) b p a)) 10 = mnO (wl O T a b) (prd (bas O) 10) := by
  cases hl : lowP (fun p => cb (RG (thO O) (tsO O T) b p a)) 10 with
  | none =>
    have hn := lowP_none.mp hl
    refine (mnO_none (fun m hm => ?_)).symm
    cases hw : wl O T a b m with
    | none => rfl
    | some x =>
      obtain ⟨h1, h2, _⟩ := wl_some hw
      exact absurd (reach_of (M := prd (bas O) 10) (TS := tsO O T) (tau := tauO O T) (fun m _ k hk => tauO_ts m k hk) hm x a h2) (cb_false.mp (hn x h1))
  | some p =>
    obtain ⟨h1, h2, h3⟩ := lowP_some.mp hl
    refine (mnO_some _ (fun m hm y hy => ?_) ?_).symm
    · obtain ⟨g1, g2, _⟩ := wl_some hy
      rcases Nat.lt_or_ge y p with q | q
      · exact absurd (reach_of (M := prd (bas O) 10) (TS := tsO O T) (tau := tauO O T) (fun m _ k hk => tauO_ts m k hk) hm y a g2) (cb_false.mp (h3 y q))
      · exact q
    · obtain ⟨m, hm, hp⟩ := reach_ex (M := prd (bas O) 10) (tau := tauO O T) (b := b) (fun k t hk => tsO_th hk) (fun k hk => thO_ne hk) tauO_all
      obtain ⟨i, hi, hi2⟩ := hp p a (cb_iff.mp h2)
      obtain ⟨x, hx, hx2⟩ := wl_of (by omega) hi2
      refine ⟨m, hm, ?_⟩
      obtain ⟨g1, g2, _⟩ := wl_some hx
      rcases Nat.lt_or_ge x p with q | q
      · exact absurd (reach_of (M := prd (bas O) 10) (TS := tsO O T) (tau := tauO O T) (fun m _ k hk => tauO_ts m k hk) hm x a g2) (cb_false.mp (h3 x q))
      · rw [hx]
        congr 1
        omega
theorem poss_iff : RG (thO O) (tsO O T) b 9 a ↔ 0 < cntP (fun m => (wl O T a b m).isSome) (prd (bas O) 10) := by
  rw [cntP_pos]
  constructor
  · intro h
    obtain ⟨m, hm, hp⟩ := reach_ex (M := prd (bas O) 10) (tau := tauO O T) (b := b) (fun k t hk => tsO_th hk) (fun k hk => thO_ne hk) tauO_all
    obtain ⟨i, hi, hi2⟩ := hp 9 a h
    obtain ⟨x, hx, hx2⟩ := wl_of (by omega) hi2
    exact ⟨m, hm, by rw [hx]; rfl⟩
  · rintro ⟨m, hm, h⟩
    cases hw : wl O T a b m with
    | none => rw [hw] at h; cases h
    | some x =>
      obtain ⟨g1, g2, _⟩ := wl_some hw
      have := RG_mono (reach_of (M := prd (bas O) 10) (TS := tsO O T) (tau := tauO O T) (fun m _ k hk => tauO_ts m k hk) hm x a g2) (9 - x)
      rw [show x + (9 - x) = 9 by omega] at this
      exact this
end SAY
