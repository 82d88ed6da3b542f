/-! ways over keys: th (keys that are there), TS (what a key's options point to), tx (what the kept row of a key points to) -/
noncomputable def cb (P : Prop) : Bool := @decide P (Classical.propDecidable P)
theorem cb_iff {P : Prop} : cb P = true ↔ P := by
  unfold cb
  exact @decide_eq_true_iff P (Classical.propDecidable P)
theorem ex_min {P : Nat → Prop} : ∀ n, P n → ∃ k, k ≤ n ∧ P k ∧ ∀ j, j < k → ¬ P j := by
  intro n
  induction n using Nat.strongRecOn with
  | ind n ih =>
    intro h
    by_cases hx : ∃ j, j < n ∧ P j
    · obtain ⟨j, hj, hp⟩ := hx
      obtain ⟨k, h1, h2, h3⟩ := ih j hj hp
      exact ⟨k, by omega, h2, h3⟩
    · exact ⟨n, Nat.le_refl _, h, fun j hj hp => hx ⟨j, hj, hp⟩⟩
def lowP (p : Nat → Bool) : Nat → Option Nat
  | 0 => none
  | n + 1 => match lowP p n with
    | some i => some i
    | none => if p n then some n else none
theorem lowP_none {p : Nat → Bool} {n : Nat} : lowP p n = none ↔ ∀ i, i < n → p i = false := by
  induction n with
  | zero => exact ⟨fun _ i h => by omega, fun _ => rfl⟩
  | succ n ih =>
    unfold lowP
    constructor
    · intro h i hi
      cases hl : lowP p n with
      | some j => rw [hl] at h; cases h
      | none =>
        rw [hl] at h
        by_cases e : i = n
        · subst e
          cases hp : p i with
          | false => rfl
          | true => simp [hp] at h
        · exact ih.mp hl i (by omega)
    · intro h
      rw [ih.mpr (fun i hi => h i (by omega))]
      simp [h n (by omega)]
theorem lowP_some {p : Nat → Bool} {n i : Nat} : lowP p n = some i ↔ i < n ∧ p i = true ∧ ∀ j, j < i → p j = false := by
  induction n with
  | zero => exact ⟨fun h => (by cases h), fun h => by omega⟩
  | succ n ih =>
    unfold lowP
    constructor
    · intro h
      cases hl : lowP p n with
      | some j =>
        rw [hl] at h
        cases h
        obtain ⟨h1, h2, h3⟩ := ih.mp hl
        exact ⟨by omega, h2, h3⟩
      | none =>
        rw [hl] at h
        have hn := lowP_none.mp hl
        by_cases hp : p n = true
        · simp [hp] at h
          subst h
          exact ⟨by omega, hp, hn⟩
        · simp [hp] at h
    · rintro ⟨h1, h2, h3⟩
      by_cases e : i = n
      · subst e
        rw [lowP_none.mpr h3]
        simp [h2]
      · rw [ih.mpr ⟨by omega, h2, h3⟩]
def mnO (f : Nat → Option Nat) : Nat → Option Nat
  | 0 => none
  | n + 1 => match f n, mnO f n with
    | none, x => x
    | some a, none => some a
    | some a, some b => if a < b then some a else some b
theorem mnO_none {f : Nat → Option Nat} {n : Nat} (h : ∀ i, i < n → f i = none) : mnO f n = none := by
  induction n with
  | zero => rfl
  | succ n ih =>
    unfold mnO
    rw [h n (by omega), ih (fun i hi => h i (by omega))]
theorem mnO_some {f : Nat → Option Nat} {x : Nat} : ∀ n, (∀ i, i < n → ∀ y, f i = some y → x ≤ y) → (∃ i, i < n ∧ f i = some x) → mnO f n = some x := by
  have hge : ∀ n, (∀ i, i < n → ∀ y, f i = some y → x ≤ y) → ∀ y, mnO f n = some y → x ≤ y := by
    intro n
    induction n with
    | zero => intro _ y h; cases h
    | succ n ih =>
      intro h y hy
      unfold mnO at hy
      have h2 := ih (fun i hi => h i (by omega))
      cases hf : f n with
      | none => rw [hf] at hy; exact h2 y hy
      | some a =>
        have ha := h n (by omega) a hf
        rw [hf] at hy
        cases hm : mnO f n with
        | none => rw [hm] at hy; cases hy; exact ha
        | some b =>
          rw [hm] at hy
          have hb := h2 b hm
          dsimp only at hy
          split at hy <;> (cases hy; assumption)
  intro n
  induction n with
  | zero => rintro _ ⟨i, hi, _⟩; omega
  | succ n ih =>
    rintro h ⟨i, hi, hx⟩
    unfold mnO
    by_cases e : i = n
    · subst e
      rw [hx]
      cases hm : mnO f i with
      | none => rfl
      | some b =>
        have := hge i (fun j hj => h j (by omega)) b hm
        try dsimp only
        split
        · rfl
        · congr 1; omega
    · have h1 := ih (fun j hj => h j (by omega)) ⟨i, by omega, hx⟩
      rw [h1]
      cases hf : f n with
      | none => rfl
      | some a =>
        have := h n (by omega) a hf
        try dsimp only
        split
        · congr 1; omega
        · rfl
def PT (th : Nat → Prop) (tx : Nat → Nat) (a : Nat) : Nat → Nat → Prop
  | 0, k => th a ∧ k = a
  | i + 1, k => ∃ j, PT th tx a i j ∧ tx j = k ∧ th k
def SG (th : Nat → Prop) (TS : Nat → Nat → Prop) (b : Nat) : Nat → Nat → Prop
  | 0, k => th b ∧ k = b
  | r + 1, k => SG th TS b r k ∨ (th k ∧ ∀ t, TS k t → SG th TS b r t)
def RG (th : Nat → Prop) (TS : Nat → Nat → Prop) (b : Nat) : Nat → Nat → Prop
  | 0, k => th b ∧ k = b
  | r + 1, k => RG th TS b r k ∨ ∃ t, TS k t ∧ RG th TS b r t
theorem PT_th {th : Nat → Prop} {tx : Nat → Nat} {a : Nat} : ∀ i k, PT th tx a i k → th k := by
  intro i k h
  cases i with
  | zero => obtain ⟨h1, rfl⟩ := h; exact h1
  | succ i => obtain ⟨j, _, _, h3⟩ := h; exact h3
theorem PT_cons {th : Nat → Prop} {tx : Nat → Nat} {a : Nat} (ha : th a) : ∀ i k, PT th tx (tx a) i k → PT th tx a (i + 1) k := by
  intro i
  induction i with
  | zero =>
    rintro k ⟨h1, rfl⟩
    exact ⟨a, ⟨ha, rfl⟩, rfl, h1⟩
  | succ i ih =>
    rintro k ⟨j, h1, h2, h3⟩
    exact ⟨j, ih j h1, h2, h3⟩
theorem PT_front {th : Nat → Prop} {tx : Nat → Nat} {a : Nat} : ∀ i k, PT th tx a (i + 1) k → th a ∧ PT th tx (tx a) i k := by
  intro i
  induction i with
  | zero =>
    rintro k ⟨j, ⟨h1, rfl⟩, h2, h3⟩
    subst h2
    exact ⟨h1, h3, rfl⟩
  | succ i ih =>
    rintro k ⟨j, h1, h2, h3⟩
    obtain ⟨h4, h5⟩ := ih j h1
    exact ⟨h4, j, h5, h2, h3⟩
theorem PT_uniq {th : Nat → Prop} {tx : Nat → Nat} {a : Nat} : ∀ i k k', PT th tx a i k → PT th tx a i k' → k = k' := by
  intro i
  induction i with
  | zero => rintro k k' ⟨_, rfl⟩ ⟨_, rfl⟩; rfl
  | succ i ih =>
    rintro k k' ⟨j, h1, h2, _⟩ ⟨j', h1', h2', _⟩
    have := ih j j' h1 h1'
    subst this
    rw [← h2, ← h2']
theorem SG_mono {th : Nat → Prop} {TS : Nat → Nat → Prop} {b : Nat} {r k : Nat} (h : SG th TS b r k) : ∀ d, SG th TS b (r + d) k := by
  intro d
  induction d with
  | zero => exact h
  | succ d ih => exact Or.inl ih
theorem RG_mono {th : Nat → Prop} {TS : Nat → Nat → Prop} {b : Nat} {r k : Nat} (h : RG th TS b r k) : ∀ d, RG th TS b (r + d) k := by
  intro d
  induction d with
  | zero => exact h
  | succ d ih => exact Or.inl ih
theorem SG_th {th : Nat → Prop} {TS : Nat → Nat → Prop} {b : Nat} : ∀ r k, SG th TS b r k → th k := by
  intro r
  induction r with
  | zero => rintro k ⟨h, rfl⟩; exact h
  | succ r ih =>
    rintro k (h | ⟨h, _⟩)
    · exact ih k h
    · exact h
theorem SG_nob {th : Nat → Prop} {TS : Nat → Nat → Prop} {b : Nat} (hb : ¬ th b) (hne : ∀ k, th k → ∃ t, TS k t) : ∀ r k, ¬ SG th TS b r k := by
  intro r
  induction r with
  | zero => rintro k ⟨h, _⟩; exact hb h
  | succ r ih =>
    rintro k (h | ⟨h, h2⟩)
    · exact ih k h
    · obtain ⟨t, ht⟩ := hne k h
      exact ih t (h2 t ht)
theorem SG_stable {th : Nat → Prop} {TS : Nat → Nat → Prop} {b : Nat} (h10 : ∀ k, th k → k < 10) (hb : th b) : ∀ k, SG th TS b 10 k → SG th TS b 9 k := by
  have key : ∃ r, r ≤ 9 ∧ ∀ k, SG th TS b (r + 1) k → SG th TS b r k := by
    refine Classical.byContradiction fun hn => ?_
    have hgrow : ∀ r, r ≤ 10 → r + 1 ≤ cntP (fun k => cb (SG th TS b r k)) 10 := by
      intro r
      induction r with
      | zero =>
        intro _
        exact cntP_pos.mpr ⟨b, h10 b hb, cb_iff.mpr ⟨hb, rfl⟩⟩
      | succ r ih =>
        intro hr
        have h1 := ih (by omega)
        have h2 : ∃ k, SG th TS b (r + 1) k ∧ ¬ SG th TS b r k := by
          refine Classical.byContradiction fun h3 => hn ⟨r, by omega, fun k hk => ?_⟩
          exact Classical.byContradiction fun h4 => h3 ⟨k, hk, h4⟩
        obtain ⟨k, hk, hk2⟩ := h2
        have h3 : cb (SG th TS b r k) = false := by
          cases hc : cb (SG th TS b r k) with
          | false => rfl
          | true => exact absurd (cb_iff.mp hc) hk2
        have := cntP_lt_of (p := fun k => cb (SG th TS b r k)) (q := fun k => cb (SG th TS b (r + 1) k)) (n := 10) (fun i _ hi => cb_iff.mpr (Or.inl (cb_iff.mp hi))) k (h10 k (SG_th _ _ hk)) h3 (cb_iff.mpr hk)
        omega
    have := hgrow 10 (Nat.le_refl _)
    have := cntP_le (fun k => cb (SG th TS b 10 k)) 10
    omega
  obtain ⟨r, hr, hs⟩ := key
  have hst : ∀ d k, SG th TS b (r + d) k → SG th TS b r k := by
    intro d
    induction d with
    | zero => exact fun k h => h
    | succ d ih =>
      rintro k (h | ⟨h, h2⟩)
      · exact ih k h
      · exact hs k (Or.inr ⟨h, fun t ht => ih t (h2 t ht)⟩)
  intro k hk
  have h1 := hst (10 - r) k (by rw [show r + (10 - r) = 10 by omega]; exact hk)
  have h2 := SG_mono h1 (9 - r)
  rw [show r + (9 - r) = 9 by omega] at h2
  exact h2
section WAYS
variable {th : Nat → Prop} {TS : Nat → Nat → Prop} {b M : Nat} {tau : Nat → Nat → Nat}
theorem sure_all (ht : ∀ m, m < M → ∀ k, th k → TS k (tau m k)) : ∀ r a, SG th TS b r a → ∀ m, m < M → ∃ i, i ≤ r ∧ PT th (tau m) a i b := by
  intro r
  induction r with
  | zero => rintro a ⟨h, rfl⟩ m _; exact ⟨0, Nat.le_refl _, h, rfl⟩
  | succ r ih =>
    rintro a (h | ⟨h, h2⟩) m hm
    · obtain ⟨i, hi, hp⟩ := ih a h m hm
      exact ⟨i, by omega, hp⟩
    · obtain ⟨i, hi, hp⟩ := ih _ (h2 _ (ht m hm a h)) m hm
      exact ⟨i + 1, by omega, PT_cons h i b hp⟩
theorem unsure_ex (h10 : ∀ k, th k → k < 10) (hne : ∀ k, th k → ∃ t, TS k t) (hs : ∀ s : Nat → Nat, (∀ k, th k → TS k (s k)) → ∃ m, m < M ∧ ∀ k, th k → tau m k = s k) (a : Nat) (ha : ¬ SG th TS b 9 a) : ∃ m, m < M ∧ ∀ i, ¬ PT th (tau m) a i b := by
  by_cases hb : th b
  · have hst := SG_stable (TS := TS) h10 hb
    have hx : ∀ k, ∃ t, th k → (TS k t ∧ (¬ SG th TS b 9 k → ¬ SG th TS b 9 t)) := by
      intro k
      by_cases hk : th k
      · by_cases hk9 : SG th TS b 9 k
        · obtain ⟨t, h⟩ := hne k hk
          exact ⟨t, fun _ => ⟨h, fun h2 => absurd hk9 h2⟩⟩
        · have h1 : ∃ t, TS k t ∧ ¬ SG th TS b 9 t := by
            refine Classical.byContradiction fun h3 => hk9 (hst k (Or.inr ⟨hk, fun t h4 => ?_⟩))
            exact Classical.byContradiction fun h5 => h3 ⟨t, h4, h5⟩
          obtain ⟨t, h2, h3⟩ := h1
          exact ⟨t, fun _ => ⟨h2, fun _ => h3⟩⟩
      · exact ⟨0, fun h => absurd h hk⟩
    obtain ⟨s, hs1⟩ := Classical.axiomOfChoice hx
    obtain ⟨m, hm, hm2⟩ := hs s (fun k hk => (hs1 k hk).1)
    refine ⟨m, hm, ?_⟩
    have hp : ∀ i k, PT th (tau m) a i k → ¬ SG th TS b 9 k := by
      intro i
      induction i with
      | zero => rintro k ⟨_, rfl⟩; exact ha
      | succ i ih =>
        rintro k ⟨j, h1, h2, _⟩
        have hj := PT_th i j h1
        rw [← h2, hm2 j hj]
        exact (hs1 j hj).2 (ih j h1)
    intro i hi
    exact hp i b hi (SG_mono (r := 0) ⟨hb, rfl⟩ 9)
  · have h0 : ∀ k, ∃ t, th k → TS k t := fun k => by
      by_cases hk : th k
      · obtain ⟨t, h⟩ := hne k hk; exact ⟨t, fun _ => h⟩
      · exact ⟨0, fun h => absurd h hk⟩
    obtain ⟨s, hs1⟩ := Classical.axiomOfChoice h0
    obtain ⟨m, hm, _⟩ := hs s hs1
    exact ⟨m, hm, fun i hi => hb (PT_th i b hi)⟩
theorem reach_of (ht : ∀ m, m < M → ∀ k, th k → TS k (tau m k)) {m : Nat} (hm : m < M) : ∀ i a, PT th (tau m) a i b → RG th TS b i a := by
  intro i
  induction i with
  | zero => rintro a ⟨h, h2⟩; subst h2; exact ⟨h, rfl⟩
  | succ i ih =>
    intro a h
    obtain ⟨h1, h2⟩ := PT_front i b h
    exact Or.inr ⟨tau m a, ht m hm a h1, ih _ h2⟩
theorem reach_ex (hth : ∀ k t, TS k t → th k) (hne : ∀ k, th k → ∃ t, TS k t) (hs : ∀ s : Nat → Nat, (∀ k, th k → TS k (s k)) → ∃ m, m < M ∧ ∀ k, th k → tau m k = s k) : ∃ m, m < M ∧ ∀ p k, RG th TS b p k → ∃ i, i ≤ p ∧ PT th (tau m) k i b := by
  have hx : ∀ k, ∃ t, th k → (TS k t ∧ ∀ l, RG th TS b (l + 1) k → (∀ j, j < l + 1 → ¬ RG th TS b j k) → RG th TS b l t) := by
    intro k
    by_cases hk : th k
    · by_cases h : ∃ l, RG th TS b (l + 1) k ∧ ∀ j, j < l + 1 → ¬ RG th TS b j k
      · obtain ⟨l, h1, h2⟩ := h
        rcases h1 with h1 | ⟨t, h3, h4⟩
        · exact absurd h1 (h2 l (by omega))
        · refine ⟨t, fun _ => ⟨h3, fun l' h1' h2' => ?_⟩⟩
          have : l' = l := by
            rcases Nat.lt_trichotomy l' l with q | q | q
            · exact absurd h1' (h2 _ (by omega))
            · exact q
            · exact absurd (Or.inr ⟨t, h3, h4⟩) (h2' (l + 1) (by omega))
          subst this
          exact h4
      · obtain ⟨t, ht⟩ := hne k hk
        exact ⟨t, fun _ => ⟨ht, fun l h1 h2 => absurd ⟨l, h1, h2⟩ h⟩⟩
    · exact ⟨0, fun h => absurd h hk⟩
  obtain ⟨s, hs1⟩ := Classical.axiomOfChoice hx
  obtain ⟨m, hm, hm2⟩ := hs s (fun k hk => (hs1 k hk).1)
  refine ⟨m, hm, ?_⟩
  intro p
  induction p using Nat.strongRecOn with
  | ind p ih =>
    intro k hk
    obtain ⟨q, hq, hq1, hq2⟩ := ex_min (P := fun p => RG th TS b p k) p hk
    cases q with
    | zero =>
      obtain ⟨h1, h2⟩ := hq1
      subst h2
      exact ⟨0, Nat.zero_le _, h1, rfl⟩
    | succ l =>
      have hthk : th k := by
        rcases hq1 with h | ⟨t, h, _⟩
        · exact absurd h (hq2 l (by omega))
        · exact hth k t h
      have h4 := (hs1 k hthk).2 l hq1 hq2
      rw [← hm2 k hthk] at h4
      obtain ⟨i, hi, hp⟩ := ih l (by omega) _ h4
      exact ⟨i + 1, by omega, PT_cons hthk i b hp⟩
end WAYS
