/-! the pure side: loops, small ints, mixed numbers -/
theorem iter_for {σ ρ : Type} (b : σ → Option (σ ⊕ ρ)) (S : Nat → σ) (n : Nat) (r : ρ) (hs : ∀ i, i < n → b (S i) = some (.inl (S (i + 1)))) (he : b (S n) = some (.inr r)) : ∀ k i : Nat, i ≤ n → n - i < k → iter k b (S i) = some r := by
  intro k
  induction k with
  | zero => intro i _ h; omega
  | succ k ih =>
    intro i hi hk
    by_cases h : i = n
    · subst h
      unfold iter
      rw [he]
    · have h1 := ih (i + 1) (by omega) (by omega)
      unfold iter
      rw [hs i (by omega)]
      exact h1
theorem iter_go {σ ρ : Type} (b : σ → Option (σ ⊕ ρ)) {s0 : σ} {r : ρ} (S : Nat → σ) (n : Nat) (hn : n < 1000000) (h0 : s0 = S 0) (hs : ∀ i, i < n → b (S i) = some (.inl (S (i + 1)))) (he : b (S n) = some (.inr r)) : iter fuel b s0 = some r := by
  rw [h0]
  exact iter_for b S n r hs he fuel 0 (Nat.zero_le _) (by unfold fuel; omega)
theorem nI_def (n : Nat) : Int32.ofNat n = nI n := rfl
theorem nI_ne5 {n : Nat} (h : n < 2 ^ 31) : ¬ nI n = -5 := by
  intro e
  have := congrArg Int32.toInt e
  rw [nI_toInt h] at this
  have h5 : (-5 : Int32).toInt = -5 := by decide
  omega
theorem nI_ne5' {n : Nat} (h : n < 2 ^ 31) : ¬ (-5 : Int32) = nI n := fun e => nI_ne5 h e.symm
theorem nI_nlt0 {n : Nat} (h : n < 2 ^ 31) : (nI n < 0) = False := by
  apply eq_false
  exact nI_pos h
theorem nI_addO (a b : Nat) : nI a + nI b = nI (a + b) := nI_add a b
theorem nI_subO {a b : Nat} (h : b ≤ a) : nI a - nI b = nI (a - b) := by
  have : nI a = nI (a - b) + nI b := by rw [nI_add]; congr 1; omega
  rw [this]
  exact Int32.add_sub_cancel _ _
theorem nI_mulO (a b : Nat) : nI a * nI b = nI (a * b) := (Int32.ofNat_mul a b).symm
theorem nI_ext {a b : Nat} (h : a = b) : nI a = nI b := by rw [h]
/-- prefix counts -/
def cntP (p : Nat → Bool) : Nat → Nat
  | 0 => 0
  | n + 1 => cntP p n + (if p n then 1 else 0)
theorem cntP_succ (p : Nat → Bool) (n : Nat) : cntP p (n + 1) = cntP p n + (if p n then 1 else 0) := rfl
theorem cntP_le (p : Nat → Bool) (n : Nat) : cntP p n ≤ n := by
  induction n with
  | zero => exact Nat.le_refl _
  | succ n ih => unfold cntP; split <;> omega
theorem cntP_mono (p : Nat → Bool) {a b : Nat} (h : a ≤ b) : cntP p a ≤ cntP p b := by
  induction b with
  | zero => have : a = 0 := by omega
            subst this; exact Nat.le_refl _
  | succ b ih =>
    by_cases e : a = b + 1
    · subst e; exact Nat.le_refl _
    · have := ih (by omega)
      rw [cntP_succ]; omega
theorem cntP_congr {p q : Nat → Bool} {n : Nat} (h : ∀ i, i < n → p i = q i) : cntP p n = cntP q n := by
  induction n with
  | zero => rfl
  | succ n ih =>
    unfold cntP
    rw [ih (fun i hi => h i (by omega)), h n (by omega)]
theorem cntP_add (p : Nat → Bool) (a b : Nat) : cntP p (a + b) = cntP p a + cntP (fun j => p (a + j)) b := by
  induction b with
  | zero => rfl
  | succ b ih =>
    show cntP p (a + b) + (if p (a + b) then 1 else 0) = cntP p a + (cntP (fun j => p (a + j)) b + (if p (a + b) then 1 else 0))
    rw [ih]
    omega
theorem cntP_pos {p : Nat → Bool} {n : Nat} : 0 < cntP p n ↔ ∃ i, i < n ∧ p i = true := by
  induction n with
  | zero => constructor
            · intro h; exact absurd h (Nat.lt_irrefl 0)
            · rintro ⟨i, h, _⟩; omega
  | succ n ih =>
    unfold cntP
    constructor
    · intro h
      by_cases hp : p n = true
      · exact ⟨n, by omega, hp⟩
      · rw [if_neg hp] at h
        obtain ⟨i, hi, hpi⟩ := ih.mp (by omega)
        exact ⟨i, by omega, hpi⟩
    · rintro ⟨i, hi, hpi⟩
      by_cases e : i = n
      · subst e; rw [if_pos hpi]; omega
      · have := ih.mpr ⟨i, by omega, hpi⟩
        omega
theorem cntP_all {p : Nat → Bool} {n : Nat} : cntP p n = n ↔ ∀ i, i < n → p i = true := by
  induction n with
  | zero => constructor
            · intro _ i h; omega
            · intro _; rfl
  | succ n ih =>
    unfold cntP
    have := cntP_le p n
    constructor
    · intro h i hi
      by_cases hp : p n = true
      · rw [if_pos hp] at h
        by_cases e : i = n
        · subst e; exact hp
        · exact ih.mp (by omega) i (by omega)
      · rw [if_neg hp] at h; omega
    · intro h
      rw [if_pos (h n (by omega)), ih.mpr (fun i hi => h i (by omega))]
theorem cntP_le_of {p q : Nat → Bool} {n : Nat} (h : ∀ i, i < n → p i = true → q i = true) : cntP p n ≤ cntP q n := by
  induction n with
  | zero => exact Nat.le_refl _
  | succ n ih =>
    unfold cntP
    have := ih (fun i hi => h i (by omega))
    by_cases hp : p n = true
    · rw [if_pos hp, if_pos (h n (by omega) hp)]; omega
    · rw [if_neg hp]; omega
theorem cntP_lt_of {p q : Nat → Bool} {n : Nat} (h : ∀ i, i < n → p i = true → q i = true) (j : Nat) (hj : j < n) (hp : p j = false) (hq : q j = true) : cntP p n < cntP q n := by
  induction n with
  | zero => omega
  | succ n ih =>
    unfold cntP
    by_cases e : j = n
    · subst e
      have := cntP_le_of (n := j) (fun i hi => h i (by omega))
      rw [hp, hq]
      simp
      omega
    · have := ih (fun i hi => h i (by omega)) (by omega)
      by_cases hp' : p n = true
      · rw [if_pos hp', if_pos (h n (by omega) hp')]; omega
      · rw [if_neg hp']; omega
/-! mixed numbers: digit k has the base N k -/
def prd (N : Nat → Nat) : Nat → Nat
  | 0 => 1
  | k + 1 => prd N k * N k
theorem prd_pos {N : Nat → Nat} {K : Nat} (h : ∀ k, k < K → 0 < N k) : 0 < prd N K := by
  induction K with
  | zero => exact Nat.one_pos
  | succ K ih => exact Nat.mul_pos (ih (fun k hk => h k (by omega))) (h K (by omega))
def dg (N : Nat → Nat) (m k : Nat) : Nat := m / prd N k % N k
theorem dg_lt {N : Nat → Nat} {m k : Nat} (h : 0 < N k) : dg N m k < N k := Nat.mod_lt _ h
def enc (N c : Nat → Nat) : Nat → Nat
  | 0 => 0
  | k + 1 => enc N c k + c k * prd N k
theorem enc_lt {N c : Nat → Nat} {K : Nat} (h : ∀ k, k < K → c k < N k) : enc N c K < prd N K := by
  induction K with
  | zero => exact Nat.one_pos
  | succ K ih =>
    have h1 := ih (fun k hk => h k (by omega))
    have h2 := h K (by omega)
    show enc N c K + c K * prd N K < prd N K * N K
    have h3 : (c K + 1) * prd N K ≤ N K * prd N K := Nat.mul_le_mul_right _ h2
    rw [Nat.add_mul, Nat.one_mul] at h3
    rw [Nat.mul_comm (prd N K)]
    omega
theorem prd_dvd (N : Nat → Nat) {a b : Nat} (h : a ≤ b) : ∃ q, prd N b = prd N a * q := by
  induction b with
  | zero => have : a = 0 := by omega
            subst this; exact ⟨1, by rw [Nat.mul_one]⟩
  | succ b ih =>
    by_cases e : a = b + 1
    · subst e; exact ⟨1, by rw [Nat.mul_one]⟩
    · obtain ⟨q, hq⟩ := ih (by omega)
      exact ⟨q * N b, by show prd N b * N b = _; rw [hq, Nat.mul_assoc]⟩
theorem dg_enc {N c : Nat → Nat} {K : Nat} (h : ∀ k, k < K → c k < N k) : ∀ k, k < K → dg N (enc N c K) k = c k := by
  induction K with
  | zero => intro k hk; omega
  | succ K ih =>
    intro k hk
    have hK := enc_lt (fun k hk => h k (by omega) : ∀ k, k < K → c k < N k)
    have hpos : 0 < prd N k := prd_pos (fun j hj => Nat.lt_of_le_of_lt (Nat.zero_le _) (h j (by omega)))
    unfold dg
    show (enc N c K + c K * prd N K) / prd N k % N k = c k
    by_cases e : k = K
    · subst e
      rw [Nat.add_mul_div_right _ _ hpos, Nat.div_eq_of_lt hK, Nat.zero_add, Nat.mod_eq_of_lt (h k (by omega))]
    · obtain ⟨q, hq⟩ := prd_dvd N (show k + 1 ≤ K by omega)
      have hq2 : prd N K = prd N k * (N k * q) := by rw [hq]; show prd N k * N k * q = _; rw [Nat.mul_assoc]
      rw [hq2, show c K * (prd N k * (N k * q)) = (N k * (c K * q)) * prd N k by
        rw [Nat.mul_comm (prd N k), ← Nat.mul_assoc, Nat.mul_left_comm]]
      rw [Nat.add_mul_div_right _ _ hpos, Nat.add_mul_mod_self_left]
      exact ih (fun k hk => h k (by omega)) k (by omega)
theorem enc_dg {N : Nat → Nat} {K : Nat} (h : ∀ k, k < K → 0 < N k) (m : Nat) : enc N (dg N m) K = m % prd N K := by
  induction K with
  | zero => show 0 = m % 1; omega
  | succ K ih =>
    show enc N (dg N m) K + dg N m K * prd N K = m % (prd N K * N K)
    rw [ih (fun k hk => h k (by omega)), Nat.mod_mul]
    unfold dg
    rw [Nat.mul_comm (prd N K)]
theorem enc_dg_lt {N : Nat → Nat} {K : Nat} (h : ∀ k, k < K → 0 < N k) {m : Nat} (hm : m < prd N K) : enc N (dg N m) K = m := by
  rw [enc_dg h, Nat.mod_eq_of_lt hm]
theorem enc_mono {N a b : Nat → Nat} {K : Nat} (h : ∀ k, k < K → a k ≤ b k) : enc N a K ≤ enc N b K := by
  induction K with
  | zero => exact Nat.le_refl _
  | succ K ih =>
    show enc N a K + a K * prd N K ≤ enc N b K + b K * prd N K
    have h1 := ih (fun k hk => h k (by omega))
    have h2 : a K * prd N K ≤ b K * prd N K := Nat.mul_le_mul_right _ (h K (by omega))
    omega
theorem enc_congr {N a b : Nat → Nat} {K : Nat} (h : ∀ k, k < K → a k = b k) : enc N a K = enc N b K := by
  induction K with
  | zero => rfl
  | succ K ih =>
    show enc N a K + a K * prd N K = enc N b K + b K * prd N K
    rw [ih (fun k hk => h k (by omega)), h K (by omega)]
theorem cntP_mul (A B : Nat → Bool) (P n : Nat) (hP : 0 < P) : cntP (fun m => A (m % P) && B (m / P)) (P * n) = cntP A P * cntP B n := by
  induction n with
  | zero => show cntP _ 0 = cntP A P * 0; rw [Nat.mul_zero]; rfl
  | succ n ih =>
    rw [Nat.mul_add, Nat.mul_one, cntP_add, ih]
    have h1 : cntP (fun j => A ((P * n + j) % P) && B ((P * n + j) / P)) P = cntP (fun j => A j && B n) P := cntP_congr (fun j hj => by
      rw [Nat.mul_add_mod, Nat.mod_eq_of_lt hj, Nat.mul_add_div hP, Nat.div_eq_of_lt hj, Nat.add_zero])
    rw [h1]
    rw [cntP_succ B n]
    by_cases hb : B n = true
    · rw [if_pos hb, cntP_congr (p := fun j => A j && B n) (q := A) (fun i _ => by rw [hb, Bool.and_true]), Nat.mul_add, Nat.mul_one]
    · have hb' : B n = false := by simpa using hb
      rw [if_neg hb, Nat.add_zero]
      have h2 : cntP (fun j => A j && B n) P = 0 := by
        rcases Nat.eq_zero_or_pos (cntP (fun j => A j && B n) P) with h | h
        · exact h
        · obtain ⟨i, _, hi⟩ := cntP_pos.mp h
          rw [hb', Bool.and_false] at hi
          cases hi
      rw [h2, Nat.add_zero]
theorem dg_mod {N : Nat → Nat} {K : Nat} (m : Nat) {k : Nat} (hk : k < K) : dg N (m % prd N K) k = dg N m k := by
  obtain ⟨q, hq⟩ := prd_dvd N (show k + 1 ≤ K by omega)
  unfold dg
  have h2 : prd N K = prd N k * (N k * q) := by rw [hq]; show prd N k * N k * q = _; rw [Nat.mul_assoc]
  rw [h2, Nat.mod_mul_right_div_self, Nat.mod_mul_right_mod]
def allK (f : Nat → Nat → Bool) (g : Nat → Nat) : Nat → Bool
  | 0 => true
  | k + 1 => allK f g k && f k (g k)
theorem allK_iff {f : Nat → Nat → Bool} {g : Nat → Nat} {K : Nat} : allK f g K = true ↔ ∀ k, k < K → f k (g k) = true := by
  induction K with
  | zero => constructor
            · intro _ k hk; omega
            · intro _; rfl
  | succ K ih =>
    show (allK f g K && f K (g K)) = true ↔ _
    rw [Bool.and_eq_true, ih]
    constructor
    · rintro ⟨h1, h2⟩ k hk
      by_cases e : k = K
      · subst e; exact h2
      · exact h1 k (by omega)
    · intro h
      exact ⟨fun k hk => h k (by omega), h K (by omega)⟩
theorem allK_congr {f : Nat → Nat → Bool} {g g' : Nat → Nat} {K : Nat} (h : ∀ k, k < K → g k = g' k) : allK f g K = allK f g' K := by
  induction K with
  | zero => rfl
  | succ K ih =>
    show (allK f g K && f K (g K)) = (allK f g' K && f K (g' K))
    rw [ih (fun k hk => h k (by omega)), h K (by omega)]
/-- so many numbers have only digits of the wanted kind -/
theorem cntP_digits (N : Nat → Nat) (f : Nat → Nat → Bool) (K : Nat) (h : ∀ k, k < K → 0 < N k) : cntP (fun m => allK f (dg N m) K) (prd N K) = prd (fun k => cntP (f k) (N k)) K := by
  induction K with
  | zero => rfl
  | succ K ih =>
    have hpos : 0 < prd N K := prd_pos (fun k hk => h k (by omega))
    show cntP _ (prd N K * N K) = prd (fun k => cntP (f k) (N k)) K * cntP (f K) (N K)
    rw [← ih (fun k hk => h k (by omega)), ← cntP_mul (fun m => allK f (dg N m) K) (f K) (prd N K) (N K) hpos]
    apply cntP_congr
    intro m hm
    show (allK f (dg N m) K && f K (dg N m K)) = _
    rw [allK_congr (g := dg N m) (g' := dg N (m % prd N K)) (fun k hk => (dg_mod m hk).symm)]
    have h3 : dg N m K = m / prd N K := by
      unfold dg
      exact Nat.mod_eq_of_lt (Nat.div_lt_of_lt_mul hm)
    rw [h3]
/-- the lowest of all numbers -/
def minP (f : Nat → Nat) (c : Nat) : Nat → Nat
  | 0 => c
  | n + 1 => if f n < minP f c n then f n else minP f c n
def maxP (f : Nat → Nat) (c : Nat) : Nat → Nat
  | 0 => c
  | n + 1 => if maxP f c n < f n then f n else maxP f c n
theorem minP_eq {f : Nat → Nat} {c x n : Nat} (h1 : ∀ i, i < n → x ≤ f i) (h2 : ∃ i, i < n ∧ f i = x) (h3 : x ≤ c) : minP f c n = x := by
  have hle : ∀ k, k ≤ n → x ≤ minP f c k := by
    intro k
    induction k with
    | zero => intro _; exact h3
    | succ k ih =>
      intro hk
      unfold minP
      split
      · exact h1 k (by omega)
      · exact ih (by omega)
  have hge : ∀ k, (∃ i, i < k ∧ f i = x) → k ≤ n → minP f c k ≤ x := by
    intro k
    induction k with
    | zero => rintro ⟨i, hi, _⟩; omega
    | succ k ih =>
      rintro ⟨i, hi, hx⟩ hk
      unfold minP
      by_cases e : i = k
      · subst e
        split
        · exact Nat.le_of_eq hx
        · omega
      · have := ih ⟨i, by omega, hx⟩ (by omega)
        split <;> omega
  exact Nat.le_antisymm (hge n h2 (Nat.le_refl _)) (hle n (Nat.le_refl _))
theorem maxP_eq {f : Nat → Nat} {c x n : Nat} (h1 : ∀ i, i < n → f i ≤ x) (h2 : ∃ i, i < n ∧ f i = x) (h3 : c ≤ x) : maxP f c n = x := by
  have hle : ∀ k, k ≤ n → maxP f c k ≤ x := by
    intro k
    induction k with
    | zero => intro _; exact h3
    | succ k ih =>
      intro hk
      unfold maxP
      split
      · exact h1 k (by omega)
      · exact ih (by omega)
  have hge : ∀ k, (∃ i, i < k ∧ f i = x) → k ≤ n → x ≤ maxP f c k := by
    intro k
    induction k with
    | zero => rintro ⟨i, hi, _⟩; omega
    | succ k ih =>
      rintro ⟨i, hi, hx⟩ hk
      unfold maxP
      by_cases e : i = k
      · subst e
        split
        · exact Nat.le_of_eq hx.symm
        · omega
      · have := ih ⟨i, by omega, hx⟩ (by omega)
        split <;> omega
  exact Nat.le_antisymm (hle n (Nat.le_refl _)) (hge n h2 (Nat.le_refl _))
