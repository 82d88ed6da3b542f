/-! options: for each key its rows that can be kept; both sides' lists of them -/
theorem iter_inv {σ ρ : Type} (b : σ → Option (σ ⊕ ρ)) (I : Nat → σ → Prop) (n : Nat) (post : ρ → Prop) (hn : n < 1000000) (hs : ∀ i s, i < n → I i s → ∃ t, b s = some (.inl t) ∧ I (i + 1) t) (he : ∀ s, I n s → ∃ r, b s = some (.inr r) ∧ post r) {s0 : σ} (h0 : I 0 s0) : ∃ r, iter fuel b s0 = some r ∧ post r := by
  have key : ∀ d i s f, i + d = n → d < f → I i s → ∃ r, iter f b s = some r ∧ post r := by
    intro d
    induction d with
    | zero =>
      intro i s f hi hf hI
      obtain ⟨f, rfl⟩ : ∃ g, f = g + 1 := ⟨f - 1, by omega⟩
      have : i = n := by omega
      subst this
      obtain ⟨r, h1, h2⟩ := he s hI
      refine ⟨r, ?_, h2⟩
      unfold iter
      rw [h1]
    | succ d ih =>
      intro i s f hi hf hI
      obtain ⟨f, rfl⟩ : ∃ g, f = g + 1 := ⟨f - 1, by omega⟩
      obtain ⟨t, h1, h2⟩ := hs i s (by omega) hI
      obtain ⟨r, h3, h4⟩ := ih (i + 1) t f (by omega) (by omega) h2
      refine ⟨r, ?_, h4⟩
      unfold iter
      rw [h1]
      exact h3
  exact key n 0 s0 fuel (by omega) (by unfold fuel; omega) h0
def op (K : Nat → Nat) (cn : Nat → Bool) (k : Nat) : Nat → List Nat
  | 0 => []
  | i + 1 => if K i = k ∧ cn i = true then op K cn k i ++ [i] else op K cn k i
theorem op_succ (K : Nat → Nat) (cn : Nat → Bool) (k i : Nat) : op K cn k (i + 1) = if K i = k ∧ cn i = true then op K cn k i ++ [i] else op K cn k i := rfl
theorem op_mem {K : Nat → Nat} {cn : Nat → Bool} {k j : Nat} : ∀ i, j ∈ op K cn k i ↔ j < i ∧ K j = k ∧ cn j = true := by
  intro i
  induction i with
  | zero => constructor
            · intro h; cases h
            · intro h; omega
  | succ i ih =>
    unfold op
    by_cases e : K i = k ∧ cn i = true
    · rw [if_pos e, List.mem_append, ih]
      constructor
      · rintro (h | h)
        · exact ⟨by omega, h.2⟩
        · have : j = i := by simpa using h
          subst this
          exact ⟨by omega, e⟩
      · rintro ⟨h1, h2⟩
        by_cases q : j = i
        · subst q; exact Or.inr (by simp)
        · exact Or.inl ⟨by omega, h2⟩
    · rw [if_neg e, ih]
      constructor
      · rintro ⟨h1, h2⟩; exact ⟨by omega, h2⟩
      · rintro ⟨h1, h2⟩
        by_cases q : j = i
        · subst q; exact absurd h2 e
        · exact ⟨by omega, h2⟩
theorem op_len {K : Nat → Nat} {cn : Nat → Bool} {k : Nat} : ∀ i, (op K cn k i).length ≤ i := by
  intro i
  induction i with
  | zero => exact Nat.le_refl _
  | succ i ih =>
    unfold op
    split
    · rw [List.length_append]
      simp only [List.length_singleton]
      omega
    · omega
theorem getD_app {l : List Nat} {x t : Nat} : (l ++ [x]).getD t 0 = if t < l.length then l.getD t 0 else if t = l.length then x else 0 := by
  by_cases h : t < l.length
  · rw [if_pos h, List.getD_eq_getElem?_getD, List.getElem?_append_left h, ← List.getD_eq_getElem?_getD]
  · rw [if_neg h, List.getD_eq_getElem?_getD, List.getElem?_append_right (by omega)]
    by_cases e : t = l.length
    · subst e; rw [if_pos rfl]; simp
    · rw [if_neg e]
      have : t - l.length ≠ 0 := by omega
      obtain ⟨q, hq⟩ : ∃ q, t - l.length = q + 1 := ⟨t - l.length - 1, by omega⟩
      rw [hq]
      rfl
theorem getD_mem {l : List Nat} {t : Nat} (h : t < l.length) : l.getD t 0 ∈ l := by
  rw [List.getD_eq_getElem?_getD, List.getElem?_eq_getElem h]
  exact List.getElem_mem h
theorem mem_getD {l : List Nat} {x : Nat} (h : x ∈ l) : ∃ t, t < l.length ∧ l.getD t 0 = x := by
  obtain ⟨t, ht, e⟩ := List.getElem_of_mem h
  exact ⟨t, ht, by rw [List.getD_eq_getElem?_getD, List.getElem?_eq_getElem ht]; exact e⟩
def sumP (f : Nat → Nat) : Nat → Nat
  | 0 => 0
  | k + 1 => sumP f k + f k
theorem sumP_succ (f : Nat → Nat) (n : Nat) : sumP f (n + 1) = sumP f n + f n := rfl
theorem sumP_congr {f g : Nat → Nat} {K : Nat} (h : ∀ k, k < K → f k = g k) : sumP f K = sumP g K := by
  induction K with
  | zero => rfl
  | succ K ih =>
    unfold sumP
    rw [ih (fun k hk => h k (by omega)), h K (by omega)]
theorem sumP_le {f g : Nat → Nat} {K : Nat} (h : ∀ k, k < K → f k ≤ g k) : sumP f K ≤ sumP g K := by
  induction K with
  | zero => exact Nat.le_refl _
  | succ K ih =>
    unfold sumP
    have := ih (fun k hk => h k (by omega))
    have := h K (by omega)
    omega
theorem sumP_one {f g : Nat → Nat} {K a : Nat} (h : ∀ k, k < K → k ≠ a → f k = g k) (ha : f a = g a + 1) : sumP f K ≤ sumP g K + 1 := by
  induction K with
  | zero => show 0 ≤ 0 + 1; omega
  | succ K ih =>
    unfold sumP
    have h1 := ih (fun k hk => h k (by omega))
    by_cases e : K = a
    · subst e
      have : sumP f K = sumP g K := sumP_congr (fun k hk => h k (by omega) (by omega))
      omega
    · have := h K (by omega) e
      omega
theorem op_sum (K : Nat → Nat) (cn : Nat → Bool) (m : Nat) : ∀ i, sumP (fun k => (op K cn k i).length) m ≤ i := by
  intro i
  induction i with
  | zero =>
    have : ∀ m, sumP (fun k => (op K cn k 0).length) m = 0 := by
      intro m
      induction m with
      | zero => rfl
      | succ m ih => unfold sumP; rw [ih]; rfl
    rw [this]
    exact Nat.le_refl _
  | succ i ih =>
    by_cases e : cn i = true
    · have := sumP_one (f := fun k => (op K cn k (i + 1)).length) (g := fun k => (op K cn k i).length) (K := m) (a := K i) (fun k _ hk => by
        show (op K cn k (i + 1)).length = (op K cn k i).length
        rw [op_succ, if_neg (fun h => hk h.1.symm)]) (by
        show (op K cn (K i) (i + 1)).length = (op K cn (K i) i).length + 1
        rw [show op K cn (K i) (i + 1) = if K i = K i ∧ cn i = true then op K cn (K i) i ++ [i] else op K cn (K i) i from rfl, if_pos ⟨rfl, e⟩, List.length_append]
        rfl)
      omega
    · have : sumP (fun k => (op K cn k (i + 1)).length) m = sumP (fun k => (op K cn k i).length) m := sumP_congr (fun k _ => by
        show (op K cn k (i + 1)).length = (op K cn k i).length
        rw [op_succ, if_neg (fun h => e h.2)])
      omega
/-- how many digits a key has -/
def bas (O : Nat → List Nat) (k : Nat) : Nat := if (O k).length = 0 then 1 else (O k).length
theorem bas_pos (O : Nat → List Nat) (k : Nat) : 0 < bas O k := by unfold bas; split <;> omega
theorem lt_two_pow (m : Nat) : m < 2 ^ m := Nat.lt_two_pow_self
theorem prd_two (O : Nat → List Nat) : ∀ K, prd (bas O) K ≤ 2 ^ sumP (fun k => (O k).length) K := by
  intro K
  induction K with
  | zero => exact Nat.le_refl _
  | succ K ih =>
    show prd (bas O) K * bas O K ≤ 2 ^ (sumP (fun k => (O k).length) K + (O K).length)
    rw [Nat.pow_add]
    refine Nat.mul_le_mul ih ?_
    unfold bas
    have := lt_two_pow (O K).length
    split
    · exact Nat.one_le_two_pow
    · omega
theorem sumP_mono {f : Nat → Nat} {a b : Nat} (h : a ≤ b) : sumP f a ≤ sumP f b := by
  induction b with
  | zero => have : a = 0 := by omega
            subst this; exact Nat.le_refl _
  | succ b ih =>
    by_cases e : a = b + 1
    · subst e; exact Nat.le_refl _
    · have := ih (by omega)
      rw [sumP_succ]; omega
/-- options in order: few enough, and of their keys -/
def OK (n : Nat) (K : Nat → Nat) (O : Nat → List Nat) : Prop := n ≤ 20 ∧ (∀ k, k < 10 → (O k).length ≤ 20 ∧ ∀ j, j ∈ O k → j < n ∧ K j = k) ∧ sumP (fun k => (O k).length) 10 ≤ 20
theorem OK_op {n : Nat} {K : Nat → Nat} (cn : Nat → Bool) (hn : n ≤ 20) : OK n K (fun k => op K cn k n) :=
  ⟨hn, fun k _ => ⟨Nat.le_trans (op_len n) hn, fun j hj => by
    have := (op_mem n).mp hj
    exact ⟨this.1, this.2.1⟩⟩, Nat.le_trans (op_sum K cn 10 n) hn⟩
theorem OK.prd_le {n : Nat} {K : Nat → Nat} {O : Nat → List Nat} (h : OK n K O) {k : Nat} (hk : k ≤ 10) : prd (bas O) k ≤ 1048576 := by
  refine Nat.le_trans (prd_two O k) ?_
  have h1 : sumP (fun k => (O k).length) k ≤ 20 := Nat.le_trans (sumP_mono hk) h.2.2
  exact Nat.le_trans (Nat.pow_le_pow_right (by omega) h1) (Nat.le_of_ble_eq_true rfl)
def CHo (O : Nat → List Nat) (m : Nat) (oc os : Nat → Int32) : Prop := ∀ k, k < m → oc k = nI (O k).length ∧ ∀ t, t < (O k).length → os (20 * k + t) = nI ((O k).getD t 0)
