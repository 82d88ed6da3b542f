/-! sums of weights: the class picks digit by digit, the model goes through all mendings -/
def gk (O : Nat → List Nat) (G : Nat → Nat) (k d : Nat) : Nat := if (O k).length = 0 then 0 else G ((O k).getD d 0)
def sumM (O : Nat → List Nat) (G : Nat → Nat) (m : Nat) : Nat := sumP (fun k => gk O G k (dg (bas O) m k)) 10
/-- the first of the digits below n that are best (up: greatest) -/
def bd (f : Nat → Nat) (up : Bool) : Nat → Nat
  | 0 => 0
  | n + 1 => if (if up then f (bd f up n) < f n else f n < f (bd f up n)) then n else bd f up n
theorem bd_succ (f : Nat → Nat) (up : Bool) (n : Nat) : bd f up (n + 1) = if (if up then f (bd f up n) < f n else f n < f (bd f up n)) then n else bd f up n := rfl
theorem bd_one (f : Nat → Nat) (up : Bool) : bd f up 1 = 0 := by
  rw [bd_succ]
  by_cases c : (if up then f (bd f up 0) < f 0 else f 0 < f (bd f up 0))
  · rw [if_pos c]
  · rw [if_neg c]; rfl
theorem bd_lt {f : Nat → Nat} {up : Bool} : ∀ n, 0 < n → bd f up n < n := by
  intro n
  induction n with
  | zero => intro h; omega
  | succ n ih =>
    intro _
    by_cases e : n = 0
    · subst e
      rw [bd_one]; omega
    · have := ih (by omega)
      rw [bd_succ]
      by_cases c : (if up then f (bd f up n) < f n else f n < f (bd f up n))
      · rw [if_pos c]; omega
      · rw [if_neg c]; omega
theorem bd_best {f : Nat → Nat} {up : Bool} : ∀ n d, d < n → (if up then f d ≤ f (bd f up n) else f (bd f up n) ≤ f d) ∧ (d < bd f up n → (if up then f d < f (bd f up n) else f (bd f up n) < f d)) := by
  intro n
  induction n with
  | zero => intro d h; omega
  | succ n ih =>
    intro d hd
    unfold bd
    cases up with
    | true =>
      simp only [if_true] at ih ⊢
      by_cases q : f (bd f true n) < f n
      · rw [if_pos q]
        by_cases e : d = n
        · subst e; exact ⟨Nat.le_refl _, fun h => by omega⟩
        · have := (ih d (by omega)).1
          exact ⟨by omega, fun _ => by omega⟩
      · rw [if_neg q]
        by_cases e : d = n
        · subst e
          refine ⟨by omega, fun h => ?_⟩
          rcases Nat.eq_zero_or_pos d with z | z
          · subst z; unfold bd at h; omega
          · have := bd_lt (f := f) (up := true) d z
            omega
        · exact ih d (by omega)
    | false =>
      simp only [Bool.false_eq_true, if_false] at ih ⊢
      by_cases q : f n < f (bd f false n)
      · rw [if_pos q]
        by_cases e : d = n
        · subst e; exact ⟨Nat.le_refl _, fun h => by omega⟩
        · have := (ih d (by omega)).1
          exact ⟨by omega, fun _ => by omega⟩
      · rw [if_neg q]
        by_cases e : d = n
        · subst e
          refine ⟨by omega, fun h => ?_⟩
          rcases Nat.eq_zero_or_pos d with z | z
          · subst z; unfold bd at h; omega
          · have := bd_lt (f := f) (up := false) d z
            omega
        · exact ih d (by omega)
def bdg (O : Nat → List Nat) (G : Nat → Nat) (up : Bool) (k : Nat) : Nat := bd (gk O G k) up (bas O k)
def bm (O : Nat → List Nat) (G : Nat → Nat) (up : Bool) : Nat := enc (bas O) (bdg O G up) 10
section SUMP
variable {O : Nat → List Nat} {G : Nat → Nat} {up : Bool}
theorem bdg_lt (k : Nat) : bdg O G up k < bas O k := bd_lt _ (bas_pos O k)
theorem bm_lt : bm O G up < prd (bas O) 10 := enc_lt (fun k _ => bdg_lt k)
theorem bm_dg {k : Nat} (hk : k < 10) : dg (bas O) (bm O G up) k = bdg O G up k := dg_enc (fun k _ => bdg_lt k) k hk
theorem sumP_lt {f g : Nat → Nat} {K : Nat} (h : ∀ k, k < K → f k ≤ g k) (j : Nat) (hj : j < K) (hl : f j < g j) : sumP f K < sumP g K := by
  induction K with
  | zero => omega
  | succ K ih =>
    unfold sumP
    by_cases e : j = K
    · subst e
      have := sumP_le (K := j) (fun k hk => h k (by omega))
      omega
    · have := ih (fun k hk => h k (by omega)) (by omega)
      have := h K (by omega)
      omega
/-- no mending has a better sum, and none below it has as good a one -/
theorem bm_best {m : Nat} (hm : m < prd (bas O) 10) : (if up then sumM O G m ≤ sumM O G (bm O G up) else sumM O G (bm O G up) ≤ sumM O G m) ∧ (m < bm O G up → (if up then sumM O G m < sumM O G (bm O G up) else sumM O G (bm O G up) < sumM O G m)) := by
  have hd : ∀ k, k < 10 → dg (bas O) m k < bas O k := fun k _ => dg_lt (bas_pos O k)
  have hb := fun k (hk : k < 10) => bd_best (f := gk O G k) (up := up) (bas O k) (dg (bas O) m k) (hd k hk)
  have hs : sumM O G (bm O G up) = sumP (fun k => gk O G k (bdg O G up k)) 10 := sumP_congr (fun k hk => by rw [bm_dg hk])
  rw [hs]
  have hlow : m < bm O G up → ∃ k, k < 10 ∧ dg (bas O) m k < bdg O G up k := by
    intro h
    refine Classical.byContradiction fun hn => ?_
    have h1 := enc_mono (N := bas O) (a := bdg O G up) (b := dg (bas O) m) (K := 10) (fun k hk => by
      rcases Nat.lt_or_ge (dg (bas O) m k) (bdg O G up k) with q | q
      · exact absurd ⟨k, hk, q⟩ hn
      · exact q)
    rw [enc_dg_lt (fun k _ => bas_pos O k) hm] at h1
    have : bm O G up = enc (bas O) (bdg O G up) 10 := rfl
    omega
  cases up with
  | true =>
    simp only [if_true] at hb ⊢
    refine ⟨sumP_le (fun k hk => (hb k hk).1), fun h => ?_⟩
    obtain ⟨k, hk, hl⟩ := hlow h
    exact sumP_lt (fun k hk => (hb k hk).1) k hk ((hb k hk).2 hl)
  | false =>
    simp only [Bool.false_eq_true, if_false] at hb ⊢
    refine ⟨sumP_le (fun k hk => (hb k hk).1), fun h => ?_⟩
    obtain ⟨k, hk, hl⟩ := hlow h
    exact sumP_lt (fun k hk => (hb k hk).1) k hk ((hb k hk).2 hl)
end SUMP
section SUMC
variable {n : Nat} {K V G T : Nat → Nat} {nr : Int32} {ks vs wg ts : Nat → Int32} {O : Nat → List Nat} {mn : Int32} {oc os sd tg : Nat → Int32}
theorem c_optionWeight (h : TF n K V G T nr ks vs wg ts) (hO : OK n K O) (h1 : CHo O 10 oc os) {k d : Nat} (hk : k < 10) (hd : d < (O k).length) : f_X0_optionWeight os wg (nI k) (nI d) = some (nI (gk O G k d)) ∧ gk O G k d < 100 := by
  have hr := ((hO.2.1 k hk).2 _ (getD_mem hd)).1
  unfold f_X0_optionWeight gk
  rw [h1.option hk hd (hO.2.1 k hk).1, bs, h.weightAt hr, bs, if_neg (by omega)]
  exact ⟨rfl, (h.2.2 _ hr).2.2.2.2.2.2.1⟩
theorem sgn_le {a b : Nat} (ha : a < 100) (hb : b < 100) (up : Bool) : ((if up then (1 : Int32) else -1) * nI a ≤ (if up then (1 : Int32) else -1) * nI b) ↔ (if up then a ≤ b else b ≤ a) := by
  have key : ∀ x : Nat, x < 100 → ((-1 : Int32) * nI x).toInt = -(x : Int) := by
    intro x hx
    rw [Int32.toInt_mul, nI_toInt (by omega), show (-1 : Int32).toInt = -1 from by decide, Int.bmod_eq_of_le (by omega) (by omega)]
    omega
  have key1 : ∀ x : Nat, x < 100 → ((1 : Int32) * nI x).toInt = (x : Int) := by
    intro x hx
    rw [Int32.toInt_mul, nI_toInt (by omega), show (1 : Int32).toInt = 1 from by decide, Int.bmod_eq_of_le (by omega) (by omega)]
    omega
  cases up with
  | true =>
    simp only [if_true]
    rw [Int32.le_iff_toInt_le, key1 a ha, key1 b hb]
    omega
  | false =>
    simp only [Bool.false_eq_true, if_false]
    rw [Int32.le_iff_toInt_le, key a ha, key b hb]
    omega
theorem c_byWeight (h : TF n K V G T nr ks vs wg ts) (hC : CH n K T O mn oc os sd tg) (up : Bool) : f_X0_firstMendingByWeight oc os sd wg (if up then 1 else -1) = some (nI (bm O G up)) := by
  obtain ⟨hO, h1, _, h3, _⟩ := hC
  unfold f_X0_firstMendingByWeight
  refine iter_inv_eq _ (fun i => (nI (enc (bas O) (bdg O G up) i), nI i)) 10 (by omega) rfl (fun i hi => ?_) ?_
  · have hl := (hO.2.1 i hi).1
    simp only [b_X0_firstMendingByWeight_2]
    rw [show (10 : Int32) = nI 10 from rfl, if_neg (nI_ge hi (by omega))]
    have hinner : ∀ v : Int32, iter fuel (b_X0_firstMendingByWeight_1 oc os sd wg (if up then 1 else -1) (nI i) v) (0, 1) = some (.inl (v + nI (bdg O G up i) * nI (prd (bas O) i), nI (i + 1))) := by
      intro v
      have hbl : bas O i = if (O i).length = 0 then 1 else (O i).length := rfl
      refine iter_inv_eq _ (fun j => (nI (bd (gk O G i) up (j + 1)), nI (j + 1))) (bas O i - 1) (by split at hbl <;> omega) ?_ (fun j hj => ?_) ?_
      · show (0, 1) = (nI (bd (gk O G i) up 1), nI 1)
        rw [bd_one]
        rfl
      · have e : ¬ (O i).length = 0 := fun e => by rw [if_pos e] at hbl; omega
        rw [if_neg e] at hbl
        have hb := bd_lt (f := gk O G i) (up := up) (j + 1) (by omega)
        obtain ⟨w1, w2⟩ := c_optionWeight h hO h1 (k := i) (d := j + 1) hi (by omega)
        obtain ⟨w3, w4⟩ := c_optionWeight h hO h1 (k := i) (d := bd (gk O G i) up (j + 1)) hi (by omega)
        simp only [b_X0_firstMendingByWeight_1]
        rw [h1.optionsOf hi, bs, if_neg (nI_ge (by omega) (by omega)), w1, bs, w3, bs, nI_1]
        have hx : (if (if up then (1 : Int32) else -1) * nI (gk O G i (j + 1)) ≤ (if up then (1 : Int32) else -1) * nI (gk O G i (bd (gk O G i) up (j + 1))) then some (nI (bd (gk O G i) up (j + 1))) else some (nI (j + 1))) = some (nI (bd (gk O G i) up (j + 1 + 1))) := by
          have hs := sgn_le w2 w4 up
          show _ = some (nI (if (if up then gk O G i (bd (gk O G i) up (j + 1)) < gk O G i (j + 1) else gk O G i (j + 1) < gk O G i (bd (gk O G i) up (j + 1))) then j + 1 else bd (gk O G i) up (j + 1)))
          cases up with
          | true =>
            simp only [if_true] at hs ⊢
            by_cases q : gk O G i (bd (gk O G i) true (j + 1)) < gk O G i (j + 1)
            · rw [if_pos q, if_neg (fun z => by have := hs.mp z; omega)]
            · rw [if_neg q, if_pos (hs.mpr (by omega))]
          | false =>
            simp only [Bool.false_eq_true, if_false] at hs ⊢
            by_cases q : gk O G i (j + 1) < gk O G i (bd (gk O G i) false (j + 1))
            · rw [if_pos q, if_neg (fun z => by have := hs.mp z; omega)]
            · rw [if_neg q, if_pos (hs.mpr (by omega))]
        rw [hx, bs]
      · simp only [b_X0_firstMendingByWeight_1]
        have hb1 := bas_pos O i
        have hb2 : bas O i ≤ 20 := by split at hbl <;> omega
        rw [h1.optionsOf hi, bs, if_pos (nI_le (by split at hbl <;> omega) (by omega)), at_in hi (by omega), bs, h3 i hi, nI_1, show bas O i - 1 + 1 = bas O i by omega]
        rfl
    rw [hinner, nI_mulO, nI_add]
    rfl
  · simp only [b_X0_firstMendingByWeight_2]
    rw [show (10 : Int32) = nI 10 from rfl, if_pos (nI_le (Nat.le_refl _) (by omega))]
    rfl
theorem c_sumKept (h : TF n K V G T nr ks vs wg ts) (hC : CH n K T O mn oc os sd tg) {m : Nat} (hm : m < 2 ^ 30) : f_X0_sumKeptBy oc os sd wg (nI m) = some (nI (sumM O G m)) := by
  have hO := hC.1
  unfold f_X0_sumKeptBy sumM
  refine iter_inv_eq _ (fun i => (nI (sumP (fun k => gk O G k (dg (bas O) m k)) i), nI i)) 10 (by omega) rfl (fun i hi => ?_) ?_
  · have hl := (hO.2.1 i hi).1
    simp only [b_X0_sumKeptBy_1]
    rw [show (10 : Int32) = nI 10 from rfl, if_neg (nI_ge hi (by omega)), hC.2.1.isThere hi hl, bs]
    show _ = some (Sum.inl (nI (sumP (fun k => gk O G k (dg (bas O) m k)) i + gk O G i (dg (bas O) m i)), _))
    by_cases e : (O i).length = 0
    · rw [decide_eq_false (by omega), if_pos (by decide), bs, nI_1]
      unfold gk
      rw [if_pos e]
      rfl
    · have hr := ((hO.2.1 i hi).2 _ (getD_mem (dg_len (m := m) e))).1
      rw [decide_eq_true (by omega), if_neg (by decide), c_rowKeptBy hC hm hi, bs, show kpt O m i = some ((O i).getD (dg (bas O) m i) 0) by unfold kpt; rw [if_neg e], show oI (some ((O i).getD (dg (bas O) m i) 0)) = nI ((O i).getD (dg (bas O) m i) 0) from rfl, h.weightAt hr, bs, bs, nI_1, nI_add]
      unfold gk
      rw [if_neg e]
  · simp only [b_X0_sumKeptBy_1]
    rw [show (10 : Int32) = nI 10 from rfl, if_pos (nI_le (Nat.le_refl _) (by omega))]
end SUMC
section SUMM
variable {n : Nat} {K V G T : Nat → Nat} {O : Nat → List Nat} {pf : Bool} {al my ch kp : Nat → Int32}
/-- running least and greatest, with their first places, over the numbers below i + 1 -/
def rl (f : Nat → Nat) (i : Nat) : Nat := bd f false (i + 1)
theorem bd_uniq {f : Nat → Nat} {up : Bool} {M x : Nat} (hx : x < M) (h : ∀ m, m < M → (if up then f m ≤ f x else f x ≤ f m) ∧ (m < x → (if up then f m < f x else f x < f m))) : bd f up M = x := by
  have hb := bd_best (f := f) (up := up) M
  have hl := bd_lt (f := f) (up := up) M (by omega)
  have h1 := h _ hl
  have h2 := hb x hx
  cases up with
  | true =>
    simp only [if_true] at h1 h2
    rcases Nat.lt_trichotomy (bd f true M) x with q | q | q
    · have := h1.2 q; have := h2.1; omega
    · exact q
    · have := h2.2 q; have := h1.1; omega
  | false =>
    simp only [Bool.false_eq_true, if_false] at h1 h2
    rcases Nat.lt_trichotomy (bd f false M) x with q | q | q
    · have := h1.2 q; have := h2.1; omega
    · exact q
    · have := h2.2 q; have := h1.1; omega
theorem bm_bd {G : Nat → Nat} {O : Nat → List Nat} (up : Bool) : bd (sumM O G) up (prd (bas O) 10) = bm O G up := bd_uniq bm_lt (fun _ hm => bm_best hm)
def sI (O : Nat → List Nat) (G : Nat → Nat) (w : Nat) : Nat := if w = 0 then sumM O G (bm O G false) else if w = 1 then sumM O G (bm O G true) else if w = 2 then bm O G false else bm O G true
theorem dB_lit {p : Int32} {N : Nat} (h : dB p N = true) (hN : N < 2 ^ 31) : ∃ j, j < N ∧ p = nI j := dB_of h hN
end SUMM
