/-! the table turned over: 9 less each key, the values the other way round -/
def mT (t : Nat) : Nat := if t < 10 then 9 - t else t
def mirA (A : AT) : AT := (A.1, fun j => 9 - A.2.1 j, fun j => 7 - A.2.2.1 j, A.2.2.2.1, fun j => mT (A.2.2.2.2 j))
def mirS (S : ST) : ST := (mirA S.1, S.2)
def OkA (A : AT) : Prop := A.1 ≤ 20 ∧ ∀ j, j < A.1 → A.2.1 j < 10 ∧ A.2.2.1 j < 8 ∧ A.2.2.2.1 j < 100 ∧ A.2.2.2.2 j ≤ 10
theorem Rep.ok {u : SSt} {S : ST} {z : Nat} {Hs : Nat → ST} (hR : Rep u S z Hs) : OkA S.1 := by
  obtain ⟨⟨⟨_, h1, h2⟩, _⟩, _⟩ := hR
  exact ⟨h1, fun j hj => (h2 j hj).2.2.2.2⟩
theorem mT_lt {t : Nat} (h : t < 10) : mT t = 9 - t := if_pos h
theorem mT_10 : mT 10 = 10 := rfl
theorem mT_le {t : Nat} (h : t ≤ 10) : mT t ≤ 10 := by unfold mT; split <;> omega
theorem mT_mT {t : Nat} (h : t ≤ 10) : mT (mT t) = t := by
  by_cases e : t < 10
  · rw [mT_lt e, mT_lt (by omega)]; omega
  · have : t = 10 := by omega
    subst this
    rfl
theorem mT_inj {s t : Nat} (hs : s ≤ 10) (ht : t ≤ 10) : mT s = mT t ↔ s = t := by unfold mT; split <;> split <;> omega
theorem mT_l10 {t : Nat} (h : t ≤ 10) : mT t < 10 ↔ t < 10 := by unfold mT; split <;> omega
/-- counts, sums and products do not mind the order -/
theorem cntP_rev (p : Nat → Bool) : ∀ n, cntP (fun k => p (n - 1 - k)) n = cntP p n := by
  intro n
  induction n with
  | zero => rfl
  | succ n ih =>
    have h1 := cntP_add (fun k => p (n + 1 - 1 - k)) 1 n
    rw [show 1 + n = n + 1 by omega] at h1
    have h2 : cntP (fun j => p (n + 1 - 1 - (1 + j))) n = cntP (fun k => p (n - 1 - k)) n := cntP_congr (fun j hj => by rw [show n + 1 - 1 - (1 + j) = n - 1 - j by omega])
    rw [h1, h2, ih]
    show (0 + if p (n + 1 - 1 - 0) = true then 1 else 0) + cntP p n = cntP p n + (if p n = true then 1 else 0)
    rw [show n + 1 - 1 - 0 = n by omega]
    omega
theorem sumP_add2 (f : Nat → Nat) (a : Nat) : ∀ b, sumP f (a + b) = sumP f a + sumP (fun j => f (a + j)) b := by
  intro b
  induction b with
  | zero => rfl
  | succ b ih =>
    show sumP f (a + b) + f (a + b) = _
    rw [ih, sumP_succ]
    omega
theorem sumP_rev (f : Nat → Nat) : ∀ n, sumP (fun k => f (n - 1 - k)) n = sumP f n := by
  intro n
  induction n with
  | zero => rfl
  | succ n ih =>
    have h1 := sumP_add2 (fun k => f (n + 1 - 1 - k)) 1 n
    rw [show 1 + n = n + 1 by omega] at h1
    have h2 : sumP (fun j => f (n + 1 - 1 - (1 + j))) n = sumP (fun k => f (n - 1 - k)) n := sumP_congr (fun j hj => by rw [show n + 1 - 1 - (1 + j) = n - 1 - j by omega])
    rw [h1, h2, ih]
    show (0 + f (n + 1 - 1 - 0)) + sumP f n = sumP f n + f n
    rw [show n + 1 - 1 - 0 = n by omega]
    omega
theorem prd_congr {f g : Nat → Nat} {K : Nat} (h : ∀ k, k < K → f k = g k) : prd f K = prd g K := by
  induction K with
  | zero => rfl
  | succ K ih =>
    unfold prd
    rw [ih (fun k hk => h k (by omega)), h K (by omega)]
theorem prd_add2 (f : Nat → Nat) (a : Nat) : ∀ b, prd f (a + b) = prd f a * prd (fun j => f (a + j)) b := by
  intro b
  induction b with
  | zero => exact (Nat.mul_one _).symm
  | succ b ih =>
    show prd f (a + b) * f (a + b) = prd f a * (prd (fun j => f (a + j)) b * f (a + b))
    rw [ih, Nat.mul_assoc]
theorem prd_rev (f : Nat → Nat) : ∀ n, prd (fun k => f (n - 1 - k)) n = prd f n := by
  intro n
  induction n with
  | zero => rfl
  | succ n ih =>
    have h1 := prd_add2 (fun k => f (n + 1 - 1 - k)) 1 n
    rw [show 1 + n = n + 1 by omega] at h1
    have h2 : prd (fun j => f (n + 1 - 1 - (1 + j))) n = prd (fun k => f (n - 1 - k)) n := prd_congr (fun j hj => by rw [show n + 1 - 1 - (1 + j) = n - 1 - j by omega])
    rw [h1, h2, ih]
    show (1 * f (n + 1 - 1 - 0)) * _ = prd f n * f n
    rw [show n + 1 - 1 - 0 = n by omega, Nat.one_mul, Nat.mul_comm]
theorem cntP_rev10 {p q : Nat → Bool} (h : ∀ k, k < 10 → q k = p (9 - k)) : cntP q 10 = cntP p 10 := (cntP_congr h).trans (cntP_rev p 10)
theorem sumP_rev10 {p q : Nat → Nat} (h : ∀ k, k < 10 → q k = p (9 - k)) : sumP q 10 = sumP p 10 := (sumP_congr h).trans (sumP_rev p 10)
theorem prd_rev10 {p q : Nat → Nat} (h : ∀ k, k < 10 → q k = p (9 - k)) : prd q 10 = prd p 10 := (prd_congr h).trans (prd_rev p 10)
theorem cntP_rev8 {p q : Nat → Bool} (h : ∀ k, k < 8 → q k = p (7 - k)) : cntP q 8 = cntP p 8 := (cntP_congr h).trans (cntP_rev p 8)
/-- options of the table turned over -/
theorem mir_bestP {K G : Nat → Nat} {up : Bool} {k : Nat} (hk : k < 10) : ∀ m, (∀ j, j < m → K j < 10) → bestP (fun j => 9 - K j) G up (9 - k) m = bestP K G up k m := by
  intro m
  induction m with
  | zero => intro _; rfl
  | succ m ih =>
    intro h
    unfold bestP
    rw [ih (fun j hj => h j (by omega))]
    have hm := h m (by omega)
    by_cases e : K m = k
    · rw [if_pos (show 9 - K m = 9 - k by omega), if_pos e]
    · rw [if_neg (show ¬ 9 - K m = 9 - k by omega), if_neg e]
theorem mir_can {n : Nat} {K G : Nat → Nat} {pf : Bool} (h : ∀ j, j < n → K j < 10) {j : Nat} (hj : j < n) : can n (fun j => 9 - K j) G pf j = can n K G pf j := by
  unfold can
  rw [mir_bestP (h j hj) n h]
theorem op_ext {K K' : Nat → Nat} {c c' : Nat → Bool} {k k' : Nat} : ∀ i, (∀ j, j < i → (K' j = k' ↔ K j = k) ∧ c' j = c j) → op K' c' k' i = op K c k i := by
  intro i
  induction i with
  | zero => intro _; rfl
  | succ i ih =>
    intro h
    rw [op_succ, op_succ, ih (fun j hj => h j (by omega))]
    obtain ⟨h1, h2⟩ := h i (by omega)
    by_cases e : K i = k ∧ c i = true
    · rw [if_pos e, if_pos ⟨h1.mpr e.1, by rw [h2]; exact e.2⟩]
    · rw [if_neg e, if_neg (fun q => e ⟨h1.mp q.1, by rw [← h2]; exact q.2⟩)]
theorem mir_OA {S : ST} (h : OkA S.1) {k : Nat} (hk : k < 10) : OA (mirS S) k = OA S (9 - k) := by
  refine op_ext S.1.1 (fun j hj => ?_)
  have hK := (h.2 j hj).1
  refine ⟨?_, ?_⟩
  · show 9 - S.1.2.1 j = k ↔ S.1.2.1 j = 9 - k
    omega
  · exact mir_can (fun j hj => (h.2 j hj).1) hj
theorem OA_mem {S : ST} {k j : Nat} : j ∈ OA S k ↔ j < S.1.1 ∧ S.1.2.1 j = k ∧ can S.1.1 S.1.2.1 S.1.2.2.2.1 S.2 j = true := op_mem S.1.1
theorem OA_lt {S : ST} {k d : Nat} (hd : d < (OA S k).length) : (OA S k).getD d 0 < S.1.1 := (OA_mem.mp (getD_mem hd)).1
theorem mir_bas {S : ST} (h : OkA S.1) {k : Nat} (hk : k < 10) : bas (OA (mirS S)) k = bas (OA S) (9 - k) := by
  unfold bas
  rw [mir_OA h hk]
theorem mir_MA {S : ST} (h : OkA S.1) : MA (mirS S) = MA S := prd_rev10 (fun k hk => mir_bas h hk)
theorem MA_pos (S : ST) : 0 < MA S := prd_pos (fun k _ => bas_pos _ k)
theorem mir_cntK {A : AT} (h : OkA A) {k : Nat} (hk : k < 10) : cntK (mirA A) k = cntK A (9 - k) := cntP_congr (fun j hj => by
  have := (h.2 j hj).1
  show (9 - A.2.1 j == k) = (A.2.1 j == 9 - k)
  rw [Bool.eq_iff_iff, beq_iff_eq, beq_iff_eq]
  omega)
theorem mir_keyA {A : AT} (h : OkA A) : keyA (mirA A) = keyA A := cntP_rev10 (p := fun k => decide (1 ≤ cntK A k)) (fun k hk => by rw [mir_cntK h hk])
theorem mir_dblA {A : AT} (h : OkA A) : dblA (mirA A) = dblA A := cntP_rev10 (p := fun k => decide (2 ≤ cntK A k)) (fun k hk => by rw [mir_cntK h hk])
/-- ways of the table turned over -/
theorem SG_map {th th' : Nat → Prop} {TS TS' : Nat → Nat → Prop} {f : Nat → Nat} {b : Nat} (hb : b ≤ 10)
    (h1 : ∀ a, a ≤ 10 → (th' (f a) ↔ th a)) (h2 : ∀ a, a ≤ 10 → ∀ t, TS a t → t ≤ 10 ∧ TS' (f a) (f t)) (h3 : ∀ a, a ≤ 10 → ∀ t', TS' (f a) t' → ∃ t, t ≤ 10 ∧ t' = f t ∧ TS a t)
    (h4 : ∀ a b, a ≤ 10 → b ≤ 10 → f a = f b → a = b) : ∀ r a, a ≤ 10 → (SG th' TS' (f b) r (f a) ↔ SG th TS b r a) := by
  intro r
  induction r with
  | zero =>
    intro a ha
    constructor
    · rintro ⟨x, y⟩; exact ⟨(h1 b hb).mp x, h4 a b ha hb y⟩
    · rintro ⟨x, rfl⟩; exact ⟨(h1 a ha).mpr x, rfl⟩
  | succ r ih =>
    intro a ha
    constructor
    · rintro (q | ⟨q1, q2⟩)
      · exact Or.inl ((ih a ha).mp q)
      · refine Or.inr ⟨(h1 a ha).mp q1, fun t ht => ?_⟩
        obtain ⟨x, y⟩ := h2 a ha t ht
        exact (ih t x).mp (q2 _ y)
    · rintro (q | ⟨q1, q2⟩)
      · exact Or.inl ((ih a ha).mpr q)
      · refine Or.inr ⟨(h1 a ha).mpr q1, fun t' ht' => ?_⟩
        obtain ⟨t, x, rfl, y⟩ := h3 a ha t' ht'
        exact (ih t x).mpr (q2 t y)
theorem RG_map {th th' : Nat → Prop} {TS TS' : Nat → Nat → Prop} {f : Nat → Nat} {b : Nat} (hb : b ≤ 10)
    (h1 : ∀ a, a ≤ 10 → (th' (f a) ↔ th a)) (h2 : ∀ a, a ≤ 10 → ∀ t, TS a t → t ≤ 10 ∧ TS' (f a) (f t)) (h3 : ∀ a, a ≤ 10 → ∀ t', TS' (f a) t' → ∃ t, t ≤ 10 ∧ t' = f t ∧ TS a t)
    (h4 : ∀ a b, a ≤ 10 → b ≤ 10 → f a = f b → a = b) : ∀ r a, a ≤ 10 → (RG th' TS' (f b) r (f a) ↔ RG th TS b r a) := by
  intro r
  induction r with
  | zero =>
    intro a ha
    constructor
    · rintro ⟨x, y⟩; exact ⟨(h1 b hb).mp x, h4 a b ha hb y⟩
    · rintro ⟨x, rfl⟩; exact ⟨(h1 a ha).mpr x, rfl⟩
  | succ r ih =>
    intro a ha
    constructor
    · rintro (q | ⟨t', q1, q2⟩)
      · exact Or.inl ((ih a ha).mp q)
      · obtain ⟨t, x, rfl, y⟩ := h3 a ha t' q1
        exact Or.inr ⟨t, y, (ih t x).mp q2⟩
    · rintro (q | ⟨t, q1, q2⟩)
      · exact Or.inl ((ih a ha).mpr q)
      · obtain ⟨x, y⟩ := h2 a ha t q1
        exact Or.inr ⟨f t, y, (ih t x).mpr q2⟩
theorem PT_map {th th' : Nat → Prop} {tx tx' : Nat → Nat} {f : Nat → Nat} {a : Nat} (ha : a ≤ 10)
    (h1 : ∀ a, a ≤ 10 → (th' (f a) ↔ th a)) (h2 : ∀ a, a ≤ 10 → th a → tx a ≤ 10 ∧ tx' (f a) = f (tx a)) (h10 : ∀ k, th k → k ≤ 10) (h10' : ∀ k', th' k' → ∃ k, k ≤ 10 ∧ k' = f k)
    (h4 : ∀ a b, a ≤ 10 → b ≤ 10 → f a = f b → a = b) : ∀ i k, k ≤ 10 → (PT th' tx' (f a) i (f k) ↔ PT th tx a i k) := by
  intro i
  induction i with
  | zero =>
    intro k hk
    constructor
    · rintro ⟨x, y⟩; exact ⟨(h1 a ha).mp x, h4 k a hk ha y⟩
    · rintro ⟨x, rfl⟩; exact ⟨(h1 k ha).mpr x, rfl⟩
  | succ i ih =>
    intro k hk
    constructor
    · rintro ⟨j', q1, q2, q3⟩
      obtain ⟨j, hj, rfl⟩ := h10' j' (PT_th i j' q1)
      have p1 := (ih j hj).mp q1
      obtain ⟨x, y⟩ := h2 j hj (PT_th i j p1)
      exact ⟨j, p1, h4 _ _ x hk (y.symm.trans q2), (h1 k hk).mp q3⟩
    · rintro ⟨j, q1, q2, q3⟩
      have hj := h10 j (PT_th i j q1)
      obtain ⟨x, y⟩ := h2 j hj (PT_th i j q1)
      exact ⟨f j, (ih j hj).mpr q1, by rw [y, q2], (h1 k hk).mpr q3⟩
section MIRW
variable {S : ST}
theorem mT_lt9 {a : Nat} (ha : a < 10) : 9 - mT a = a := by rw [mT_lt ha]; omega
theorem mir_th (h : OkA S.1) {a : Nat} (ha : a ≤ 10) : thO (OA (mirS S)) (mT a) ↔ thO (OA S) a := by
  unfold thO
  by_cases e : a < 10
  · rw [mir_OA h (show mT a < 10 from (mT_l10 ha).mpr e), mT_lt9 e]
    exact ⟨fun q => ⟨e, q.2⟩, fun q => ⟨(mT_l10 ha).mpr e, q.2⟩⟩
  · exact ⟨fun q => absurd ((mT_l10 ha).mp q.1) e, fun q => absurd q.1 e⟩
theorem mir_ts1 (h : OkA S.1) (a : Nat) (ha : a ≤ 10) (t : Nat) (ht : tsO (OA S) S.1.2.2.2.2 a t) : t ≤ 10 ∧ tsO (OA (mirS S)) (mirS S).1.2.2.2.2 (mT a) (mT t) := by
  obtain ⟨h1, j, h2, rfl⟩ := ht
  refine ⟨(h.2 j (OA_mem.mp h2).1).2.2.2, (mT_l10 ha).mpr h1, j, ?_, rfl⟩
  rw [mir_OA h ((mT_l10 ha).mpr h1), mT_lt9 h1]
  exact h2
theorem mir_ts2 (h : OkA S.1) (a : Nat) (ha : a ≤ 10) (t' : Nat) (ht : tsO (OA (mirS S)) (mirS S).1.2.2.2.2 (mT a) t') : ∃ t, t ≤ 10 ∧ t' = mT t ∧ tsO (OA S) S.1.2.2.2.2 a t := by
  obtain ⟨h1, j, h2, rfl⟩ := ht
  have h10 := (mT_l10 ha).mp h1
  rw [mir_OA h h1, mT_lt9 h10] at h2
  exact ⟨S.1.2.2.2.2 j, (h.2 j (OA_mem.mp h2).1).2.2.2, rfl, h10, j, h2, rfl⟩
theorem mT_inj' (a b : Nat) (ha : a ≤ 10) (hb : b ≤ 10) (e : mT a = mT b) : a = b := (mT_inj ha hb).mp e
theorem mir_SG (h : OkA S.1) {a b : Nat} (ha : a ≤ 10) (hb : b ≤ 10) (r : Nat) : SG (thO (OA (mirS S))) (tsO (OA (mirS S)) (mirS S).1.2.2.2.2) (mT b) r (mT a) ↔ SG (thO (OA S)) (tsO (OA S) S.1.2.2.2.2) b r a :=
  SG_map hb (fun a ha => mir_th h ha) (mir_ts1 h) (mir_ts2 h) mT_inj' r a ha
theorem mir_RG (h : OkA S.1) {a b : Nat} (ha : a ≤ 10) (hb : b ≤ 10) (r : Nat) : RG (thO (OA (mirS S))) (tsO (OA (mirS S)) (mirS S).1.2.2.2.2) (mT b) r (mT a) ↔ RG (thO (OA S)) (tsO (OA S) S.1.2.2.2.2) b r a :=
  RG_map hb (fun a ha => mir_th h ha) (mir_ts1 h) (mir_ts2 h) mT_inj' r a ha
end MIRW
/-- a count through a one-to-one map -/
theorem cntP_inj {p : Nat → Bool} {f : Nat → Nat} : ∀ (M : Nat) (p : Nat → Bool) (N : Nat), (∀ m, m < M → f m < N) → (∀ a b, a < M → b < M → f a = f b → a = b) → cntP (fun m => p (f m)) M ≤ cntP p N := by
  intro M
  induction M with
  | zero => intro p N _ _; exact Nat.zero_le _
  | succ M ih =>
    intro p N h1 h2
    rw [cntP_succ]
    have h3 : cntP (fun m => p (f m)) M = cntP (fun m => (fun x => p x && !decide (x = f M)) (f m)) M := cntP_congr (fun m hm => by
      have hne : f m ≠ f M := fun e => by have := h2 m M (by omega) (by omega) e; omega
      show p (f m) = (p (f m) && !decide (f m = f M))
      rw [decide_eq_false hne, Bool.not_false, Bool.and_true])
    have h4 := ih (fun x => p x && !decide (x = f M)) N (fun m hm => h1 m (by omega)) (fun a b ha hb => h2 a b (by omega) (by omega))
    have h7 : cntP (fun m => p (f m)) M ≤ cntP (fun x => p x && !decide (x = f M)) N := by
      rw [h3]
      exact h4
    by_cases e : p (f M) = true
    · rw [if_pos e]
      have h5 : cntP p N = cntP (fun x => p x && !decide (x = f M)) N + 1 := cntP_add1 (h1 M (by omega)) e (by simp) (fun j hj => by rw [decide_eq_false hj, Bool.not_false, Bool.and_true])
      omega
    · rw [if_neg e]
      have h5 : cntP (fun x => p x && !decide (x = f M)) N ≤ cntP p N := cntP_le_of (fun i _ hi => by
        rw [Bool.and_eq_true] at hi
        exact hi.1)
      omega
theorem cntP_bij {p q : Nat → Bool} {f : Nat → Nat} {M : Nat} (h1 : ∀ m, m < M → f m < M) (h2 : ∀ a b, a < M → b < M → f a = f b → a = b) (h3 : ∀ m, m < M → q (f m) = p m) : cntP q M = cntP p M := by
  have a1 : cntP (fun m => q (f m)) M ≤ cntP q M := cntP_inj (p := q) M q M h1 h2
  have a2 : cntP (fun m => !q (f m)) M ≤ cntP (fun x => !q x) M := cntP_inj (p := q) M (fun x => !q x) M h1 h2
  have a3 := cntP_not q M
  have a4 := cntP_not p M
  have a5 : cntP (fun m => q (f m)) M = cntP p M := cntP_congr h3
  have a6 : cntP (fun m => !q (f m)) M = cntP (fun m => !p m) M := cntP_congr (fun m hm => by rw [h3 m hm])
  omega
/-- the mending of the table turned over that keeps the same rows -/
def mvM (S : ST) (m : Nat) : Nat := enc (bas (OA (mirS S))) (fun k => dg (bas (OA S)) m (9 - k)) 10
section MIRM
variable {S : ST}
theorem mvM_dlt (h : OkA S.1) (m k : Nat) (hk : k < 10) : dg (bas (OA S)) m (9 - k) < bas (OA (mirS S)) k := by
  rw [mir_bas h hk]
  exact dg_lt (bas_pos _ _)
theorem mvM_lt (h : OkA S.1) (m : Nat) : mvM S m < MA S := by
  have : mvM S m < MA (mirS S) := enc_lt (mvM_dlt h m)
  rw [mir_MA h] at this
  exact this
theorem mvM_dg (h : OkA S.1) (m : Nat) {k : Nat} (hk : k < 10) : dg (bas (OA (mirS S))) (mvM S m) k = dg (bas (OA S)) m (9 - k) := dg_enc (mvM_dlt h m) k hk
theorem mvM_inj (h : OkA S.1) (a b : Nat) (ha : a < MA S) (hb : b < MA S) (e : mvM S a = mvM S b) : a = b := by
  have hd : ∀ k, k < 10 → dg (bas (OA S)) a k = dg (bas (OA S)) b k := fun k hk => by
    have h1 := mvM_dg h a (k := 9 - k) (by omega)
    have h2 := mvM_dg h b (k := 9 - k) (by omega)
    rw [show 9 - (9 - k) = k by omega] at h1 h2
    rw [← h1, ← h2, e]
  rw [← enc_dg_lt (fun k _ => bas_pos (OA S) k) ha, ← enc_dg_lt (fun k _ => bas_pos (OA S) k) hb]
  exact enc_congr hd
theorem mvM_tau (h : OkA S.1) (m : Nat) {a : Nat} (ha : a ≤ 10) (ht : thO (OA S) a) : tauO (OA S) S.1.2.2.2.2 m a ≤ 10 ∧ tauO (OA (mirS S)) (mirS S).1.2.2.2.2 (mvM S m) (mT a) = mT (tauO (OA S) S.1.2.2.2.2 m a) := by
  have h10 : a < 10 := ht.1
  have hm : mT a < 10 := (mT_l10 ha).mpr h10
  have hl : dg (bas (OA S)) m a < (OA S a).length := dg_len (by have := ht.2; omega)
  refine ⟨(h.2 _ (OA_lt hl)).2.2.2, ?_⟩
  unfold tauO
  rw [mvM_dg h m hm, mir_OA h hm, mT_lt9 h10]
  rfl
theorem mir_wl (h : OkA S.1) {a b : Nat} (ha : a < 10) (hb : b < 10) (m : Nat) : wl (OA (mirS S)) (mirS S).1.2.2.2.2 (mT a) (mT b) (mvM S m) = wl (OA S) S.1.2.2.2.2 a b m := by
  unfold wl
  have hp : ∀ i, cb (PT (thO (OA (mirS S))) (tauO (OA (mirS S)) (mirS S).1.2.2.2.2 (mvM S m)) (mT a) i (mT b)) = cb (PT (thO (OA S)) (tauO (OA S) S.1.2.2.2.2 m) a i b) := fun i => by
    have := PT_map (th := thO (OA S)) (th' := thO (OA (mirS S))) (tx := tauO (OA S) S.1.2.2.2.2 m) (tx' := tauO (OA (mirS S)) (mirS S).1.2.2.2.2 (mvM S m)) (f := mT) (a := a) (by omega) (fun a ha => mir_th h ha) (fun a ha ht => mvM_tau h m ha ht) (fun k hk => by have := hk.1; omega) (fun k' hk' => ⟨mT k', mT_le (by have := hk'.1; omega), (mT_mT (by have := hk'.1; omega)).symm⟩) mT_inj' i b (by omega)
    rw [Bool.eq_iff_iff, cb_iff, cb_iff]
    exact this
  rw [show (fun i => cb (PT (thO (OA (mirS S))) (tauO (OA (mirS S)) (mirS S).1.2.2.2.2 (mvM S m)) (mT a) i (mT b))) = (fun i => cb (PT (thO (OA S)) (tauO (OA S) S.1.2.2.2.2 m) a i b)) from funext hp]
theorem mir_gws (h : OkA S.1) {a b : Nat} (ha : a < 10) (hb : b < 10) : gws (mirS S) (mT a) (mT b) = gws S a b := by
  unfold gws
  rw [mir_MA h]
  exact cntP_bij (f := mvM S) (fun m _ => mvM_lt h m) (mvM_inj h) (fun m _ => by rw [mir_wl h ha hb m])
/-- values, sums and rows of the table turned over -/
theorem mir_val (h : OkA S.1) {k v : Nat} (hk : k < 10) (hv : v < 8) : cntP (fun d => (mirS S).1.2.2.1 ((OA (mirS S) k).getD d 0) == 7 - v) (OA (mirS S) k).length = cntP (fun d => S.1.2.2.1 ((OA S (9 - k)).getD d 0) == v) (OA S (9 - k)).length := by
  rw [mir_OA h hk]
  refine cntP_congr (fun d hd => ?_)
  have := (h.2 _ (OA_lt hd)).2.1
  show (7 - S.1.2.2.1 ((OA S (9 - k)).getD d 0) == 7 - v) = _
  rw [Bool.eq_iff_iff, beq_iff_eq, beq_iff_eq]
  omega
theorem mir_vfew (h : OkA S.1) {v : Nat} (hv : v < 8) : vfew (OA (mirS S)) (mirS S).1.2.2.1 (7 - v) = vfew (OA S) S.1.2.2.1 v :=
  cntP_rev10 (p := fun k => decide (0 < (OA S k).length) && decide (cntP (fun d => S.1.2.2.1 ((OA S k).getD d 0) == v) (OA S k).length = (OA S k).length)) (fun k hk => by rw [mir_val h hk hv, mir_OA h hk])
theorem mir_vmost (h : OkA S.1) {v : Nat} (hv : v < 8) : vmost (OA (mirS S)) (mirS S).1.2.2.1 (7 - v) = vmost (OA S) S.1.2.2.1 v :=
  cntP_rev10 (p := fun k => decide (0 < cntP (fun d => S.1.2.2.1 ((OA S k).getD d 0) == v) (OA S k).length)) (fun k hk => by rw [mir_val h hk hv])
theorem mir_vout (h : OkA S.1) {v : Nat} (hv : v < 8) : vout (OA (mirS S)) (mirS S).1.2.2.1 (7 - v) = vout (OA S) S.1.2.2.1 v :=
  prd_rev10 (p := fun k => cntP (fun d => !vfb (OA S) S.1.2.2.1 v k d) (bas (OA S) k)) (fun k hk => by
    rw [mir_bas h hk]
    refine cntP_congr (fun d hd => ?_)
    unfold vfb
    rw [mir_OA h hk]
    by_cases e : 0 < (OA S (9 - k)).length
    · rw [bas_len e] at hd
      have := (h.2 _ (OA_lt hd)).2.1
      have e2 : ((mirS S).1.2.2.1 ((OA S (9 - k)).getD d 0) == 7 - v) = (S.1.2.2.1 ((OA S (9 - k)).getD d 0) == v) := by
        show (7 - S.1.2.2.1 ((OA S (9 - k)).getD d 0) == 7 - v) = _
        rw [Bool.eq_iff_iff, beq_iff_eq, beq_iff_eq]
        omega
      rw [e2]
    · rw [decide_eq_false e, Bool.false_and, Bool.false_and])
theorem mir_gk (h : OkA S.1) {k : Nat} (hk : k < 10) : gk (OA (mirS S)) (mirS S).1.2.2.2.1 k = gk (OA S) S.1.2.2.2.1 (9 - k) := by
  funext d
  unfold gk
  rw [mir_OA h hk]
  rfl
theorem sumM_bm (O : Nat → List Nat) (G : Nat → Nat) (up : Bool) : sumM O G (bm O G up) = sumP (fun k => gk O G k (bdg O G up k)) 10 := sumP_congr (fun k hk => by rw [bm_dg hk])
theorem mir_sum (h : OkA S.1) (up : Bool) : sumM (OA (mirS S)) (mirS S).1.2.2.2.1 (bm (OA (mirS S)) (mirS S).1.2.2.2.1 up) = sumM (OA S) S.1.2.2.2.1 (bm (OA S) S.1.2.2.2.1 up) := by
  rw [sumM_bm, sumM_bm]
  refine sumP_rev10 (p := fun k => gk (OA S) S.1.2.2.2.1 k (bdg (OA S) S.1.2.2.2.1 up k)) (fun k hk => ?_)
  unfold bdg
  rw [mir_gk h hk, mir_bas h hk]
theorem mir_can2 (h : OkA S.1) {r : Nat} (hr : r < S.1.1) : can (mirS S).1.1 (mirS S).1.2.1 (mirS S).1.2.2.2.1 (mirS S).2 r = can S.1.1 S.1.2.1 S.1.2.2.2.1 S.2 r := mir_can (fun j hj => (h.2 j hj).1) hr
theorem mir_srB (h : OkA S.1) {r : Nat} (hr : r < S.1.1) : srB (OA (mirS S)) (mirS S).1.1 (mirS S).1.2.1 (mirS S).1.2.2.2.1 (mirS S).2 r = srB (OA S) S.1.1 S.1.2.1 S.1.2.2.2.1 S.2 r := by
  have hK := (h.2 r hr).1
  have e1 : OA (mirS S) ((mirS S).1.2.1 r) = OA S (S.1.2.1 r) := by
    show OA (mirS S) (9 - S.1.2.1 r) = _
    rw [mir_OA h (by omega), show 9 - (9 - S.1.2.1 r) = S.1.2.1 r by omega]
  unfold srB
  rw [mir_can2 h hr, e1]
end MIRM
