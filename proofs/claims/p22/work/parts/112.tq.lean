/-! the table's queries, class side: K, V, G, T are a row's key, value, weight, target (10: none) -/
theorem bs {α β : Type} (a : α) (f : α → Option β) : Option.bind (some a) f = f a := rfl
def tI (t : Nat) : Int32 := if t < 10 then nI t else -5
def bI (b : Bool) : Int32 := if b then 1 else 0
def oI (o : Option Nat) : Int32 := match o with
  | none => -5
  | some n => nI n
def TF (n : Nat) (K V G T : Nat → Nat) (nr : Int32) (ks vs wg ts : Nat → Int32) : Prop :=
  nr = nI n ∧ n ≤ 20 ∧ ∀ j, j < n → ks j = nI (K j) ∧ vs j = nI (97 + V j) ∧ wg j = nI (G j) ∧ ts j = tI (T j) ∧ K j < 10 ∧ V j < 8 ∧ G j < 100 ∧ T j ≤ 10
theorem at_in {u : Nat → Int32} {i N : Nat} (h : i < N) (hN : N < 1000) : f_X5_at u (nI i) N = some (u i) := by
  unfold f_X5_at
  rw [if_neg (nI_pos (by omega)), nI_def, if_neg (nI_ge h (by omega)), if_pos (nI_in h (by omega)), nI_clamp (by omega)]
theorem at_m5 {u : Nat → Int32} {N : Nat} : f_X5_at u (-5) N = some (-5) := by
  unfold f_X5_at
  rw [if_pos (by decide)]
theorem put_in {u : Nat → Int32} {i N : Nat} {x : Int32} (h : i < N) (hN : N < 1000) : f_X5_put u (nI i) x N = some (upd u i x) := by
  unfold f_X5_put
  rw [if_neg (nI_pos (by omega)), nI_def, if_neg (nI_ge h (by omega)), if_pos (nI_in h (by omega)), nI_clamp (by omega)]
section TQ
variable {n : Nat} {K V G T : Nat → Nat} {nr : Int32} {ks vs wg ts : Nat → Int32}
theorem TF.keyAt (h : TF n K V G T nr ks vs wg ts) {j : Nat} (hj : j < n) : f_X3_keyAt ks (nI j) = some (nI (K j)) := by
  obtain ⟨_, h2, h3⟩ := h
  unfold f_X3_keyAt
  rw [at_in (by omega) (by omega), bs, (h3 j hj).1]
theorem TF.valueAt (h : TF n K V G T nr ks vs wg ts) {j : Nat} (hj : j < n) : f_X3_valueAt vs (nI j) = some (nI (97 + V j)) := by
  obtain ⟨_, h2, h3⟩ := h
  unfold f_X3_valueAt
  rw [at_in (by omega) (by omega), bs, (h3 j hj).2.1]
theorem TF.weightAt (h : TF n K V G T nr ks vs wg ts) {j : Nat} (hj : j < n) : f_X3_weightAt wg (nI j) = some (nI (G j)) := by
  obtain ⟨_, h2, h3⟩ := h
  unfold f_X3_weightAt
  rw [at_in (by omega) (by omega), bs, (h3 j hj).2.2.1]
theorem TF.targetAt (h : TF n K V G T nr ks vs wg ts) {j : Nat} (hj : j < n) : f_X3_targetAt ts (nI j) = some (tI (T j)) := by
  obtain ⟨_, h2, h3⟩ := h
  unfold f_X3_targetAt
  rw [at_in (by omega) (by omega), bs, (h3 j hj).2.2.2.1]
theorem targetAt_m5 : f_X3_targetAt ts (-5) = some (-5) := by
  unfold f_X3_targetAt
  rw [at_m5, bs]
theorem TF.rowsWith (h : TF n K V G T nr ks vs wg ts) (k : Nat) (hk : k < 10) : f_X3_rowsWith nr ks (nI k) = some (nI (cntP (fun j => K j == k) n)) := by
  have h0 := h
  obtain ⟨h1, h2, h3⟩ := h
  unfold f_X3_rowsWith
  refine iter_go _ (fun i => (nI (cntP (fun j => K j == k) i), nI i)) n (by omega) rfl (fun i hi => ?_) ?_
  · have hKi := (h3 i hi).2.2.2.2.1
    simp only [b_X3_rowsWith_1, h1]
    rw [if_neg (nI_ge hi (by omega)), h0.keyAt hi, bs]
    by_cases e : K i = k
    · rw [if_pos (by rw [e]), bs, nI_1, nI_1]
      simp only [cntP, e, beq_self_eq_true, if_true]
    · rw [if_neg (fun q => e ((nI_eq (by omega) (by omega)).mp q)), bs, nI_1]
      have e2 : (K i == k) = false := by simpa using e
      simp only [cntP, e2]
      rfl
  · simp only [b_X3_rowsWith_1, h1]
    rw [if_pos (nI_le (Nat.le_refl n) (by omega))]
theorem tI_eq {t k : Nat} (hk : k < 10) : tI t = nI k ↔ t = k := by
  unfold tI
  by_cases h : t < 10
  · rw [if_pos h]
    exact nI_eq (by omega) (by omega)
  · rw [if_neg h]
    constructor
    · intro e; exact absurd e (nI_ne5' (by omega))
    · intro e; omega
theorem TF.rowsPointingTo (h : TF n K V G T nr ks vs wg ts) (k : Nat) (hk : k < 10) : f_X3_rowsPointingTo nr ts (nI k) = some (nI (cntP (fun j => T j == k) n)) := by
  have h0 := h
  obtain ⟨h1, h2, h3⟩ := h
  unfold f_X3_rowsPointingTo
  refine iter_go _ (fun i => (nI (cntP (fun j => T j == k) i), nI i)) n (by omega) rfl (fun i hi => ?_) ?_
  · simp only [b_X3_rowsPointingTo_1, h1]
    rw [if_neg (nI_ge hi (by omega)), h0.targetAt hi, bs]
    by_cases e : T i = k
    · rw [if_pos ((tI_eq hk).mpr e), bs, nI_1, nI_1]
      simp only [cntP, e, beq_self_eq_true, if_true]
    · rw [if_neg (fun q => e ((tI_eq hk).mp q)), bs, nI_1]
      have e2 : (T i == k) = false := by simpa using e
      simp only [cntP, e2]
      rfl
  · simp only [b_X3_rowsPointingTo_1, h1]
    rw [if_pos (nI_le (Nat.le_refl n) (by omega))]
theorem TF.keysWith (h : TF n K V G T nr ks vs wg ts) (c : Nat) (hc : c < 100) : f_X3_keysWithAtLeast nr ks (nI c) = some (nI (cntP (fun k => decide (c ≤ cntP (fun j => K j == k) n)) 10)) := by
  have h2 := h.2.1
  unfold f_X3_keysWithAtLeast
  refine iter_go _ (fun i => (nI (cntP (fun k => decide (c ≤ cntP (fun j => K j == k) n)) i), nI i)) 10 (by omega) rfl (fun i hi => ?_) ?_
  · simp only [b_X3_keysWithAtLeast_1]
    have hle := cntP_le (fun j => K j == i) n
    rw [show (10 : Int32) = nI 10 from rfl, if_neg (nI_ge hi (by omega)), h.rowsWith i hi, bs]
    by_cases e : c ≤ cntP (fun j => K j == i) n
    · rw [if_neg (nI_nlt e (by omega)), bs, nI_1, nI_1]
      simp only [cntP, e, decide_true, if_true]
    · rw [if_pos (nI_lt (by omega) (by omega)), bs, nI_1]
      simp only [cntP, e, decide_false]
      rfl
  · simp only [b_X3_keysWithAtLeast_1]
    rw [show (10 : Int32) = nI 10 from rfl, if_pos (nI_le (Nat.le_refl _) (by omega))]
theorem TF.firstWith (h : TF n K V G T nr ks vs wg ts) (k : Nat) (hk : k < 10) : f_X3_firstWith nr ks (nI k) = some (oI (lowP (fun j => K j == k) n)) := by
  have h0 := h
  obtain ⟨h1, h2, h3⟩ := h
  unfold f_X3_firstWith
  cases hl : lowP (fun j => K j == k) n with
  | none =>
    have hn := lowP_none.mp hl
    refine iter_go _ (fun i => nI i) n (by omega) rfl (fun i hi => ?_) ?_
    · have hKi := (h3 i hi).2.2.2.2.1
      simp only [b_X3_firstWith_1, h1]
      rw [if_neg (nI_ge hi (by omega)), h0.keyAt hi, bs]
      have e : ¬ K i = k := by simpa using hn i hi
      rw [if_neg (fun q => e ((nI_eq (by omega) (by omega)).mp q)), nI_1]
    · simp only [b_X3_firstWith_1, h1]
      rw [if_pos (nI_le (Nat.le_refl n) (by omega))]
      rfl
  | some a =>
    obtain ⟨ha, hp, hm⟩ := lowP_some.mp hl
    refine iter_go _ (fun i => nI i) a (by omega) rfl (fun i hi => ?_) ?_
    · have hKi := (h3 i (by omega)).2.2.2.2.1
      simp only [b_X3_firstWith_1, h1]
      rw [if_neg (nI_ge (show i < n by omega) (by omega)), h0.keyAt (by omega), bs]
      have e : ¬ K i = k := by simpa using hm i hi
      rw [if_neg (fun q => e ((nI_eq (by omega) (by omega)).mp q)), nI_1]
    · have e : K a = k := by simpa using hp
      simp only [b_X3_firstWith_1, h1]
      rw [if_neg (nI_ge ha (by omega)), h0.keyAt ha, bs, if_pos (by rw [e])]
      rfl
/-- the last one -/
def lastP (p : Nat → Bool) : Nat → Option Nat
  | 0 => none
  | n + 1 => if p n then some n else lastP p n
theorem nI_pred1 (m : Nat) : nI (m + 1) + (-1) = nI m := by
  rw [← nI_pred m]
  exact (Int32.sub_eq_add_neg _ _).symm
theorem nI_m1 (a : Nat) : nI a + (-1) = nI a - 1 := (Int32.sub_eq_add_neg _ _).symm
theorem TF.lastWith (h : TF n K V G T nr ks vs wg ts) (k : Nat) (hk : k < 10) : f_X3_lastWith nr ks (nI k) = some (oI (lastP (fun j => K j == k) n)) := by
  have h0 := h
  obtain ⟨h1, h2, h3⟩ := h
  have key : ∀ a, a ≤ n → ∀ f, a < f → iter f (b_X3_lastWith_1 ks (nI k)) (nI a - 1) = some (oI (lastP (fun j => K j == k) a)) := by
    intro a
    induction a with
    | zero =>
      intro _ f hf
      obtain ⟨f, rfl⟩ : ∃ g, f = g + 1 := ⟨f - 1, by omega⟩
      unfold iter
      simp only [b_X3_lastWith_1]
      rw [if_pos (by decide)]
      rfl
    | succ a ih =>
      intro ha f hf
      obtain ⟨f, rfl⟩ : ∃ g, f = g + 1 := ⟨f - 1, by omega⟩
      have hKi := (h3 a (by omega)).2.2.2.2.1
      unfold iter
      simp only [b_X3_lastWith_1]
      rw [nI_pred, if_neg (nI_pos (by omega)), h0.keyAt (by omega), bs]
      by_cases e : K a = k
      · rw [if_pos (by rw [e])]
        simp only [lastP, e, beq_self_eq_true, if_true]
        rfl
      · have e2 : (K a == k) = false := by simpa using e
        rw [if_neg (fun q => e ((nI_eq (by omega) (by omega)).mp q))]
        have h9 := ih (by omega) f (by omega)
        rw [nI_m1]
        simp only [lastP, e2]
        exact h9
  unfold f_X3_lastWith
  rw [h1]
  exact key n (Nat.le_refl n) fuel (by unfold fuel; omega)
/-- the first of the heaviest (up) or the lightest rows of a key -/
def bestP (K G : Nat → Nat) (up : Bool) (k : Nat) : Nat → Option Nat
  | 0 => none
  | n + 1 => if K n = k then (match bestP K G up k n with
      | none => some n
      | some b => if (if up then G b < G n else G n < G b) then some n else some b) else bestP K G up k n
theorem bestP_lt {up : Bool} {k : Nat} : ∀ m b, bestP K G up k m = some b → b < m ∧ K b = k := by
  intro m
  induction m with
  | zero => intro b h; cases h
  | succ m ih =>
    intro b h
    unfold bestP at h
    by_cases e : K m = k
    · rw [if_pos e] at h
      cases hb : bestP K G up k m with
      | none => rw [hb] at h; cases h; exact ⟨by omega, e⟩
      | some c =>
        rw [hb] at h
        dsimp only at h
        obtain ⟨h1, h2⟩ := ih c hb
        split at h <;> split at h <;> cases h <;> first | exact ⟨by omega, e⟩ | exact ⟨by omega, h2⟩
    · rw [if_neg e] at h
      obtain ⟨h1, h2⟩ := ih b h
      exact ⟨by omega, h2⟩
theorem TF.heaviestWith (h : TF n K V G T nr ks vs wg ts) (k : Nat) (hk : k < 10) : f_X3_heaviestWith nr ks wg (nI k) = some (oI (bestP K G true k n)) := by
  have h0 := h
  obtain ⟨h1, h2, h3⟩ := h
  unfold f_X3_heaviestWith
  refine iter_go _ (fun i => (oI (bestP K G true k i), nI i)) n (by omega) rfl (fun i hi => ?_) ?_
  · have hKi := (h3 i hi).2.2.2.2.1
    have hGi := (h3 i hi).2.2.2.2.2.2.1
    simp only [b_X3_heaviestWith_1, h1]
    rw [if_neg (nI_ge hi (by omega)), h0.keyAt hi, bs]
    by_cases e : K i = k
    · rw [if_pos (by rw [e])]
      cases hb : bestP K G true k i with
      | none =>
        rw [show oI none = -5 from rfl, if_pos rfl, bs, nI_1]
        simp only [bestP, e, hb, if_true]
        rfl
      | some c =>
        obtain ⟨hc, _⟩ := bestP_lt i c hb
        have hGc := (h3 c (by omega)).2.2.2.2.2.2.1
        rw [show oI (some c) = nI c from rfl, if_neg (nI_ne5 (by omega)), h0.weightAt hi, bs, h0.weightAt (by omega), bs]
        by_cases g : G c < G i
        · rw [if_neg (nI_ge g (by omega)), bs, nI_1]
          simp only [bestP, e, hb, g, if_true]
          rfl
        · rw [if_pos (nI_le (by omega) (by omega)), bs, nI_1]
          simp only [bestP, e, hb, g, if_true, if_false]
          rfl
    · rw [if_neg (fun q => e ((nI_eq (by omega) (by omega)).mp q)), bs, nI_1]
      simp only [bestP, e, if_false]
  · simp only [b_X3_heaviestWith_1, h1]
    rw [if_pos (nI_le (Nat.le_refl n) (by omega))]
theorem TF.lightestWith (h : TF n K V G T nr ks vs wg ts) (k : Nat) (hk : k < 10) : f_X3_lightestWith nr ks wg (nI k) = some (oI (bestP K G false k n)) := by
  have h0 := h
  obtain ⟨h1, h2, h3⟩ := h
  unfold f_X3_lightestWith
  refine iter_go _ (fun i => (oI (bestP K G false k i), nI i)) n (by omega) rfl (fun i hi => ?_) ?_
  · have hKi := (h3 i hi).2.2.2.2.1
    have hGi := (h3 i hi).2.2.2.2.2.2.1
    simp only [b_X3_lightestWith_1, h1]
    rw [if_neg (nI_ge hi (by omega)), h0.keyAt hi, bs]
    by_cases e : K i = k
    · rw [if_pos (by rw [e])]
      cases hb : bestP K G false k i with
      | none =>
        rw [show oI none = -5 from rfl, if_pos rfl, bs, nI_1]
        simp only [bestP, e, hb, if_true]
        rfl
      | some c =>
        obtain ⟨hc, _⟩ := bestP_lt i c hb
        have hGc := (h3 c (by omega)).2.2.2.2.2.2.1
        rw [show oI (some c) = nI c from rfl, if_neg (nI_ne5 (by omega)), h0.weightAt hi, bs, h0.weightAt (by omega), bs]
        by_cases g : G i < G c
        · rw [if_neg (nI_ge g (by omega)), bs, nI_1]
          simp only [bestP, e, hb, g, if_true]
          rfl
        · rw [if_pos (nI_le (by omega) (by omega)), bs, nI_1]
          simp only [bestP, e, hb, g, if_true, if_false]
          rfl
    · rw [if_neg (fun q => e ((nI_eq (by omega) (by omega)).mp q)), bs, nI_1]
      simp only [bestP, e, if_false]
  · simp only [b_X3_lightestWith_1, h1]
    rw [if_pos (nI_le (Nat.le_refl n) (by omega))]
/-- a row can be kept -/
def can (n : Nat) (K G : Nat → Nat) (pf : Bool) (j : Nat) : Bool := !pf || (match bestP K G true (K j) n with
  | none => false
  | some b => G j == G b)
theorem bestP_some {up : Bool} {j : Nat} : ∀ m, j < m → ∃ b, bestP K G up (K j) m = some b := by
  intro m
  induction m with
  | zero => intro h; omega
  | succ m ih =>
    intro h
    unfold bestP
    by_cases e : K m = K j
    · rw [if_pos e]
      cases hb : bestP K G up (K j) m with
      | none => exact ⟨m, rfl⟩
      | some c => dsimp only; split <;> split <;> exact ⟨_, rfl⟩
    · rw [if_neg e]
      refine ih ?_
      rcases Nat.lt_or_ge j m with q | q
      · exact q
      · have : j = m := by omega
        subst this
        exact absurd rfl e
theorem TF.canBeKept (h : TF n K V G T nr ks vs wg ts) (pf : Bool) {j : Nat} (hj : j < n) : f_X3_canBeKept nr (bI pf) ks wg (nI j) = some (bI (can n K G pf j)) := by
  have h0 := h
  obtain ⟨h1, h2, h3⟩ := h
  unfold f_X3_canBeKept
  cases pf with
  | false => rfl
  | true =>
    rw [if_neg (by decide), h0.weightAt hj, bs, h0.keyAt hj, bs, h0.heaviestWith _ (h3 j hj).2.2.2.2.1, bs]
    obtain ⟨b, hb⟩ := bestP_some (K := K) (G := G) (up := true) n hj
    obtain ⟨hb1, _⟩ := bestP_lt n b hb
    have hG1 := (h3 j hj).2.2.2.2.2.2.1
    have hG2 := (h3 b hb1).2.2.2.2.2.2.1
    rw [hb, show oI (some b) = nI b from rfl, h0.weightAt hb1, bs]
    unfold can
    rw [hb]
    by_cases e : G j = G b
    · rw [if_pos (by rw [e])]
      simp [e, bI]
    · rw [if_neg (fun q => e ((nI_eq (by omega) (by omega)).mp q))]
      simp [e, bI]
end TQ
