/-! all doubled keys mended for good, both sides -/
abbrev AT : Type := Nat × (Nat → Nat) × (Nat → Nat) × (Nat → Nat) × (Nat → Nat)
def TFa (A : AT) (nr : Int32) (ks vs wg ts : Nat → Int32) : Prop := TF A.1 A.2.1 A.2.2.1 A.2.2.2.1 A.2.2.2.2 nr ks vs wg ts
def chos (w : Nat) (A : AT) (k : Nat) : Option Nat := if w = 0 then lowP (fun j => A.2.1 j == k) A.1 else if w = 1 then lastP (fun j => A.2.1 j == k) A.1 else bestP A.2.1 A.2.2.2.1 true k A.1
def selA (A : AT) (L : List Nat) : AT := (L.length, selF A.2.1 L, selF A.2.2.1 L, selF A.2.2.2.1 L, selF A.2.2.2.2 L)
def mstep (w : Nat) (A : AT) (k : Nat) : AT := match chos w A k with
  | none => A
  | some r => selA A (kl (kpB A.2.1 r) A.1)
def mit (w : Nat) (A : AT) : Nat → AT
  | 0 => A
  | i + 1 => mstep w (mit w A i) i
def cntK (A : AT) (k : Nat) : Nat := cntP (fun j => A.2.1 j == k) A.1
theorem lastP_some {p : Nat → Bool} {i : Nat} : ∀ n, lastP p n = some i → i < n ∧ p i = true := by
  intro n
  induction n with
  | zero => intro h; cases h
  | succ n ih =>
    intro h
    unfold lastP at h
    by_cases e : p n = true
    · rw [if_pos e] at h; cases h; exact ⟨by omega, e⟩
    · rw [if_neg e] at h
      obtain ⟨h1, h2⟩ := ih h
      exact ⟨by omega, h2⟩
theorem lastP_ex {p : Nat → Bool} {i : Nat} : ∀ n, i < n → p i = true → ∃ j, lastP p n = some j := by
  intro n
  induction n with
  | zero => intro h; omega
  | succ n ih =>
    intro h hp
    unfold lastP
    by_cases e : p n = true
    · exact ⟨n, if_pos e⟩
    · rw [if_neg e]
      refine ih ?_ hp
      rcases Nat.lt_or_ge i n with q | q
      · exact q
      · have : i = n := by omega
        subst this
        exact absurd hp e
theorem chos_some {w : Nat} {A : AT} {k r : Nat} (h : chos w A k = some r) : r < A.1 ∧ A.2.1 r = k := by
  unfold chos at h
  split at h
  · obtain ⟨h1, h2, _⟩ := lowP_some.mp h
    exact ⟨h1, by simpa using h2⟩
  · split at h
    · obtain ⟨h1, h2⟩ := lastP_some _ h
      exact ⟨h1, by simpa using h2⟩
    · exact bestP_lt _ _ h
theorem chos_ex {w : Nat} {A : AT} {k j : Nat} (hj : j < A.1) (hk : A.2.1 j = k) : ∃ r, chos w A k = some r := by
  unfold chos
  split
  · cases hl : lowP (fun j => A.2.1 j == k) A.1 with
    | some r => exact ⟨r, rfl⟩
    | none =>
      have := lowP_none.mp hl j hj
      rw [hk, beq_self_eq_true] at this
      cases this
  · split
    · exact lastP_ex _ hj (by rw [hk]; exact beq_self_eq_true _)
    · subst hk
      exact bestP_some _ hj
theorem chos_cnt {w : Nat} {A : AT} {k : Nat} (h : 0 < cntK A k) : ∃ r, chos w A k = some r := by
  obtain ⟨j, hj, hp⟩ := cntP_pos.mp h
  exact chos_ex hj (by simpa using hp)
theorem chos_no {w : Nat} {A : AT} {k : Nat} (h : cntK A k = 0) : chos w A k = none := by
  cases hc : chos w A k with
  | none => rfl
  | some r =>
    obtain ⟨h1, h2⟩ := chos_some hc
    have : 0 < cntK A k := cntP_pos.mpr ⟨r, h1, by rw [h2]; exact beq_self_eq_true _⟩
    omega
/-- so many rows are there then -/
theorem mstep_len {w : Nat} {A : AT} {k r : Nat} (h : chos w A k = some r) : (mstep w A k).1 + cntK A k = A.1 + 1 := by
  obtain ⟨h1, h2⟩ := chos_some h
  have := kl_cnt (K := A.2.1) h1
  unfold mstep cntK
  rw [h]
  rw [h2] at this
  exact this
theorem mstep_le {w : Nat} {A : AT} {k : Nat} : (mstep w A k).1 ≤ A.1 := by
  cases hc : chos w A k with
  | none => unfold mstep; rw [hc]; exact Nat.le_refl _
  | some r =>
    obtain ⟨h1, h2⟩ := chos_some hc
    have h3 := mstep_len hc
    have : 0 < cntK A k := cntP_pos.mpr ⟨r, h1, by rw [h2]; exact beq_self_eq_true _⟩
    omega
def sameA (A B : AT) : Prop := ∀ j, j < A.1 → B.2.1 j = A.2.1 j ∧ B.2.2.1 j = A.2.2.1 j ∧ B.2.2.2.1 j = A.2.2.2.1 j ∧ B.2.2.2.2 j = A.2.2.2.2 j
theorem mstep_same {w : Nat} {A : AT} {k : Nat} (h : cntK A k ≤ 1) : (mstep w A k).1 = A.1 ∧ sameA A (mstep w A k) := by
  cases hc : chos w A k with
  | none => unfold mstep; rw [hc]; exact ⟨rfl, fun j _ => ⟨rfl, rfl, rfl, rfl⟩⟩
  | some r =>
    obtain ⟨h1, h2⟩ := chos_some hc
    have h3 := mstep_len hc
    have hp : 0 < cntK A k := cntP_pos.mpr ⟨r, h1, by rw [h2]; exact beq_self_eq_true _⟩
    have h4 : (mstep w A k).1 = A.1 := by omega
    refine ⟨h4, fun j hj => ?_⟩
    unfold mstep at h4 ⊢
    rw [hc] at h4 ⊢
    have h5 : (kl (kpB A.2.1 r) A.1).length = A.1 := h4
    rw [kl_len] at h5
    have h6 := kl_all (cntP_all.mp h5)
    have h7 : (kl (kpB A.2.1 r) A.1).getD j 0 = j := by rw [h6]; exact range_getD hj
    show A.2.1 ((kl (kpB A.2.1 r) A.1).getD j 0) = _ ∧ A.2.2.1 ((kl (kpB A.2.1 r) A.1).getD j 0) = _ ∧ A.2.2.2.1 ((kl (kpB A.2.1 r) A.1).getD j 0) = _ ∧ A.2.2.2.2 ((kl (kpB A.2.1 r) A.1).getD j 0) = _
    rw [h7]
    exact ⟨rfl, rfl, rfl, rfl⟩
theorem mit_le {w : Nat} {A : AT} : ∀ i, (mit w A i).1 ≤ A.1 := by
  intro i
  induction i with
  | zero => exact Nat.le_refl _
  | succ i ih => exact Nat.le_trans mstep_le ih
theorem cntK_same {A B : AT} (h1 : B.1 = A.1) (h2 : sameA A B) (k : Nat) : cntK B k = cntK A k := by
  unfold cntK
  rw [h1]
  exact cntP_congr (fun j hj => by rw [(h2 j hj).1])
/-- no row is gone only if no key was doubled -/
theorem mit_none {w : Nat} {A : AT} : ∀ i, (mit w A i).1 = A.1 → sameA A (mit w A i) ∧ ∀ k, k < i → cntK A k ≤ 1 := by
  intro i
  induction i with
  | zero => exact fun _ => ⟨fun j _ => ⟨rfl, rfl, rfl, rfl⟩, fun k hk => by omega⟩
  | succ i ih =>
    intro h
    have h1 : (mstep w (mit w A i) i).1 = A.1 := h
    have h2 := mit_le (w := w) (A := A) i
    have h3 := mstep_le (w := w) (A := mit w A i) (k := i)
    have h4 : (mit w A i).1 = A.1 := by omega
    obtain ⟨h5, h6⟩ := ih h4
    have h7 : cntK (mit w A i) i ≤ 1 := by
      rcases Nat.eq_zero_or_pos (cntK (mit w A i) i) with q | q
      · omega
      · obtain ⟨r, hr⟩ := chos_cnt (w := w) q
        have := mstep_len hr
        omega
    have h8 := (mstep_same (w := w) h7).2
    refine ⟨fun j hj => ?_, fun k hk => ?_⟩
    · have a := h8 j (by omega)
      have b := h5 j hj
      exact ⟨a.1.trans b.1, a.2.1.trans b.2.1, a.2.2.1.trans b.2.2.1, a.2.2.2.trans b.2.2.2⟩
    · by_cases e : k = i
      · subst e
        rw [← cntK_same h4 h5]
        exact h7
      · exact h6 k (by omega)
theorem mit_all {w : Nat} {A : AT} {m : Nat} (h : ∀ k, k < m → cntK A k ≤ 1) : ∀ i, i ≤ m → (mit w A i).1 = A.1 ∧ sameA A (mit w A i) := by
  intro i
  induction i with
  | zero => exact fun _ => ⟨rfl, fun j _ => ⟨rfl, rfl, rfl, rfl⟩⟩
  | succ i ih =>
    intro hi
    obtain ⟨h1, h2⟩ := ih (by omega)
    have h3 : cntK (mit w A i) i ≤ 1 := by rw [cntK_same h1 h2]; exact h i (by omega)
    obtain ⟨h4, h5⟩ := mstep_same (w := w) h3
    refine ⟨h4.trans h1, fun j hj => ?_⟩
    have a := h5 j (by omega)
    have b := h2 j hj
    exact ⟨a.1.trans b.1, a.2.1.trans b.2.1, a.2.2.1.trans b.2.2.1, a.2.2.2.trans b.2.2.2⟩
theorem TFa_same {A B : AT} {nr : Int32} {ks vs wg ts : Nat → Int32} (h : TFa A nr ks vs wg ts) (h1 : B.1 = A.1) (h2 : sameA A B) : TFa B nr ks vs wg ts := by
  unfold TFa
  rw [h1]
  exact TF_ext h h2
theorem c_chosenBy {A : AT} {nr : Int32} {ks vs wg ts : Nat → Int32} (h : TFa A nr ks vs wg ts) {w k : Nat} (hw : w < 3) (hk : k < 10) : f_X5_chosenBy nr ks wg (nI w) (nI k) = some (oI (chos w A k)) := by
  unfold f_X5_chosenBy chos
  by_cases w0 : w = 0
  · subst w0
    rw [if_pos (show nI 0 = 0 from rfl), if_pos rfl, TF.firstWith h k hk, bs]
  · rw [if_neg (nI_ne0 (by omega) (by omega)), if_neg w0]
    by_cases w1 : w = 1
    · subst w1
      rw [if_pos (show nI 1 = 1 from rfl), if_pos rfl, TF.lastWith h k hk, bs]
    · rw [if_neg (show ¬ nI w = 1 from fun z => w1 ((nI_eq (a := w) (b := 1) (by omega) (by omega)).mp z)), if_neg w1, TF.heaviestWith h k hk, bs]
theorem c_dropChosen {A : AT} {nr : Int32} {ks vs wg ts : Nat → Int32} (h : TFa A nr ks vs wg ts) (w k : Nat) :
    ∃ nr' ks' vs' wg' ts', f_X3_dropOthersLike nr ks vs wg ts (oI (chos w A k)) = some (nr', ks', vs', wg', ts') ∧ TFa (mstep w A k) nr' ks' vs' wg' ts' := by
  cases hc : chos w A k with
  | none =>
    refine ⟨nr, ks, vs, wg, ts, ?_, ?_⟩
    · unfold f_X3_dropOthersLike f_X3_has
      rw [if_pos (by decide), bs, if_pos rfl]
    · unfold mstep
      rw [hc]
      exact h
  | some r =>
    obtain ⟨h1, h2⟩ := chos_some hc
    obtain ⟨ks', vs', wg', ts', a1, a2⟩ := c_dropOthers h h1
    refine ⟨_, ks', vs', wg', ts', a1, ?_⟩
    unfold mstep
    rw [hc]
    exact a2
theorem c_mendLoop {A : AT} {nr : Int32} {ks vs wg ts : Nat → Int32} (h : TFa A nr ks vs wg ts) {w : Nat} (hw : w < 3) (gx gz : Int32) (g0nr : Int32) (g0pf : Int32) (g0ks : Nat → Int32) (g0vs : Nat → Int32) (g0wg : Nat → Int32) (g0ts : Nat → Int32) (g1nr : Int32) (g1pf : Int32) (g1ks : Nat → Int32) (g1vs : Nat → Int32) (g1wg : Nat → Int32) (g1ts : Nat → Int32) (g2nr : Int32) (g2pf : Int32) (g2ks : Nat → Int32) (g2vs : Nat → Int32) (g2wg : Nat → Int32) (g2ts : Nat → Int32) (g3nr : Int32) (g3pf : Int32) (g3ks : Nat → Int32) (g3vs : Nat → Int32) (g3wg : Nat → Int32) (g3ts : Nat → Int32) :
    ∃ nr' ks' vs' wg' ts', iter fuel (b_X5_mendAll_1 (nI w) (nI A.1) gx gz g0nr g0pf g0ks g0vs g0wg g0ts g1nr g1pf g1ks g1vs g1wg g1ts g2nr g2pf g2ks g2vs g2wg g2ts g3nr g3pf g3ks g3vs g3wg g3ts) (0, nr, ks, vs, wg, ts) = some (nI (A.1 - (mit w A 10).1), nr', ks', vs', wg', ts', gx, gz, g0nr, g0pf, g0ks, g0vs, g0wg, g0ts, g1nr, g1pf, g1ks, g1vs, g1wg, g1ts, g2nr, g2pf, g2ks, g2vs, g2wg, g2ts, g3nr, g3pf, g3ks, g3vs, g3wg, g3ts) ∧ TFa (mit w A 10) nr' ks' vs' wg' ts' := by
  obtain ⟨o, g1, nr', ks', vs', wg', ts', g2, g3⟩ := iter_inv2 (b_X5_mendAll_1 (nI w) (nI A.1) gx gz g0nr g0pf g0ks g0vs g0wg g0ts g1nr g1pf g1ks g1vs g1wg g1ts g2nr g2pf g2ks g2vs g2wg g2ts g3nr g3pf g3ks g3vs g3wg g3ts) (fun i z => z.1 = nI i ∧ TFa (mit w A i) z.2.1 z.2.2.1 z.2.2.2.1 z.2.2.2.2.1 z.2.2.2.2.2) 10 (fun o => ∃ nr' ks' vs' wg' ts', o = (nI (A.1 - (mit w A 10).1), nr', ks', vs', wg', ts', gx, gz, g0nr, g0pf, g0ks, g0vs, g0wg, g0ts, g1nr, g1pf, g1ks, g1vs, g1wg, g1ts, g2nr, g2pf, g2ks, g2vs, g2wg, g2ts, g3nr, g3pf, g3ks, g3vs, g3wg, g3ts) ∧ TFa (mit w A 10) nr' ks' vs' wg' ts') (by omega) (by
    rintro i ⟨v, n1, k1, v1, w1, t1⟩ hi ⟨e1, e2⟩
    dsimp only at e1 e2
    subst e1
    obtain ⟨n2, k2, v2, w2, t2, a1, a2⟩ := c_dropChosen e2 w i
    simp only [b_X5_mendAll_1]
    rw [show (10 : Int32) = nI 10 from rfl, if_neg (nI_ge hi (by omega)), c_chosenBy e2 hw hi, bs, a1, bs, nI_1]
    exact Or.inl ⟨_, rfl, rfl, a2⟩) (by
    rintro ⟨v, n1, k1, v1, w1, t1⟩ ⟨e1, e2⟩
    dsimp only at e1 e2
    subst e1
    have e3 : n1 = nI (mit w A 10).1 := e2.1
    have hle := mit_le (w := w) (A := A) 10
    simp only [b_X5_mendAll_1]
    rw [show (10 : Int32) = nI 10 from rfl, if_pos (nI_le (Nat.le_refl _) (by omega))]
    unfold f_X3_size
    rw [bs, e3, nI_subO hle]
    exact ⟨_, rfl, _, k1, v1, w1, t1, rfl, by rw [← e3]; exact e2⟩) (s0 := (0, nr, ks, vs, wg, ts)) ⟨rfl, h⟩
  exact ⟨nr', ks', vs', wg', ts', by rw [g1, g2], g3⟩