/-! the model's question about a way, over all mendings; ways counted -/
section MW
variable {n : Nat} {K V G T : Nat → Nat} {O : Nat → List Nat} {pf : Bool} {al my ch : Nat → Int32}
theorem few_step {o : Option Nat} {f : Nat → Option Nat} {i x : Nat} (ho : mnO f i = o) (hx : f i = some x) (hb : ∀ y, o = some y → y < 1000) (hx2 : x < 1000) : (if oI o = -5 then some (nI x) else (if oI o ≤ nI x then some (oI o) else some (nI x))) = some (oI (mnO f (i + 1))) := by
  unfold mnO
  rw [hx, ho]
  cases o with
  | none => rfl
  | some y =>
    have hy := hb y rfl
    rw [show oI (some y) = nI y from rfl, if_neg (nI_ne5 (by omega))]
    try dsimp only
    by_cases q : x < y
    · rw [if_neg (nI_ge q (by omega)), if_pos q]
      rfl
    · rw [if_pos (nI_le (by omega) (by omega)), if_neg q]
      rfl
theorem mnO_lt {f : Nat → Option Nat} {B : Nat} (h : ∀ m y, f m = some y → y < B) : ∀ i y, mnO f i = some y → y < B := by
  intro i
  induction i with
  | zero => intro y h; cases h
  | succ i ih =>
    intro y hy
    unfold mnO at hy
    cases hf : f i with
    | none => rw [hf] at hy; exact ih y hy
    | some a =>
      rw [hf] at hy
      cases hm : mnO f i with
      | none => rw [hm] at hy; cases hy; exact h i _ hf
      | some b =>
        rw [hm] at hy
        try dsimp only at hy
        split at hy <;> cases hy
        · exact h i _ hf
        · exact ih _ hm
theorem lowP_lt {p : Nat → Bool} {n x : Nat} (h : lowP p n = some x) : x < n := (lowP_some.mp h).1
theorem m_counts {f : Nat → Option Nat} {i : Nat} (mst : Int32) (hi : i < 2000000) (hf : ∀ m y, f m = some y → y < 1000) :
    ∃ mst', f_X6_counts (nI (cntP (fun m => (f m).isSome) i)) (oI (mnO f i)) mst (oI (lowP (fun m => !(f m).isSome) i)) (nI i) (bI (f i).isSome) (oI (f i)) = some (nI (cntP (fun m => (f m).isSome) (i + 1)), oI (mnO f (i + 1)), mst', oI (lowP (fun m => !(f m).isSome) (i + 1))) := by
  unfold f_X6_counts
  have hm : ∀ x : Int32, ∃ z, (if x ≤ mst then some mst else some x) = some z := by
    intro x
    by_cases q : x ≤ mst
    · exact ⟨_, if_pos q⟩
    · exact ⟨_, if_neg q⟩
  obtain ⟨mst', hm'⟩ := hm (oI (f i))
  refine ⟨mst', ?_⟩
  have hc := cntP_le (fun m => (f m).isSome) i
  cases hw : f i with
  | none =>
    rw [hw] at hm'
    rw [show (bI (none : Option Nat).isSome) = 0 from rfl, if_pos rfl, bs, if_pos rfl]
    have h1 : cntP (fun m => (f m).isSome) (i + 1) = cntP (fun m => (f m).isSome) i := by
      rw [cntP_succ]
      simp [hw]
    have h2 : mnO f (i + 1) = mnO f i := by
      show (match f i, mnO f i with | none, x => x | some a, none => some a | some a, some b => if a < b then some a else some b) = _
      rw [hw]
    have h3 : lowP (fun m => !(f m).isSome) (i + 1) = match lowP (fun m => !(f m).isSome) i with | some j => some j | none => some i := by
      show (match lowP (fun m => !(f m).isSome) i with | some j => some j | none => if (!(f i).isSome) then some i else none) = _
      rw [hw]
      rfl
    rw [h1, h2, h3]
    cases hl : lowP (fun m => !(f m).isSome) i with
    | none =>
      rw [show oI none = -5 from rfl, if_pos rfl, bs, if_pos rfl, bs]
      rw [show oI none = -5 from rfl] at hm'
      rw [hm', bs, show (0 : Int32) = nI 0 from rfl, nI_add]
      rfl
    | some j =>
      have := lowP_lt hl
      rw [show oI (some j) = nI j from rfl, if_neg (nI_ne5 (by omega)), bs, if_pos rfl, bs, hm', bs, show (0 : Int32) = nI 0 from rfl, nI_add]
      rfl
  | some x =>
    have hx := hf i x hw
    rw [hw] at hm'
    rw [show (bI (some x : Option Nat).isSome) = 1 from rfl, if_neg (by decide), bs, if_neg (by decide), bs, if_neg (by decide)]
    have h1 : cntP (fun m => (f m).isSome) (i + 1) = cntP (fun m => (f m).isSome) i + 1 := by
      rw [cntP_succ]
      simp [hw]
    have h3 : lowP (fun m => !(f m).isSome) (i + 1) = lowP (fun m => !(f m).isSome) i := by
      show (match lowP (fun m => !(f m).isSome) i with | some j => some j | none => if (!(f i).isSome) then some i else none) = _
      rw [hw]
      cases lowP (fun m => !(f m).isSome) i <;> rfl
    rw [h1, h3]
    have hfs := few_step (f := f) (i := i) (x := x) rfl hw (fun y hy => mnO_lt hf i y hy) hx
    rw [show oI (some x) = nI x from rfl] at hm' ⊢
    rw [hfs, bs, hm', bs, nI_1]
theorem m_asksWay (h : MF n K V G T pf al) (fo : Option Nat) (hfo : ∀ r, fo = some r → r < n) (ch my kp : Nat → Int32) {a b : Nat} (ha : a < 10) (hb : b < 10) :
    ∃ mst' ch' my' kp', f_X6_asksWay (oI fo) al ch my kp (nI a) (nI b) = some (nI (cntP (fun m => (wl (fun k => op K (cnF n K G pf fo) k n) T a b m).isSome) (prd (bas (fun k => op K (cnF n K G pf fo) k n)) 10)), oI (mnO (wl (fun k => op K (cnF n K G pf fo) k n) T a b) (prd (bas (fun k => op K (cnF n K G pf fo) k n)) 10)), mst', oI (lowP (fun m => !(wl (fun k => op K (cnF n K G pf fo) k n) T a b m).isSome) (prd (bas (fun k => op K (cnF n K G pf fo) k n)) 10)), ch', my', kp') := by
  obtain ⟨ch', my', g1, g2⟩ := m_finds h fo hfo ch my
  have hO := OK_op (K := K) (cnF n K G pf fo) h.2.2.1
  generalize (fun k => op K (cnF n K G pf fo) k n) = O at g2 hO ⊢
  have hp := hO.prd_le (k := 10) (Nat.le_refl _)
  have hf : ∀ m y, wl O T a b m = some y → y < 1000 := fun m y hy => by have := (wl_some hy).1; omega
  unfold f_X6_asksWay f_X6_begins
  rw [g1, bs, bs]
  try dsimp only
  obtain ⟨r, h1, mst', kp', h2⟩ := iter_inv2 (b_X6_asksWay_1 al (nI a) (nI b) my' ch') (fun i z => z.1 = nI i ∧ z.2.1 = nI (cntP (fun m => (wl O T a b m).isSome) i) ∧ z.2.2.1 = oI (mnO (wl O T a b) i) ∧ z.2.2.2.2.1 = oI (lowP (fun m => !(wl O T a b m).isSome) i)) (prd (bas O) 10) (fun r => ∃ mst' kp', r = (nI (cntP (fun m => (wl O T a b m).isSome) (prd (bas O) 10)), oI (mnO (wl O T a b) (prd (bas O) 10)), mst', oI (lowP (fun m => !(wl O T a b m).isSome) (prd (bas O) 10)), ch', my', kp')) (by omega) (by
    rintro i ⟨v, hd, fe, ms, fa, kp1⟩ hi ⟨e1, e2, e3, e4⟩
    dsimp only at e1 e2 e3 e4
    subst e1 e2 e3 e4
    obtain ⟨kp2, t1, t2⟩ := m_takes g2 hO kp1 (m := i) (by omega)
    simp only [b_X6_asksWay_1]
    rw [m_mendings g2 hO, bs, if_neg (nI_ge hi (by omega)), t1, bs, m_wayLong h hO t2 ha hb, bs]
    obtain ⟨ms', c1⟩ := m_counts (f := wl O T a b) (i := i) ms (by omega) hf
    have hx : (if oI (wl O T a b i) = -5 then some (0 : Int32) else some 1) = some (bI (wl O T a b i).isSome) := by
      cases hw : wl O T a b i with
      | none => rfl
      | some x =>
        have := hf i x hw
        rw [show oI (some x) = nI x from rfl, if_neg (nI_ne5 (by omega))]
        rfl
    rw [hx, bs, c1, bs, nI_1]
    exact Or.inl ⟨_, rfl, rfl, rfl, rfl, rfl⟩) (by
    rintro ⟨v, hd, fe, ms, fa, kp1⟩ ⟨e1, e2, e3, e4⟩
    dsimp only at e1 e2 e3 e4
    subst e1 e2 e3 e4
    simp only [b_X6_asksWay_1]
    rw [m_mendings g2 hO, bs, if_pos (nI_le (Nat.le_refl _) (by omega))]
    exact ⟨_, rfl, _, _, rfl⟩) (s0 := (0, 0, -5, -5, -5, kp)) ⟨rfl, rfl, rfl, rfl⟩
  exact ⟨mst', ch', my', kp', by rw [h1, h2]⟩
theorem lowP_fail {f : Nat → Option Nat} {M : Nat} : (lowP (fun m => !(f m).isSome) M = none) ↔ ∀ m, m < M → (f m).isSome = true := by
  rw [lowP_none]
  constructor
  · intro h m hm
    have := h m hm
    simpa using this
  · intro h m hm
    rw [h m hm]
    rfl
theorem oI_m5 {o : Option Nat} (h : ∀ y, o = some y → y < 2 ^ 31) : oI o = -5 ↔ o = none := by
  cases o with
  | none => exact ⟨fun _ => rfl, fun _ => rfl⟩
  | some y => exact ⟨fun e => absurd e (nI_ne5 (h y rfl)), fun e => (by cases e)⟩
theorem m_isSureWay (h : MF n K V G T pf al) (fo : Option Nat) (hfo : ∀ r, fo = some r → r < n) (ch my kp : Nat → Int32) {a b : Nat} (ha : a < 10) (hb : b < 10) :
    ∃ hd fe ms fa ch' my' kp', f_X6_isSureWay (oI fo) al ch my kp (nI a) (nI b) = some (bI (cb (SG (thO (fun k => op K (cnF n K G pf fo) k n)) (tsO (fun k => op K (cnF n K G pf fo) k n) T) b 9 a)), hd, fe, ms, fa, ch', my', kp') := by
  obtain ⟨mst', ch', my', kp', g1⟩ := m_asksWay h fo hfo ch my kp ha hb
  have hO := OK_op (K := K) (cnF n K G pf fo) h.2.2.1
  generalize (fun k => op K (cnF n K G pf fo) k n) = O at g1 hO ⊢
  have hp := hO.prd_le (k := 10) (Nat.le_refl _)
  unfold f_X6_isSureWay
  rw [g1, bs]
  try dsimp only
  have hq := sure_iff (O := O) (T := T) (a := a) (b := b)
  rw [← lowP_fail] at hq
  have h5 := oI_m5 (o := lowP (fun m => !(wl O T a b m).isSome) (prd (bas O) 10)) (fun y hy => by have := lowP_lt hy; omega)
  by_cases e : SG (thO O) (tsO O T) b 9 a
  · rw [if_pos (h5.mpr (hq.mp e)), cb_iff.mpr e]
    exact ⟨_, _, _, _, _, _, _, rfl⟩
  · rw [if_neg (fun q => e (hq.mpr (h5.mp q))), cb_false.mpr e]
    exact ⟨_, _, _, _, _, _, _, rfl⟩
end MW
