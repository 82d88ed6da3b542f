/-! the key that is best mended first, both sides -/
theorem op_congr {K : Nat → Nat} {c1 c2 : Nat → Bool} {k : Nat} : ∀ i, (∀ j, j < i → K j = k → c1 j = c2 j) → op K c1 k i = op K c2 k i := by
  intro i
  induction i with
  | zero => intro _; rfl
  | succ i ih =>
    intro h
    unfold op
    rw [ih (fun j hj => h j (by omega))]
    by_cases e : K i = k
    · rw [h i (by omega) e]
    · rw [if_neg (fun q => e q.1), if_neg (fun q => e q.1)]
theorem op_single {K : Nat → Nat} {c : Nat → Bool} {r : Nat} : ∀ i, (∀ j, j < i → K j = K r → c j = decide (j = r)) → op K c (K r) i = if r < i then [r] else [] := by
  intro i
  induction i with
  | zero => intro _; rfl
  | succ i ih =>
    intro h
    unfold op
    rw [ih (fun j hj => h j (by omega))]
    by_cases e : K i = K r
    · have hc := h i (by omega) e
      by_cases q : i = r
      · subst q
        rw [if_pos ⟨rfl, by rw [hc]; exact decide_eq_true rfl⟩, if_neg (by omega), if_pos (by omega)]
        rfl
      · rw [if_neg (fun z => by rw [hc, decide_eq_false q] at z; cases z.2)]
        by_cases w : r < i
        · rw [if_pos w, if_pos (by omega)]
        · rw [if_neg w, if_neg (by omega)]
    · rw [if_neg (fun z => e z.1)]
      by_cases w : r < i
      · rw [if_pos w, if_pos (by omega)]
      · rw [if_neg w, if_neg (fun z => by
          have : r = i := by omega
          subst this
          exact e rfl)]
theorem cntP_two {p : Nat → Bool} {n i j : Nat} (hi : i < n) (hj : j < n) (hij : i ≠ j) (h1 : p i = true) (h2 : p j = true) : 2 ≤ cntP p n := by
  have key : ∀ a b, a < b → b < n → p a = true → p b = true → 2 ≤ cntP p n := by
    intro a b hab hb ha' hb'
    have q1 : 0 < cntP p b := cntP_pos.mpr ⟨a, hab, ha'⟩
    have q2 : cntP p (b + 1) = cntP p b + 1 := by
      show cntP p b + (if p b then 1 else 0) = _
      rw [hb', if_pos rfl]
    have q3 := cntP_mono p (show b + 1 ≤ n by omega)
    omega
  rcases Nat.lt_or_ge i j with q | q
  · exact key i j q hj h1 h2
  · exact key j i (by omega) hi h2 h1
def Of (n : Nat) (K G : Nat → Nat) (pf : Bool) (fo : Option Nat) (k : Nat) : List Nat := op K (cnF n K G pf fo) k n
theorem Of_none {n : Nat} {K G : Nat → Nat} {pf : Bool} : Of n K G pf none = fun k => op K (can n K G pf) k n := rfl
theorem Of_ne {n : Nat} {K G : Nat → Nat} {pf : Bool} {r k : Nat} (h : k ≠ K r) : Of n K G pf (some r) k = Of n K G pf none k := by
  refine op_congr n (fun j _ hj => ?_)
  show (if K r = K j then decide (j = r) else can n K G pf j) = _
  rw [if_neg (fun q => h (by rw [q, hj]))]
  rfl
theorem Of_eq {n : Nat} {K G : Nat → Nat} {pf : Bool} {r : Nat} (h : r < n) : Of n K G pf (some r) (K r) = [r] := by
  have := op_single (K := K) (c := cnF n K G pf (some r)) (r := r) n (fun j _ hj => by
    show (if K r = K j then decide (j = r) else can n K G pf j) = _
    rw [if_pos hj.symm])
  rw [if_pos h] at this
  exact this
theorem Of_th {n : Nat} {K G : Nat → Nat} {pf : Bool} {r : Nat} (h : r < n) (hc : can n K G pf r = true) (k : Nat) : thO (Of n K G pf none) k ↔ thO (Of n K G pf (some r)) k := by
  unfold thO
  by_cases e : k = K r
  · subst e
    rw [Of_eq h]
    have : r ∈ Of n K G pf none (K r) := (op_mem n).mpr ⟨h, rfl, hc⟩
    have h2 : 0 < (Of n K G pf none (K r)).length := by
      cases ho : Of n K G pf none (K r) with
      | nil => rw [ho] at this; cases this
      | cons a l => exact Nat.succ_pos _
    exact ⟨fun q => ⟨q.1, Nat.one_pos⟩, fun q => ⟨q.1, h2⟩⟩
  · rw [Of_ne e]
theorem Of_one {n : Nat} {K G : Nat → Nat} {pf : Bool} {r : Nat} (h : r < n) (hc : can n K G pf r = true) (h1 : cntP (fun j => K j == K r) n ≤ 1) : Of n K G pf (some r) = Of n K G pf none := by
  funext k
  by_cases e : k = K r
  · subst e
    refine op_congr n (fun j hj hk => ?_)
    have : j = r := Classical.byContradiction fun hn => by
      have := cntP_two (p := fun j => K j == K r) hj h hn (by rw [hk]; exact beq_self_eq_true _) (beq_self_eq_true _)
      omega
    subst this
    show (if K j = K j then decide (j = j) else can n K G pf j) = can n K G pf j
    rw [if_pos rfl, hc]
    exact decide_eq_true rfl
  · exact Of_ne e
/-- is the way sure once key is mended by row r -/
noncomputable def srw (n : Nat) (K G T : Nat → Nat) (pf : Bool) (a b r : Nat) : Bool := cb (SG (thO (Of n K G pf (some r))) (tsO (Of n K G pf (some r)) T) b 9 a)
noncomputable def inK (n : Nat) (K G T : Nat → Nat) (pf : Bool) (a b k : Nat) : Option Nat := lowP (fun j => (decide (K j = k) && can n K G pf j) && srw n K G T pf a b j) n
def fS (f : Nat → Option Nat) : Nat → Option Nat
  | 0 => none
  | k + 1 => match fS f k with
    | some x => some x
    | none => f k
theorem fS_stay {f : Nat → Option Nat} {k x : Nat} (h : fS f k = some x) : ∀ d, fS f (k + d) = some x := by
  intro d
  induction d with
  | zero => exact h
  | succ d ih =>
    show (match fS f (k + d) with | some x => some x | none => f (k + d)) = _
    rw [ih]
theorem fS_at {f : Nat → Option Nat} {k x m : Nat} (h : fS f k = none) (hx : f k = some x) (hk : k < m) : fS f m = some x := by
  have h1 : fS f (k + 1) = some x := by
    show (match fS f k with | some x => some x | none => f k) = _
    rw [h, hx]
  have := fS_stay h1 (m - (k + 1))
  rw [show k + 1 + (m - (k + 1)) = m by omega] at this
  exact this
theorem fS_no {f : Nat → Option Nat} {k : Nat} (h : fS f k = none) (hx : f k = none) : fS f (k + 1) = none := by
  show (match fS f k with | some x => some x | none => f k) = _
  rw [h, hx]
noncomputable def bst (n : Nat) (K G T : Nat → Nat) (pf : Bool) (a b : Nat) : Option Nat := if cb (SG (thO (Of n K G pf none)) (tsO (Of n K G pf none) T) b 9 a) then none else fS (inK n K G T pf a b) 10
theorem find_op {K : Nat → Nat} {c p : Nat → Bool} {k : Nat} : ∀ i, (op K c k i).find? p = lowP (fun j => (decide (K j = k) && c j) && p j) i := by
  intro i
  induction i with
  | zero => rfl
  | succ i ih =>
    show _ = match lowP (fun j => (decide (K j = k) && c j) && p j) i with
      | some x => some x
      | none => if (decide (K i = k) && c i) && p i then some i else none
    unfold op
    by_cases e : K i = k ∧ c i = true
    · rw [if_pos e, List.find?_append, ih]
      cases lowP (fun j => (decide (K j = k) && c j) && p j) i with
      | some x => rfl
      | none =>
        rw [decide_eq_true e.1, e.2]
        cases hp : p i with
        | true => simp [List.find?, hp]
        | false => simp [List.find?, hp]
    · rw [if_neg e, ih]
      have h2 : (decide (K i = k) && c i) = false := by
        cases hb : (decide (K i = k) && c i) with
        | false => rfl
        | true =>
          rw [Bool.and_eq_true] at hb
          exact absurd ⟨of_decide_eq_true hb.1, hb.2⟩ e
      rw [h2]
      cases lowP (fun j => (decide (K j = k) && c j) && p j) i <;> rfl
theorem find_at {p : Nat → Bool} : ∀ (L : List Nat) (t : Nat), t < L.length → p (L.getD t 0) = true → (∀ s, s < t → p (L.getD s 0) = false) → L.find? p = some (L.getD t 0) := by
  intro L
  induction L with
  | nil => intro t h; cases h
  | cons x L ih =>
    intro t h h1 h2
    cases t with
    | zero =>
      have : p x = true := h1
      rw [List.find?_cons_of_pos this]
      rfl
    | succ t =>
      have : p x = false := h2 0 (by omega)
      rw [List.find?_cons_of_neg (by rw [this]; decide)]
      exact ih t (Nat.lt_of_succ_lt_succ h) h1 (fun s hs => h2 (s + 1) (by omega))
theorem find_no {p : Nat → Bool} : ∀ (L : List Nat), (∀ s, s < L.length → p (L.getD s 0) = false) → L.find? p = none := by
  intro L h
  refine List.find?_eq_none.mpr (fun x hx => ?_)
  obtain ⟨t, ht, e⟩ := mem_getD hx
  rw [← e, h t ht]
  decide
theorem upd_back (u : Nat → Int32) (i : Nat) (x : Int32) : upd (upd u i x) i (u i) = u := by
  funext j
  unfold upd
  by_cases e : j = i
  · subst e; rw [if_pos rfl]
  · rw [if_neg e, if_neg e]
theorem inK_lt {n : Nat} {K G T : Nat → Nat} {pf : Bool} {a b k r : Nat} (h : inK n K G T pf a b k = some r) : r < n ∧ K r = k ∧ can n K G pf r = true ∧ srw n K G T pf a b r = true := by
  obtain ⟨h1, h2, _⟩ := lowP_some.mp h
  rw [Bool.and_eq_true, Bool.and_eq_true] at h2
  exact ⟨h1, of_decide_eq_true h2.1.1, h2.1.2, h2.2⟩
theorem fS_inK {n : Nat} {K G T : Nat → Nat} {pf : Bool} {a b r : Nat} : ∀ i, fS (inK n K G T pf a b) i = some r → r < n := by
  intro i
  induction i with
  | zero => intro h; cases h
  | succ i ih =>
    intro h
    change (match fS (inK n K G T pf a b) i with | some x => some x | none => inK n K G T pf a b i) = some r at h
    cases hf : fS (inK n K G T pf a b) i with
    | some x => rw [hf] at h; cases h; exact ih hf
    | none => rw [hf] at h; exact (inK_lt h).1
theorem bst_lt {n : Nat} {K G T : Nat → Nat} {pf : Bool} {a b r : Nat} (h : bst n K G T pf a b = some r) : r < n := by
  unfold bst at h
  split at h
  · cases h
  · exact fS_inK 10 h
section BESTC
variable {n : Nat} {K V G T : Nat → Nat} {pf : Bool} {nr : Int32} {ks vs wg ts : Nat → Int32} {mn : Int32} {oc os sd tg : Nat → Int32}
theorem c_onceMended (h : TF n K V G T nr ks vs wg ts) (hC : CH n K T (Of n K G pf none) mn oc os sd tg) {r a b : Nat} (hr : r < n) (hc : can n K G pf r = true) (ha : a < 10) (hb : b < 10) : f_X0_isSureWayOnceMended oc tg ts (nI (K r)) (nI r) (nI a) (nI b) = some (bI (srw n K G T pf a b r), tg) := by
  obtain ⟨hO, h1, h2, _, _⟩ := hC
  have hn := h.2.1
  have hK := (h.2.2 r hr).2.2.2.2.1
  have hT := (h.2.2 r hr).2.2.2.2.2.2.2
  have h3 : CHt (Of n K G pf (some r)) T (upd tg (K r) (nI (2 ^ T r))) := by
    intro k hk
    unfold upd
    by_cases e : k = K r
    · rw [if_pos e, e, Of_eq hr]
      refine MB_congr (MB_bit (t := T r) (by omega)) (fun t _ => ⟨fun q => ⟨r, by simp, q.symm⟩, ?_⟩)
      rintro ⟨j, hj, q⟩
      have : j = r := by simpa using hj
      subst this
      exact q.symm
    · rw [if_neg e, Of_ne e]
      exact h2 k hk
  have hTT : ∀ k, k < 10 → ∀ j, j ∈ Of n K G pf (some r) k → T j ≤ 10 := fun k _ j hj => (h.2.2 j ((op_mem n).mp hj).1).2.2.2.2.2.2.2
  obtain ⟨x, g1, g2⟩ := c_sureReach0 h1 (fun k hk => (hO.2.1 k hk).1) (Of_th hr hc) h3 hTT hb
  unfold f_X0_isSureWayOnceMended
  rw [at_in hK (by omega), bs, h.targetBit hr, bs, put_in hK (by omega), bs, g1, bs, c_contains g2 ha, bs, put_in hK (by omega), bs, if_pos (isB_bI _), upd_back]
  rfl
theorem c_inner (h : TF n K V G T nr ks vs wg ts) (hC : CH n K T (Of n K G pf none) mn oc os sd tg) {k a b : Nat} (hk : k < 10) (ha : a < 10) (hb : b < 10) : iter fuel (b_X0_rowThatMakesSure_1 oc os ts (nI a) (nI b) (nI k)) (0, tg) = some (match inK n K G T pf a b k with | none => .inl (nI (k + 1), tg) | some r => .inr (nI r, tg)) := by
  have hO := hC.1
  have hl := (hO.2.1 k hk).1
  have hfind : (Of n K G pf none k).find? (srw n K G T pf a b) = inK n K G T pf a b k := find_op n
  obtain ⟨r, g1, g2⟩ := iter_inv2 (b_X0_rowThatMakesSure_1 oc os ts (nI a) (nI b) (nI k)) (fun i z => z.1 = nI i ∧ z.2 = tg ∧ ∀ s, s < i → srw n K G T pf a b ((Of n K G pf none k).getD s 0) = false) (Of n K G pf none k).length (fun r => r = (match inK n K G T pf a b k with | none => .inl (nI (k + 1), tg) | some r => .inr (nI r, tg))) (by omega) (by
    rintro i ⟨v, tg1⟩ hi ⟨e1, e2, e3⟩
    dsimp only at e1 e2
    subst e1 e2
    have hm := (op_mem n).mp (getD_mem (l := Of n K G pf none k) hi)
    have hcm := c_onceMended h hC (r := (Of n K G pf none k).getD i 0) hm.1 hm.2.2 ha hb
    rw [hm.2.1] at hcm
    simp only [b_X0_rowThatMakesSure_1]
    rw [hC.2.1.optionsOf hk, bs, if_neg (nI_ge hi (by omega)), hC.2.1.option hk hi hl, bs, hcm, bs]
    try dsimp only
    cases hs : srw n K G T pf a b ((Of n K G pf none k).getD i 0) with
    | true =>
      rw [if_neg (by decide)]
      refine Or.inr ⟨_, rfl, ?_⟩
      rw [← hfind, find_at _ i hi hs e3]
    | false =>
      rw [if_pos (by decide), nI_1]
      refine Or.inl ⟨_, rfl, rfl, rfl, fun s hs' => ?_⟩
      rcases Nat.lt_or_ge s i with q | q
      · exact e3 s q
      · have : s = i := by omega
        subst this
        exact hs) (by
    rintro ⟨v, tg1⟩ ⟨e1, e2, e3⟩
    dsimp only at e1 e2
    subst e1 e2
    simp only [b_X0_rowThatMakesSure_1]
    rw [hC.2.1.optionsOf hk, bs, if_pos (nI_le (Nat.le_refl _) (by omega)), nI_1]
    refine ⟨_, rfl, ?_⟩
    rw [← hfind, find_no _ e3]) (s0 := (0, tg)) ⟨rfl, rfl, fun s hs => by omega⟩
  rw [g1, g2]
theorem c_best (h : TF n K V G T nr ks vs wg ts) (hC : CH n K T (Of n K G pf none) mn oc os sd tg) {a b : Nat} (ha : a < 10) (hb : b < 10) : f_X0_rowThatMakesSure oc os tg ts (nI a) (nI b) = some (oI (bst n K G T pf a b), tg) := by
  have hO := hC.1
  have hTT : ∀ k, k < 10 → ∀ j, j ∈ Of n K G pf none k → T j ≤ 10 := fun k _ j hj => (h.2.2 j ((op_mem n).mp hj).1).2.2.2.2.2.2.2
  unfold f_X0_rowThatMakesSure bst
  rw [c_isSureWay hC.2.1 (fun k hk => (hO.2.1 k hk).1) hC.2.2.1 hTT ha hb, bs]
  cases hs : cb (SG (thO (Of n K G pf none)) (tsO (Of n K G pf none) T) b 9 a) with
  | true => rw [if_neg (by decide), if_pos rfl]; rfl
  | false =>
    rw [if_pos (by decide), if_neg (by decide)]
    obtain ⟨r, g1, g2⟩ := iter_inv2 (b_X0_rowThatMakesSure_2 oc os ts (nI a) (nI b)) (fun i z => z.1 = nI i ∧ z.2 = tg ∧ fS (inK n K G T pf a b) i = none) 10 (fun r => r = (oI (fS (inK n K G T pf a b) 10), tg)) (by omega) (by
      rintro i ⟨v, tg1⟩ hi ⟨e1, e2, e3⟩
      dsimp only at e1 e2
      subst e1 e2
      simp only [b_X0_rowThatMakesSure_2]
      rw [show (10 : Int32) = nI 10 from rfl, if_neg (nI_ge hi (by omega)), c_inner h hC hi ha hb]
      cases hin : inK n K G T pf a b i with
      | none => exact Or.inl ⟨_, rfl, rfl, rfl, fS_no e3 hin⟩
      | some x =>
        refine Or.inr ⟨_, rfl, ?_⟩
        rw [fS_at e3 hin hi]
        rfl) (by
      rintro ⟨v, tg1⟩ ⟨e1, e2, e3⟩
      dsimp only at e1 e2
      subst e1 e2
      simp only [b_X0_rowThatMakesSure_2]
      rw [show (10 : Int32) = nI 10 from rfl, if_pos (nI_le (Nat.le_refl _) (by omega)), e3]
      exact ⟨_, rfl, rfl⟩) (s0 := (0, tg)) ⟨rfl, rfl, rfl⟩
    rw [g1, g2]
end BESTC
section BESTM
variable {n : Nat} {K V G T : Nat → Nat} {pf : Bool} {al : Nat → Int32}
end BESTM
