/-! bits, and the class's choices made anew -/
def MB (x : Int32) (s : Nat → Prop) : Prop := ∀ i, i < 32 → (x.toBitVec.getLsbD i = true ↔ s i)
theorem MB_congr {x : Int32} {s t : Nat → Prop} (h : MB x s) (e : ∀ i, i < 32 → (s i ↔ t i)) : MB x t := fun i hi => (h i hi).trans (e i hi)
theorem MB_zero : MB 0 (fun _ => False) := by
  intro i hi
  constructor
  · intro h
    have : (0 : Int32).toBitVec = 0#32 := rfl
    rw [this] at h
    simp at h
  · exact False.elim
theorem MB_or {x y : Int32} {s t : Nat → Prop} (hx : MB x s) (hy : MB y t) : MB (x ||| y) (fun i => s i ∨ t i) := by
  intro i hi
  rw [Int32.toBitVec_or, BitVec.getLsbD_or, Bool.or_eq_true, hx i hi, hy i hi]
theorem MB_and {x y : Int32} {s t : Nat → Prop} (hx : MB x s) (hy : MB y t) : MB (x &&& y) (fun i => s i ∧ t i) := by
  intro i hi
  rw [Int32.toBitVec_and, BitVec.getLsbD_and, Bool.and_eq_true, hx i hi, hy i hi]
theorem MB_not {x : Int32} {s : Nat → Prop} (hx : MB x s) : MB (x ^^^ (-1)) (fun i => ¬ s i) := by
  intro i hi
  have h1 : ((-1 : Int32).toBitVec.getLsbD i) = true := by
    have : (-1 : Int32).toBitVec = BitVec.allOnes 32 := by decide
    rw [this, BitVec.getLsbD_allOnes]
    exact decide_eq_true hi
  rw [Int32.toBitVec_xor, BitVec.getLsbD_xor, h1]
  have := hx i hi
  cases hb : x.toBitVec.getLsbD i with
  | true => rw [hb] at this; simp [this.mp rfl]
  | false => rw [hb] at this; simp; intro hs; exact absurd (this.mpr hs) (by simp)
theorem MB_eq0 {x : Int32} {s : Nat → Prop} (hx : MB x s) : x = 0 ↔ ∀ i, i < 32 → ¬ s i := by
  constructor
  · intro e i hi hs
    have h1 := (hx i hi).mpr hs
    rw [e] at h1
    exact (MB_zero i hi).mp h1
  · intro h
    apply Int32.toBitVec_inj.mp
    apply BitVec.eq_of_getLsbD_eq
    intro i hi
    have h0 : (0 : Int32).toBitVec.getLsbD i = false := by
      cases hb : (0 : Int32).toBitVec.getLsbD i with
      | false => rfl
      | true => exact absurd ((MB_zero i hi).mp hb) id
    rw [h0]
    cases hb : x.toBitVec.getLsbD i with
    | false => rfl
    | true => exact absurd ((hx i hi).mp hb) (h i hi)
theorem bit_val : ∀ t, t < 11 → ∀ i, i < 32 → ((nI (2 ^ t)).toBitVec.getLsbD i = decide (i = t)) := by decide +kernel
theorem MB_bit {t : Nat} (ht : t < 11) : MB (nI (2 ^ t)) (fun i => i = t) := by
  intro i hi
  rw [bit_val t ht i hi]
  exact decide_eq_true_iff
theorem shl_val : ∀ t, t < 10 → ((1 : Int32) <<< (nI t &&& 31) = nI (2 ^ t)) := by decide +kernel
theorem dB_tI {t : Nat} (ht : t ≤ 10) : dB (tI t) 10 = decide (t < 10) := by
  unfold tI
  by_cases h : t < 10
  · rw [if_pos h, dB_nI (by omega)]
  · rw [if_neg h]
    rw [decide_eq_false h]
    decide
section UPD
variable {n : Nat} {K V G T : Nat → Nat} {nr : Int32} {ks vs wg ts : Nat → Int32}
theorem TF.targetBit (h : TF n K V G T nr ks vs wg ts) {j : Nat} (hj : j < n) : f_X0_targetBit ts (nI j) = some (nI (2 ^ T j)) := by
  unfold f_X0_targetBit
  have hT := (h.2.2 j hj).2.2.2.2.2.2.2
  rw [h.targetAt hj, bs, c_isKey, bs, dB_tI hT]
  by_cases e : T j < 10
  · rw [decide_eq_true e, if_neg (by decide)]
    unfold tI
    rw [if_pos e, shl_val _ e]
  · rw [decide_eq_false e, if_pos (by decide)]
    have : T j = 10 := by omega
    rw [this]
    rfl
theorem c_fill (u : Nat → Int32) : ∃ r, f_J7_fill_53178 u 0 10 = some r ∧ ∀ j, j < 10 → r j = 0 := by
  unfold f_J7_fill_53178
  refine iter_inv _ (fun i s => s.1 = nI i ∧ ∀ j, j < i → s.2 j = 0) 10 _ (by omega) ?_ ?_ ⟨rfl, fun j hj => by omega⟩
  · rintro i ⟨v, f⟩ hi ⟨h1, h2⟩
    dsimp only at h1 h2
    subst h1
    refine ⟨(nI (i + 1), upd f i 0), ?_, rfl, fun j hj => ?_⟩
    · simp only [b_J7_fill_53178_1]
      rw [nI_def, if_neg (nI_ge hi (by omega)), if_pos (nI_in hi (by omega)), nI_1, nI_clamp (by omega)]
    · show upd f i 0 j = 0
      unfold upd
      by_cases e : j = i
      · rw [if_pos e]
      · rw [if_neg e]; exact h2 j (by omega)
  · rintro ⟨v, f⟩ ⟨h1, h2⟩
    dsimp only at h1 h2
    subst h1
    refine ⟨f, ?_, h2⟩
    simp only [b_J7_fill_53178_1]
    rw [nI_def, if_pos (nI_le (Nat.le_refl _) (by omega))]
/-- the choices' cells tell options O -/
def CHt (O : Nat → List Nat) (T : Nat → Nat) (tg : Nat → Int32) : Prop := ∀ k, k < 10 → MB (tg k) (fun t => ∃ j, j ∈ O k ∧ T j = t)
def CH (n : Nat) (K T : Nat → Nat) (O : Nat → List Nat) (mn : Int32) (oc os sd tg : Nat → Int32) : Prop :=
  OK n K O ∧ CHo O 10 oc os ∧ CHt O T tg ∧ (∀ k, k < 10 → sd k = nI (prd (bas O) k)) ∧ mn = nI (prd (bas O) 10)
theorem CHo.optionsOf {O : Nat → List Nat} {oc os : Nat → Int32} (h : CHo O 10 oc os) {k : Nat} (hk : k < 10) : f_X0_optionsOf oc (nI k) = some (nI (O k).length) := by
  unfold f_X0_optionsOf
  rw [at_in hk (by omega), bs, (h k hk).1]
theorem CHo.isThere {O : Nat → List Nat} {oc os : Nat → Int32} (h : CHo O 10 oc os) {k : Nat} (hk : k < 10) (hl : (O k).length ≤ 20) : f_X0_isThere oc (nI k) = some (bI (decide (0 < (O k).length))) := by
  unfold f_X0_isThere
  rw [h.optionsOf hk, bs]
  by_cases e : 0 < (O k).length
  · rw [if_neg (nI_nle e (by omega)), decide_eq_true e]
    rfl
  · rw [decide_eq_false e, show (O k).length = 0 by omega]
    rfl
theorem CHo.option {O : Nat → List Nat} {oc os : Nat → Int32} (h : CHo O 10 oc os) {k t : Nat} (hk : k < 10) (ht : t < (O k).length) (hl : (O k).length ≤ 20) : f_X0_option os (nI k) (nI t) = some (nI ((O k).getD t 0)) := by
  unfold f_X0_option
  rw [show (20 : Int32) = nI 20 from rfl, nI_mulO, nI_add, at_in (by omega) (by omega), bs, Nat.mul_comm, (h k hk).2 t ht]
theorem c_addOption (h : TF n K V G T nr ks vs wg ts) {O : Nat → List Nat} {oc os tg : Nat → Int32} (h1 : CHo O 10 oc os) (h2 : CHt O T tg) {i : Nat} (hi : i < n) (hl : ∀ k, k < 10 → (O k).length < 20) :
    ∃ oc' os' tg', f_X0_addOption oc os tg ts (nI (K i)) (nI i) = some (oc', os', tg') ∧ CHo (fun k => if k = K i then O k ++ [i] else O k) 10 oc' os' ∧ CHt (fun k => if k = K i then O k ++ [i] else O k) T tg' := by
  have hn := h.2.1
  have hKi := (h.2.2 i hi).2.2.2.2.1
  have hTi := (h.2.2 i hi).2.2.2.2.2.2.2
  have hL := hl (K i) hKi
  refine ⟨upd oc (K i) (nI ((O (K i)).length + 1)), upd os (K i * 20 + (O (K i)).length) (nI i), upd tg (K i) (tg (K i) ||| nI (2 ^ T i)), ?_, ?_, ?_⟩
  · unfold f_X0_addOption
    rw [h1.optionsOf hKi, bs, show (20 : Int32) = nI 20 from rfl, nI_mulO, nI_add, put_in (by omega) (by omega), bs, nI_1, put_in hKi (by omega), bs, at_in hKi (by omega), bs, h.targetBit hi, bs, put_in hKi (by omega), bs]
  · intro k hk
    try dsimp only
    by_cases e : k = K i
    · subst e
      refine ⟨?_, fun t ht => ?_⟩
      · show upd oc (K i) _ (K i) = _
        unfold upd
        rw [if_pos rfl, if_pos rfl, List.length_append]
        rfl
      · rw [if_pos rfl, List.length_append] at ht
        rw [if_pos rfl, getD_app]
        show upd os _ _ _ = _
        unfold upd
        by_cases q : t = (O (K i)).length
        · subst q
          rw [if_pos (by omega), if_neg (by omega), if_pos rfl]
        · have ht2 : t < (O (K i)).length := by simp only [List.length_singleton] at ht; omega
          rw [if_neg (by omega), if_pos ht2]
          exact (h1 (K i) hk).2 t ht2
    · refine ⟨?_, fun t ht => ?_⟩
      · show upd oc (K i) _ k = _
        unfold upd
        rw [if_neg e, if_neg e]
        exact (h1 k hk).1
      · rw [if_neg e] at ht ⊢
        show upd os _ _ _ = _
        unfold upd
        have := hl k hk
        rw [if_neg (by omega)]
        exact (h1 k hk).2 t ht
  · intro k hk
    try dsimp only
    by_cases e : k = K i
    · subst e
      show MB (upd tg (K i) _ (K i)) _
      unfold upd
      rw [if_pos rfl]
      refine MB_congr (MB_or (h2 (K i) hk) (MB_bit (by omega))) (fun t _ => ?_)
      rw [if_pos rfl]
      constructor
      · rintro (⟨j, hj, he⟩ | he)
        · exact ⟨j, List.mem_append.mpr (Or.inl hj), he⟩
        · exact ⟨i, List.mem_append.mpr (Or.inr (by simp)), he.symm⟩
      · rintro ⟨j, hj, he⟩
        rcases List.mem_append.mp hj with q | q
        · exact Or.inl ⟨j, q, he⟩
        · have : j = i := by simpa using q
          subst this
          exact Or.inr he.symm
    · show MB (upd tg (K i) _ k) _
      unfold upd
      rw [if_neg e]
      refine MB_congr (h2 k hk) (fun t _ => ?_)
      rw [if_neg e]
theorem bI_eq0 (b : Bool) : (bI b = 0) ↔ b = false := by cases b <;> decide
theorem c_strides {O : Nat → List Nat} {oc os : Nat → Int32} (h1 : CHo O 10 oc os) (hl : ∀ k, k < 10 → (O k).length ≤ 20) (hp : ∀ k, k ≤ 10 → prd (bas O) k ≤ 1048576) (sd tg : Nat → Int32) :
    ∃ mn' sd', iter fuel (b_X0_update_1 oc os tg) (0, 1, sd) = some (.inr (mn', oc, os, sd', tg)) ∧ mn' = nI (prd (bas O) 10) ∧ ∀ k, k < 10 → sd' k = nI (prd (bas O) k) := by
  obtain ⟨r, h2, mn', sd', h3, h4, h5⟩ := iter_inv (b_X0_update_1 oc os tg) (fun i s => s.1 = nI i ∧ s.2.1 = nI (prd (bas O) i) ∧ ∀ k, k < i → s.2.2 k = nI (prd (bas O) k)) 10 (fun r => ∃ mn' sd', r = .inr (mn', oc, os, sd', tg) ∧ mn' = nI (prd (bas O) 10) ∧ ∀ k, k < 10 → sd' k = nI (prd (bas O) k)) (by omega) (by
    rintro i ⟨v, mn, sd1⟩ hi ⟨e1, e2, e3⟩
    dsimp only at e1 e2 e3
    subst e1
    subst e2
    have hpi := hp i (by omega)
    have hli := hl i hi
    refine ⟨(nI (i + 1), nI (prd (bas O) (i + 1)), upd sd1 i (nI (prd (bas O) i))), ?_, rfl, rfl, fun k hk => ?_⟩
    · simp only [b_X0_update_1]
      rw [show (10 : Int32) = nI 10 from rfl, if_neg (nI_ge hi (by omega)), put_in hi (by omega), bs, h1.isThere hi hli, bs]
      by_cases e : 0 < (O i).length
      · rw [decide_eq_true e, if_neg (by decide), h1.optionsOf hi, bs, bs, nI_1, nI_mulO]
        have : prd (bas O) (i + 1) = prd (bas O) i * (O i).length := by
          show prd (bas O) i * bas O i = _
          unfold bas
          rw [if_neg (by omega)]
        rw [this]
      · rw [decide_eq_false e, if_pos (by decide), bs, nI_1]
        have : prd (bas O) (i + 1) = prd (bas O) i := by
          show prd (bas O) i * bas O i = _
          unfold bas
          rw [if_pos (by omega), Nat.mul_one]
        rw [this]
    · show upd sd1 i _ k = _
      unfold upd
      by_cases e : k = i
      · subst e; rw [if_pos rfl]
      · rw [if_neg e]; exact e3 k (by omega)) (by
    rintro ⟨v, mn, sd1⟩ ⟨e1, e2, e3⟩
    dsimp only at e1 e2 e3
    subst e1
    refine ⟨.inr (mn, oc, os, sd1, tg), ?_, mn, sd1, rfl, e2, e3⟩
    simp only [b_X0_update_1]
    rw [show (10 : Int32) = nI 10 from rfl, if_pos (nI_le (Nat.le_refl _) (by omega))]) (s0 := (0, 1, sd)) ⟨rfl, rfl, fun k hk => by omega⟩
  exact ⟨mn', sd', by rw [h2, h3], h4, h5⟩
theorem c_update (h : TF n K V G T nr ks vs wg ts) (pf : Bool) (oc os sd tg : Nat → Int32) :
    ∃ mn' oc' os' sd' tg', f_X0_update oc os sd tg nr (bI pf) ks wg ts = some (mn', oc', os', sd', tg') ∧ CH n K T (fun k => op K (can n K G pf) k n) mn' oc' os' sd' tg' := by
  have hn := h.2.1
  obtain ⟨oc0, g1, g2⟩ := c_fill oc
  obtain ⟨tg0, g3, g4⟩ := c_fill tg
  have hOK := OK_op (K := K) (can n K G pf) hn
  obtain ⟨r, h1, mn', oc', os', sd', tg', e, h2⟩ := iter_inv (b_X0_update_2 sd nr (bI pf) ks wg ts) (fun i s => s.1 = nI i ∧ CHo (fun k => op K (can n K G pf) k i) 10 s.2.1 s.2.2.1 ∧ CHt (fun k => op K (can n K G pf) k i) T s.2.2.2) n (fun r => ∃ mn' oc' os' sd' tg', r = (mn', oc', os', sd', tg') ∧ CH n K T (fun k => op K (can n K G pf) k n) mn' oc' os' sd' tg') (by omega) (by
    rintro i ⟨v, oc1, os1, tg1⟩ hi ⟨e1, e2, e3⟩
    dsimp only at e1 e2 e3
    subst e1
    have hKi := (h.2.2 i hi).2.2.2.2.1
    simp only [b_X0_update_2]
    rw [show f_X3_size nr = some (nI n) by rw [h.1]; rfl, bs, if_neg (nI_ge hi (by omega)), h.canBeKept pf hi, bs]
    by_cases ec : can n K G pf i = true
    · rw [if_neg (by rw [ec]; decide), h.keyAt hi, bs]
      obtain ⟨oc2, os2, tg2, a1, a2, a3⟩ := c_addOption h e2 e3 hi (fun k _ => Nat.lt_of_le_of_lt (op_len i) (by omega))
      rw [a1]
      have hop : ∀ k, op K (can n K G pf) k (i + 1) = if k = K i then op K (can n K G pf) k i ++ [i] else op K (can n K G pf) k i := by
        intro k
        show (if K i = k ∧ can n K G pf i = true then _ else _) = _
        by_cases q : k = K i
        · rw [if_pos ⟨q.symm, ec⟩, if_pos q]
        · rw [if_neg (fun z => q z.1.symm), if_neg q]
      refine ⟨(nI (i + 1), oc2, os2, tg2), by rw [bs, bs, nI_1], rfl, ?_, ?_⟩
      · show CHo (fun k => op K (can n K G pf) k (i + 1)) 10 oc2 os2
        rw [show (fun k => op K (can n K G pf) k (i + 1)) = fun k => if k = K i then op K (can n K G pf) k i ++ [i] else op K (can n K G pf) k i from funext hop]
        exact a2
      · show CHt (fun k => op K (can n K G pf) k (i + 1)) T tg2
        rw [show (fun k => op K (can n K G pf) k (i + 1)) = fun k => if k = K i then op K (can n K G pf) k i ++ [i] else op K (can n K G pf) k i from funext hop]
        exact a3
    · have ec' : can n K G pf i = false := by simpa using ec
      have hop : (fun k => op K (can n K G pf) k (i + 1)) = fun k => op K (can n K G pf) k i := by
        funext k
        show (if K i = k ∧ can n K G pf i = true then _ else _) = _
        rw [if_neg (fun z => ec z.2)]
      rw [if_pos (by rw [ec']; decide)]
      refine ⟨(nI (i + 1), oc1, os1, tg1), by rw [bs, nI_1], rfl, ?_, ?_⟩
      · show CHo (fun k => op K (can n K G pf) k (i + 1)) 10 oc1 os1
        rw [hop]; exact e2
      · show CHt (fun k => op K (can n K G pf) k (i + 1)) T tg1
        rw [hop]; exact e3) (by
    rintro ⟨v, oc1, os1, tg1⟩ ⟨e1, e2, e3⟩
    dsimp only at e1 e2 e3
    subst e1
    obtain ⟨mn', sd', s1, s2, s3⟩ := c_strides e2 (fun k hk => (hOK.2.1 k hk).1) (fun k hk => hOK.prd_le hk) sd tg1
    refine ⟨(mn', oc1, os1, sd', tg1), ?_, mn', oc1, os1, sd', tg1, rfl, hOK, e2, e3, s3, s2⟩
    simp only [b_X0_update_2]
    rw [show f_X3_size nr = some (nI n) by rw [h.1]; rfl, bs, if_pos (nI_le (Nat.le_refl _) (by omega)), s1]) (s0 := (0, oc0, os, tg0)) ⟨rfl, fun k hk => ⟨by show oc0 k = _; rw [g2 k hk]; rfl, fun t ht => (by cases ht)⟩, fun k hk => by
      show MB (tg0 k) _
      rw [g4 k hk]
      exact MB_congr MB_zero (fun i _ => ⟨False.elim, fun ⟨j, hj, _⟩ => (by cases hj)⟩)⟩
  refine ⟨mn', oc', os', sd', tg', ?_, h2⟩
  unfold f_X0_update
  rw [g1, bs, g3, bs, h1, e]
end UPD
