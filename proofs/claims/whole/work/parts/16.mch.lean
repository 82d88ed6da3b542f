/-! the model's choices; what a mending keeps; ways, both sides -/
theorem iter_inv2 {σ ρ : Type} (b : σ → Option (σ ⊕ ρ)) (I : Nat → σ → Prop) (n : Nat) (post : ρ → Prop) (hn : n < 100000000) (hs : ∀ i s, i < n → I i s → (∃ t, b s = some (.inl t) ∧ I (i + 1) t) ∨ (∃ r, b s = some (.inr r) ∧ post r)) (he : ∀ s, I n s → ∃ r, b s = some (.inr r) ∧ post r) {s0 : σ} (h0 : I 0 s0) : ∃ r, iter fuel b s0 = some r ∧ post r := by
  have key : ∀ d i s f, i + d = n → d < f → I i s → ∃ r, iter f b s = some r ∧ post r := by
    intro d
    induction d with
    | zero =>
      intro i s f hi hf hI
      obtain ⟨f, rfl⟩ : ∃ g, f = g + 1 := ⟨f - 1, by omega⟩
      have : i = n := by omega
      subst this
      obtain ⟨r, h1, h2⟩ := he s hI
      refine ⟨r, ?_, h2⟩
      unfold iter
      rw [h1]
    | succ d ih =>
      intro i s f hi hf hI
      obtain ⟨f, rfl⟩ : ∃ g, f = g + 1 := ⟨f - 1, by omega⟩
      rcases hs i s (by omega) hI with ⟨t, h1, h2⟩ | ⟨r, h1, h2⟩
      · obtain ⟨r, h3, h4⟩ := ih (i + 1) t f (by omega) (by omega) h2
        refine ⟨r, ?_, h4⟩
        unfold iter
        rw [h1]
        exact h3
      · refine ⟨r, ?_, h2⟩
        unfold iter
        rw [h1]
  exact key n 0 s0 fuel (by omega) (by unfold fuel; omega) h0
theorem iter_inv_eq {σ ρ : Type} (b : σ → Option (σ ⊕ ρ)) {s0 : σ} {r : ρ} (S : Nat → σ) (n : Nat) (hn : n < 100000000) (h0 : s0 = S 0) (hs : ∀ i, i < n → b (S i) = some (.inl (S (i + 1)))) (he : b (S n) = some (.inr r)) : iter fuel b s0 = some r := by
  rw [h0]
  exact iter_for b S n r hs he fuel 0 (Nat.zero_le _) (by unfold fuel; omega)
theorem nI_div {a b : Nat} (ha : a < 2 ^ 31) (hb : b < 2 ^ 31) : nI a / nI b = nI (a / b) := by
  have h3 : a / b < 2 ^ 31 := Nat.lt_of_le_of_lt (Nat.div_le_self a b) ha
  apply Int32.toInt_inj.mp
  rw [Int32.toInt_div, nI_toInt ha, nI_toInt hb, nI_toInt h3, ← Int.ofNat_tdiv]
  have key : ∀ q : Nat, q < 2 ^ 31 → Int.bmod (q : Int) (2 ^ 32) = (q : Int) := fun q hq => Int.bmod_eq_of_le (by omega) (by omega)
  exact key _ h3
theorem nI_in2 {c N : Nat} (h : c < N) (hN : N < 2 ^ 31) : ¬ (nI c < 0 ∨ N ≤ c) := by
  have := nI_in h hN
  rw [nI_clamp (by omega)] at this
  exact this
theorem nI_mod {a b : Nat} (ha : a < 2 ^ 31) (hb : b < 2 ^ 31) : nI a - nI a / nI b * nI b = nI (a % b) := by
  have h1 : a / b * b ≤ a := Nat.div_mul_le_self a b
  rw [nI_div ha hb, nI_mulO, nI_subO h1]
  congr 1
  have := Nat.div_add_mod a b
  rw [Nat.mul_comm] at this
  omega
def cnF (n : Nat) (K G : Nat → Nat) (pf : Bool) (fo : Option Nat) (j : Nat) : Bool := match fo with
  | none => can n K G pf j
  | some r => if K r = K j then decide (j = r) else can n K G pf j
section MCH
variable {n : Nat} {K V G T : Nat → Nat} {pf : Bool} {al : Nat → Int32}
theorem m_finds (h : MF n K V G T pf al) (fo : Option Nat) (hfo : ∀ r, fo = some r → r < n) (ch my : Nat → Int32) :
    ∃ ch' my', f_X6_findsChoices (oI fo) al ch my = some (ch', my') ∧ CHo (fun k => op K (cnF n K G pf fo) k n) 10 my' ch' := by
  have hn := h.2.2.1
  have inner : ∀ my0 : Nat → Int32, (∀ k, k < 10 → my0 k = 0) → ∃ ch' my', iter fuel (b_X6_findsChoices_1 (oI fo) al) (0, ch, my0) = some (.inr (ch', my')) ∧ CHo (fun k => op K (cnF n K G pf fo) k n) 10 my' ch' := by
    intro my0 hmy0
    obtain ⟨r, h1, ch', my', e, h2⟩ := iter_inv (b_X6_findsChoices_1 (oI fo) al) (fun i s => s.1 = nI i ∧ CHo (fun k => op K (cnF n K G pf fo) k i) 10 s.2.2 s.2.1) n (fun r => ∃ ch' my', r = .inr (ch', my') ∧ CHo (fun k => op K (cnF n K G pf fo) k n) 10 my' ch') (by omega) (by
      rintro i ⟨v, ch1, my1⟩ hi ⟨e1, e2⟩
      dsimp only at e1 e2
      subst e1
      have hKi := (h.2.2.2 i hi).2.2.2.2.1
      simp only [b_X6_findsChoices_1]
      rw [h.1, if_neg (nI_ge hi (by omega)), h.key hi, bs]
      have hc : (if oI fo = -5 then (Option.bind (f_X6_canBeKept al (nI i)) fun r_17 => some r_17) else (Option.bind (f_X6_of al (oI fo) 0) fun r_19 => if r_19 = nI (K i) then (if nI i = oI fo then some 1 else some 0) else (Option.bind (f_X6_canBeKept al (nI i)) fun r_22 => some r_22))) = some (bI (cnF n K G pf fo i)) := by
        cases fo with
        | none => rw [show oI none = -5 from rfl, if_pos rfl, h.canBeKept hi, bs]; rfl
        | some r =>
          have hr := hfo r rfl
          have hKr := (h.2.2.2 r hr).2.2.2.2.1
          rw [show oI (some r) = nI r from rfl, if_neg (nI_ne5 (by omega)), h.key hr, bs]
          by_cases q : K r = K i
          · rw [if_pos (by rw [q])]
            show _ = some (bI (if K r = K i then decide (i = r) else _))
            rw [if_pos q]
            by_cases z : i = r
            · rw [if_pos (by rw [z]), decide_eq_true z]; rfl
            · rw [if_neg (fun w => z ((nI_eq (by omega) (by omega)).mp w)), decide_eq_false z]; rfl
          · rw [if_neg (fun w => q ((nI_eq (by omega) (by omega)).mp w)), h.canBeKept hi, bs]
            show _ = some (bI (if K r = K i then decide (i = r) else _))
            rw [if_neg q]
      rw [hc, bs]
      have hlen : (op K (cnF n K G pf fo) (K i) i).length ≤ i := op_len i
      by_cases ec : cnF n K G pf fo i = true
      · have hop : ∀ k, op K (cnF n K G pf fo) k (i + 1) = if k = K i then op K (cnF n K G pf fo) k i ++ [i] else op K (cnF n K G pf fo) k i := by
          intro k
          show (if K i = k ∧ cnF n K G pf fo i = true then _ else _) = _
          by_cases q : k = K i
          · rw [if_pos ⟨q.symm, ec⟩, if_pos q]
          · rw [if_neg (fun z => q z.1.symm), if_neg q]
        have hmy : my1 (K i) = nI (op K (cnF n K G pf fo) (K i) i).length := (e2 (K i) hKi).1
        rw [if_neg (by rw [ec]; decide), if_pos (nI_in hKi (by omega)), nI_clamp (by omega), hmy, show (20 : Int32) = nI 20 from rfl, nI_mulO, nI_add, if_pos (nI_in (by omega) (by omega)), if_pos (nI_in2 hKi (by omega)), if_pos (nI_in2 hKi (by omega)), bs, nI_clamp (by omega), nI_1, nI_1]
        refine ⟨_, rfl, rfl, ?_⟩
        intro k hk
        try dsimp only
        show upd my1 (K i) _ k = _ ∧ _
        try dsimp only
        rw [hop k]
        by_cases e : k = K i
        · subst e
          refine ⟨?_, fun t ht => ?_⟩
          · unfold upd
            rw [if_pos rfl, if_pos rfl, List.length_append]
            rfl
          · rw [if_pos rfl, List.length_append] at ht
            rw [if_pos rfl, getD_app]
            unfold upd
            by_cases q : t = (op K (cnF n K G pf fo) (K i) i).length
            · subst q
              rw [if_pos rfl, if_neg (by omega), if_pos rfl]
            · have ht2 : t < (op K (cnF n K G pf fo) (K i) i).length := by simp only [List.length_singleton] at ht; omega
              rw [if_neg (by omega), if_pos ht2]
              exact (e2 (K i) hKi).2 t ht2
        · refine ⟨?_, fun t ht => ?_⟩
          · unfold upd
            rw [if_neg e, if_neg e]
            exact (e2 k hk).1
          · rw [if_neg e] at ht ⊢
            unfold upd
            have : (op K (cnF n K G pf fo) k i).length ≤ i := op_len i
            rw [if_neg (by omega)]
            exact (e2 k hk).2 t ht
      · have ec' : cnF n K G pf fo i = false := by simpa using ec
        have hop : (fun k => op K (cnF n K G pf fo) k (i + 1)) = fun k => op K (cnF n K G pf fo) k i := by
          funext k
          show (if K i = k ∧ cnF n K G pf fo i = true then _ else _) = _
          rw [if_neg (fun z => ec z.2)]
        rw [if_pos (by rw [ec']; decide), bs, nI_1]
        refine ⟨_, rfl, rfl, ?_⟩
        rw [hop]
        exact e2) (by
      rintro ⟨v, ch1, my1⟩ ⟨e1, e2⟩
      dsimp only at e1 e2
      subst e1
      refine ⟨.inr (ch1, my1), ?_, ch1, my1, rfl, e2⟩
      simp only [b_X6_findsChoices_1]
      rw [h.1, if_pos (nI_le (Nat.le_refl _) (by omega))]) (s0 := (0, ch, my0)) ⟨rfl, fun k hk => ⟨by show my0 k = _; rw [hmy0 k hk]; rfl, fun t ht => (by cases ht)⟩⟩
    exact ⟨ch', my', by rw [h1, e], h2⟩
  unfold f_X6_findsChoices
  obtain ⟨r, h1, ch', my', e, h2⟩ := iter_inv (b_X6_findsChoices_2 (oI fo) al ch) (fun i s => s.1 = nI i ∧ ∀ k, k < i → s.2 k = 0) 10 (fun r => ∃ ch' my', r = (ch', my') ∧ CHo (fun k => op K (cnF n K G pf fo) k n) 10 my' ch') (by omega) (by
    rintro i ⟨v, my1⟩ hi ⟨e1, e2⟩
    dsimp only at e1 e2
    subst e1
    refine ⟨(nI (i + 1), upd my1 i 0), ?_, rfl, fun k hk => ?_⟩
    · simp only [b_X6_findsChoices_2]
      rw [show (10 : Int32) = nI 10 from rfl, if_neg (nI_ge hi (by omega)), if_pos (nI_in hi (by omega)), nI_1, nI_clamp (by omega)]
    · show upd my1 i 0 k = 0
      unfold upd
      by_cases e : k = i
      · rw [if_pos e]
      · rw [if_neg e]; exact e2 k (by omega)) (by
    rintro ⟨v, my1⟩ ⟨e1, e2⟩
    dsimp only at e1 e2
    subst e1
    obtain ⟨ch', my', h1, h2⟩ := inner my1 e2
    refine ⟨(ch', my'), ?_, ch', my', rfl, h2⟩
    simp only [b_X6_findsChoices_2]
    rw [show (10 : Int32) = nI 10 from rfl, if_pos (nI_le (Nat.le_refl _) (by omega)), h1]) (s0 := (0, my)) ⟨rfl, fun k hk => by omega⟩
  exact ⟨ch', my', by rw [h1, e], h2⟩
end MCH
section CHS
variable {n : Nat} {K T : Nat → Nat} {O : Nat → List Nat} {my ch : Nat → Int32}
theorem m_mendings (h : CHo O 10 my ch) (hO : OK n K O) : f_X6_mendings my = some (nI (prd (bas O) 10)) := by
  unfold f_X6_mendings
  refine iter_go _ (fun i => (nI (prd (bas O) i), nI i)) 10 (by omega) rfl (fun i hi => ?_) ?_
  · have hl := (hO.2.1 i hi).1
    simp only [b_X6_mendings_1]
    rw [show (10 : Int32) = nI 10 from rfl, if_neg (nI_ge hi (by omega)), if_pos (nI_in hi (by omega)), nI_clamp (by omega), (h i hi).1, nI_1]
    by_cases e : (O i).length = 0
    · rw [if_pos (by rw [e]; rfl), bs, show (1 : Int32) = nI 1 from rfl, nI_mulO]
      show some (Sum.inl (nI (prd (bas O) i * 1), _)) = some (Sum.inl (nI (prd (bas O) i * bas O i), _))
      unfold bas
      rw [if_pos e]
    · rw [if_neg (nI_ne0 (by omega) (by omega)), if_pos (nI_in2 hi (by omega)), bs, nI_mulO]
      show some (Sum.inl (nI (prd (bas O) i * (O i).length), _)) = some (Sum.inl (nI (prd (bas O) i * bas O i), _))
      unfold bas
      rw [if_neg e]
  · simp only [b_X6_mendings_1]
    rw [show (10 : Int32) = nI 10 from rfl, if_pos (nI_le (Nat.le_refl _) (by omega))]
/-- the row that mending m keeps of key k -/
def kpt (O : Nat → List Nat) (m k : Nat) : Option Nat := if (O k).length = 0 then none else some ((O k).getD (dg (bas O) m k) 0)
theorem dg_len {O : Nat → List Nat} {m k : Nat} (h : ¬ (O k).length = 0) : dg (bas O) m k < (O k).length := by
  have := dg_lt (N := bas O) (m := m) (k := k) (bas_pos O k)
  unfold bas at this
  rw [if_neg h] at this
  unfold bas
  exact this
theorem dg_eq {O : Nat → List Nat} {m k : Nat} (h : ¬ (O k).length = 0) : dg (bas O) m k = m / prd (bas O) k % (O k).length := by
  unfold dg
  rw [show bas O k = (O k).length by unfold bas; rw [if_neg h]]
theorem m_takes (h : CHo O 10 my ch) (hO : OK n K O) (kp : Nat → Int32) {m : Nat} (hm : m < 2 ^ 30) : ∃ kp', f_X6_takes ch my kp (nI m) = some kp' ∧ ∀ k, k < 10 → kp' k = oI (kpt O m k) := by
  unfold f_X6_takes
  refine iter_inv _ (fun i s => s.1 = nI (m / prd (bas O) i) ∧ s.2.1 = nI i ∧ ∀ k, k < i → s.2.2 k = oI (kpt O m k)) 10 _ (by omega) ?_ ?_ ⟨by show nI m = nI (m / 1); rw [Nat.div_one], rfl, fun k hk => by omega⟩
  · rintro i ⟨rs, v, kp1⟩ hi ⟨e1, e2, e3⟩
    dsimp only at e1 e2 e3
    subst e1
    subst e2
    have hl := (hO.2.1 i hi).1
    have hq : m / prd (bas O) i < 2 ^ 30 := Nat.lt_of_le_of_lt (Nat.div_le_self _ _) hm
    refine ⟨(nI (m / prd (bas O) (i + 1)), nI (i + 1), upd kp1 i (oI (kpt O m i))), ?_, rfl, rfl, fun k hk => ?_⟩
    · simp only [b_X6_takes_1]
      rw [show (10 : Int32) = nI 10 from rfl, if_neg (nI_ge hi (by omega)), if_pos (nI_in hi (by omega)), nI_clamp (by omega), (h i hi).1]
      have hd : m / prd (bas O) (i + 1) = m / prd (bas O) i / bas O i := by
        rw [Nat.div_div_eq_div_mul]
        rfl
      by_cases e : (O i).length = 0
      · rw [if_pos (by rw [e]; rfl), bs, if_pos (nI_in2 hi (by omega)), if_pos (by rw [e]; rfl), bs, nI_1, hd]
        unfold kpt bas
        rw [if_pos e, if_pos e, Nat.div_one]
        rfl
      · have hdl : m / prd (bas O) i % (O i).length < (O i).length := Nat.mod_lt _ (by omega)
        rw [if_neg (nI_ne0 (by omega) (by omega)), if_pos (nI_ne0 (by omega) (by omega)), nI_mod (by omega) (by omega), show (20 : Int32) = nI 20 from rfl, nI_mulO, nI_add, if_pos (nI_in (by omega) (by omega)), bs, if_pos (nI_in2 hi (by omega)), if_neg (nI_ne0 (by omega) (by omega)), if_pos (nI_ne0 (by omega) (by omega)), bs, nI_1, nI_clamp (by omega), (h i hi).2 _ hdl, nI_div (by omega) (by omega), hd]
        unfold kpt
        rw [if_neg e, dg_eq e]
        unfold bas
        rw [if_neg e]
        rfl
    · show upd kp1 i _ k = _
      unfold upd
      by_cases e : k = i
      · subst e; rw [if_pos rfl]
      · rw [if_neg e]; exact e3 k (by omega)
  · rintro ⟨rs, v, kp1⟩ ⟨e1, e2, e3⟩
    dsimp only at e1 e2 e3
    subst e2
    refine ⟨kp1, ?_, e3⟩
    simp only [b_X6_takes_1]
    rw [show (10 : Int32) = nI 10 from rfl, if_pos (nI_le (Nat.le_refl _) (by omega))]
theorem c_rowKeptBy {mn : Int32} {oc os sd tg : Nat → Int32} (h : CH n K T O mn oc os sd tg) {m k : Nat} (hm : m < 2 ^ 30) (hk : k < 10) : f_X0_rowKeptBy oc os sd (nI m) (nI k) = some (oI (kpt O m k)) := by
  obtain ⟨hO, h1, _, h3, _⟩ := h
  have hl := (hO.2.1 k hk).1
  have hp := hO.prd_le (k := k) (by omega)
  have hpp : 0 < prd (bas O) k := prd_pos (fun k _ => bas_pos O k)
  unfold f_X0_rowKeptBy
  rw [h1.optionsOf hk, bs, at_in hk (by omega), bs, h3 k hk]
  have hq : m / prd (bas O) k < 2 ^ 30 := Nat.lt_of_le_of_lt (Nat.div_le_self _ _) hm
  by_cases e : (O k).length = 0
  · rw [e, if_pos (by decide)]
    unfold kpt
    rw [if_pos e]
    rfl
  · have hdl : m / prd (bas O) k % (O k).length < (O k).length := Nat.mod_lt _ (by omega)
    rw [show (1 : Int32) = nI 1 from rfl, if_neg (nI_nlt (by omega) (by omega)), if_pos (nI_le (by omega) (by omega)), if_pos (nI_ne0 (by omega) (by omega)), if_pos (nI_ne0 (by omega) (by omega)), nI_div (by omega) (by omega), nI_mod (by omega) (by omega), h1.option hk hdl hl, bs]
    unfold kpt
    rw [if_neg e, dg_eq e]
    rfl
end CHS
