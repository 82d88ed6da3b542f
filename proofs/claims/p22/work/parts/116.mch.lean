/-! the model's choices; what a mending keeps; ways, both sides -/
theorem iter_inv2 {σ ρ : Type} (b : σ → Option (σ ⊕ ρ)) (I : Nat → σ → Prop) (n : Nat) (post : ρ → Prop) (hn : n < 100000000) (hs : ∀ i s, i < n → I i s → (∃ t, b s = some (.inl t) ∧ I (i + 1) t) ∨ (∃ r, b s = some (.inr r) ∧ post r)) (he : ∀ s, I n s → ∃ r, b s = some (.inr r) ∧ post r) {s0 : σ} (h0 : I 0 s0) : ∃ r, iter fuel b s0 = some r ∧ post r := by
  have key : ∀ d i s f, i + d = n → d < f → I i s → ∃ r, iter f b s = some r ∧ post r := by
    intro d
    induction d with
    | zero =>
      intro i s f hi hf hI
      obtain ⟨f, rfl⟩ : ∃ g, f = g + 1 := ⟨f - 1, by omega⟩
      have : i = n := by omega
      subst this
      obtain ⟨r, h1, h2⟩ := he s hI
      refine ⟨r, ?_, h2⟩
      unfold iter
      rw [h1]
    | succ d ih =>
      intro i s f hi hf hI
      obtain ⟨f, rfl⟩ : ∃ g, f = g + 1 := ⟨f - 1, by omega⟩
      rcases hs i s (by omega) hI with ⟨t, h1, h2⟩ | ⟨r, h1, h2⟩
      · obtain ⟨r, h3, h4⟩ := ih (i + 1) t f (by omega) (by omega) h2
        refine ⟨r, ?_, h4⟩
        unfold iter
        rw [h1]
        exact h3
      · refine ⟨r, ?_, h2⟩
        unfold iter
        rw [h1]
  exact key n 0 s0 fuel (by omega) (by unfold fuel; omega) h0
theorem iter_inv_eq {σ ρ : Type} (b : σ → Option (σ ⊕ ρ)) {s0 : σ} {r : ρ} (S : Nat → σ) (n : Nat) (hn : n < 100000000) (h0 : s0 = S 0) (hs : ∀ i, i < n → b (S i) = some (.inl (S (i + 1)))) (he : b (S n) = some (.inr r)) : iter fuel b s0 = some r := by
  rw [h0]
  exact iter_for b S n r hs he fuel 0 (Nat.zero_le _) (by unfold fuel; omega)
theorem nI_div {a b : Nat} (ha : a < 2 ^ 31) (hb : b < 2 ^ 31) : nI a / nI b = nI (a / b) := by
  have h3 : a / b < 2 ^ 31 := Nat.lt_of_le_of_lt (Nat.div_le_self a b) ha
  apply Int32.toInt_inj.mp
  rw [Int32.toInt_div, nI_toInt ha, nI_toInt hb, nI_toInt h3, ← Int.ofNat_tdiv]
  have key : ∀ q : Nat, q < 2 ^ 31 → Int.bmod (q : Int) (2 ^ 32) = (q : Int) := fun q hq => Int.bmod_eq_of_le (by omega) (by omega)
  exact key _ h3
theorem nI_in2 {c N : Nat} (h : c < N) (hN : N < 2 ^ 31) : ¬ (nI c < 0 ∨ N ≤ c) := by
  have := nI_in h hN
  rw [nI_clamp (by omega)] at this
  exact this
theorem nI_mod {a b : Nat} (ha : a < 2 ^ 31) (hb : b < 2 ^ 31) : nI a - nI a / nI b * nI b = nI (a % b) := by
  have h1 : a / b * b ≤ a := Nat.div_mul_le_self a b
  rw [nI_div ha hb, nI_mulO, nI_subO h1]
  congr 1
  have := Nat.div_add_mod a b
  rw [Nat.mul_comm] at this
  omega
def cnF (n : Nat) (K G : Nat → Nat) (pf : Bool) (fo : Option Nat) (j : Nat) : Bool := match fo with
  | none => can n K G pf j
  | some r => if K r = K j then decide (j = r) else can n K G pf j
section MCH
variable {n : Nat} {K V G T : Nat → Nat} {pf : Bool} {al : Nat → Int32}
end MCH
section CHS
variable {n : Nat} {K T : Nat → Nat} {O : Nat → List Nat} {my ch : Nat → Int32}
/-- the row that mending m keeps of key k -/
def kpt (O : Nat → List Nat) (m k : Nat) : Option Nat := if (O k).length = 0 then none else some ((O k).getD (dg (bas O) m k) 0)
theorem dg_len {O : Nat → List Nat} {m k : Nat} (h : ¬ (O k).length = 0) : dg (bas O) m k < (O k).length := by
  have := dg_lt (N := bas O) (m := m) (k := k) (bas_pos O k)
  unfold bas at this
  rw [if_neg h] at this
  unfold bas
  exact this
theorem dg_eq {O : Nat → List Nat} {m k : Nat} (h : ¬ (O k).length = 0) : dg (bas O) m k = m / prd (bas O) k % (O k).length := by
  unfold dg
  rw [show bas O k = (O k).length by unfold bas; rw [if_neg h]]
theorem c_rowKeptBy {mn : Int32} {oc os sd tg : Nat → Int32} (h : CH n K T O mn oc os sd tg) {m k : Nat} (hm : m < 2 ^ 30) (hk : k < 10) : f_X0_rowKeptBy oc os sd (nI m) (nI k) = some (oI (kpt O m k)) := by
  obtain ⟨hO, h1, _, h3, _⟩ := h
  have hl := (hO.2.1 k hk).1
  have hp := hO.prd_le (k := k) (by omega)
  have hpp : 0 < prd (bas O) k := prd_pos (fun k _ => bas_pos O k)
  unfold f_X0_rowKeptBy
  rw [h1.optionsOf hk, bs, at_in hk (by omega), bs, h3 k hk]
  have hq : m / prd (bas O) k < 2 ^ 30 := Nat.lt_of_le_of_lt (Nat.div_le_self _ _) hm
  by_cases e : (O k).length = 0
  · rw [e, if_pos (by decide)]
    unfold kpt
    rw [if_pos e]
    rfl
  · have hdl : m / prd (bas O) k % (O k).length < (O k).length := Nat.mod_lt _ (by omega)
    rw [show (1 : Int32) = nI 1 from rfl, if_neg (nI_nlt (by omega) (by omega)), if_pos (nI_le (by omega) (by omega)), if_pos (nI_ne0 (by omega) (by omega)), if_pos (nI_ne0 (by omega) (by omega)), nI_div (by omega) (by omega), nI_mod (by omega) (by omega), h1.option hk hdl hl, bs]
    unfold kpt
    rw [if_neg e, dg_eq e]
    rfl
end CHS
