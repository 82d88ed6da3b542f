/-! the model's question about a way, over all mendings; ways counted -/
section MW
variable {n : Nat} {K V G T : Nat → Nat} {O : Nat → List Nat} {pf : Bool} {al my ch : Nat → Int32}
theorem few_step {o : Option Nat} {f : Nat → Option Nat} {i x : Nat} (ho : mnO f i = o) (hx : f i = some x) (hb : ∀ y, o = some y → y < 1000) (hx2 : x < 1000) : (if oI o = -5 then some (nI x) else (if oI o ≤ nI x then some (oI o) else some (nI x))) = some (oI (mnO f (i + 1))) := by
  unfold mnO
  rw [hx, ho]
  cases o with
  | none => rfl
  | some y =>
    have hy := hb y rfl
    rw [show oI (some y) = nI y from rfl, if_neg (nI_ne5 (by omega))]
    try dsimp only
    by_cases q : x < y
    · rw [if_neg (nI_ge q (by omega)), if_pos q]
      rfl
    · rw [if_pos (nI_le (by omega) (by omega)), if_neg q]
      rfl
theorem mnO_lt {f : Nat → Option Nat} {B : Nat} (h : ∀ m y, f m = some y → y < B) : ∀ i y, mnO f i = some y → y < B := by
  intro i
  induction i with
  | zero => intro y h; cases h
  | succ i ih =>
    intro y hy
    unfold mnO at hy
    cases hf : f i with
    | none => rw [hf] at hy; exact ih y hy
    | some a =>
      rw [hf] at hy
      cases hm : mnO f i with
      | none => rw [hm] at hy; cases hy; exact h i _ hf
      | some b =>
        rw [hm] at hy
        try dsimp only at hy
        split at hy <;> cases hy
        · exact h i _ hf
        · exact ih _ hm
theorem lowP_lt {p : Nat → Bool} {n x : Nat} (h : lowP p n = some x) : x < n := (lowP_some.mp h).1
theorem lowP_fail {f : Nat → Option Nat} {M : Nat} : (lowP (fun m => !(f m).isSome) M = none) ↔ ∀ m, m < M → (f m).isSome = true := by
  rw [lowP_none]
  constructor
  · intro h m hm
    have := h m hm
    simpa using this
  · intro h m hm
    rw [h m hm]
    rfl
theorem oI_m5 {o : Option Nat} (h : ∀ y, o = some y → y < 2 ^ 31) : oI o = -5 ↔ o = none := by
  cases o with
  | none => exact ⟨fun _ => rfl, fun _ => rfl⟩
  | some y => exact ⟨fun e => absurd e (nI_ne5 (h y rfl)), fun e => (by cases e)⟩
end MW
