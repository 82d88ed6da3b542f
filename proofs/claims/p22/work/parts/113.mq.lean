/-! the model's queries of its table -/
def dB (p : Int32) (N : Nat) : Bool := decide (0 ≤ p.toInt ∧ p.toInt < (N : Int))
theorem dB_of {p : Int32} {N : Nat} (h : dB p N = true) (hN : N < 2 ^ 31) : ∃ j, j < N ∧ p = nI j := vp_in_of (vp_in_iff.mpr (of_decide_eq_true h)) hN
theorem dB_nI {j N : Nat} (hj : j < 2 ^ 31) : dB (nI j) N = decide (j < N) := by
  unfold dB
  rw [nI_toInt hj]
  congr 1
  apply propext
  omega
theorem isB_bI (b : Bool) : isB (bI b) := by cases b <;> decide
theorem c_isKey (p : Int32) : f_X5_isKey p = some (bI (dB p 10)) := by
  unfold f_X5_isKey dB
  have h1 : (0 : Int32).toInt = 0 := by decide
  have h2 : (10 : Int32).toInt = 10 := by decide
  by_cases a : p < 0
  · have a' := Int32.lt_iff_toInt_lt.mp a
    rw [if_pos a, decide_eq_false (by omega)]
    rfl
  · have a' : ¬ p.toInt < (0 : Int32).toInt := fun h => a (Int32.lt_iff_toInt_lt.mpr h)
    rw [if_neg a]
    by_cases b : (10 : Int32) ≤ p
    · have b' := Int32.le_iff_toInt_le.mp b
      rw [if_pos b, decide_eq_false (by omega)]
      rfl
    · have b' : ¬ (10 : Int32).toInt ≤ p.toInt := fun h => b (Int32.le_iff_toInt_le.mpr h)
      rw [if_neg b, decide_eq_true (by omega)]
      rfl
def vB (p : Int32) : Bool := decide (97 ≤ p.toInt ∧ p.toInt ≤ 104)
theorem c_isValue (p : Int32) : f_X5_isValue p = some (bI (vB p)) := by
  unfold f_X5_isValue vB
  have h1 : (97 : Int32).toInt = 97 := by decide
  have h2 : (104 : Int32).toInt = 104 := by decide
  by_cases a : p < 97
  · have a' := Int32.lt_iff_toInt_lt.mp a
    rw [if_pos a, decide_eq_false (by omega)]
    rfl
  · have a' : ¬ p.toInt < (97 : Int32).toInt := fun h => a (Int32.lt_iff_toInt_lt.mpr h)
    rw [if_neg a]
    by_cases b : (104 : Int32) < p
    · have b' := Int32.lt_iff_toInt_lt.mp b
      rw [if_pos b, decide_eq_false (by omega)]
      rfl
    · have b' : ¬ (104 : Int32).toInt < p.toInt := fun h => b (Int32.lt_iff_toInt_lt.mpr h)
      rw [if_neg b, decide_eq_true (by omega)]
      rfl
theorem vB_of {p : Int32} (h : vB p = true) : ∃ v, v < 8 ∧ p = nI (97 + v) := by
  have h1 := of_decide_eq_true h
  obtain ⟨j, hj, rfl⟩ := vp_in_of (n := 105) (show vp_in p 105 from vp_in_iff.mpr (by omega)) (by omega)
  rw [nI_toInt (by omega)] at h1
  exact ⟨j - 97, by omega, by congr 1; omega⟩
theorem c_oneIf (b : Bool) : f_X5_oneIf (bI b) = some (bI b) := by cases b <;> rfl
theorem of_idx (j w : Nat) : (2 + (4 * nI j)) + nI w = nI (2 + 4 * j + w) := by
  rw [show (4 : Int32) = nI 4 from rfl, nI_mulO, show (2 : Int32) = nI 2 from rfl, nI_add, nI_add]
section MQ
variable {n : Nat} {K V G T : Nat → Nat} {pf : Bool} {al : Nat → Int32}
theorem nI_sub_le0 {a b : Nat} (ha : a < 1000) (hb : b < 1000) : (nI a - nI b ≤ 0) ↔ a ≤ b := by
  rw [Int32.le_iff_toInt_le, Int32.toInt_sub, nI_toInt (by omega), nI_toInt (by omega)]
  have h0 : (0 : Int32).toInt = 0 := by decide
  rw [h0, Int.bmod_eq_of_le (by omega) (by omega)]
  omega
end MQ
