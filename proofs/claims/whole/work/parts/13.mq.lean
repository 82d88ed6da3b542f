/-! the model's queries of its table -/
def dB (p : Int32) (N : Nat) : Bool := decide (0 ≤ p.toInt ∧ p.toInt < (N : Int))
theorem dB_of {p : Int32} {N : Nat} (h : dB p N = true) (hN : N < 2 ^ 31) : ∃ j, j < N ∧ p = nI j := vp_in_of (vp_in_iff.mpr (of_decide_eq_true h)) hN
theorem dB_nI {j N : Nat} (hj : j < 2 ^ 31) : dB (nI j) N = decide (j < N) := by
  unfold dB
  rw [nI_toInt hj]
  congr 1
  apply propext
  omega
theorem m_in (a : Int32) (lo hi : Int64) : f_X6_in (Int32.toInt64 a) lo hi = some (bI (decide (lo.toInt ≤ a.toInt ∧ a.toInt ≤ hi.toInt))) := by
  unfold f_X6_in
  by_cases h1 : lo.toInt ≤ a.toInt
  · rw [if_neg (by rw [lg_cmp_lt, Int64.lt_iff_toInt_lt, Int32.toInt_toInt64]; omega)]
    by_cases h2 : a.toInt ≤ hi.toInt
    · rw [if_neg (by rw [lg_cmp_gt, Int64.lt_iff_toInt_lt, Int32.toInt_toInt64]; omega)]
      simp [h1, h2, bI]
    · rw [if_pos (by rw [lg_cmp_gt, Int64.lt_iff_toInt_lt, Int32.toInt_toInt64]; omega)]
      simp [h2, bI]
  · rw [if_pos (by rw [lg_cmp_lt, Int64.lt_iff_toInt_lt, Int32.toInt_toInt64]; omega)]
    simp [h1, bI]
theorem m_in' (a lo hi : Int32) : f_X6_in (Int32.toInt64 a) (Int32.toInt64 lo) (Int32.toInt64 hi) = some (bI (decide (lo.toInt ≤ a.toInt ∧ a.toInt ≤ hi.toInt))) := by
  rw [m_in, Int32.toInt_toInt64, Int32.toInt_toInt64]
theorem isB_bI (b : Bool) : isB (bI b) := by cases b <;> decide
theorem m_isKey (p : Int32) : f_X6_isKey p = some (bI (dB p 10)) := by
  unfold f_X6_isKey
  rw [m_in, bs, if_pos (isB_bI _)]
  unfold dB
  congr 2
  apply decide_eq_decide.mpr
  have h1 : (0 : Int64).toInt = 0 := by decide
  have h2 : (9 : Int64).toInt = 9 := by decide
  rw [h1, h2]
  omega
theorem c_isKey (p : Int32) : f_X5_isKey p = some (bI (dB p 10)) := by
  unfold f_X5_isKey dB
  have h1 : (0 : Int32).toInt = 0 := by decide
  have h2 : (10 : Int32).toInt = 10 := by decide
  by_cases a : p < 0
  · have a' := Int32.lt_iff_toInt_lt.mp a
    rw [if_pos a, decide_eq_false (by omega)]
    rfl
  · have a' : ¬ p.toInt < (0 : Int32).toInt := fun h => a (Int32.lt_iff_toInt_lt.mpr h)
    rw [if_neg a]
    by_cases b : (10 : Int32) ≤ p
    · have b' := Int32.le_iff_toInt_le.mp b
      rw [if_pos b, decide_eq_false (by omega)]
      rfl
    · have b' : ¬ (10 : Int32).toInt ≤ p.toInt := fun h => b (Int32.le_iff_toInt_le.mpr h)
      rw [if_neg b, decide_eq_true (by omega)]
      rfl
def vB (p : Int32) : Bool := decide (97 ≤ p.toInt ∧ p.toInt ≤ 104)
theorem m_isValue (p : Int32) : f_X6_isValue p = some (bI (vB p)) := by
  unfold f_X6_isValue
  rw [m_in, bs, if_pos (isB_bI _)]
  rfl
theorem c_isValue (p : Int32) : f_X5_isValue p = some (bI (vB p)) := by
  unfold f_X5_isValue vB
  have h1 : (97 : Int32).toInt = 97 := by decide
  have h2 : (104 : Int32).toInt = 104 := by decide
  by_cases a : p < 97
  · have a' := Int32.lt_iff_toInt_lt.mp a
    rw [if_pos a, decide_eq_false (by omega)]
    rfl
  · have a' : ¬ p.toInt < (97 : Int32).toInt := fun h => a (Int32.lt_iff_toInt_lt.mpr h)
    rw [if_neg a]
    by_cases b : (104 : Int32) < p
    · have b' := Int32.lt_iff_toInt_lt.mp b
      rw [if_pos b, decide_eq_false (by omega)]
      rfl
    · have b' : ¬ (104 : Int32).toInt < p.toInt := fun h => b (Int32.lt_iff_toInt_lt.mpr h)
      rw [if_neg b, decide_eq_true (by omega)]
      rfl
theorem vB_of {p : Int32} (h : vB p = true) : ∃ v, v < 8 ∧ p = nI (97 + v) := by
  have h1 := of_decide_eq_true h
  obtain ⟨j, hj, rfl⟩ := vp_in_of (n := 105) (show vp_in p 105 from vp_in_iff.mpr (by omega)) (by omega)
  rw [nI_toInt (by omega)] at h1
  exact ⟨j - 97, by omega, by congr 1; omega⟩
theorem c_oneIf (b : Bool) : f_X5_oneIf (bI b) = some (bI b) := by cases b <;> rfl
def MF (n : Nat) (K V G T : Nat → Nat) (pf : Bool) (al : Nat → Int32) : Prop :=
  al 0 = nI n ∧ al 1 = bI pf ∧ n ≤ 20 ∧ ∀ j, j < n → al (2 + 4 * j) = nI (K j) ∧ al (2 + 4 * j + 1) = nI (V j) ∧ al (2 + 4 * j + 2) = nI (G j) ∧ al (2 + 4 * j + 3) = tI (T j) ∧ K j < 10 ∧ V j < 8 ∧ G j < 100 ∧ T j ≤ 10
theorem of_idx (j w : Nat) : (2 + (4 * nI j)) + nI w = nI (2 + 4 * j + w) := by
  rw [show (4 : Int32) = nI 4 from rfl, nI_mulO, show (2 : Int32) = nI 2 from rfl, nI_add, nI_add]
theorem m_of {al : Nat → Int32} {j w : Nat} (hj : j < 20) (hw : w < 4) : f_X6_of al (nI j) (nI w) = some (al (2 + 4 * j + w)) := by
  unfold f_X6_of
  rw [of_idx, if_pos (nI_in (by omega) (by omega)), nI_clamp (by omega)]
section MQ
variable {n : Nat} {K V G T : Nat → Nat} {pf : Bool} {al : Nat → Int32}
theorem MF.key (h : MF n K V G T pf al) {j : Nat} (hj : j < n) : f_X6_of al (nI j) 0 = some (nI (K j)) := by
  rw [show (0 : Int32) = nI 0 from rfl, m_of (by have := h.2.2.1; omega) (by omega), Nat.add_zero, (h.2.2.2 j hj).1]
theorem MF.val (h : MF n K V G T pf al) {j : Nat} (hj : j < n) : f_X6_of al (nI j) 1 = some (nI (V j)) := by
  rw [show (1 : Int32) = nI 1 from rfl, m_of (by have := h.2.2.1; omega) (by omega), (h.2.2.2 j hj).2.1]
theorem MF.wgt (h : MF n K V G T pf al) {j : Nat} (hj : j < n) : f_X6_of al (nI j) 2 = some (nI (G j)) := by
  rw [show (2 : Int32) = nI 2 from rfl, m_of (by have := h.2.2.1; omega) (by omega), (h.2.2.2 j hj).2.2.1]
theorem MF.tgt (h : MF n K V G T pf al) {j : Nat} (hj : j < n) : f_X6_of al (nI j) 3 = some (tI (T j)) := by
  rw [show (3 : Int32) = nI 3 from rfl, m_of (by have := h.2.2.1; omega) (by omega), (h.2.2.2 j hj).2.2.2.1]
theorem MF.isRow (h : MF n K V G T pf al) (p : Int32) : f_X6_isRow al p = some (bI (dB p n)) := by
  unfold f_X6_isRow
  rw [m_in, bs, if_pos (isB_bI _), h.1]
  unfold dB
  congr 2
  apply decide_eq_decide.mpr
  have h1 : (0 : Int64).toInt = 0 := by decide
  have h2 : (Int32.toInt64 (nI n) - 1).toInt = (n : Int) - 1 := by
    have hn := h.2.2.1
    rw [Int64.toInt_sub, Int32.toInt_toInt64, nI_toInt (by omega)]
    have : (1 : Int64).toInt = 1 := by decide
    rw [this]
    rw [Int.bmod_eq_of_le (by omega) (by omega)]
  rw [h1, h2]
  omega
theorem MF.rowsOf (h : MF n K V G T pf al) (k : Nat) (hk : k < 10) : f_X6_rowsOf al (nI k) = some (nI (cntP (fun j => K j == k) n)) := by
  have h0 := h
  obtain ⟨h1, _, h2, h3⟩ := h
  unfold f_X6_rowsOf
  refine iter_go _ (fun i => (nI (cntP (fun j => K j == k) i), nI i)) n (by omega) rfl (fun i hi => ?_) ?_
  · have hKi := (h3 i hi).2.2.2.2.1
    simp only [b_X6_rowsOf_1, h1]
    rw [if_neg (nI_ge hi (by omega)), h0.key hi, bs]
    by_cases e : K i = k
    · rw [if_pos (by rw [e]), bs, nI_1, nI_1]
      simp only [cntP, e, beq_self_eq_true, if_true]
    · rw [if_neg (fun q => e ((nI_eq (by omega) (by omega)).mp q)), bs, nI_1, show (0 : Int32) = nI 0 from rfl, nI_add]
      have e2 : (K i == k) = false := by simpa using e
      simp only [cntP, e2]
      rfl
  · simp only [b_X6_rowsOf_1, h1]
    rw [if_pos (nI_le (Nat.le_refl n) (by omega))]
theorem MF.pointing (h : MF n K V G T pf al) (k : Nat) (hk : k < 10) : f_X6_pointing al (nI k) = some (nI (cntP (fun j => T j == k) n)) := by
  have h0 := h
  obtain ⟨h1, _, h2, h3⟩ := h
  unfold f_X6_pointing
  refine iter_go _ (fun i => (nI (cntP (fun j => T j == k) i), nI i)) n (by omega) rfl (fun i hi => ?_) ?_
  · simp only [b_X6_pointing_1, h1]
    rw [if_neg (nI_ge hi (by omega)), h0.tgt hi, bs]
    by_cases e : T i = k
    · rw [if_pos ((tI_eq hk).mpr e), bs, nI_1, nI_1]
      simp only [cntP, e, beq_self_eq_true, if_true]
    · rw [if_neg (fun q => e ((tI_eq hk).mp q)), bs, nI_1, show (0 : Int32) = nI 0 from rfl, nI_add]
      have e2 : (T i == k) = false := by simpa using e
      simp only [cntP, e2]
      rfl
  · simp only [b_X6_pointing_1, h1]
    rw [if_pos (nI_le (Nat.le_refl n) (by omega))]
theorem MF.keysWith (h : MF n K V G T pf al) (c : Nat) (hc : c < 100) : f_X6_keysWith al (nI c) = some (nI (cntP (fun k => decide (c ≤ cntP (fun j => K j == k) n)) 10)) := by
  have h2 := h.2.2.1
  unfold f_X6_keysWith
  refine iter_go _ (fun i => (nI (cntP (fun k => decide (c ≤ cntP (fun j => K j == k) n)) i), nI i)) 10 (by omega) rfl (fun i hi => ?_) ?_
  · simp only [b_X6_keysWith_1]
    have hle := cntP_le (fun j => K j == i) n
    rw [show (10 : Int32) = nI 10 from rfl, if_neg (nI_ge hi (by omega)), h.rowsOf i hi, bs]
    by_cases e : c ≤ cntP (fun j => K j == i) n
    · rw [if_neg (nI_nlt e (by omega)), bs, nI_1, nI_1]
      simp only [cntP, e, decide_true, if_true]
    · rw [if_pos (nI_lt (by omega) (by omega)), bs, nI_1, show (0 : Int32) = nI 0 from rfl, nI_add]
      simp only [cntP, e, decide_false]
      rfl
  · simp only [b_X6_keysWith_1]
    rw [show (10 : Int32) = nI 10 from rfl, if_pos (nI_le (Nat.le_refl _) (by omega))]
theorem nI_sub_le0 {a b : Nat} (ha : a < 1000) (hb : b < 1000) : (nI a - nI b ≤ 0) ↔ a ≤ b := by
  rw [Int32.le_iff_toInt_le, Int32.toInt_sub, nI_toInt (by omega), nI_toInt (by omega)]
  have h0 : (0 : Int32).toInt = 0 := by decide
  rw [h0, Int.bmod_eq_of_le (by omega) (by omega)]
  omega
theorem MF.outermost (h : MF n K V G T pf al) (up : Bool) (k : Nat) (hk : k < 10) : f_X6_outermost al (nI k) (bI up) = some (oI (bestP K G up k n)) := by
  have h0 := h
  obtain ⟨h1, _, h2, h3⟩ := h
  unfold f_X6_outermost
  refine iter_go _ (fun i => (oI (bestP K G up k i), nI i)) n (by omega) rfl (fun i hi => ?_) ?_
  · have hKi := (h3 i hi).2.2.2.2.1
    have hGi := (h3 i hi).2.2.2.2.2.2.1
    simp only [b_X6_outermost_1, h1]
    rw [if_neg (nI_ge hi (by omega)), h0.key hi, bs]
    by_cases e : K i = k
    · rw [if_pos (by rw [e])]
      cases hb : bestP K G up k i with
      | none =>
        rw [show oI none = -5 from rfl, if_pos rfl, bs, if_neg (by decide), bs, bs, nI_1]
        simp only [bestP, e, hb, if_true]
        rfl
      | some c =>
        obtain ⟨hc, _⟩ := bestP_lt i c hb
        have hGc := (h3 c (by omega)).2.2.2.2.2.2.1
        rw [show oI (some c) = nI c from rfl, if_neg (nI_ne5 (by omega))]
        cases up with
        | false =>
          rw [if_pos (by rfl), h0.wgt (by omega), bs, h0.wgt hi, bs, bs]
          by_cases g : G i < G c
          · rw [if_neg (by rw [nI_sub_le0 (by omega) (by omega)]; omega), bs, bs, nI_1]
            simp only [bestP, e, hb, g, if_true]
            rfl
          · rw [if_pos (by rw [nI_sub_le0 (by omega) (by omega)]; omega), bs, bs, nI_1]
            simp only [bestP, e, hb, g, if_true, if_false]
            rfl
        | true =>
          rw [if_neg (by decide), h0.wgt hi, bs, h0.wgt (by omega), bs, bs]
          by_cases g : G c < G i
          · rw [if_neg (by rw [nI_sub_le0 (by omega) (by omega)]; omega), bs, bs, nI_1]
            simp only [bestP, e, hb, g, if_true]
            rfl
          · rw [if_pos (by rw [nI_sub_le0 (by omega) (by omega)]; omega), bs, bs, nI_1]
            simp only [bestP, e, hb, g, if_true, if_false]
            rfl
    · rw [if_neg (fun q => e ((nI_eq (by omega) (by omega)).mp q)), bs, nI_1]
      simp only [bestP, e, if_false]
  · simp only [b_X6_outermost_1, h1]
    rw [if_pos (nI_le (Nat.le_refl n) (by omega))]
theorem MF.canBeKept (h : MF n K V G T pf al) {j : Nat} (hj : j < n) : f_X6_canBeKept al (nI j) = some (bI (can n K G pf j)) := by
  have h0 := h
  obtain ⟨h1, hp, h2, h3⟩ := h
  unfold f_X6_canBeKept
  rw [hp]
  cases pf with
  | false => rfl
  | true =>
    have hup := h0.outermost true (K j) (h3 j hj).2.2.2.2.1
    rw [if_neg (by decide), h0.wgt hj, bs, h0.key hj, bs, show (1 : Int32) = bI true from rfl, hup, bs]
    obtain ⟨b, hb⟩ := bestP_some (K := K) (G := G) (up := true) n hj
    obtain ⟨hb1, _⟩ := bestP_lt n b hb
    have hG1 := (h3 j hj).2.2.2.2.2.2.1
    have hG2 := (h3 b hb1).2.2.2.2.2.2.1
    rw [hb, show oI (some b) = nI b from rfl, h0.wgt hb1, bs]
    unfold can
    rw [hb]
    by_cases e : G j = G b
    · rw [if_pos (by rw [e])]
      simp [e, bI]
    · rw [if_neg (fun q => e ((nI_eq (by omega) (by omega)).mp q))]
      simp [e, bI]
theorem MF.lastOf (h : MF n K V G T pf al) (k : Nat) (hk : k < 10) : f_X6_lastOf al (nI k) = some (oI (lastP (fun j => K j == k) n)) := by
  have h0 := h
  obtain ⟨h1, _, h2, h3⟩ := h
  unfold f_X6_lastOf
  refine iter_go _ (fun i => (oI (lastP (fun j => K j == k) i), nI i)) n (by omega) rfl (fun i hi => ?_) ?_
  · have hKi := (h3 i hi).2.2.2.2.1
    simp only [b_X6_lastOf_1, h1]
    rw [if_neg (nI_ge hi (by omega)), h0.key hi, bs]
    by_cases e : K i = k
    · rw [if_pos (by rw [e]), bs, nI_1]
      simp only [lastP, e, beq_self_eq_true, if_true]
      rfl
    · have e2 : (K i == k) = false := by simpa using e
      rw [if_neg (fun q => e ((nI_eq (by omega) (by omega)).mp q)), bs, nI_1]
      simp only [lastP, e2]
      rfl
  · simp only [b_X6_lastOf_1, h1]
    rw [if_pos (nI_le (Nat.le_refl n) (by omega))]
theorem MF.firstOf (h : MF n K V G T pf al) (k : Nat) (hk : k < 10) {a : Nat} (hl : lowP (fun j => K j == k) n = some a) : f_X6_firstOf al (nI k) = some (nI a) := by
  have h0 := h
  obtain ⟨h1, _, h2, h3⟩ := h
  obtain ⟨ha, hp, hm⟩ := lowP_some.mp hl
  unfold f_X6_firstOf
  refine iter_go _ (fun i => nI i) a (by omega) rfl (fun i hi => ?_) ?_
  · have hKi := (h3 i (by omega)).2.2.2.2.1
    simp only [b_X6_firstOf_1]
    rw [h0.key (by omega), bs]
    have e : ¬ K i = k := by simpa using hm i hi
    rw [if_neg (fun q => e ((nI_eq (by omega) (by omega)).mp q)), nI_1]
  · have e : K a = k := by simpa using hp
    simp only [b_X6_firstOf_1]
    rw [h0.key ha, bs, if_pos (by rw [e])]
end MQ
