/-! counts: sure rows; sure and possible ways, both sides -/
theorem bitc_val : ∀ x, x < 1024 → f_J6_bitCount_0f7a4 (nI x) = some (nI (cntP (fun i => (nI x).toBitVec.getLsbD i) 10)) := by decide +kernel
theorem MB_small {x : Int32} {s : Nat → Prop} (h : MB x s) (h10 : ∀ i, s i → i < 10) : ∃ m, m < 1024 ∧ x = nI m := by
  have hlt : x.toBitVec.toNat < 2 ^ 10 := by
    refine Nat.lt_pow_two_of_testBit _ (fun i hi => ?_)
    rw [← BitVec.getLsbD]
    rcases Nat.lt_or_ge i 32 with q | q
    · cases hb : x.toBitVec.getLsbD i with
      | false => rfl
      | true =>
        have := h10 i ((h i q).mp hb)
        omega
    · exact BitVec.getLsbD_of_ge _ _ q
  refine ⟨x.toBitVec.toNat, hlt, ?_⟩
  apply Int32.toBitVec_inj.mp
  show x.toBitVec = (Int32.ofNat x.toBitVec.toNat).toBitVec
  rw [Int32.toBitVec_ofNat', BitVec.ofNat_toNat, BitVec.setWidth_eq]
theorem c_bitCount {x : Int32} {s : Nat → Prop} (h : MB x s) (h10 : ∀ i, s i → i < 10) : f_J6_bitCount_0f7a4 x = some (nI (cntP (fun i => cb (s i)) 10)) := by
  obtain ⟨m, hm, rfl⟩ := MB_small h h10
  rw [bitc_val m hm]
  congr 2
  refine cntP_congr (fun i hi => ?_)
  have := h i (by omega)
  cases hb : (nI m).toBitVec.getLsbD i with
  | true => exact (cb_iff.mpr (this.mp hb)).symm
  | false => exact (cb_false.mpr (fun q => by rw [this.mpr q] at hb; cases hb)).symm
theorem sumP_lt10 {f : Nat → Nat} (h : ∀ k, f k ≤ 10) : ∀ i, i ≤ 10 → sumP f i ≤ 10 * i := by
  intro i
  induction i with
  | zero => intro _; exact Nat.le_refl _
  | succ i ih =>
    intro hi
    have := ih (by omega)
    have := h i
    unfold sumP
    omega
theorem cntP_sum (p : Nat → Nat → Bool) : ∀ i, cntP (fun j => p (j / 10) (j % 10)) (10 * i) = sumP (fun a => cntP (p a) 10) i := by
  intro i
  induction i with
  | zero => rfl
  | succ i ih =>
    rw [Nat.mul_add, Nat.mul_one, cntP_add, ih, sumP_succ]
    congr 1
    refine cntP_congr (fun j hj => ?_)
    rw [Nat.mul_add_div (by omega), Nat.div_eq_of_lt hj, Nat.add_zero, Nat.mul_add_mod, Nat.mod_eq_of_lt hj]
theorem sumP_add (f g : Nat → Nat) (n : Nat) : sumP (fun k => f k + g k) n = sumP f n + sumP g n := by
  induction n with
  | zero => rfl
  | succ n ih => unfold sumP; rw [ih]; omega
theorem sumP_swap (p : Nat → Nat → Bool) (A B : Nat) : sumP (fun a => cntP (fun b => p a b) B) A = sumP (fun b => cntP (fun a => p a b) A) B := by
  induction A with
  | zero =>
    show 0 = sumP (fun b => cntP (fun a => p a b) 0) B
    induction B with
    | zero => rfl
    | succ B ih => unfold sumP; rw [← ih]; rfl
  | succ A ih =>
    show sumP (fun a => cntP (fun b => p a b) B) A + cntP (fun b => p A b) B = sumP (fun b => cntP (fun a => p a b) A + (if p A b then 1 else 0)) B
    rw [sumP_add, ih]
    congr 1
    clear ih
    induction B with
    | zero => rfl
    | succ B ih => unfold cntP sumP; rw [ih]
section CNTC
variable {n : Nat} {K V G T : Nat → Nat} {pf : Bool} {nr : Int32} {ks vs wg ts : Nat → Int32} {mn : Int32} {O : Nat → List Nat} {oc os sd tg : Nat → Int32}
theorem SG_lt {b : Nat} (r k : Nat) (h : SG (thO O) (tsO O T) b r k) : k < 10 := (SG_th r k h).1
theorem c_sureWays (h1 : CHo O 10 oc os) (hl : ∀ k, k < 10 → (O k).length ≤ 20) (h : CHt O T tg) (hT : ∀ k, k < 10 → ∀ j, j ∈ O k → T j ≤ 10) : f_X0_sureWays oc tg = some (nI (sumP (fun b => cntP (fun a => cb (SG (thO O) (tsO O T) b 9 a)) 10) 10)) := by
  unfold f_X0_sureWays
  refine iter_inv_eq _ (fun i => (nI (sumP (fun b => cntP (fun a => cb (SG (thO O) (tsO O T) b 9 a)) 10) i), nI i)) 10 (by omega) rfl (fun i hi => ?_) ?_
  · obtain ⟨x, g1, g2⟩ := c_sureReach h1 hl h hT hi
    simp only [b_X0_sureWays_1]
    rw [show (10 : Int32) = nI 10 from rfl, if_neg (nI_ge hi (by omega)), g1, bs, c_bitCount g2 (SG_lt 9), bs, nI_add, nI_1]
    rfl
  · simp only [b_X0_sureWays_1]
    rw [show (10 : Int32) = nI 10 from rfl, if_pos (nI_le (Nat.le_refl _) (by omega))]
theorem c_possibleWays (h1 : CHo O 10 oc os) (hl : ∀ k, k < 10 → (O k).length ≤ 20) (h : CHt O T tg) : f_X0_possibleWays oc tg = some (nI (sumP (fun b => cntP (fun a => cb (RG (thO O) (tsO O T) b 9 a)) 10) 10)) := by
  unfold f_X0_possibleWays
  refine iter_inv_eq _ (fun i => (nI (sumP (fun b => cntP (fun a => cb (RG (thO O) (tsO O T) b 9 a)) 10) i), nI i)) 10 (by omega) rfl (fun i hi => ?_) ?_
  · obtain ⟨x, g1, g2⟩ := c_canReach h1 hl h hi
    simp only [b_X0_possibleWays_1]
    rw [show (10 : Int32) = nI 10 from rfl, if_neg (nI_ge hi (by omega)), g1, bs, c_bitCount g2 (RG_lt 9), bs, nI_add, nI_1]
    rfl
  · simp only [b_X0_possibleWays_1]
    rw [show (10 : Int32) = nI 10 from rfl, if_pos (nI_le (Nat.le_refl _) (by omega))]
def srB (O : Nat → List Nat) (n : Nat) (K G : Nat → Nat) (pf : Bool) (j : Nat) : Bool := can n K G pf j && decide ((O (K j)).length = 1)
theorem c_isSureRow (h : TF n K V G T nr ks vs wg ts) (hO : OK n K O) (h1 : CHo O 10 oc os) {j : Nat} (hj : j < n) : f_X0_isSureRow oc nr (bI pf) ks wg (nI j) = some (bI (srB O n K G pf j)) := by
  have hKj := (h.2.2 j hj).2.2.2.2.1
  have hl := (hO.2.1 (K j) hKj).1
  unfold f_X0_isSureRow srB
  rw [h.canBeKept pf hj, bs]
  cases hc : can n K G pf j with
  | false => rw [if_pos (by decide), Bool.false_and]; rfl
  | true =>
    rw [if_neg (by decide), h.keyAt hj, bs, h1.optionsOf hKj, bs, Bool.true_and]
    by_cases e : (O (K j)).length = 1
    · rw [if_pos (by rw [e]; rfl), decide_eq_true e]; rfl
    · rw [if_neg (show ¬ nI _ = 1 from fun z => e ((nI_eq (b := 1) (by omega) (by omega)).mp z)), decide_eq_false e]; rfl
theorem c_sureRows (h : TF n K V G T nr ks vs wg ts) (hO : OK n K O) (h1 : CHo O 10 oc os) : f_X0_sureRows oc nr (bI pf) ks wg = some (nI (cntP (srB O n K G pf) n)) := by
  have hn := h.2.1
  unfold f_X0_sureRows
  refine iter_inv_eq _ (fun i => (nI (cntP (srB O n K G pf) i), nI i)) n (by omega) rfl (fun i hi => ?_) ?_
  · simp only [b_X0_sureRows_1]
    rw [show f_X3_size nr = some (nI n) by rw [h.1]; rfl, bs, if_neg (nI_ge hi (by omega)), c_isSureRow h hO h1 hi, bs, ← cnt_step]
    cases hs : srB O n K G pf i with
    | true => rw [if_neg (by decide), bs, nI_1, nI_1]; show some (Sum.inl (_, _)) = some (Sum.inl (_ + nI 1, _)); rw [nI_add]
    | false => rw [if_pos (by decide), bs, nI_1]; show some (Sum.inl (_, _)) = some (Sum.inl (_ + nI 0, _)); rw [nI_add]; rfl
  · simp only [b_X0_sureRows_1]
    rw [show f_X3_size nr = some (nI n) by rw [h.1]; rfl, bs, if_pos (nI_le (Nat.le_refl _) (by omega))]
end CNTC
section CNTM
variable {n : Nat} {K V G T : Nat → Nat} {pf : Bool} {al : Nat → Int32}
theorem m_isSure (h : MF n K V G T pf al) (ch my : Nat → Int32) {j : Nat} (hj : j < n) : ∃ ch' my', f_X6_isSure (-5) al ch my (nI j) = some (bI (srB (Of n K G pf none) n K G pf j), ch', my') := by
  obtain ⟨ch', my', g1, g2⟩ := m_finds h none (fun r hr => by cases hr) ch my
  have hO := OK_op (K := K) (can n K G pf) h.2.2.1
  rw [show (fun k => op K (cnF n K G pf none) k n) = Of n K G pf none from rfl] at g2
  rw [show (fun k => op K (can n K G pf) k n) = Of n K G pf none from rfl] at hO
  have hKj := (h.2.2.2 j hj).2.2.2.2.1
  have hl := (hO.2.1 (K j) hKj).1
  unfold f_X6_isSure srB
  rw [show (-5 : Int32) = oI none from rfl, g1, bs]
  try dsimp only
  rw [h.canBeKept hj, bs]
  cases hc : can n K G pf j with
  | false => rw [if_pos (by decide), Bool.false_and]; exact ⟨_, _, rfl⟩
  | true =>
    rw [if_neg (by decide), h.key hj, bs, if_pos (nI_in hKj (by omega)), nI_clamp (by omega), (g2 (K j) hKj).1, Bool.true_and]
    by_cases e : (Of n K G pf none (K j)).length = 1
    · rw [if_pos (by rw [e]; rfl), decide_eq_true e]; exact ⟨_, _, rfl⟩
    · rw [if_neg (show ¬ nI _ = 1 from fun z => e ((nI_eq (b := 1) (by omega) (by omega)).mp z)), decide_eq_false e]; exact ⟨_, _, rfl⟩
theorem m_sureRows (h : MF n K V G T pf al) (ch my : Nat → Int32) : ∃ ch' my', f_X6_sureRows (-5) al ch my = some (nI (cntP (srB (Of n K G pf none) n K G pf) n), ch', my') := by
  have hn := h.2.2.1
  unfold f_X6_sureRows
  obtain ⟨r, g1, ch', my', g2⟩ := iter_inv2 (b_X6_sureRows_1 (-5) al) (fun i z => z.1 = nI (cntP (srB (Of n K G pf none) n K G pf) i) ∧ z.2.1 = nI i) n (fun r => ∃ ch' my', r = (nI (cntP (srB (Of n K G pf none) n K G pf) n), ch', my')) (by omega) (by
    rintro i ⟨c, v, ch, my⟩ hi ⟨e1, e2⟩
    dsimp only at e1 e2
    subst e1 e2
    obtain ⟨ch2, my2, g3⟩ := m_isSure h ch my hi
    simp only [b_X6_sureRows_1]
    rw [h.1, if_neg (nI_ge hi (by omega)), g3, bs]
    try dsimp only
    have hx : (if bI (srB (Of n K G pf none) n K G pf i) = 0 then some (0 : Int32) else some 1) = some (bI (srB (Of n K G pf none) n K G pf i)) := by
      cases srB (Of n K G pf none) n K G pf i <;> rfl
    rw [hx, bs, nI_1, cnt_step]
    exact Or.inl ⟨_, rfl, rfl, rfl⟩) (by
    rintro ⟨c, v, ch, my⟩ ⟨e1, e2⟩
    dsimp only at e1 e2
    subst e1 e2
    simp only [b_X6_sureRows_1]
    rw [h.1, if_pos (nI_le (Nat.le_refl _) (by omega))]
    exact ⟨_, rfl, _, _, rfl⟩) (s0 := (0, 0, ch, my)) ⟨rfl, rfl⟩
  exact ⟨ch', my', by rw [g1, g2]⟩
noncomputable def wyC (O : Nat → List Nat) (T : Nat → Nat) (i k : Nat) : Nat := cntP (fun m => (wl O T (k / 10) (k % 10) m).isSome) i
theorem ways_pass (h : MF n K V G T pf al) {O : Nat → List Nat} (hO : OK n K O) {i : Nat} {kp wy : Nat → Int32} (hi : i < 2000000) (hk : ∀ k, k < 10 → kp k = oI (kpt O i k)) (hw : ∀ k, k < 100 → wy k = nI (wyC O T i k)) :
    ∃ wy', iter fuel (b_X6_waysThat_2 al (nI i) kp) (0, wy) = some (.inl (nI (i + 1), kp, wy')) ∧ ∀ k, k < 100 → wy' k = nI (wyC O T (i + 1) k) := by
  obtain ⟨r, g1, wy', g2, g3⟩ := iter_inv2 (b_X6_waysThat_2 al (nI i) kp) (fun j z => z.1 = nI j ∧ (∀ k, k < j → z.2 k = nI (wyC O T (i + 1) k)) ∧ ∀ k, j ≤ k → k < 100 → z.2 k = nI (wyC O T i k)) 100 (fun r => ∃ wy', r = .inl (nI (i + 1), kp, wy') ∧ ∀ k, k < 100 → wy' k = nI (wyC O T (i + 1) k)) (by omega) (by
    rintro j ⟨v, wy1⟩ hj ⟨e1, e2, e3⟩
    dsimp only at e1 e2 e3
    subst e1
    simp only [b_X6_waysThat_2]
    rw [show (100 : Int32) = nI 100 from rfl, if_neg (nI_ge hj (by omega)), if_pos (nI_in hj (by omega)), show (10 : Int32) = nI 10 from rfl, nI_mod (by omega) (by omega), nI_div (by omega) (by omega), m_wayLong h hO hk (a := j / 10) (b := j % 10) (by omega) (by omega), bs]
    have hx : (if oI (wl O T (j / 10) (j % 10) i) = -5 then some (0 : Int32) else some 1) = some (bI (wl O T (j / 10) (j % 10) i).isSome) := by
      cases hw : wl O T (j / 10) (j % 10) i with
      | none => rfl
      | some x =>
        have := (wl_some hw).1
        rw [show oI (some x) = nI x from rfl, if_neg (nI_ne5 (by omega))]
        rfl
    rw [hx, bs, if_pos (nI_in hj (by omega)), nI_clamp (by omega), e3 j (Nat.le_refl _) hj, nI_1]
    refine Or.inl ⟨_, rfl, rfl, fun k hk => ?_, fun k hk1 hk2 => ?_⟩
    · show upd wy1 j _ k = _
      unfold upd
      by_cases e : k = j
      · subst e
        rw [if_pos rfl]
        exact cnt_step (fun m => (wl O T (k / 10) (k % 10) m).isSome) i
      · rw [if_neg e]
        exact e2 k (by omega)
    · show upd wy1 j _ k = _
      unfold upd
      rw [if_neg (by omega)]
      exact e3 k (by omega) hk2) (by
    rintro ⟨v, wy1⟩ ⟨e1, e2, e3⟩
    dsimp only at e1 e2 e3
    subst e1
    simp only [b_X6_waysThat_2]
    rw [show (100 : Int32) = nI 100 from rfl, if_pos (nI_le (Nat.le_refl _) (by omega)), nI_1]
    exact ⟨_, rfl, wy1, rfl, e2⟩) (s0 := (0, wy)) ⟨rfl, fun k hk => by omega, fun k _ hk2 => hw k hk2⟩
  exact ⟨wy', by rw [g1, g2], g3⟩
theorem ways_sum {O : Nat → List Nat} (su : Bool) {M : Nat} (hM : M < 2000000) {kp wy ch my : Nat → Int32} (hw : ∀ k, k < 100 → wy k = nI (wyC O T M k)) : iter fuel (b_X6_waysThat_1 (bI su) ch my kp wy (nI M)) (0, 0) = some (.inr (.inr (nI (cntP (fun k => decide (0 < wyC O T M k) && (!su || decide (wyC O T M k = M))) 100), ch, my, kp, wy))) := by
  refine iter_inv_eq _ (fun i => (nI (cntP (fun k => decide (0 < wyC O T M k) && (!su || decide (wyC O T M k = M))) i), nI i)) 100 (by omega) rfl (fun i hi => ?_) ?_
  · have hc : wyC O T M i ≤ M := cntP_le _ M
    simp only [b_X6_waysThat_1]
    rw [show (100 : Int32) = nI 100 from rfl, if_neg (nI_ge hi (by omega)), if_pos (nI_in hi (by omega)), nI_clamp (by omega), hw i hi, ← cnt_step]
    have hx : (if nI (wyC O T M i) ≤ 0 then some (0 : Int32) else (if bI su = 0 then some 1 else (if ¬ (nI i < 0 ∨ 100 ≤ i) then (if nI (wyC O T M i) = nI M then some 1 else some 0) else none))) = some (bI (decide (0 < wyC O T M i) && (!su || decide (wyC O T M i = M)))) := by
      by_cases q : 0 < wyC O T M i
      · rw [if_neg (nI_nle q (by omega)), decide_eq_true q, Bool.true_and]
        cases su with
        | false => rfl
        | true =>
          have hin := nI_in (c := i) (N := 100) hi (by omega)
          rw [nI_clamp (by omega)] at hin
          rw [if_neg (by decide), if_pos hin]
          by_cases z : wyC O T M i = M
          · rw [if_pos (by rw [z]), decide_eq_true z]; rfl
          · rw [if_neg (fun w => z ((nI_eq (by omega) (by omega)).mp w)), decide_eq_false z]; rfl
      · rw [if_pos (by rw [show wyC O T M i = 0 by omega]; decide), decide_eq_false q, Bool.false_and]; rfl
    rw [hx, bs, nI_1]
  · simp only [b_X6_waysThat_1]
    rw [show (100 : Int32) = nI 100 from rfl, if_pos (nI_le (Nat.le_refl _) (by omega))]
theorem m_waysThat (h : MF n K V G T pf al) (su : Bool) (ch my kp wy : Nat → Int32) :
    ∃ ch' my' kp' wy', f_X6_waysThat (-5) al ch my kp wy (bI su) = some (nI (cntP (fun k => decide (0 < wyC (Of n K G pf none) T (prd (bas (Of n K G pf none)) 10) k) && (!su || decide (wyC (Of n K G pf none) T (prd (bas (Of n K G pf none)) 10) k = prd (bas (Of n K G pf none)) 10))) 100), ch', my', kp', wy') := by
  obtain ⟨ch', my', g1, g2⟩ := m_finds h none (fun r hr => by cases hr) ch my
  have hO := OK_op (K := K) (can n K G pf) h.2.2.1
  rw [show (fun k => op K (cnF n K G pf none) k n) = Of n K G pf none from rfl] at g2
  rw [show (fun k => op K (can n K G pf) k n) = Of n K G pf none from rfl] at hO
  generalize Of n K G pf none = O at *
  have hp := hO.prd_le (k := 10) (Nat.le_refl _)
  have inner : ∀ wy0 : Nat → Int32, (∀ k, k < 100 → wy0 k = 0) → ∃ kp' wy', iter fuel (b_X6_waysThat_3 al (bI su) my' ch') (0, kp, wy0) = some (.inr (nI (cntP (fun k => decide (0 < wyC O T (prd (bas O) 10) k) && (!su || decide (wyC O T (prd (bas O) 10) k = prd (bas O) 10))) 100), ch', my', kp', wy')) := by
    intro wy0 hw0
    obtain ⟨r, g3, kp', wy', g4⟩ := iter_inv2 (b_X6_waysThat_3 al (bI su) my' ch') (fun i z => z.1 = nI i ∧ ∀ k, k < 100 → z.2.2 k = nI (wyC O T i k)) (prd (bas O) 10) (fun r => ∃ kp' wy', r = .inr (nI (cntP (fun k => decide (0 < wyC O T (prd (bas O) 10) k) && (!su || decide (wyC O T (prd (bas O) 10) k = prd (bas O) 10))) 100), ch', my', kp', wy')) (by omega) (by
      rintro i ⟨v, kp1, wy1⟩ hi ⟨e1, e2⟩
      dsimp only at e1 e2
      subst e1
      obtain ⟨kp2, t1, t2⟩ := m_takes g2 hO kp1 (m := i) (by omega)
      obtain ⟨wy2, t3, t4⟩ := ways_pass h hO (by omega) t2 e2
      simp only [b_X6_waysThat_3]
      rw [m_mendings g2 hO, bs, if_neg (nI_ge hi (by omega)), t1, bs, t3]
      exact Or.inl ⟨_, rfl, rfl, t4⟩) (by
      rintro ⟨v, kp1, wy1⟩ ⟨e1, e2⟩
      dsimp only at e1 e2
      subst e1
      simp only [b_X6_waysThat_3]
      rw [m_mendings g2 hO, bs, if_pos (nI_le (Nat.le_refl _) (by omega)), ways_sum su (by omega) e2]
      exact ⟨_, rfl, _, _, rfl⟩) (s0 := (0, kp, wy0)) ⟨rfl, fun k hk => by show wy0 k = _; rw [hw0 k hk]; rfl⟩
    exact ⟨kp', wy', by rw [g3, g4]⟩
  unfold f_X6_waysThat
  rw [show (-5 : Int32) = oI none from rfl, g1, bs]
  try dsimp only
  obtain ⟨r, g3, ch2, my2, kp', wy', g4⟩ := iter_inv2 (b_X6_waysThat_4 al kp (bI su) my' ch') (fun i z => z.1 = nI i ∧ ∀ k, k < i → z.2 k = 0) 100 (fun r => ∃ ch2 my2 kp' wy', r = (nI (cntP (fun k => decide (0 < wyC O T (prd (bas O) 10) k) && (!su || decide (wyC O T (prd (bas O) 10) k = prd (bas O) 10))) 100), ch2, my2, kp', wy')) (by omega) (by
    rintro i ⟨v, wy1⟩ hi ⟨e1, e2⟩
    dsimp only at e1 e2
    subst e1
    simp only [b_X6_waysThat_4]
    rw [show (100 : Int32) = nI 100 from rfl, if_neg (nI_ge hi (by omega)), if_pos (nI_in hi (by omega)), nI_clamp (by omega), nI_1]
    refine Or.inl ⟨_, rfl, rfl, fun k hk => ?_⟩
    show upd wy1 i 0 k = 0
    unfold upd
    by_cases e : k = i
    · rw [if_pos e]
    · rw [if_neg e]; exact e2 k (by omega)) (by
    rintro ⟨v, wy1⟩ ⟨e1, e2⟩
    dsimp only at e1 e2
    subst e1
    obtain ⟨kp', wy', g5⟩ := inner wy1 e2
    simp only [b_X6_waysThat_4]
    rw [show (100 : Int32) = nI 100 from rfl, if_pos (nI_le (Nat.le_refl _) (by omega)), g5]
    exact ⟨_, rfl, _, _, _, _, rfl⟩) (s0 := (0, wy)) ⟨rfl, fun k hk => by omega⟩
  exact ⟨ch2, my2, kp', wy', by rw [g3, g4]⟩
theorem ways_eq {O : Nat → List Nat} (su : Bool) : cntP (fun k => decide (0 < wyC O T (prd (bas O) 10) k) && (!su || decide (wyC O T (prd (bas O) 10) k = prd (bas O) 10))) 100 = sumP (fun b => cntP (fun a => if su then cb (SG (thO O) (tsO O T) b 9 a) else cb (RG (thO O) (tsO O T) b 9 a)) 10) 10 := by
  have hp0 : 0 < prd (bas O) 10 := prd_pos (fun k _ => bas_pos O k)
  have h1 : cntP (fun k => decide (0 < wyC O T (prd (bas O) 10) k) && (!su || decide (wyC O T (prd (bas O) 10) k = prd (bas O) 10))) 100 = cntP (fun k => (fun a b => if su then cb (SG (thO O) (tsO O T) b 9 a) else cb (RG (thO O) (tsO O T) b 9 a)) (k / 10) (k % 10)) (10 * 10) := by
    refine cntP_congr (fun k _ => ?_)
    have hs := sure_iff (O := O) (T := T) (a := k / 10) (b := k % 10)
    have hq := poss_iff (O := O) (T := T) (a := k / 10) (b := k % 10)
    have hw : wyC O T (prd (bas O) 10) k = cntP (fun m => (wl O T (k / 10) (k % 10) m).isSome) (prd (bas O) 10) := rfl
    rw [← cntP_all] at hs
    rw [hw]
    cases su with
    | true =>
      simp only [if_true, Bool.not_true, Bool.false_or]
      by_cases e : SG (thO O) (tsO O T) (k % 10) 9 (k / 10)
      · rw [cb_iff.mpr e, hs.mp e, decide_eq_true hp0, decide_eq_true rfl]; rfl
      · rw [cb_false.mpr e, decide_eq_false (fun z => e (hs.mpr z)), Bool.and_false]
    | false =>
      simp only [Bool.false_eq_true, if_false, Bool.not_false, Bool.true_or, Bool.and_true]
      by_cases e : RG (thO O) (tsO O T) (k % 10) 9 (k / 10)
      · rw [cb_iff.mpr e, decide_eq_true (hq.mp e)]
      · rw [cb_false.mpr e, decide_eq_false (fun z => e (hq.mpr z))]
  refine (h1.trans (cntP_sum (fun a b => if su then cb (SG (thO O) (tsO O T) b 9 a) else cb (RG (thO O) (tsO O T) b 9 a)) 10)).trans ?_
  exact sumP_swap (fun a b => if su then cb (SG (thO O) (tsO O T) b 9 a) else cb (RG (thO O) (tsO O T) b 9 a)) 10 10
end CNTM
