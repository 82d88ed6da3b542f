/-! counts: sure rows; sure and possible ways, both sides -/
theorem bitc_val : ∀ x, x < 1024 → f_J6_bitCount_0f7a4 (nI x) = some (nI (cntP (fun i => (nI x).toBitVec.getLsbD i) 10)) := by decide +kernel
theorem MB_small {x : Int32} {s : Nat → Prop} (h : MB x s) (h10 : ∀ i, s i → i < 10) : ∃ m, m < 1024 ∧ x = nI m := by
  have hlt : x.toBitVec.toNat < 2 ^ 10 := by
    refine Nat.lt_pow_two_of_testBit _ (fun i hi => ?_)
    rw [← BitVec.getLsbD]
    rcases Nat.lt_or_ge i 32 with q | q
    · cases hb : x.toBitVec.getLsbD i with
      | false => rfl
      | true =>
        have := h10 i ((h i q).mp hb)
        omega
    · exact BitVec.getLsbD_of_ge _ _ q
  refine ⟨x.toBitVec.toNat, hlt, ?_⟩
  apply Int32.toBitVec_inj.mp
  show x.toBitVec = (Int32.ofNat x.toBitVec.toNat).toBitVec
  rw [Int32.toBitVec_ofNat', BitVec.ofNat_toNat, BitVec.setWidth_eq]
theorem c_bitCount {x : Int32} {s : Nat → Prop} (h : MB x s) (h10 : ∀ i, s i → i < 10) : f_J6_bitCount_0f7a4 x = some (nI (cntP (fun i => cb (s i)) 10)) := by
  obtain ⟨m, hm, rfl⟩ := MB_small h h10
  rw [bitc_val m hm]
  congr 2
  refine cntP_congr (fun i hi => ?_)
  have := h i (by omega)
  cases hb : (nI m).toBitVec.getLsbD i with
  | true => exact (cb_iff.mpr (this.mp hb)).symm
  | false => exact (cb_false.mpr (fun q => by rw [this.mpr q] at hb; cases hb)).symm
theorem sumP_lt10 {f : Nat → Nat} (h : ∀ k, f k ≤ 10) : ∀ i, i ≤ 10 → sumP f i ≤ 10 * i := by
  intro i
  induction i with
  | zero => intro _; exact Nat.le_refl _
  | succ i ih =>
    intro hi
    have := ih (by omega)
    have := h i
    unfold sumP
    omega
theorem cntP_sum (p : Nat → Nat → Bool) : ∀ i, cntP (fun j => p (j / 10) (j % 10)) (10 * i) = sumP (fun a => cntP (p a) 10) i := by
  intro i
  induction i with
  | zero => rfl
  | succ i ih =>
    rw [Nat.mul_add, Nat.mul_one, cntP_add, ih, sumP_succ]
    congr 1
    refine cntP_congr (fun j hj => ?_)
    rw [Nat.mul_add_div (by omega), Nat.div_eq_of_lt hj, Nat.add_zero, Nat.mul_add_mod, Nat.mod_eq_of_lt hj]
theorem sumP_add (f g : Nat → Nat) (n : Nat) : sumP (fun k => f k + g k) n = sumP f n + sumP g n := by
  induction n with
  | zero => rfl
  | succ n ih => unfold sumP; rw [ih]; omega
theorem sumP_swap (p : Nat → Nat → Bool) (A B : Nat) : sumP (fun a => cntP (fun b => p a b) B) A = sumP (fun b => cntP (fun a => p a b) A) B := by
  induction A with
  | zero =>
    show 0 = sumP (fun b => cntP (fun a => p a b) 0) B
    induction B with
    | zero => rfl
    | succ B ih => unfold sumP; rw [← ih]; rfl
  | succ A ih =>
    show sumP (fun a => cntP (fun b => p a b) B) A + cntP (fun b => p A b) B = sumP (fun b => cntP (fun a => p a b) A + (if p A b then 1 else 0)) B
    rw [sumP_add, ih]
    congr 1
    clear ih
    induction B with
    | zero => rfl
    | succ B ih => unfold cntP sumP; rw [ih]
section CNTC
variable {n : Nat} {K V G T : Nat → Nat} {pf : Bool} {nr : Int32} {ks vs wg ts : Nat → Int32} {mn : Int32} {O : Nat → List Nat} {oc os sd tg : Nat → Int32}
theorem SG_lt {b : Nat} (r k : Nat) (h : SG (thO O) (tsO O T) b r k) : k < 10 := (SG_th r k h).1
theorem c_sureWays (h1 : CHo O 10 oc os) (hl : ∀ k, k < 10 → (O k).length ≤ 20) (h : CHt O T tg) (hT : ∀ k, k < 10 → ∀ j, j ∈ O k → T j ≤ 10) : f_X0_sureWays oc tg = some (nI (sumP (fun b => cntP (fun a => cb (SG (thO O) (tsO O T) b 9 a)) 10) 10)) := by
  unfold f_X0_sureWays
  refine iter_inv_eq _ (fun i => (nI (sumP (fun b => cntP (fun a => cb (SG (thO O) (tsO O T) b 9 a)) 10) i), nI i)) 10 (by omega) rfl (fun i hi => ?_) ?_
  · obtain ⟨x, g1, g2⟩ := c_sureReach h1 hl h hT hi
    simp only [b_X0_sureWays_1]
    rw [show (10 : Int32) = nI 10 from rfl, if_neg (nI_ge hi (by omega)), g1, bs, c_bitCount g2 (SG_lt 9), bs, nI_add, nI_1]
    rfl
  · simp only [b_X0_sureWays_1]
    rw [show (10 : Int32) = nI 10 from rfl, if_pos (nI_le (Nat.le_refl _) (by omega))]
theorem c_possibleWays (h1 : CHo O 10 oc os) (hl : ∀ k, k < 10 → (O k).length ≤ 20) (h : CHt O T tg) : f_X0_possibleWays oc tg = some (nI (sumP (fun b => cntP (fun a => cb (RG (thO O) (tsO O T) b 9 a)) 10) 10)) := by
  unfold f_X0_possibleWays
  refine iter_inv_eq _ (fun i => (nI (sumP (fun b => cntP (fun a => cb (RG (thO O) (tsO O T) b 9 a)) 10) i), nI i)) 10 (by omega) rfl (fun i hi => ?_) ?_
  · obtain ⟨x, g1, g2⟩ := c_canReach h1 hl h hi
    simp only [b_X0_possibleWays_1]
    rw [show (10 : Int32) = nI 10 from rfl, if_neg (nI_ge hi (by omega)), g1, bs, c_bitCount g2 (RG_lt 9), bs, nI_add, nI_1]
    rfl
  · simp only [b_X0_possibleWays_1]
    rw [show (10 : Int32) = nI 10 from rfl, if_pos (nI_le (Nat.le_refl _) (by omega))]
def srB (O : Nat → List Nat) (n : Nat) (K G : Nat → Nat) (pf : Bool) (j : Nat) : Bool := can n K G pf j && decide ((O (K j)).length = 1)
theorem c_isSureRow (h : TF n K V G T nr ks vs wg ts) (hO : OK n K O) (h1 : CHo O 10 oc os) {j : Nat} (hj : j < n) : f_X0_isSureRow oc nr (bI pf) ks wg (nI j) = some (bI (srB O n K G pf j)) := by
  have hKj := (h.2.2 j hj).2.2.2.2.1
  have hl := (hO.2.1 (K j) hKj).1
  unfold f_X0_isSureRow srB
  rw [h.canBeKept pf hj, bs]
  cases hc : can n K G pf j with
  | false => rw [if_pos (by decide), Bool.false_and]; rfl
  | true =>
    rw [if_neg (by decide), h.keyAt hj, bs, h1.optionsOf hKj, bs, Bool.true_and]
    by_cases e : (O (K j)).length = 1
    · rw [if_pos (by rw [e]; rfl), decide_eq_true e]; rfl
    · rw [if_neg (show ¬ nI _ = 1 from fun z => e ((nI_eq (b := 1) (by omega) (by omega)).mp z)), decide_eq_false e]; rfl
theorem c_sureRows (h : TF n K V G T nr ks vs wg ts) (hO : OK n K O) (h1 : CHo O 10 oc os) : f_X0_sureRows oc nr (bI pf) ks wg = some (nI (cntP (srB O n K G pf) n)) := by
  have hn := h.2.1
  unfold f_X0_sureRows
  refine iter_inv_eq _ (fun i => (nI (cntP (srB O n K G pf) i), nI i)) n (by omega) rfl (fun i hi => ?_) ?_
  · simp only [b_X0_sureRows_1]
    rw [show f_X3_size nr = some (nI n) by rw [h.1]; rfl, bs, if_neg (nI_ge hi (by omega)), c_isSureRow h hO h1 hi, bs, ← cnt_step]
    cases hs : srB O n K G pf i with
    | true => rw [if_neg (by decide), bs, nI_1, nI_1]; show some (Sum.inl (_, _)) = some (Sum.inl (_ + nI 1, _)); rw [nI_add]
    | false => rw [if_pos (by decide), bs, nI_1]; show some (Sum.inl (_, _)) = some (Sum.inl (_ + nI 0, _)); rw [nI_add]; rfl
  · simp only [b_X0_sureRows_1]
    rw [show f_X3_size nr = some (nI n) by rw [h.1]; rfl, bs, if_pos (nI_le (Nat.le_refl _) (by omega))]
end CNTC
section CNTM
variable {n : Nat} {K V G T : Nat → Nat} {pf : Bool} {al : Nat → Int32}
noncomputable def wyC (O : Nat → List Nat) (T : Nat → Nat) (i k : Nat) : Nat := cntP (fun m => (wl O T (k / 10) (k % 10) m).isSome) i
theorem ways_eq {O : Nat → List Nat} (su : Bool) : cntP (fun k => decide (0 < wyC O T (prd (bas O) 10) k) && (!su || decide (wyC O T (prd (bas O) 10) k = prd (bas O) 10))) 100 = sumP (fun b => cntP (fun a => if su then cb (SG (thO O) (tsO O T) b 9 a) else cb (RG (thO O) (tsO O T) b 9 a)) 10) 10 := by
  have hp0 : 0 < prd (bas O) 10 := prd_pos (fun k _ => bas_pos O k)
  have h1 : cntP (fun k => decide (0 < wyC O T (prd (bas O) 10) k) && (!su || decide (wyC O T (prd (bas O) 10) k = prd (bas O) 10))) 100 = cntP (fun k => (fun a b => if su then cb (SG (thO O) (tsO O T) b 9 a) else cb (RG (thO O) (tsO O T) b 9 a)) (k / 10) (k % 10)) (10 * 10) := by
    refine cntP_congr (fun k _ => ?_)
    have hs := sure_iff (O := O) (T := T) (a := k / 10) (b := k % 10)
    have hq := poss_iff (O := O) (T := T) (a := k / 10) (b := k % 10)
    have hw : wyC O T (prd (bas O) 10) k = cntP (fun m => (wl O T (k / 10) (k % 10) m).isSome) (prd (bas O) 10) := rfl
    rw [← cntP_all] at hs
    rw [hw]
    cases su with
    | true =>
      simp only [if_true, Bool.not_true, Bool.false_or]
      by_cases e : SG (thO O) (tsO O T) (k % 10) 9 (k / 10)
      · rw [cb_iff.mpr e, hs.mp e, decide_eq_true hp0, decide_eq_true rfl]; rfl
      · rw [cb_false.mpr e, decide_eq_false (fun z => e (hs.mpr z)), Bool.and_false]
    | false =>
      simp only [Bool.false_eq_true, if_false, Bool.not_false, Bool.true_or, Bool.and_true]
      by_cases e : RG (thO O) (tsO O T) (k % 10) 9 (k / 10)
      · rw [cb_iff.mpr e, decide_eq_true (hq.mp e)]
      · rw [cb_false.mpr e, decide_eq_false (fun z => e (hq.mpr z))]
  refine (h1.trans (cntP_sum (fun a b => if su then cb (SG (thO O) (tsO O T) b 9 a) else cb (RG (thO O) (tsO O T) b 9 a)) 10)).trans ?_
  exact sumP_swap (fun a b => if su then cb (SG (thO O) (tsO O T) b 9 a) else cb (RG (thO O) (tsO O T) b 9 a)) 10 10
end CNTM
