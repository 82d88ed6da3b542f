/-! texts of rows, both sides -/
def TX (len : Nat) (tl xl : Int32) (tc tx : Nat → Int32) : Prop := len ≤ 80 ∧ tl = nI len ∧ xl = nI len ∧ ∀ i, i < len → tc i = tx i
def hr (len : Nat) (tx : Nat → Int32) (p lo hi : Nat) : Bool := decide (p < len ∧ (lo : Int) ≤ (tx p).toInt ∧ (tx p).toInt ≤ (hi : Int))
theorem hr_of {len : Nat} {tx : Nat → Int32} {p lo hi : Nat} (h : hr len tx p lo hi = true) (hh : hi < 1000) : p < len ∧ ∃ c, lo ≤ c ∧ c ≤ hi ∧ tx p = nI c := by
  obtain ⟨h1, h2, h3⟩ := of_decide_eq_true h
  obtain ⟨j, hj, hj2⟩ := vp_in_of (n := hi + 1) (show vp_in (tx p) (hi + 1) from vp_in_iff.mpr (by omega)) (by omega)
  rw [hj2, nI_toInt (by omega)] at h2
  exact ⟨h1, j, by omega, by omega, hj2⟩
section TXT
variable {len : Nat} {tl xl : Int32} {tc tx : Nat → Int32}
theorem c_charAt (h : TX len tl xl tc tx) {p : Nat} (hp : p ≤ 80) : f_X4_characterAt tl tc (nI p) = some (if p < len then tx p else -5) := by
  obtain ⟨h1, h2, _, h4⟩ := h
  unfold f_X4_characterAt
  rw [if_neg (nI_pos (by omega)), h2]
  by_cases e : p < len
  · rw [if_neg (nI_ge e (by omega)), show (80 : Int32) = nI 80 from rfl, if_neg (nI_ge (show p < 80 by omega) (by omega)), if_pos (nI_in (by omega) (by omega)), nI_clamp (by omega), h4 p e, if_pos e]
  · rw [if_pos (nI_le (by omega) (by omega)), if_neg e]
theorem c_tb (h : TX len tl xl tc tx) {p lo hi : Nat} (hp : p ≤ 80) (hl : lo < 1000) (hh : hi < 1000) : f_X2_takeBetween (nI p) tl tc (nI lo) (nI hi) = some (if hr len tx p lo hi then (tx p, nI (p + 1)) else (-5, nI p)) := by
  unfold f_X2_takeBetween
  rw [c_charAt h hp, bs]
  have m5 : (-5 : Int32).toInt = -5 := by decide
  have tlo : (nI lo).toInt = lo := nI_toInt (by omega)
  have thi : (nI hi).toInt = hi := nI_toInt (by omega)
  by_cases e : p < len
  · rw [if_pos e]
    by_cases a : (lo : Int) ≤ (tx p).toInt
    · rw [if_neg (by rw [Int32.lt_iff_toInt_lt]; omega)]
      by_cases b : (tx p).toInt ≤ (hi : Int)
      · rw [if_pos (by rw [Int32.le_iff_toInt_le]; omega), show hr len tx p lo hi = true from decide_eq_true ⟨e, a, b⟩, if_pos rfl, nI_1]
      · rw [if_neg (by rw [Int32.le_iff_toInt_le]; omega), show hr len tx p lo hi = false from decide_eq_false (fun z => b z.2.2)]
        rfl
    · rw [if_pos (by rw [Int32.lt_iff_toInt_lt]; omega), show hr len tx p lo hi = false from decide_eq_false (fun z => a z.2.1)]
      rfl
  · rw [if_neg e, if_pos (by rw [Int32.lt_iff_toInt_lt]; omega), show hr len tx p lo hi = false from decide_eq_false (fun z => e z.1)]
    rfl
theorem c_take (h : TX len tl xl tc tx) {p c : Nat} (hp : p ≤ 80) (hc : c < 1000) : f_X2_take (nI p) tl tc (nI c) = some (bI (hr len tx p c c), nI (if hr len tx p c c then p + 1 else p)) := by
  unfold f_X2_take
  rw [c_tb h hp hc hc, bs]
  cases e : hr len tx p c c with
  | true =>
    obtain ⟨h1, d, _, h3, h4⟩ := hr_of e hc
    simp only [if_true]
    rw [h4, if_neg (nI_ne5 (by omega))]
    rfl
  | false => rfl
theorem m_isHere (h : TX len tl xl tc tx) {p lo hi : Nat} (hp : p ≤ 80) (hl : lo < 1000) (hh : hi < 1000) : f_X6_isHere xl (nI p) tx (nI lo) (nI hi) = some (bI (hr len tx p lo hi)) := by
  obtain ⟨h1, _, h3, _⟩ := h
  unfold f_X6_isHere
  rw [h3]
  by_cases e : p < len
  · rw [if_neg (nI_ge e (by omega)), if_pos (nI_in (by omega) (by omega)), nI_clamp (by omega), m_in', bs]
    unfold hr
    rw [nI_toInt (show lo < 2 ^ 31 by omega), nI_toInt (show hi < 2 ^ 31 by omega)]
    by_cases q : (lo : Int) ≤ (tx p).toInt ∧ (tx p).toInt ≤ (hi : Int)
    · rw [decide_eq_true q, decide_eq_true ⟨e, q⟩]; rfl
    · rw [decide_eq_false q, decide_eq_false (fun z => q z.2)]; rfl
  · rw [if_pos (nI_le (by omega) (by omega)), show hr len tx p lo hi = false from decide_eq_false (fun z => e z.1)]
    rfl
theorem m_sign (h : TX len tl xl tc tx) {p c : Nat} (hp : p ≤ 80) (hc : c < 1000) : f_X6_takesSign xl (nI p) tx (nI c) = some (bI (hr len tx p c c), nI (if hr len tx p c c then p + 1 else p)) := by
  unfold f_X6_takesSign
  rw [m_isHere h hp hc hc, bs]
  cases e : hr len tx p c c with
  | true => rw [if_neg (by decide), bs, if_pos (isB_bI _), nI_1]; rfl
  | false => rw [if_pos (by decide), bs, if_pos (isB_bI _), show (0 : Int32) = nI 0 from rfl, nI_add]; rfl
theorem m_reads (h : TX len tl xl tc tx) (rd : Nat → Int32) {p lo hi r w : Nat} (hp : p ≤ 80) (hl : lo < 1000) (hh : hi < 1000) (hr' : r ≤ 20) (hw : w < 4) : f_X6_reads xl (nI p) (nI r) tx rd (nI lo) (nI hi) (nI w) = some (if hr len tx p lo hi then (1, nI (p + 1), upd rd (4 * r + w) (tx p - nI lo)) else (0, nI p, rd)) := by
  unfold f_X6_reads
  rw [m_isHere h hp hl hh, bs]
  cases e : hr len tx p lo hi with
  | true =>
    obtain ⟨h1, _⟩ := hr_of e hh
    have hlen := h.1
    rw [if_neg (by decide), if_pos (nI_in (by omega) (by omega)), show (4 : Int32) = nI 4 from rfl, nI_mulO, nI_add, if_pos (nI_in (by omega) (by omega)), nI_clamp (by omega), nI_clamp (by omega), nI_1]
    rfl
  | false => rw [if_pos (by decide)]; rfl
theorem c_tb0 (h : TX len tl xl tc tx) {p : Nat} (hp : p ≤ 80) : f_X2_takeBetween (nI p) tl tc 48 57 = some (if hr len tx p 48 57 then (tx p, nI (p + 1)) else (-5, nI p)) := c_tb h (lo := 48) (hi := 57) hp (by omega) (by omega)
theorem c_tb1 (h : TX len tl xl tc tx) {p : Nat} (hp : p ≤ 80) : f_X2_takeBetween (nI p) tl tc 97 104 = some (if hr len tx p 97 104 then (tx p, nI (p + 1)) else (-5, nI p)) := c_tb h (lo := 97) (hi := 104) hp (by omega) (by omega)
theorem c_tb2 (h : TX len tl xl tc tx) {p : Nat} (hp : p ≤ 80) : f_X2_takeBetween (nI p) tl tc 49 57 = some (if hr len tx p 49 57 then (tx p, nI (p + 1)) else (-5, nI p)) := c_tb h (lo := 49) (hi := 57) hp (by omega) (by omega)
theorem c_tk (h : TX len tl xl tc tx) {p : Nat} (hp : p ≤ 80) : f_X2_take (nI p) tl tc 61 = some (bI (hr len tx p 61 61), nI (if hr len tx p 61 61 then p + 1 else p)) ∧ f_X2_take (nI p) tl tc 62 = some (bI (hr len tx p 62 62), nI (if hr len tx p 62 62 then p + 1 else p)) ∧ f_X2_take (nI p) tl tc 44 = some (bI (hr len tx p 44 44), nI (if hr len tx p 44 44 then p + 1 else p)) :=
  ⟨c_take h (c := 61) hp (by omega), c_take h (c := 62) hp (by omega), c_take h (c := 44) hp (by omega)⟩
theorem m_sg (h : TX len tl xl tc tx) {p : Nat} (hp : p ≤ 80) : f_X6_takesSign xl (nI p) tx 61 = some (bI (hr len tx p 61 61), nI (if hr len tx p 61 61 then p + 1 else p)) ∧ f_X6_takesSign xl (nI p) tx 62 = some (bI (hr len tx p 62 62), nI (if hr len tx p 62 62 then p + 1 else p)) ∧ f_X6_takesSign xl (nI p) tx 44 = some (bI (hr len tx p 44 44), nI (if hr len tx p 44 44 then p + 1 else p)) :=
  ⟨m_sign h (c := 61) hp (by omega), m_sign h (c := 62) hp (by omega), m_sign h (c := 44) hp (by omega)⟩
theorem m_rd0 (h : TX len tl xl tc tx) (rd : Nat → Int32) {p r : Nat} (hp : p ≤ 80) (hr' : r ≤ 20) : f_X6_reads xl (nI p) (nI r) tx rd 48 57 0 = some (if hr len tx p 48 57 then (1, nI (p + 1), upd rd (4 * r) (tx p - 48)) else (0, nI p, rd)) := m_reads h rd (lo := 48) (hi := 57) (w := 0) hp (by omega) (by omega) hr' (by omega)
theorem m_rd1 (h : TX len tl xl tc tx) (rd : Nat → Int32) {p r : Nat} (hp : p ≤ 80) (hr' : r ≤ 20) : f_X6_reads xl (nI p) (nI r) tx rd 97 104 1 = some (if hr len tx p 97 104 then (1, nI (p + 1), upd rd (4 * r + 1) (tx p - 97)) else (0, nI p, rd)) := m_reads h rd (lo := 97) (hi := 104) (w := 1) hp (by omega) (by omega) hr' (by omega)
theorem m_rd3 (h : TX len tl xl tc tx) (rd : Nat → Int32) {p r : Nat} (hp : p ≤ 80) (hr' : r ≤ 20) : f_X6_reads xl (nI p) (nI r) tx rd 48 57 3 = some (if hr len tx p 48 57 then (1, nI (p + 1), upd rd (4 * r + 3) (tx p - 48)) else (0, nI p, rd)) := m_reads h rd (lo := 48) (hi := 57) (w := 3) hp (by omega) (by omega) hr' (by omega)
theorem m_ih (h : TX len tl xl tc tx) {p : Nat} (hp : p ≤ 80) : f_X6_isHere xl (nI p) tx 49 57 = some (bI (hr len tx p 49 57)) ∧ f_X6_isHere xl (nI p) tx 48 57 = some (bI (hr len tx p 48 57)) :=
  ⟨m_isHere h (lo := 49) (hi := 57) hp (by omega) (by omega), m_isHere h (lo := 48) (hi := 57) hp (by omega) (by omega)⟩
theorem s48 {c : Nat} (h : 48 ≤ c) : nI c - 48 = nI (c - 48) := nI_subO h
theorem s97 {c : Nat} (h : 97 ≤ c) : nI c - 97 = nI (c - 97) := nI_subO h
/-- the weight's digits -/
theorem weight_both (h : TX len tl xl tc tx) {p : Nat} (hp : p ≤ 80) : ∃ g q, g < 100 ∧ p ≤ q ∧ q ≤ 80 ∧ f_X2_takeWeight (nI p) tl tc = some (nI g, nI q) ∧
    (if bI (hr len tx p 49 57) = 0 then some ((0 : Int32), nI p) else (if ¬ (nI p < 0 ∨ 80 ≤ (nI p).toNatClampNeg) then (Option.bind (f_X6_isHere xl (nI p + 1) tx 48 57) (fun r_23 => (if r_23 = 0 then some (((tx (nI p).toNatClampNeg) - 48, nI p + 1)) else (if ¬ ((nI p + 1) < 0 ∨ 80 ≤ (nI p + 1).toNatClampNeg) then some ((((10 * ((tx (nI p).toNatClampNeg) - 48)) + (tx (nI p + 1).toNatClampNeg)) - 48, (nI p + 1) + 1)) else none)))) else none)) = some (nI g, nI q) := by
  have hlen := h.1
  unfold f_X2_takeWeight
  rw [c_tb2 h hp, bs]
  cases e : hr len tx p 49 57 with
  | false => exact ⟨0, p, by omega, Nat.le_refl _, hp, rfl, rfl⟩
  | true =>
    obtain ⟨h1, c, hc1, hc2, hc3⟩ := hr_of e (by omega)
    simp only [if_true]
    rw [hc3, if_neg (nI_ne5 (by omega)), if_neg (show ¬ bI true = 0 by decide), if_pos (nI_in (by omega) (by omega)), nI_1, c_tb0 h (by omega), (m_ih h (by omega)).2, bs, bs, nI_clamp (by omega), hc3, s48 (by omega)]
    cases e2 : hr len tx (p + 1) 48 57 with
    | false => exact ⟨c - 48, p + 1, by omega, by omega, by omega, rfl, rfl⟩
    | true =>
      obtain ⟨h2, d, hd1, hd2, hd3⟩ := hr_of e2 (by omega)
      simp only [if_true]
      rw [hd3, if_neg (nI_ne5 (by omega)), if_neg (show ¬ bI true = 0 by decide), if_pos (nI_in (by omega) (by omega)), nI_clamp (by omega), hd3, s48 (by omega), show (10 : Int32) = nI 10 from rfl, nI_mulO, nI_mulO, nI_add, nI_add, s48 (by omega), nI_1]
      refine ⟨(c - 48) * 10 + (d - 48), p + 1 + 1, by omega, by omega, by omega, rfl, ?_⟩
      rw [show 10 * (c - 48) + d - 48 = (c - 48) * 10 + (d - 48) by omega]
/-- the rows that the model has read -/
def RD (r : Nat) (K V G T : Nat → Nat) (rd : Nat → Int32) : Prop := ∀ j, j < r → rd (4 * j) = nI (K j) ∧ rd (4 * j + 1) = nI (V j) ∧ rd (4 * j + 2) = nI (G j) ∧ rd (4 * j + 3) = tI (T j)
theorem RD_push {r : Nat} {K V G T : Nat → Nat} {rd rd' : Nat → Int32} (h : RD r K V G T rd) {k v g t : Nat} (h0 : ∀ i, i < 4 * r → rd' i = rd i) (h1 : rd' (4 * r) = nI k) (h2 : rd' (4 * r + 1) = nI v) (h3 : rd' (4 * r + 2) = nI g) (h4 : rd' (4 * r + 3) = tI t) : RD (r + 1) (pushF K r k) (pushF V r v) (pushF G r g) (pushF T r t) rd' := by
  intro j hj
  unfold pushF
  by_cases e : j = r
  · subst e
    simp only [if_true]
    exact ⟨h1, h2, h3, h4⟩
  · simp only [if_neg e]
    obtain ⟨a, b, c, d⟩ := h j (by omega)
    exact ⟨by rw [h0 _ (by omega)]; exact a, by rw [h0 _ (by omega)]; exact b, by rw [h0 _ (by omega)]; exact c, by rw [h0 _ (by omega)]; exact d⟩
theorem row_both (h : TX len tl xl tc tx) {p r : Nat} {K V G T : Nat → Nat} {rnr : Int32} {rks rvs rwg rts rd : Nat → Int32} (hp : p ≤ 80) (hr' : r < 20) (hT : TF r K V G T rnr rks rvs rwg rts) (hD : RD r K V G T rd) :
    (∃ p' rd', p' ≤ 80 ∧ f_X6_readsRow xl (nI p) (nI r) tx rd = some (0, nI p', nI r, rd') ∧ f_X2_readOne (nI p) rnr rks rvs rwg rts tl tc = some (0, nI p', rnr, rks, rvs, rwg, rts)) ∨
    (∃ p' ks' vs' wg' ts' rd' K' V' G' T', p + 3 ≤ p' ∧ p' ≤ 80 ∧ f_X6_readsRow xl (nI p) (nI r) tx rd = some (1, nI p', nI (r + 1), rd') ∧ f_X2_readOne (nI p) rnr rks rvs rwg rts tl tc = some (1, nI p', nI (r + 1), ks', vs', wg', ts') ∧ TF (r + 1) K' V' G' T' (nI (r + 1)) ks' vs' wg' ts' ∧ RD (r + 1) K' V' G' T' rd') := by
  have hlen := h.1
  unfold f_X6_readsRow f_X2_readOne
  rw [c_tb0 h hp, m_rd0 h rd hp (by omega), bs, bs]
  cases e1 : hr len tx p 48 57 with
  | false => exact Or.inl ⟨p, rd, hp, rfl, rfl⟩
  | true =>
    obtain ⟨p1, k0, hk1, hk2, hk3⟩ := hr_of e1 (by omega)
    simp only [if_true]
    rw [hk3, s48 hk1, if_neg (show ¬ (1 : Int32) = 0 by decide), if_neg (nI_ne5 (by omega)), (c_tk h (by omega)).1, (m_sg h (by omega)).1, bs, bs]
    cases e2 : hr len tx (p + 1) 61 61 with
    | false => exact Or.inl ⟨p + 1, _, by omega, rfl, rfl⟩
    | true =>
      obtain ⟨p2, _⟩ := hr_of e2 (by omega)
      simp only [if_true]
      rw [if_neg (show ¬ bI true = 0 by decide), if_neg (show ¬ bI true = 0 by decide), c_tb1 h (by omega), m_rd1 h _ (by omega) (by omega), bs, bs]
      cases e3 : hr len tx (p + 1 + 1) 97 104 with
      | false => exact Or.inl ⟨p + 1 + 1, _, by omega, rfl, rfl⟩
      | true =>
        obtain ⟨p3, v0, hv1, hv2, hv3⟩ := hr_of e3 (by omega)
        simp only [if_true]
        rw [hv3, s97 hv1, if_neg (show ¬ (1 : Int32) = 0 by decide), if_neg (nI_ne5 (by omega))]
        obtain ⟨g, q, hg, hq1, hq2, w1, w2⟩ := weight_both h (p := p + 1 + 1 + 1) (by omega)
        have g2 : (4 * nI r) + 2 = nI (4 * r + 2) := by rw [show (4 : Int32) = nI 4 from rfl, nI_mulO]; exact nI_add _ 2
        have g3 : (4 * nI r) + 3 = nI (4 * r + 3) := by rw [show (4 : Int32) = nI 4 from rfl, nI_mulO]; exact nI_add _ 3
        rw [w1, (m_ih h (by omega)).1, bs, bs, w2, bs]
        try dsimp only
        rw [g2, g3, if_pos (nI_in (by omega) (by omega)), if_pos (nI_in (by omega) (by omega)), nI_clamp (by omega), nI_clamp (by omega), (c_tk h hq2).2.1, (m_sg h hq2).2.1, bs, bs, nI_1]
        cases e4 : hr len tx q 62 62 with
        | false =>
          obtain ⟨ks', vs', wg', ts', a1, a2⟩ := c_append hT hr' (k := k0 - 48) (v := v0 - 97) (g := g) (t := 10) (by omega) (by omega) hg (by omega)
          rw [show 97 + (v0 - 97) = v0 by omega, show tI 10 = -5 from rfl] at a1
          simp only [Bool.false_eq_true, if_false]
          rw [if_pos (show bI false = 0 from rfl), if_pos (show bI false = 0 from rfl), a1, bs]
          refine Or.inr ⟨q, ks', vs', wg', ts', _, _, _, _, _, by omega, hq2, rfl, rfl, a2, RD_push hD (fun i hi => ?_) ?_ ?_ ?_ ?_⟩
          · unfold upd
            rw [if_neg (by omega), if_neg (by omega), if_neg (by omega), if_neg (by omega)]
          · unfold upd
            rw [if_neg (by omega), if_neg (by omega), if_neg (by omega), if_pos rfl]
          · unfold upd
            rw [if_neg (by omega), if_neg (by omega), if_pos rfl]
          · unfold upd
            rw [if_neg (by omega), if_pos rfl]
          · unfold upd
            rw [if_pos rfl]
            rfl
        | true =>
          obtain ⟨p4, _⟩ := hr_of e4 (by omega)
          simp only [if_true]
          rw [if_neg (show ¬ bI true = 0 by decide), if_neg (show ¬ bI true = 0 by decide), c_tb0 h (by omega), m_rd3 h _ (by omega) (by omega), bs, bs]
          cases e5 : hr len tx (q + 1) 48 57 with
          | false => exact Or.inl ⟨q + 1, _, by omega, rfl, rfl⟩
          | true =>
            obtain ⟨p5, t0, ht1, ht2, ht3⟩ := hr_of e5 (by omega)
            obtain ⟨ks', vs', wg', ts', a1, a2⟩ := c_append hT hr' (k := k0 - 48) (v := v0 - 97) (g := g) (t := t0 - 48) (by omega) (by omega) hg (by omega)
            rw [show 97 + (v0 - 97) = v0 by omega, tI_lt (show t0 - 48 < 10 by omega)] at a1
            simp only [if_true]
            rw [ht3, s48 ht1, if_neg (show ¬ (1 : Int32) = 0 by decide), if_neg (nI_ne5 (by omega)), a1, bs]
            refine Or.inr ⟨q + 1 + 1, ks', vs', wg', ts', _, _, _, _, _, by omega, by omega, rfl, rfl, a2, RD_push hD (fun i hi => ?_) ?_ ?_ ?_ ?_⟩
            · unfold upd
              rw [if_neg (by omega), if_neg (by omega), if_neg (by omega), if_neg (by omega), if_neg (by omega)]
            · unfold upd
              rw [if_neg (by omega), if_neg (by omega), if_neg (by omega), if_neg (by omega), if_pos rfl]
            · unfold upd
              rw [if_neg (by omega), if_neg (by omega), if_neg (by omega), if_pos rfl]
            · unfold upd
              rw [if_neg (by omega), if_neg (by omega), if_pos rfl]
            · unfold upd
              rw [if_pos rfl, tI_lt (by omega)]
theorem iter_l {σ ρ : Type} {b : σ → Option (σ ⊕ ρ)} {k : Nat} {s t : σ} (h : b s = some (.inl t)) : iter (k + 1) b s = iter k b t := by
  show (match b s with | none => none | some (.inl t) => iter k b t | some (.inr r) => some r) = _
  rw [h]
/-- the whole text: the same fault, or the same rows -/
theorem text_both (h : TX len tl xl tc tx) : ∀ (d r p : Nat) (K V G T : Nat → Nat) (rnr : Int32) (rks rvs rwg rts rd : Nat → Int32) (f1 f2 : Nat), r + d = 20 → d < f1 → 2 * d + 1 < f2 → 4 * r ≤ p → p ≤ 80 → TF r K V G T rnr rks rvs rwg rts → RD r K V G T rd →
    ∃ (p' r' : Nat) (rnr' : Int32) (ks' vs' wg' ts' rd' : Nat → Int32) (rm' : Int32) (ok : Bool), p' ≤ 80 ∧ iter f1 (b_X2_readAll_1 tl tc) (nI r, nI p, rnr, rks, rvs, rwg, rts) = some (bI ok, nI p', rnr', ks', vs', wg', ts') ∧ iter f2 (b_X6_fault_1 xl tx) (1, nI p, nI r, rd) = some (if ok then -5 else nI p', nI p', rm', rd') ∧ (ok = true → rm' = nI r' ∧ rnr' = nI r' ∧ ∃ K' V' G' T', TF r' K' V' G' T' rnr' ks' vs' wg' ts' ∧ RD r' K' V' G' T' rd') := by
  intro d
  induction d with
  | zero =>
    intro r p K V G T rnr rks rvs rwg rts rd f1 f2 hrd hf1 hf2 hpr hp hT hD
    obtain ⟨f1, rfl⟩ : ∃ g, f1 = g + 1 := ⟨f1 - 1, by omega⟩
    obtain ⟨f2, rfl⟩ : ∃ g, f2 = g + 1 := ⟨f2 - 1, by omega⟩
    have hlen := h.1
    have e1 : hr len tx p 48 57 = false := decide_eq_false (fun z => by have := z.1; omega)
    refine ⟨p, r, rnr, rks, rvs, rwg, rts, rd, nI r, false, hp, ?_, ?_, fun z => by cases z⟩
    · unfold iter
      simp only [b_X2_readAll_1]
      rw [show (20 : Int32) = nI 20 from rfl, if_pos (nI_le (by omega) (by omega))]
      rfl
    · unfold iter
      simp only [b_X6_fault_1]
      rw [if_neg (show ¬ (1 : Int32) = 0 by decide)]
      unfold f_X6_readsRow
      rw [m_rd0 h rd hp (by omega), bs, e1]
      rfl
  | succ d ih =>
    intro r p K V G T rnr rks rvs rwg rts rd f1 f2 hrd hf1 hf2 hpr hp hT hD
    obtain ⟨f1, rfl⟩ : ∃ g, f1 = g + 1 := ⟨f1 - 1, by omega⟩
    obtain ⟨f2, rfl⟩ : ∃ g, f2 = g + 1 + 1 := ⟨f2 - 2, by omega⟩
    have hlen := h.1
    have h20 : ¬ (20 : Int32) ≤ nI r := nI_ge (b := 20) (by omega) (by omega)
    rcases row_both h hp (by omega) hT hD with ⟨p', rd', hp', m1, c1⟩ | ⟨p', ks', vs', wg', ts', rd', K', V', G', T', hp1, hp2, m1, c1, t1, d1⟩
    · refine ⟨p', r, rnr, rks, rvs, rwg, rts, rd', nI r, false, hp', ?_, ?_, fun z => by cases z⟩
      · unfold iter
        simp only [b_X2_readAll_1]
        rw [if_neg h20, c1, bs]
        rfl
      · unfold iter
        simp only [b_X6_fault_1]
        rw [if_neg (show ¬ (1 : Int32) = 0 by decide), m1, bs]
        rfl
    · have hl2 : tl = nI len := h.2.1
      have hl3 : xl = nI len := h.2.2.1
      cases e : hr len tx p' 44 44 with
      | true =>
        obtain ⟨p6, _⟩ := hr_of e (by omega)
        obtain ⟨q, r', rnr', ks2, vs2, wg2, ts2, rd2, rm2, ok, i1, i2, i3, i4⟩ := ih (r + 1) (p' + 1) K' V' G' T' (nI (r + 1)) ks' vs' wg' ts' rd' f1 (f2 + 1) (by omega) (by omega) (by omega) (by omega) (by omega) t1 d1
        refine ⟨q, r', rnr', ks2, vs2, wg2, ts2, rd2, rm2, ok, i1, ?_, ?_, i4⟩
        · rw [← i2]
          refine iter_l ?_
          simp only [b_X2_readAll_1]
          rw [if_neg h20, c1, bs]
          try dsimp only
          rw [if_neg (show ¬ (1 : Int32) = 0 by decide), (c_tk h hp2).2.2, bs, e]
          try dsimp only
          simp only [if_true]
          rw [if_neg (show ¬ bI true = 0 by decide), nI_1]
        · rw [← i3]
          refine iter_l ?_
          simp only [b_X6_fault_1]
          rw [if_neg (show ¬ (1 : Int32) = 0 by decide), m1, bs]
          try dsimp only
          rw [if_neg (show ¬ (1 : Int32) = 0 by decide), (m_sg h hp2).2.2, bs, e]
          simp only [if_true]
          rfl
      | false =>
        by_cases ef : p' = len
        · refine ⟨p', r + 1, nI (r + 1), ks', vs', wg', ts', rd', nI (r + 1), true, hp2, ?_, ?_, fun _ => ⟨rfl, rfl, K', V', G', T', t1, d1⟩⟩
          · unfold iter
            simp only [b_X2_readAll_1]
            rw [if_neg h20, c1, bs]
            try dsimp only
            rw [if_neg (show ¬ (1 : Int32) = 0 by decide), (c_tk h hp2).2.2, bs, e]
            simp only [Bool.false_eq_true, if_false]
            rw [if_pos (show bI false = 0 from rfl)]
            unfold f_X4_length
            rw [bs, if_pos (by rw [hl2, ef])]
            rfl
          · unfold iter
            simp only [b_X6_fault_1]
            rw [if_neg (show ¬ (1 : Int32) = 0 by decide), m1, bs]
            try dsimp only
            rw [if_neg (show ¬ (1 : Int32) = 0 by decide), (m_sg h hp2).2.2, bs, e]
            try dsimp only
            simp only [Bool.false_eq_true, if_false]
            unfold iter
            simp only [b_X6_fault_1]
            rw [if_pos (show bI false = 0 from rfl), if_pos (by rw [hl3, ef])]
            try rfl
        · have hne : ¬ nI p' = nI len := fun z => ef ((nI_eq (by omega) (by omega)).mp z)
          refine ⟨p', r + 1, nI (r + 1), ks', vs', wg', ts', rd', nI (r + 1), false, hp2, ?_, ?_, fun z => by cases z⟩
          · unfold iter
            simp only [b_X2_readAll_1]
            rw [if_neg h20, c1, bs]
            try dsimp only
            rw [if_neg (show ¬ (1 : Int32) = 0 by decide), (c_tk h hp2).2.2, bs, e]
            simp only [Bool.false_eq_true, if_false]
            rw [if_pos (show bI false = 0 from rfl)]
            unfold f_X4_length
            rw [bs, if_neg (by rw [hl2]; exact hne)]
            rfl
          · unfold iter
            simp only [b_X6_fault_1]
            rw [if_neg (show ¬ (1 : Int32) = 0 by decide), m1, bs]
            try dsimp only
            rw [if_neg (show ¬ (1 : Int32) = 0 by decide), (m_sg h hp2).2.2, bs, e]
            try dsimp only
            simp only [Bool.false_eq_true, if_false]
            unfold iter
            simp only [b_X6_fault_1]
            rw [if_pos (show bI false = 0 from rfl), if_neg (by rw [hl3]; exact hne)]
            try rfl
end TXT
/-! rows put behind the table's, both sides -/
def catF (K : Nat → Nat) (n : Nat) (K2 : Nat → Nat) : Nat → Nat := fun j => if j < n then K j else K2 (j - n)
theorem catF_push (K : Nat → Nat) (n : Nat) (K2 : Nat → Nat) (i j : Nat) (hj : j < n + i + 1) : catF K n K2 j = pushF (catF K n K2) (n + i) (K2 i) j := by
  unfold pushF
  by_cases e : j = n + i
  · rw [if_pos e]
    unfold catF
    rw [if_neg (by omega), show j - n = i by omega]
  · rw [if_neg e]
theorem catF_zero (K : Nat → Nat) (n : Nat) (K2 : Nat → Nat) (j : Nat) (hj : j < n) : catF K n K2 j = K j := by
  unfold catF
  rw [if_pos hj]
theorem c_appendAll {n r : Nat} {K V G T K2 V2 G2 T2 : Nat → Nat} {nr onr : Int32} {ks vs wg ts oks ovs owg ots : Nat → Int32} (h : TF n K V G T nr ks vs wg ts) (h2 : TF r K2 V2 G2 T2 onr oks ovs owg ots) (hn : n + r ≤ 20) :
    ∃ ks' vs' wg' ts', f_X3_appendAll nr ks vs wg ts onr oks ovs owg ots = some (nI (n + r), ks', vs', wg', ts') ∧ TF (n + r) (catF K n K2) (catF V n V2) (catF G n G2) (catF T n T2) (nI (n + r)) ks' vs' wg' ts' := by
  unfold f_X3_appendAll
  obtain ⟨o, g1, ks', vs', wg', ts', g2, g3⟩ := iter_inv2 (b_X3_appendAll_1 onr oks ovs owg ots) (fun i z => z.1 = nI i ∧ TF (n + i) (catF K n K2) (catF V n V2) (catF G n G2) (catF T n T2) z.2.1 z.2.2.1 z.2.2.2.1 z.2.2.2.2.1 z.2.2.2.2.2) r (fun o => ∃ ks' vs' wg' ts', o = (nI (n + r), ks', vs', wg', ts') ∧ TF (n + r) (catF K n K2) (catF V n V2) (catF G n G2) (catF T n T2) (nI (n + r)) ks' vs' wg' ts') (by omega) (by
    rintro i ⟨v, n1, k1, v1, w1, t1⟩ hi ⟨e1, e2⟩
    dsimp only at e1 e2
    subst e1
    have hb := (h2.2.2 i hi).2.2.2.2
    obtain ⟨ks', vs', wg', ts', a1, a2⟩ := c_append e2 (by omega) (k := K2 i) (v := V2 i) (g := G2 i) (t := T2 i) hb.1 hb.2.1 hb.2.2.1 hb.2.2.2
    simp only [b_X3_appendAll_1]
    rw [h2.1, if_neg (nI_ge hi (by omega)), h2.keyAt hi, bs, h2.valueAt hi, bs, h2.weightAt hi, bs, h2.targetAt hi, bs, a1, bs, nI_1]
    refine Or.inl ⟨_, rfl, rfl, ?_⟩
    exact TF_ext a2 (fun j hj => ⟨catF_push K n K2 i j hj, catF_push V n V2 i j hj, catF_push G n G2 i j hj, catF_push T n T2 i j hj⟩)) (by
    rintro ⟨v, n1, k1, v1, w1, t1⟩ ⟨e1, e2⟩
    dsimp only at e1 e2
    subst e1
    simp only [b_X3_appendAll_1]
    rw [h2.1, if_pos (nI_le (Nat.le_refl _) (by omega))]
    have e3 := e2.1
    subst e3
    exact ⟨_, rfl, k1, v1, w1, t1, rfl, e2⟩) (s0 := (0, nr, ks, vs, wg, ts)) ⟨rfl, TF_ext h (fun j hj => ⟨catF_zero K n K2 j hj, catF_zero V n V2 j hj, catF_zero G n G2 j hj, catF_zero T n T2 j hj⟩)⟩
  exact ⟨ks', vs', wg', ts', by rw [g1, g2], g3⟩
theorem m_putAll {n r : Nat} {K V G T K2 V2 G2 T2 : Nat → Nat} {pf : Bool} {al rd : Nat → Int32} (hlg : Int32) (hi sv : Nat → Int32) (xp : Int32) (h : MF n K V G T pf al) (h2 : RD r K2 V2 G2 T2 rd) (hb : ∀ j, j < r → K2 j < 10 ∧ V2 j < 8 ∧ G2 j < 100 ∧ T2 j ≤ 10) (hn : n + r ≤ 20) :
    ∃ al', iter fuel (b_X6_readRows_1 hlg hi (nI r) sv xp rd) (0, al) = Option.bind (f_X6_acted hlg sv hi (al' 0)) (fun (r_14, hlg_15, hi_16) => some (r_14, hlg_15, xp, nI r, al', sv, hi_16, rd)) ∧ MF (n + r) (catF K n K2) (catF V n V2) (catF G n G2) (catF T n T2) pf al' := by
  have key : ∀ d i al1 f, i + d = r → d < f → MF (n + i) (catF K n K2) (catF V n V2) (catF G n G2) (catF T n T2) pf al1 → ∃ al', iter f (b_X6_readRows_1 hlg hi (nI r) sv xp rd) (nI (4 * i), al1) = Option.bind (f_X6_acted hlg sv hi (al' 0)) (fun (r_14, hlg_15, hi_16) => some (r_14, hlg_15, xp, nI r, al', sv, hi_16, rd)) ∧ MF (n + r) (catF K n K2) (catF V n V2) (catF G n G2) (catF T n T2) pf al' := by
    intro d
    induction d with
    | zero =>
      intro i al1 f hid hf hM
      obtain ⟨f, rfl⟩ : ∃ g, f = g + 1 := ⟨f - 1, by omega⟩
      have : i = r := by omega
      subst this
      refine ⟨al1, ?_, hM⟩
      unfold iter
      simp only [b_X6_readRows_1]
      rw [show (4 : Int32) = nI 4 from rfl, nI_mulO, if_pos (nI_le (Nat.le_refl _) (by omega))]
      cases f_X6_acted hlg sv hi (al1 0) with
      | none => rfl
      | some o => rfl
    | succ d ih =>
      intro i al1 f hid hf hM
      obtain ⟨f, rfl⟩ : ∃ g, f = g + 1 := ⟨f - 1, by omega⟩
      obtain ⟨d1, d2, d3, d4⟩ := h2 i (by omega)
      obtain ⟨b1, b2, b3, b4⟩ := hb i (by omega)
      obtain ⟨al2, a1, a2⟩ := m_puts hM (by omega) b1 b2 b3 b4
      have q1 : nI (4 * i) + 1 = nI (4 * i + 1) := nI_add _ 1
      have q2 : nI (4 * i) + 2 = nI (4 * i + 2) := nI_add _ 2
      have q3 : nI (4 * i) + 3 = nI (4 * i + 3) := nI_add _ 3
      have q4 : nI (4 * i) + 4 = nI (4 * (i + 1)) := nI_add _ 4
      unfold iter
      simp only [b_X6_readRows_1]
      rw [q1, q2, q3, q4, show (4 : Int32) = nI 4 from rfl, nI_mulO, if_neg (nI_ge (by omega) (by omega)), if_pos (nI_in (by omega) (by omega)), if_pos (nI_in (by omega) (by omega)), if_pos (nI_in (by omega) (by omega)), if_pos (nI_in (by omega) (by omega)), nI_clamp (by omega), nI_clamp (by omega), nI_clamp (by omega), nI_clamp (by omega), d1, d2, d3, d4, a1, bs]
      exact ih (i + 1) al2 f (by omega) (by omega) (MF_ext a2 (fun j hj => ⟨catF_push K n K2 i j hj, catF_push V n V2 i j hj, catF_push G n G2 i j hj, catF_push T n T2 i j hj⟩))
  exact key r 0 al fuel (by omega) (by unfold fuel; omega) (MF_ext h (fun j hj => ⟨catF_zero K n K2 j hj, catF_zero V n V2 j hj, catF_zero G n G2 j hj, catF_zero T n T2 j hj⟩))
