/-! each mending keeps one row of each key, all of them together each row that can be kept -/
theorem op_asc {K : Nat → Nat} {c : Nat → Bool} {k : Nat} : ∀ i, (op K c k i).Pairwise (· < ·) := by
  intro i
  induction i with
  | zero => exact List.Pairwise.nil
  | succ i ih =>
    rw [op_succ]
    by_cases e : K i = k ∧ c i = true
    · rw [if_pos e, List.pairwise_append]
      refine ⟨ih, List.pairwise_singleton _ _, fun a ha b hb => ?_⟩
      rw [List.mem_singleton] at hb
      have := ((op_mem i).mp ha).1
      omega
    · rw [if_neg e]
      exact ih
theorem prd_one {N : Nat → Nat} {k : Nat} : ∀ K, k < K → prd N K = N k * prd (fun k' => if k' = k then 1 else N k') K := by
  intro K
  induction K with
  | zero => intro h; omega
  | succ K ih =>
    intro h
    unfold prd
    by_cases e : k = K
    · subst e
      rw [if_pos rfl, Nat.mul_one, Nat.mul_comm]
      congr 1
      exact prd_congr (fun j hj => by rw [if_neg (by omega)])
    · rw [if_neg (by omega), ih (by omega), Nat.mul_assoc]
theorem cntP_one {n d : Nat} (h : d < n) : cntP (fun x => x == d) n = 1 := by
  have h1 : cntP (fun x => x == d) n = cntP (fun _ => false) n + 1 := cntP_add1 h (by simp) rfl (fun j hj => by simp [hj])
  have h2 : cntP (fun _ => false) n = 0 := by
    rcases Nat.eq_zero_or_pos (cntP (fun _ => false) n) with q | q
    · exact q
    · obtain ⟨i, _, hi⟩ := cntP_pos.mp q
      cases hi
  omega
theorem cntP_true (n : Nat) : cntP (fun _ => true) n = n := cntP_all.mpr (fun _ _ => rfl)
theorem digit_cnt {N : Nat → Nat} {k d : Nat} (hk : k < 10) (hd : d < N k) (hN : ∀ k, k < 10 → 0 < N k) : cntP (fun m => dg N m k == d) (prd N 10) = prd (fun k' => if k' = k then 1 else N k') 10 := by
  have h1 := cntP_digits N (fun k' d' => if k' = k then d' == d else true) 10 hN
  have h2 : cntP (fun m => allK (fun k' d' => if k' = k then d' == d else true) (dg N m) 10) (prd N 10) = cntP (fun m => dg N m k == d) (prd N 10) := cntP_congr (fun m _ => by
    rw [Bool.eq_iff_iff, allK_iff]
    constructor
    · intro h
      have := h k hk
      rw [if_pos rfl] at this
      exact this
    · intro h k' _
      by_cases e : k' = k
      · rw [if_pos e, e]; exact h
      · rw [if_neg e])
  rw [← h2, h1]
  refine prd_congr (fun k' hk' => ?_)
  by_cases e : k' = k
  · subst e
    rw [if_pos rfl]
    have : cntP (fun d' => if k' = k' then d' == d else true) (N k') = cntP (fun x => x == d) (N k') := cntP_congr (fun i _ => by rw [if_pos rfl])
    rw [this]
    exact cntP_one hd
  · rw [if_neg e]
    have : cntP (fun d' => if k' = k then d' == d else true) (N k') = cntP (fun _ => true) (N k') := cntP_congr (fun i _ => by rw [if_neg e])
    rw [this]
    exact cntP_true _
def kq (S : ST) (m r : Nat) : Bool := decide (r < S.1.1) && decide (kpt (OA S) m (S.1.2.1 r) = some r)
def hc (S : ST) (m r : Nat) : Nat := cntP (fun i => kq S i r) m
section WELL
variable {S : ST}
theorem kpt_none {m k : Nat} : kpt (OA S) m k = none ↔ cntK S.1 k = 0 := by
  have h := OA_pos (S := S) (k := k)
  unfold kpt
  by_cases e : (OA S k).length = 0
  · rw [if_pos e]; exact ⟨fun _ => by omega, fun _ => rfl⟩
  · rw [if_neg e]; exact ⟨fun q => (by cases q), fun q => (by omega)⟩
theorem kpt_some {m k r : Nat} (h : kpt (OA S) m k = some r) : r < S.1.1 ∧ S.1.2.1 r = k ∧ can S.1.1 S.1.2.1 S.1.2.2.2.1 S.2 r = true ∧ gk (OA S) S.1.2.2.2.1 k (dg (bas (OA S)) m k) = S.1.2.2.2.1 r := by
  unfold kpt at h
  by_cases e : (OA S k).length = 0
  · rw [if_pos e] at h; cases h
  · rw [if_neg e] at h
    have h := Option.some.inj h
    have hm := OA_mem.mp (getD_mem (dg_len (m := m) e))
    rw [h] at hm
    refine ⟨hm.1, hm.2.1, hm.2.2, ?_⟩
    unfold gk
    rw [if_neg e, h]
theorem gk_none {m k : Nat} (h : kpt (OA S) m k = none) : gk (OA S) S.1.2.2.2.1 k (dg (bas (OA S)) m k) = 0 := by
  unfold kpt at h
  by_cases e : (OA S k).length = 0
  · unfold gk; rw [if_pos e]
  · rw [if_neg e] at h; cases h
theorem gk_le (hok : OkA S.1) (m k : Nat) : gk (OA S) S.1.2.2.2.1 k (dg (bas (OA S)) m k) ≤ 100 := by
  cases h : kpt (OA S) m k with
  | none => rw [gk_none h]; omega
  | some r =>
    obtain ⟨h1, _, _, h2⟩ := kpt_some h
    have := (hok.2 r h1).2.2.1
    omega
theorem sumM_le (hok : OkA S.1) (m i : Nat) : sumP (fun k => gk (OA S) S.1.2.2.2.1 k (dg (bas (OA S)) m k)) i ≤ 100 * i := by
  induction i with
  | zero => exact Nat.le_refl _
  | succ i ih =>
    rw [sumP_succ]
    have := gk_le hok m i
    omega
/-- how often a row is kept -/
theorem kept_cnt (hok : OkA S.1) {r : Nat} (hr : r < S.1.1) (hc0 : can S.1.1 S.1.2.1 S.1.2.2.2.1 S.2 r = true) : 0 < (OA S (S.1.2.1 r)).length ∧ MA S = (OA S (S.1.2.1 r)).length * hc S (MA S) r := by
  have hK := (hok.2 r hr).1
  have hin : r ∈ OA S (S.1.2.1 r) := OA_mem.mpr ⟨hr, rfl, hc0⟩
  obtain ⟨d, hd, e⟩ := mem_getD hin
  have hlen : 0 < (OA S (S.1.2.1 r)).length := by omega
  have hb := bas_len hlen
  refine ⟨hlen, ?_⟩
  have h1 : hc S (MA S) r = cntP (fun m => dg (bas (OA S)) m (S.1.2.1 r) == d) (MA S) := cntP_congr (fun m _ => by
    unfold kq
    rw [decide_eq_true hr, Bool.true_and, Bool.eq_iff_iff, decide_eq_true_eq, beq_iff_eq]
    unfold kpt
    rw [if_neg (by omega)]
    constructor
    · intro q
      have q := Option.some.inj q
      exact asc_inj (op_asc S.1.1) (dg_len (by omega)) hd (q.trans e.symm)
    · intro q
      rw [q, e])
  have h2 : cntP (fun m => dg (bas (OA S)) m (S.1.2.1 r) == d) (MA S) = prd (fun k' => if k' = S.1.2.1 r then 1 else bas (OA S) k') 10 := digit_cnt hK (by rw [hb]; exact hd) (fun k _ => bas_pos _ k)
  rw [h1, h2]
  have h3 := prd_one (N := bas (OA S)) 10 hK
  rw [hb] at h3
  exact h3
theorem kept_no {r m : Nat} (h : can S.1.1 S.1.2.1 S.1.2.2.2.1 S.2 r = false) : hc S m r = 0 := by
  rcases Nat.eq_zero_or_pos (hc S m r) with q | q
  · exact q
  · obtain ⟨i, _, hi⟩ := cntP_pos.mp q
    unfold kq at hi
    rw [Bool.and_eq_true, decide_eq_true_eq, decide_eq_true_eq] at hi
    have := (kpt_some hi.2).2.2.1
    rw [h] at this
    cases this
theorem hc_le {m r : Nat} : hc S m r ≤ m := cntP_le _ _
theorem sure_cnt (hok : OkA S.1) {r : Nat} (hr : r < S.1.1) : srB (OA S) S.1.1 S.1.2.1 S.1.2.2.2.1 S.2 r = true ↔ hc S (MA S) r = MA S := by
  have hM := MA_pos S
  unfold srB
  cases hcn : can S.1.1 S.1.2.1 S.1.2.2.2.1 S.2 r with
  | false =>
    rw [kept_no hcn, Bool.false_and]
    exact ⟨fun q => (by cases q), fun q => by omega⟩
  | true =>
    obtain ⟨h1, h2⟩ := kept_cnt hok hr hcn
    rw [Bool.true_and, decide_eq_true_eq]
    constructor
    · intro q
      rw [q, Nat.one_mul] at h2
      exact h2.symm
    · intro q
      rw [q] at h2
      have h3 : 1 * MA S = (OA S (S.1.2.1 r)).length * MA S := by rw [Nat.one_mul]; exact h2
      exact (Nat.eq_of_mul_eq_mul_right hM h3).symm
end WELL
section WELLY
variable {u : SSt} {S : ST} {z : Nat} {Hs : Nat → ST}
def HD (S : ST) (m i r : Nat) : Nat := hc S m r + (if (decide (S.1.2.1 r < i) && kq S m r) = true then 1 else 0)
theorem HD_none {m i : Nat} (h : kpt (OA S) m i = none) (r : Nat) : HD S m (i + 1) r = HD S m i r := by
  unfold HD
  congr 1
  by_cases e : S.1.2.1 r = i
  · have : kq S m r = false := by
      unfold kq
      rw [e, h]
      simp
    rw [this, Bool.and_false, Bool.and_false]
  · rw [show decide (S.1.2.1 r < i + 1) = decide (S.1.2.1 r < i) from by rw [Bool.eq_iff_iff, decide_eq_true_eq, decide_eq_true_eq]; omega]
theorem HD_some {m i r0 : Nat} (h : kpt (OA S) m i = some r0) (r : Nat) : HD S m (i + 1) r = HD S m i r + (if r = r0 then 1 else 0) := by
  obtain ⟨h1, h2, _, _⟩ := kpt_some h
  unfold HD
  by_cases e : S.1.2.1 r = i
  · by_cases er : r = r0
    · subst er
      have : kq S m r = true := by
        unfold kq
        rw [e, h, decide_eq_true h1, decide_eq_true rfl]
        rfl
      rw [this, decide_eq_true (show S.1.2.1 r < i + 1 by omega), decide_eq_false (show ¬ S.1.2.1 r < i by omega), if_pos rfl]
      rfl
    · have : kq S m r = false := by
        unfold kq
        rw [e, h, decide_eq_false (fun q => er (Option.some.inj q).symm), Bool.and_false]
      rw [this, Bool.and_false, Bool.and_false, if_neg er]
      rfl
  · have er : r ≠ r0 := fun q => e (by rw [q]; exact h2)
    rw [show decide (S.1.2.1 r < i + 1) = decide (S.1.2.1 r < i) from by rw [Bool.eq_iff_iff, decide_eq_true_eq, decide_eq_true_eq]; omega, if_neg er]
    rfl
theorem HD_zero (m r : Nat) : HD S m 0 r = hc S m r := by
  unfold HD
  rw [decide_eq_false (Nat.not_lt_zero _), Bool.false_and]
  rfl
theorem HD_ten (hok : OkA S.1) (m r : Nat) : HD S m 10 r = hc S (m + 1) r := by
  unfold HD hc
  rw [cntP_succ]
  congr 1
  by_cases e : r < S.1.1
  · rw [decide_eq_true (hok.2 r e).1, Bool.true_and]
  · have : kq S m r = false := by
      unfold kq
      rw [decide_eq_false e, Bool.false_and]
    rw [this, Bool.and_false]
theorem w_keys (hR : Rep u S z Hs) {m : Nat} (hm : m < MA S) (hM : MA S ≤ 200) {hd : Nat → Int32} (hhd : ∀ r, r < 20 → hd r = nI (hc S m r)) :
    ∃ out, iter fuel (b_L_isWell_1 (nI m)) (1, 0, 0, u, hd) = some out ∧ ∃ u' hd', out = (1, nI (sumM (OA S) S.1.2.2.2.1 m), u', hd') ∧ Rep u' S z Hs ∧ ∀ r, r < 20 → hd' r = nI (hc S (m + 1) r) := by
  have hok := hR.ok
  refine iter_inv (b_L_isWell_1 (nI m)) (fun i s => ∃ u' hd', s = (1, nI (sumP (fun k => gk (OA S) S.1.2.2.2.1 k (dg (bas (OA S)) m k)) i), nI i, u', hd') ∧ Rep u' S z Hs ∧ ∀ r, r < 20 → hd' r = nI (HD S m i r)) 10 _ (by omega) ?_ ?_ ⟨u, hd, rfl, hR, fun r hr => by rw [HD_zero]; exact hhd r hr⟩
  · rintro i s hi ⟨u1, hd1, rfl, h1, hh⟩
    have hc20 : cntK S.1 i ≤ 20 := Nat.le_trans (cntP_le _ _) hok.1
    obtain ⟨u2, q2, h2⟩ := y_kept h1 hm hi
    obtain ⟨u3, q3, h3⟩ := y_key h2 (p := 0) (w := 0) (k := i) rfl hi (by omega)
    have q3 : f_Y5_key u2 (nI i) 0 = some (nI (cntK S.1 i), u3) := q3
    have hkn := kpt_none (S := S) (m := m) (k := i)
    cases hk : kpt (OA S) m i with
    | none =>
      rw [hk] at q2
      have hc0 := hkn.mp hk
      refine ⟨(1, nI (sumP (fun k => gk (OA S) S.1.2.2.2.1 k (dg (bas (OA S)) m k)) (i + 1)), nI (i + 1), u3, upd hd1 0 (hd1 0 + 0)), ?_, u3, _, rfl, h3, fun r hr => ?_⟩
      · unfold b_L_isWell_1
        refine ifn (nI_ge (b := 10) hi (by omega)) ?_
        refine ifn (by decide) ?_
        refine bq q2 ?_
        refine bq ib ?_
        refine bq q3 ?_
        refine bq ib ?_
        refine bq (a := ((1 : Int32), u3)) ?_ ?_
        · refine ifp (bI_dec (by rw [hc0]; exact ⟨fun _ => rfl, fun _ => rfl⟩)) ?_
          exact ifp (by decide) rfl
        refine bq (a := (0 : Int32)) (if_neg (by decide)) ?_
        refine ifp (by decide) ?_
        refine bq (a := (0 : Int32)) (if_neg (by decide)) ?_
        refine ifp (by decide) ?_
        refine bq (a := ((0 : Int32), u3)) (if_neg (by decide)) ?_
        show some (Sum.inl ((1 : Int32), nI (sumP (fun k => gk (OA S) S.1.2.2.2.1 k (dg (bas (OA S)) m k)) i) + 0, nI i + 1, u3, upd hd1 0 (hd1 0 + 0))) = _
        rw [nI_1, Int32.add_zero (nI _), sumP_succ, gk_none hk]
        rfl
      · rw [HD_none hk]
        unfold upd
        by_cases e : r = 0
        · rw [if_pos e, Int32.add_zero, ← e]; exact hh r hr
        · rw [if_neg e]; exact hh r hr
    | some r0 =>
      rw [hk] at q2
      obtain ⟨a1, a2, a3, a4⟩ := kpt_some hk
      have hn := hok.1
      have hc0 : cntK S.1 i ≠ 0 := fun q => by rw [hkn.mpr q] at hk; cases hk
      obtain ⟨u4, q4, h4⟩ := y_row h3 (p := 0) (w := 0) rfl a1 (by omega)
      obtain ⟨u5, q5, h5⟩ := y_row h4 (p := 4) (w := 4) rfl a1 (by omega)
      obtain ⟨u6, q6, h6⟩ := y_row h5 (p := 2) (w := 2) rfl a1 (by omega)
      have q2 : f_Y5_kept u1 (nI m) (nI i) = some (nI r0, u2) := q2
      have q4 : f_Y5_row u3 (nI r0) 0 = some (nI (S.1.2.1 r0), u4) := q4
      have q5 : f_Y5_row u4 (nI r0) 4 = some (bI (can S.1.1 S.1.2.1 S.1.2.2.2.1 S.2 r0), u5) := q5
      have q6 : f_Y5_row u5 (nI r0) 2 = some (nI (S.1.2.2.2.1 r0), u6) := q6
      have h0r : (0 : Int32) ≤ nI r0 := nI_pos' (by omega)
      have hin : ¬ (nI r0 < 0 ∨ 20 ≤ (nI r0).toNatClampNeg) := nI_in (by omega) (by omega)
      refine ⟨(1, nI (sumP (fun k => gk (OA S) S.1.2.2.2.1 k (dg (bas (OA S)) m k)) (i + 1)), nI (i + 1), u6, upd hd1 r0 (hd1 r0 + 1)), ?_, u6, _, rfl, h6, fun r hr => ?_⟩
      · unfold b_L_isWell_1
        refine ifn (nI_ge (b := 10) hi (by omega)) ?_
        refine ifn (by decide) ?_
        refine bq q2 ?_
        refine bq ib ?_
        refine bq q3 ?_
        refine bq ib ?_
        refine bq (a := ((1 : Int32), u5)) ?_ ?_
        · refine ifp (bI_dec ?_) ?_
          · rw [neq0 (by omega)]
            exact ⟨fun q => absurd q (nI_ne5 (by omega)), fun q => absurd q hc0⟩
          refine ifn (nI_pos (by omega)) ?_
          refine bq q4 ?_
          refine ifp (by rw [a2]) ?_
          refine bq q5 ?_
          exact ifp (by rw [a3]; rfl) rfl
        refine bq (a := nI r0) (if_pos h0r) ?_
        refine ifp hin ?_
        refine bq (a := (1 : Int32)) (if_pos h0r) ?_
        refine ifp hin ?_
        refine bq (a := (nI (S.1.2.2.2.1 r0), u6)) ?_ ?_
        · refine ifp h0r ?_
          exact bq q6 rfl
        show some (Sum.inl ((1 : Int32), nI (sumP (fun k => gk (OA S) S.1.2.2.2.1 k (dg (bas (OA S)) m k)) i) + nI (S.1.2.2.2.1 r0), nI i + 1, u6, upd hd1 (nI r0).toNatClampNeg (hd1 (nI r0).toNatClampNeg + 1))) = _
        rw [nI_1, nI_add, sumP_succ, a4, nI_clamp (by omega)]
      · rw [HD_some hk]
        unfold upd
        by_cases e : r = r0
        · rw [if_pos e, if_pos e, ← e, hh r hr, nI_1]
        · rw [if_neg e, if_neg e]; exact hh r hr
  · rintro s ⟨u1, hd1, rfl, h1, hh⟩
    refine ⟨(1, nI (sumM (OA S) S.1.2.2.2.1 m), u1, hd1), ?_, u1, hd1, rfl, h1, fun r hr => by rw [← HD_ten hok]; exact hh r hr⟩
    unfold b_L_isWell_1
    exact ifp (by decide) rfl
theorem w_mend (hR : Rep u S z Hs) (hM : MA S ≤ 200) :
    ∃ out, iter fuel (b_L_isWell_2 (nI (MA S)) (nI (sI (OA S) S.1.2.2.2.1 0)) (nI (sI (OA S) S.1.2.2.2.1 1)) (nI (sI (OA S) S.1.2.2.2.1 2)) (nI (sI (OA S) S.1.2.2.2.1 3))) (1, 0, u, fun _ => 0) = some out ∧ ∃ u' hd', out = (1, u', hd') ∧ Rep u' S z Hs ∧ ∀ r, r < 20 → hd' r = nI (hc S (MA S) r) := by
  have hok := hR.ok
  have bl : bm (OA S) S.1.2.2.2.1 false < MA S := bm_lt
  have bh : bm (OA S) S.1.2.2.2.1 true < MA S := bm_lt
  have hle : ∀ m, sumM (OA S) S.1.2.2.2.1 m ≤ 1000 := fun m => sumM_le hok m 10
  have el : sI (OA S) S.1.2.2.2.1 0 = sumM (OA S) S.1.2.2.2.1 (bm (OA S) S.1.2.2.2.1 false) := rfl
  have eh : sI (OA S) S.1.2.2.2.1 1 = sumM (OA S) S.1.2.2.2.1 (bm (OA S) S.1.2.2.2.1 true) := rfl
  have el2 : sI (OA S) S.1.2.2.2.1 2 = bm (OA S) S.1.2.2.2.1 false := rfl
  have eh2 : sI (OA S) S.1.2.2.2.1 3 = bm (OA S) S.1.2.2.2.1 true := rfl
  rw [el, eh, el2, eh2]
  have hl0 := hle (bm (OA S) S.1.2.2.2.1 false)
  have hh0 := hle (bm (OA S) S.1.2.2.2.1 true)
  refine iter_inv _ (fun i s => ∃ u' hd', s = (1, nI i, u', hd') ∧ Rep u' S z Hs ∧ ∀ r, r < 20 → hd' r = nI (hc S i r)) (MA S) _ (by omega) ?_ ?_ ⟨u, _, rfl, hR, fun r _ => rfl⟩
  · rintro m s hm ⟨u1, hd1, rfl, h1, hh⟩
    obtain ⟨_, q, u2, hd2, rfl, h2, hh2⟩ := w_keys h1 hm hM hh
    have hb1 := (bm_best (O := OA S) (G := S.1.2.2.2.1) (up := false) hm)
    have hb2 := (bm_best (O := OA S) (G := S.1.2.2.2.1) (up := true) hm)
    have b1 : sumM (OA S) S.1.2.2.2.1 (bm (OA S) S.1.2.2.2.1 false) ≤ sumM (OA S) S.1.2.2.2.1 m := hb1.1
    have b2 : m < bm (OA S) S.1.2.2.2.1 false → sumM (OA S) S.1.2.2.2.1 (bm (OA S) S.1.2.2.2.1 false) < sumM (OA S) S.1.2.2.2.1 m := hb1.2
    have b3 : sumM (OA S) S.1.2.2.2.1 m ≤ sumM (OA S) S.1.2.2.2.1 (bm (OA S) S.1.2.2.2.1 true) := hb2.1
    have b4 : m < bm (OA S) S.1.2.2.2.1 true → sumM (OA S) S.1.2.2.2.1 m < sumM (OA S) S.1.2.2.2.1 (bm (OA S) S.1.2.2.2.1 true) := hb2.2
    have hs := hle m
    have c1 : ¬ bm (OA S) S.1.2.2.2.1 false < m → (sumM (OA S) S.1.2.2.2.1 m = sumM (OA S) S.1.2.2.2.1 (bm (OA S) S.1.2.2.2.1 false) ↔ m = bm (OA S) S.1.2.2.2.1 false) := fun hn => by
      constructor
      · intro q
        rcases Nat.lt_or_ge m (bm (OA S) S.1.2.2.2.1 false) with y | y
        · have := b2 y; omega
        · omega
      · intro q; rw [← q]
    have c2 : ¬ bm (OA S) S.1.2.2.2.1 true < m → (sumM (OA S) S.1.2.2.2.1 m = sumM (OA S) S.1.2.2.2.1 (bm (OA S) S.1.2.2.2.1 true) ↔ m = bm (OA S) S.1.2.2.2.1 true) := fun hn => by
      constructor
      · intro q
        rcases Nat.lt_or_ge m (bm (OA S) S.1.2.2.2.1 true) with y | y
        · have := b4 y; omega
        · omega
      · intro q; rw [← q]
    refine ⟨(1, nI (m + 1), u2, hd2), ?_, u2, hd2, rfl, h2, hh2⟩
    unfold b_L_isWell_2
    refine ifn (nI_ge hm (by omega)) ?_
    refine ifn (by decide) ?_
    refine bq q ?_
    refine bq (a := (1 : Int32)) ?_ ?_
    · refine ifn (by decide) ?_
      refine ifn (nI_nlt b1 (by omega)) ?_
      refine ifn (nI_nlt b3 (by omega)) ?_
      by_cases e1 : bm (OA S) S.1.2.2.2.1 false < m
      · refine ifp (nI_lt e1 (by omega)) ?_
        by_cases e2 : bm (OA S) S.1.2.2.2.1 true < m
        · exact ifp (nI_lt e2 (by omega)) rfl
        · refine ifn (nI_nlt (by omega) (by omega)) ?_
          refine bq ib ?_
          refine bq ib ?_
          exact ifp (bI_dec (by rw [nI_eq (by omega) (by omega), nI_eq (by omega) (by omega)]; exact c2 e2)) rfl
      · refine ifn (nI_nlt (by omega) (by omega)) ?_
        refine bq ib ?_
        refine bq ib ?_
        refine ifp (bI_dec (by rw [nI_eq (by omega) (by omega), nI_eq (by omega) (by omega)]; exact c1 e1)) ?_
        by_cases e2 : bm (OA S) S.1.2.2.2.1 true < m
        · exact ifp (nI_lt e2 (by omega)) rfl
        · refine ifn (nI_nlt (by omega) (by omega)) ?_
          refine bq ib ?_
          refine bq ib ?_
          exact ifp (bI_dec (by rw [nI_eq (by omega) (by omega), nI_eq (by omega) (by omega)]; exact c2 e2)) rfl
    show some (Sum.inl ((1 : Int32), nI m + 1, u2, hd2)) = _
    rw [nI_1]
  · rintro s ⟨u1, hd1, rfl, h1, hh⟩
    refine ⟨(1, u1, hd1), ?_, u1, hd1, rfl, h1, hh⟩
    unfold b_L_isWell_2
    exact ifp (nI_le (Nat.le_refl _) (by omega)) rfl
theorem w_rows (hR : Rep u S z Hs) (hM : MA S ≤ 200) {hd : Nat → Int32} (hh : ∀ r, r < 20 → hd r = nI (hc S (MA S) r)) :
    ∃ out, iter fuel (b_L_isWell_3 (nI S.1.1) (nI (MA S)) hd) (0, 1, 0, u) = some out ∧ ∃ u', out = (nI (cntP (srB (OA S) S.1.1 S.1.2.1 S.1.2.2.2.1 S.2) S.1.1), 1, u') ∧ Rep u' S z Hs := by
  have hok := hR.ok
  have hn := hok.1
  have hM0 := MA_pos S
  refine iter_inv _ (fun i s => ∃ u', s = (nI (cntP (srB (OA S) S.1.1 S.1.2.1 S.1.2.2.2.1 S.2) i), 1, nI i, u') ∧ Rep u' S z Hs) S.1.1 _ (by omega) ?_ ?_ ⟨u, rfl, hR⟩
  · rintro r s hr ⟨u1, rfl, h1⟩
    have hK := (hok.2 r hr).1
    have hin : ¬ (nI r < 0 ∨ 20 ≤ (nI r).toNatClampNeg) := nI_in (by omega) (by omega)
    have hcl : (nI r).toNatClampNeg = r := nI_clamp (by omega)
    have hhr := hh r (by omega)
    have hcle := hc_le (S := S) (m := MA S) (r := r)
    have hsu := sure_cnt hok hr
    obtain ⟨u2, q2, h2⟩ := y_row h1 (p := 4) (w := 4) rfl hr (by omega)
    have q2 : f_Y5_row u1 (nI r) 4 = some (bI (can S.1.1 S.1.2.1 S.1.2.2.2.1 S.2 r), u2) := q2
    obtain ⟨u3, hx, h3⟩ : ∃ u3, (if bI (can S.1.1 S.1.2.1 S.1.2.2.2.1 S.2 r) = 1 then (Option.bind (f_Y5_row u2 (nI r) 0) (fun (x : Int32 × SSt) => (Option.bind (f_Y5_key x.2 x.1 1) (fun (y : Int32 × SSt) => (if ¬ y.1 = 0 then some ((nI (MA S) / y.1, y.2)) else none))))) else some ((0, u2))) = some (nI (hc S (MA S) r), u3) ∧ Rep u3 S z Hs := by
      cases hcn : can S.1.1 S.1.2.1 S.1.2.2.2.1 S.2 r with
      | false =>
        rw [kept_no hcn]
        exact ⟨u2, if_neg (by decide), h2⟩
      | true =>
        obtain ⟨a1, a2⟩ := kept_cnt hok hr hcn
        have hl20 : (OA S (S.1.2.1 r)).length ≤ 20 := Nat.le_trans OA_len (Nat.le_trans (cntP_le _ _) hn)
        obtain ⟨u3, q3, h3⟩ := y_row h2 (p := 0) (w := 0) rfl hr (by omega)
        obtain ⟨u4, q4, h4⟩ := y_key h3 (p := 1) (w := 1) (k := S.1.2.1 r) rfl hK (by omega)
        have q3 : f_Y5_row u2 (nI r) 0 = some (nI (S.1.2.1 r), u3) := q3
        have q4 : f_Y5_key u3 (nI (S.1.2.1 r)) 1 = some (nI (OA S (S.1.2.1 r)).length, u4) := q4
        refine ⟨u4, ?_, h4⟩
        refine ifp rfl ?_
        refine bq q3 ?_
        refine bq q4 ?_
        refine ifp (by show ¬ nI (OA S (S.1.2.1 r)).length = 0; rw [neq0 (by omega)]; omega) ?_
        show some (nI (MA S) / nI (OA S (S.1.2.1 r)).length, u4) = _
        rw [nI_div (by omega) (by omega)]
        have : MA S / (OA S (S.1.2.1 r)).length = hc S (MA S) r := by
          have e : MA S / (OA S (S.1.2.1 r)).length = (OA S (S.1.2.1 r)).length * hc S (MA S) r / (OA S (S.1.2.1 r)).length := by rw [← a2]
          rw [e, Nat.mul_div_cancel_left _ a1]
        rw [this]
    obtain ⟨u4, q4, h4⟩ := y_row h3 (p := 5) (w := 5) rfl hr (by omega)
    obtain ⟨u5, q5, h5⟩ := y_row h4 (p := 5) (w := 5) rfl hr (by omega)
    have q4 : f_Y5_row u3 (nI r) 5 = some (bI (srB (OA S) S.1.1 S.1.2.1 S.1.2.2.2.1 S.2 r), u4) := q4
    have q5 : f_Y5_row u4 (nI r) 5 = some (bI (srB (OA S) S.1.1 S.1.2.1 S.1.2.2.2.1 S.2 r), u5) := q5
    refine ⟨(nI (cntP (srB (OA S) S.1.1 S.1.2.1 S.1.2.2.2.1 S.2) (r + 1)), 1, nI (r + 1), u5), ?_, u5, rfl, h5⟩
    unfold b_L_isWell_3
    refine ifn (nI_ge hr (by omega)) ?_
    refine ifn (by decide) ?_
    refine ifp hin ?_
    refine bq q2 ?_
    refine bq (a := (nI (hc S (MA S) r), u3)) hx ?_
    refine bq (a := ((1 : Int32), u4)) ?_ ?_
    · refine ifp (by rw [hcl]; exact hhr) ?_
      refine bq q4 ?_
      refine bq ib ?_
      refine ifp hin ?_
      refine bq ib ?_
      exact ifp (bI_dec (by rw [bI_1, hsu, hcl, hhr, nI_eq (by omega) (by omega)])) rfl
    refine bq q5 ?_
    show some (Sum.inl (nI (cntP (srB (OA S) S.1.1 S.1.2.1 S.1.2.2.2.1 S.2) r) + bI (srB (OA S) S.1.1 S.1.2.1 S.1.2.2.2.1 S.2 r), (1 : Int32), nI r + 1, u5)) = _
    rw [nI_1, cnt_step]
  · rintro s ⟨u1, rfl, h1⟩
    refine ⟨(nI (cntP (srB (OA S) S.1.1 S.1.2.1 S.1.2.2.2.1 S.2) S.1.1), 1, u1), ?_, u1, rfl, h1⟩
    unfold b_L_isWell_3
    exact ifp (nI_le (Nat.le_refl _) (by omega)) rfl
theorem bI_nle {x : Nat} (hx : x < 2 ^ 31) (c : Nat) {q : Int32} (hq : q = nI c) (hc : c < 2 ^ 31) : (!decide (nI x ≤ q)) = decide (c + 1 ≤ x) := by
  have h := nI_leI hx hc
  rw [hq, Bool.eq_iff_iff, Bool.not_eq_true', decide_eq_false_iff_not, decide_eq_true_eq, h]
  omega
theorem w_all (hR : Rep u S z Hs) (hM : MA S ≤ 200) :
    ∃ out, iter fuel b_L_isWell_4 (1, 0, 0, 1, 0, u) = some out ∧ ∃ u', out = (nI (MA S), nI (keyA S.1), nI (dblA S.1), 1, u') ∧ Rep u' S z Hs := by
  have hok := hR.ok
  have hn := hok.1
  refine iter_inv b_L_isWell_4 (fun i s => ∃ u', s = (nI (prd (bas (OA S)) i), nI (cntP (fun k => decide (1 ≤ cntK S.1 k)) i), nI (cntP (fun k => decide (2 ≤ cntK S.1 k)) i), 1, nI i, u') ∧ Rep u' S z Hs) 10 _ (by omega) ?_ ?_ ⟨u, rfl, hR⟩
  · rintro k s hk ⟨u1, rfl, h1⟩
    have hc20 : cntK S.1 k ≤ 20 := Nat.le_trans (cntP_le _ _) hn
    have hl := OA_len (S := S) (k := k)
    have hp := OA_pos (S := S) (k := k)
    obtain ⟨u2, q2, h2⟩ := y_key h1 (p := 1) (w := 1) (k := k) rfl hk (by omega)
    obtain ⟨u3, q3, h3⟩ := y_key h2 (p := 0) (w := 0) (k := k) rfl hk (by omega)
    obtain ⟨u4, q4, h4⟩ := y_key h3 (p := 0) (w := 0) (k := k) rfl hk (by omega)
    obtain ⟨u5, q5, h5⟩ := y_key h4 (p := 0) (w := 0) (k := k) rfl hk (by omega)
    obtain ⟨u6, q6, h6⟩ := y_key h5 (p := 0) (w := 0) (k := k) rfl hk (by omega)
    have q2 : f_Y5_key u1 (nI k) 1 = some (nI (OA S k).length, u2) := q2
    have q3 : f_Y5_key u2 (nI k) 0 = some (nI (cntK S.1 k), u3) := q3
    have q4 : f_Y5_key u3 (nI k) 0 = some (nI (cntK S.1 k), u4) := q4
    have q5 : f_Y5_key u4 (nI k) 0 = some (nI (cntK S.1 k), u5) := q5
    have q6 : f_Y5_key u5 (nI k) 0 = some (nI (cntK S.1 k), u6) := q6
    have hbas : (if nI (OA S k).length ≤ 0 then some (1 : Int32) else some (nI (OA S k).length)) = some (nI (bas (OA S) k)) := by
      unfold bas
      by_cases e : (OA S k).length = 0
      · rw [if_pos ((nle0 (by omega)).mpr e), if_pos e]; rfl
      · rw [if_neg (by rw [nle0 (by omega)]; exact e), if_neg e]
    obtain ⟨u7, hx, h7⟩ : ∃ u7, (if nI (OA S k).length = 0 then some ((1 : Int32), u6) else (Option.bind (f_Y5_key u6 (nI k) 3) (fun (x : Int32 × SSt) => (Option.bind (f_Y5_row x.2 x.1 4) (fun (y : Int32 × SSt) => (if y.1 = 1 then some ((1 : Int32), y.2) else some ((0 : Int32), y.2))))))) = some (1, u7) ∧ Rep u7 S z Hs := by
      by_cases e : (OA S k).length = 0
      · exact ⟨u6, if_pos ((neq0 (by omega)).mpr e), h6⟩
      · have hc0 : 0 < cntK S.1 k := hp.mp (by omega)
        obtain ⟨j, hj, hjk⟩ := cntP_pos.mp hc0
        rw [beq_iff_eq] at hjk
        obtain ⟨b, hb⟩ := bestP_some (K := S.1.2.1) (G := S.1.2.2.2.1) (up := true) S.1.1 hj
        rw [hjk] at hb
        have hbl := bestP_lt _ b hb
        obtain ⟨u7, q7, h7⟩ := y_key h6 (p := 3) (w := 3) (k := k) rfl hk (by omega)
        obtain ⟨u8, q8, h8⟩ := y_row h7 (p := 4) (w := 4) rfl hbl.1 (by omega)
        have q7 : f_Y5_key u6 (nI k) 3 = some (oI (bestP S.1.2.1 S.1.2.2.2.1 true k S.1.1), u7) := q7
        have q8 : f_Y5_row u7 (nI b) 4 = some (bI (can S.1.1 S.1.2.1 S.1.2.2.2.1 S.2 b), u8) := q8
        rw [hb] at q7
        rw [best_can hb] at q8
        refine ⟨u8, ?_, h8⟩
        refine ifn (by rw [neq0 (by omega)]; exact e) ?_
        refine bq q7 ?_
        refine bq q8 ?_
        exact ifp rfl rfl
    refine ⟨(nI (prd (bas (OA S)) (k + 1)), nI (cntP (fun k => decide (1 ≤ cntK S.1 k)) (k + 1)), nI (cntP (fun k => decide (2 ≤ cntK S.1 k)) (k + 1)), 1, nI (k + 1), u7), ?_, u7, rfl, h7⟩
    unfold b_L_isWell_4
    refine ifn (nI_ge (b := 10) hk (by omega)) ?_
    refine bq q2 ?_
    refine bq hbas ?_
    refine bq q3 ?_
    refine bq ibn ?_
    refine bq q4 ?_
    refine bq ibn ?_
    refine bq (a := ((1 : Int32), u7)) ?_ ?_
    · refine ifn (by decide) ?_
      refine bq q5 ?_
      refine ifn (nI_nlt hl (by omega)) ?_
      refine bq ibn ?_
      refine bq q6 ?_
      refine bq ibn ?_
      refine ifp (bI_decnn (by rw [nle0 (by omega), nle0 (by omega)]; omega)) ?_
      exact hx
    show some (Sum.inl (nI (prd (bas (OA S)) k) * nI (bas (OA S) k), nI (cntP (fun k => decide (1 ≤ cntK S.1 k)) k) + bI (!decide (nI (cntK S.1 k) ≤ 0)), nI (cntP (fun k => decide (2 ≤ cntK S.1 k)) k) + bI (!decide (nI (cntK S.1 k) ≤ 1)), (1 : Int32), nI k + 1, u7)) = _
    have b0 : (!decide (nI (cntK S.1 k) ≤ 0)) = decide (1 ≤ cntK S.1 k) := bI_nle (by omega) 0 rfl (by omega)
    have b1 : (!decide (nI (cntK S.1 k) ≤ 1)) = decide (2 ≤ cntK S.1 k) := bI_nle (by omega) 1 rfl (by omega)
    rw [nI_1, nI_mulO, b0, b1]
    have e1 := cnt_step (fun k => decide (1 ≤ cntK S.1 k)) k
    have e2 := cnt_step (fun k => decide (2 ≤ cntK S.1 k)) k
    show some (Sum.inl (nI (prd (bas (OA S)) k * bas (OA S) k), nI (cntP (fun k => decide (1 ≤ cntK S.1 k)) k) + bI (decide (1 ≤ cntK S.1 k)), nI (cntP (fun k => decide (2 ≤ cntK S.1 k)) k) + bI (decide (2 ≤ cntK S.1 k)), (1 : Int32), nI (k + 1), u7)) = _
    rw [e1, e2]
    rfl
  · rintro s ⟨u1, rfl, h1⟩
    refine ⟨(nI (MA S), nI (keyA S.1), nI (dblA S.1), 1, u1), ?_, u1, rfl, h1⟩
    unfold b_L_isWell_4
    exact ifp (by decide) rfl
theorem p_well (hR : Rep u S z Hs) : ∃ u', f_L_isWell u = some (1, u') ∧ Rep u' S z Hs := by
  have hok := hR.ok
  have hM1 := MA_le hok
  obtain ⟨u1, q1, h1⟩ := y_count hR (p := 3) (w := 3) rfl (by omega)
  have q1 : f_Y5_count u 3 = some (nI (MA S), u1) := q1
  by_cases hM : MA S ≤ 200
  · obtain ⟨u2, q2, h2⟩ := y_count h1 (p := 0) (w := 0) rfl (by omega)
    have q2 : f_Y5_count u1 0 = some (nI S.1.1, u2) := q2
    obtain ⟨u3, q3, h3⟩ := y_sum h2 (p := 0) (w := 0) rfl (by omega)
    obtain ⟨u4, q4, h4⟩ := y_sum h3 (p := 1) (w := 1) rfl (by omega)
    obtain ⟨u5, q5, h5⟩ := y_sum h4 (p := 2) (w := 2) rfl (by omega)
    obtain ⟨u6, q6, h6⟩ := y_sum h5 (p := 3) (w := 3) rfl (by omega)
    obtain ⟨_, q7, u7, hd7, rfl, h7, hh7⟩ := w_mend h6 hM
    obtain ⟨_, q8, u8, rfl, h8⟩ := w_rows h7 hM hh7
    obtain ⟨_, q9, u9, rfl, h9⟩ := w_all h8 hM
    obtain ⟨u10, q10, h10⟩ := y_count h9 (p := 1) (w := 1) rfl (by omega)
    obtain ⟨u11, q11, h11⟩ := y_count h10 (p := 2) (w := 2) rfl (by omega)
    obtain ⟨u12, q12, h12⟩ := y_count h11 (p := 4) (w := 4) rfl (by omega)
    obtain ⟨u13, q13, h13⟩ := y_keptNo h12 (k := 0) (by omega)
    have q13 : f_Y5_kept u12 (nI (MA S)) 0 = some (-2, u13) := q13
    obtain ⟨u14, q14, h14⟩ := y_count h13 (p := 5) (w := 5) rfl (by omega)
    obtain ⟨u15, q15, h15⟩ := y_count h14 (p := 6) (w := 6) rfl (by omega)
    obtain ⟨u16, q16, h16⟩ := y_count h15 (p := 7) (w := 7) rfl (by omega)
    obtain ⟨u17, q17, h17⟩ := y_count h16 (p := 8) (w := 8) rfl (by omega)
    refine ⟨u17, ?_, h17⟩
    unfold f_L_isWell
    refine bq q1 ?_
    refine ifp (nI_le (b := 200) hM (by omega)) ?_
    refine bq q2 ?_
    refine bq q3 ?_
    refine bq q4 ?_
    refine bq q5 ?_
    refine bq q6 ?_
    refine bq q7 ?_
    refine bq q8 ?_
    refine bq q9 ?_
    refine ifn (by decide) ?_
    refine ifp rfl ?_
    refine bq q10 ?_
    refine ifp rfl ?_
    refine bq q11 ?_
    refine ifp rfl ?_
    refine bq q12 ?_
    refine ifp rfl ?_
    refine bq q13 ?_
    refine ifp rfl ?_
    refine bq q14 ?_
    refine bq q15 ?_
    refine ifn (nI_nlt (cntP_le_of (fun v _ hv => ?_)) (Nat.lt_of_le_of_lt (cntP_le _ 8) (by omega))) ?_
    · have := few_most (S := S) (v := v)
      rw [decide_eq_true_eq] at hv ⊢
      omega
    refine bq q16 ?_
    refine bq q17 ?_
    refine ifn (nI_nlt (sumP_le (fun b _ => cntP_le_of (fun a _ ha => ?_))) (Nat.lt_of_le_of_lt (sumP_lt10 (fun k => cntP_le _ 10) 10 (Nat.le_refl _)) (by omega))) rfl
    exact cb_iff.mpr (sure_poss (cb_iff.mp ha))
  · refine ⟨u1, ?_, h1⟩
    unfold f_L_isWell
    refine bq q1 ?_
    exact ifn (nI_ge (a := 200) (by omega) (by omega)) rfl
end WELLY
