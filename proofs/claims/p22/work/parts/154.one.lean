/-! one table: answers by the mendings in which they hold -/
theorem best_can {n : Nat} {K G : Nat → Nat} {pf : Bool} {k b : Nat} (h : bestP K G true k n = some b) : can n K G pf b = true := by
  have hb := bestP_lt n b h
  unfold can
  rw [hb.2, h]
  simp
theorem OA_pos {S : ST} {k : Nat} : 0 < (OA S k).length ↔ 0 < cntK S.1 k := by
  constructor
  · intro h
    have hm := OA_mem.mp (getD_mem h)
    exact cntP_pos.mpr ⟨_, hm.1, by rw [beq_iff_eq]; exact hm.2.1⟩
  · intro h
    obtain ⟨j, hj, hk⟩ := cntP_pos.mp h
    rw [beq_iff_eq] at hk
    obtain ⟨b, hb⟩ := bestP_some (K := S.1.2.1) (G := S.1.2.2.2.1) (up := true) S.1.1 hj
    rw [hk] at hb
    have hl := bestP_lt _ b hb
    have hm : b ∈ OA S k := OA_mem.mpr ⟨hl.1, hl.2, best_can hb⟩
    exact List.length_pos_of_mem hm
theorem OA_len {S : ST} {k : Nat} : (OA S k).length ≤ cntK S.1 k := by
  have : ∀ i, (op S.1.2.1 (can S.1.1 S.1.2.1 S.1.2.2.2.1 S.2) k i).length ≤ cntP (fun j => S.1.2.1 j == k) i := by
    intro i
    induction i with
    | zero => exact Nat.le_refl _
    | succ i ih =>
      rw [op_succ, cntP_succ]
      by_cases e : S.1.2.1 i = k ∧ can S.1.1 S.1.2.1 S.1.2.2.2.1 S.2 i = true
      · rw [if_pos e, if_pos (by rw [beq_iff_eq]; exact e.1), List.length_append]
        show _ + 1 ≤ _
        omega
      · rw [if_neg e]
        omega
  exact this S.1.1
theorem thO_iff {S : ST} {k : Nat} : thO (OA S) k ↔ k < 10 ∧ 0 < cntK S.1 k := ⟨fun h => ⟨h.1, OA_pos.mp h.2⟩, fun h => ⟨h.1, OA_pos.mpr h.2⟩⟩
section ONEW
variable {S : ST} {a b : Nat}
theorem gws_le : gws S a b ≤ MA S := cntP_le _ _
theorem way_sure : SG (thO (OA S)) (tsO (OA S) S.1.2.2.2.2) b 9 a ↔ gws S a b = MA S := by
  rw [sure_iff]
  exact cntP_all.symm
theorem way_poss : RG (thO (OA S)) (tsO (OA S) S.1.2.2.2.2) b 9 a ↔ 0 < gws S a b := poss_iff
theorem way_fl : lowP (fun m => !(wl (OA S) S.1.2.2.2.2 a b m).isSome) (MA S) = none ↔ gws S a b = MA S := by
  rw [lowP_none]
  refine Iff.trans ?_ cntP_all.symm
  exact ⟨fun h m hm => by have := h m hm; simpa using this, fun h m hm => by have := h m hm; simpa using this⟩
theorem way_ls : lowP (fun p => cb (RG (thO (OA S)) (tsO (OA S) S.1.2.2.2.2) b p a)) 10 = none ↔ gws S a b = 0 := by
  rw [lowP_none]
  constructor
  · intro h
    have := cb_false.mp (h 9 (by omega))
    rw [way_poss] at this
    omega
  · intro h p hp
    refine cb_false.mpr (fun q => ?_)
    have := RG_mono q (9 - p)
    rw [show p + (9 - p) = 9 by omega, way_poss] at this
    omega
theorem way_ls0 (hab : a ≠ b) : lowP (fun p => cb (RG (thO (OA S)) (tsO (OA S) S.1.2.2.2.2) b p a)) 10 ≠ some 0 := by
  intro h
  obtain ⟨_, h2, _⟩ := lowP_some.mp h
  exact hab (cb_iff.mp h2).2
theorem way_self (ha : a < 10) (hc : 0 < cntK S.1 a) : gws S a a = MA S ∧ lowP (fun p => cb (RG (thO (OA S)) (tsO (OA S) S.1.2.2.2.2) a p a)) 10 = some 0 := by
  have ht := thO_iff.mpr ⟨ha, hc⟩
  have h0 : SG (thO (OA S)) (tsO (OA S) S.1.2.2.2.2) a 0 a := ⟨ht, rfl⟩
  refine ⟨way_sure.mp (SG_mono h0 9), lowP_some.mpr ⟨by omega, cb_iff.mpr ⟨ht, rfl⟩, fun j hj => by omega⟩⟩
theorem RG_thb {th : Nat → Prop} {TS : Nat → Nat → Prop} {b : Nat} : ∀ r a, RG th TS b r a → th b := by
  intro r
  induction r with
  | zero => intro a h; exact h.1
  | succ r ih =>
    rintro a (h | ⟨t, _, h⟩)
    · exact ih a h
    · exact ih t h
theorem way_self0 (hc : cntK S.1 a = 0) : gws S a a = 0 := by
  rcases Nat.eq_zero_or_pos (gws S a a) with h | h
  · exact h
  · have := RG_thb 9 a (way_poss.mpr h)
    have := (thO_iff.mp this).2
    omega
theorem sure_poss (h : SG (thO (OA S)) (tsO (OA S) S.1.2.2.2.2) b 9 a) : RG (thO (OA S)) (tsO (OA S) S.1.2.2.2.2) b 9 a := by
  rw [way_poss]
  rw [way_sure] at h
  have := MA_pos S
  omega
end ONEW
section ONEV
variable {S : ST} {v : Nat}
def hlv (S : ST) (v : Nat) : Nat := MA S - vout (OA S) S.1.2.2.1 v
theorem val_sum : cntP (fun m => decide (0 < vkp (OA S) S.1.2.2.1 v m)) (MA S) = hlv S v := by
  have h : cntP (fun m => decide (0 < vkp (OA S) S.1.2.2.1 v m)) (MA S) + vout (OA S) S.1.2.2.1 v = MA S := val_out (O := OA S) (V := S.1.2.2.1) (v := v)
  unfold hlv
  omega
theorem hlv_le : hlv S v ≤ MA S := Nat.sub_le _ _
theorem hlv_sure : 0 < vfew (OA S) S.1.2.2.1 v ↔ hlv S v = MA S := by
  rw [val_sure, lowP_none, ← val_sum]
  refine Iff.trans ?_ cntP_all.symm
  exact ⟨fun h m hm => by have := h m hm; simpa using this, fun h m hm => by have := h m hm; simpa using this⟩
theorem hlv_poss : 0 < vmost (OA S) S.1.2.2.1 v ↔ 0 < hlv S v := by
  rw [val_poss, ← val_sum]
theorem few_most : vfew (OA S) S.1.2.2.1 v ≤ vmost (OA S) S.1.2.2.1 v := cntP_le_of (fun k _ hk => by
  rw [Bool.and_eq_true, decide_eq_true_eq, decide_eq_true_eq] at hk
  rw [decide_eq_true_eq]
  omega)
theorem most_key : vmost (OA S) S.1.2.2.1 v ≤ keyA S.1 := cntP_le_of (fun k _ hk => by
  rw [decide_eq_true_eq] at hk ⊢
  have h1 := cntP_le (fun d => S.1.2.2.1 ((OA S k).getD d 0) == v) (OA S k).length
  have h2 := OA_len (S := S) (k := k)
  omega)
end ONEV
/-- the chosen row of a key: first, last, or heaviest -/
def bt (w : Nat) (G : Nat → Nat) (r j : Nat) : Prop := if w = 0 then r ≤ j else if w = 1 then j ≤ r else G j ≤ G r ∧ (j < r → G j < G r)
theorem bt_anti {w : Nat} {G : Nat → Nat} {r s : Nat} (h1 : bt w G r s) (h2 : bt w G s r) : r = s := by
  unfold bt at h1 h2
  by_cases e0 : w = 0
  · rw [if_pos e0] at h1 h2; omega
  · by_cases e1 : w = 1
    · rw [if_neg e0, if_pos e1] at h1 h2; omega
    · rw [if_neg e0, if_neg e1] at h1 h2
      rcases Nat.lt_trichotomy r s with q | q | q
      · have := h2.2 q; omega
      · exact q
      · have := h1.2 q; omega
theorem lastP_max {p : Nat → Bool} : ∀ n r, lastP p n = some r → ∀ j, j < n → p j = true → j ≤ r := by
  intro n
  induction n with
  | zero => intro r h; cases h
  | succ n ih =>
    intro r h j hj hp
    unfold lastP at h
    by_cases e : p n = true
    · rw [if_pos e] at h; cases h; omega
    · rw [if_neg e] at h
      refine ih r h j ?_ hp
      rcases Nat.lt_or_ge j n with q | q
      · exact q
      · exact absurd (by rw [← show j = n by omega]; exact hp) e
theorem bestP_max {K G : Nat → Nat} {k : Nat} : ∀ n r, bestP K G true k n = some r → ∀ j, j < n → K j = k → G j ≤ G r ∧ (j < r → G j < G r) := by
  intro n
  induction n with
  | zero => intro r h; cases h
  | succ n ih =>
    intro r h j hj hk
    unfold bestP at h
    by_cases e : K n = k
    · rw [if_pos e] at h
      cases hb : bestP K G true k n with
      | none =>
        rw [hb] at h
        cases h
        rcases Nat.lt_or_ge j n with q | q
        · obtain ⟨b, hb2⟩ := bestP_some (K := K) (G := G) (up := true) n q
          rw [hk, hb] at hb2
          cases hb2
        · have : j = n := by omega
          subst this
          exact ⟨Nat.le_refl _, fun z => absurd z (Nat.lt_irrefl _)⟩
      | some b =>
        rw [hb] at h
        have hbl := bestP_lt n b hb
        by_cases eg : G b < G n
        · have h : (if G b < G n then some n else some b) = some r := h
          rw [if_pos eg] at h
          cases h
          rcases Nat.lt_or_ge j n with q | q
          · have := (ih b hb j q hk).1
            exact ⟨by omega, fun _ => by omega⟩
          · have : j = n := by omega
            subst this
            exact ⟨Nat.le_refl _, fun z => absurd z (Nat.lt_irrefl _)⟩
        · have h : (if G b < G n then some n else some b) = some r := h
          rw [if_neg eg] at h
          cases h
          rcases Nat.lt_or_ge j n with q | q
          · exact ih r hb j q hk
          · have : j = n := by omega
            subst this
            exact ⟨by omega, fun z => by omega⟩
    · rw [if_neg e] at h
      refine ih r h j ?_ hk
      rcases Nat.lt_or_ge j n with q | q
      · exact q
      · exact absurd (by rw [← show j = n by omega]; exact hk) e
theorem chos_bt {w : Nat} (hw : w < 3) {A : AT} {k r : Nat} (h : chos w A k = some r) : ∀ j, j < A.1 → A.2.1 j = k → bt w A.2.2.2.1 r j := by
  intro j hj hk
  unfold chos at h
  unfold bt
  by_cases e0 : w = 0
  · rw [if_pos e0] at h ⊢
    obtain ⟨_, _, h3⟩ := lowP_some.mp h
    rcases Nat.lt_or_ge j r with q | q
    · have := h3 j q
      rw [hk] at this
      simp at this
    · exact q
  · by_cases e1 : w = 1
    · rw [if_neg e0, if_pos e1] at h ⊢
      exact lastP_max _ _ h j hj (by rw [beq_iff_eq]; exact hk)
    · rw [if_neg e0, if_neg e1] at h ⊢
      exact bestP_max _ _ h j hj hk
theorem chos_iff {w : Nat} (hw : w < 3) {A : AT} {k r : Nat} : chos w A k = some r ↔ r < A.1 ∧ A.2.1 r = k ∧ ∀ j, j < A.1 → A.2.1 j = k → bt w A.2.2.2.1 r j := by
  constructor
  · intro h
    obtain ⟨h1, h2⟩ := chos_some h
    exact ⟨h1, h2, chos_bt hw h⟩
  · rintro ⟨h1, h2, h3⟩
    obtain ⟨s, hs⟩ := chos_ex (w := w) h1 h2
    obtain ⟨a1, a2⟩ := chos_some hs
    rw [hs, bt_anti (chos_bt hw hs r h1 h2) (h3 s a1 a2)]
/-- ascending lists -/
theorem asc_ext : ∀ (L M : List Nat), L.Pairwise (· < ·) → M.Pairwise (· < ·) → (∀ x, x ∈ L ↔ x ∈ M) → L = M := by
  intro L
  induction L with
  | nil =>
    intro M _ _ h
    cases M with
    | nil => rfl
    | cons m M => exact absurd ((h m).mpr List.mem_cons_self) List.not_mem_nil
  | cons l L ih =>
    intro M hL hM h
    cases M with
    | nil => exact absurd ((h l).mp List.mem_cons_self) List.not_mem_nil
    | cons m M =>
      have hL' := List.pairwise_cons.mp hL
      have hM' := List.pairwise_cons.mp hM
      have e : l = m := by
        rcases List.mem_cons.mp ((h l).mp List.mem_cons_self) with q | q
        · exact q
        · rcases List.mem_cons.mp ((h m).mpr List.mem_cons_self) with q2 | q2
          · exact q2.symm
          · have := hM'.1 l q
            have := hL'.1 m q2
            omega
      subst e
      refine congrArg (List.cons l) (ih M hL'.2 hM'.2 (fun x => ?_))
      constructor
      · intro hx
        have := hL'.1 x hx
        rcases List.mem_cons.mp ((h x).mp (List.mem_cons_of_mem _ hx)) with q | q
        · omega
        · exact q
      · intro hx
        have := hM'.1 x hx
        rcases List.mem_cons.mp ((h x).mpr (List.mem_cons_of_mem _ hx)) with q | q
        · omega
        · exact q
theorem kl_asc (p : Nat → Bool) (n : Nat) : (kl p n).Pairwise (· < ·) := by
  rw [kl_filter]
  exact List.Pairwise.filter _ List.pairwise_lt_range
theorem asc_lt {L : List Nat} (h : L.Pairwise (· < ·)) {s t : Nat} (hst : s < t) (ht : t < L.length) : L.getD s 0 < L.getD t 0 := by
  have := List.pairwise_iff_getElem.mp h s t (by omega) ht hst
  rw [List.getD_eq_getElem?_getD, List.getD_eq_getElem?_getD, List.getElem?_eq_getElem (by omega), List.getElem?_eq_getElem ht]
  exact this
theorem asc_le {L : List Nat} (h : L.Pairwise (· < ·)) {s t : Nat} (hs : s < L.length) (ht : t < L.length) : L.getD s 0 ≤ L.getD t 0 ↔ s ≤ t := by
  rcases Nat.lt_trichotomy s t with q | q | q
  · have := asc_lt h q ht; omega
  · subst q; omega
  · have := asc_lt h q hs; omega
theorem asc_llt {L : List Nat} (h : L.Pairwise (· < ·)) {s t : Nat} (hs : s < L.length) (ht : t < L.length) : L.getD s 0 < L.getD t 0 ↔ s < t := by
  have := asc_le h ht hs
  omega
theorem asc_inj {L : List Nat} (h : L.Pairwise (· < ·)) {s t : Nat} (hs : s < L.length) (ht : t < L.length) (e : L.getD s 0 = L.getD t 0) : s = t := by
  have h1 := asc_le h hs ht
  have h2 := asc_le h ht hs
  omega
/-- the chosen row of a key in a table that keeps all rows of that key -/
theorem chos_sub {w : Nat} (hw : w < 3) {A : AT} {L : List Nat} (hL : L.Pairwise (· < ·)) (hn : ∀ j, j ∈ L → j < A.1) {k : Nat} (hc : ∀ j, j < A.1 → A.2.1 j = k → j ∈ L) {t : Nat} (ht : t < L.length) : chos w (selA A L) k = some t ↔ chos w A k = some (L.getD t 0) := by
  rw [chos_iff hw, chos_iff hw]
  have hbt : ∀ s, s < L.length → (bt w (selF A.2.2.2.1 L) t s ↔ bt w A.2.2.2.1 (L.getD t 0) (L.getD s 0)) := fun s hs => by
    unfold bt selF
    rw [asc_le hL ht hs, asc_le hL hs ht, asc_llt hL hs ht]
  constructor
  · rintro ⟨_, h2, h3⟩
    refine ⟨hn _ (getD_mem ht), h2, fun j hj hk => ?_⟩
    obtain ⟨s, hs, rfl⟩ := mem_getD (hc j hj hk)
    exact (hbt s hs).mp (h3 s hs hk)
  · rintro ⟨_, h2, h3⟩
    refine ⟨ht, h2, fun s hs hk => ?_⟩
    exact (hbt s hs).mpr (h3 _ (hn _ (getD_mem hs)) hk)
theorem chos_sub_none {w : Nat} {A : AT} {L : List Nat} (hn : ∀ j, j ∈ L → j < A.1) {k : Nat} (h : chos w A k = none) : chos w (selA A L) k = none := by
  cases hc : chos w (selA A L) k with
  | none => rfl
  | some t =>
    obtain ⟨h1, h2⟩ := chos_some hc
    obtain ⟨r, hr⟩ := chos_ex (w := w) (hn _ (getD_mem h1)) h2
    rw [h] at hr
    cases hr
