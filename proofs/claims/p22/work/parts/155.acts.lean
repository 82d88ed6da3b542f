/-! acts: what becomes of the table, and of the table turned over -/
def eqA (A B : AT) : Prop := B.1 = A.1 ∧ sameA A B
theorem RepT_eqA {A B : AT} {pf : Bool} {t : TB} (h : eqA A B) (hT : RepT (A, pf) t) : RepT (B, pf) t := by
  obtain ⟨h1, h2⟩ := h
  exact ⟨TFa_same hT.1 h1 h2, hT.2⟩
theorem kl_congr {p q : Nat → Bool} {n : Nat} (h : ∀ j, j < n → p j = q j) : kl p n = kl q n := op_ext n (fun j hj => ⟨Iff.rfl, h j hj⟩)
theorem mir_push {A : AT} {k v g t : Nat} : pushA (mirA A) (9 - k) (7 - v) g (mT t) = mirA (pushA A k v g t) := by
  have h1 : pushF (fun j => 9 - A.2.1 j) A.1 (9 - k) = fun j => 9 - pushF A.2.1 A.1 k j := funext fun j => by unfold pushF; split <;> rfl
  have h2 : pushF (fun j => 7 - A.2.2.1 j) A.1 (7 - v) = fun j => 7 - pushF A.2.2.1 A.1 v j := funext fun j => by unfold pushF; split <;> rfl
  have h3 : pushF (fun j => mT (A.2.2.2.2 j)) A.1 (mT t) = fun j => mT (pushF A.2.2.2.2 A.1 t j) := funext fun j => by unfold pushF; split <;> rfl
  show (A.1 + 1, pushF (fun j => 9 - A.2.1 j) A.1 (9 - k), pushF (fun j => 7 - A.2.2.1 j) A.1 (7 - v), pushF A.2.2.2.1 A.1 g, pushF (fun j => mT (A.2.2.2.2 j)) A.1 (mT t)) = _
  rw [h1, h2, h3]
  rfl
theorem mir_drop {A : AT} {r : Nat} : dropA (mirA A) r = mirA (dropA A r) := by
  have h1 : dropF (fun j => 9 - A.2.1 j) r = fun j => 9 - dropF A.2.1 r j := funext fun j => by unfold dropF; split <;> rfl
  have h2 : dropF (fun j => 7 - A.2.2.1 j) r = fun j => 7 - dropF A.2.2.1 r j := funext fun j => by unfold dropF; split <;> rfl
  have h3 : dropF (fun j => mT (A.2.2.2.2 j)) r = fun j => mT (dropF A.2.2.2.2 r j) := funext fun j => by unfold dropF; split <;> rfl
  show (A.1 - 1, dropF (fun j => 9 - A.2.1 j) r, dropF (fun j => 7 - A.2.2.1 j) r, dropF A.2.2.2.1 r, dropF (fun j => mT (A.2.2.2.2 j)) r) = _
  rw [h1, h2, h3]
  rfl
theorem mir_mend {A : AT} (h : OkA A) {r : Nat} (hr : r < A.1) : mendA (mirA A) r = mirA (mendA A r) := by
  have hk : kl (kpB (mirA A).2.1 r) A.1 = kl (kpB A.2.1 r) A.1 := kl_congr (fun j hj => by
    have h1 := (h.2 j hj).1
    have h2 := (h.2 r hr).1
    unfold kpB
    have e : ((mirA A).2.1 j == (mirA A).2.1 r) = (A.2.1 j == A.2.1 r) := by
      show (9 - A.2.1 j == 9 - A.2.1 r) = _
      rw [Bool.eq_iff_iff, beq_iff_eq, beq_iff_eq]
      omega
    rw [e])
  show selA (mirA A) (kl (kpB (mirA A).2.1 r) A.1) = _
  rw [hk]
  rfl
theorem mir_chos {w : Nat} {A : AT} (h : OkA A) {k : Nat} (hk : k < 10) : chos w (mirA A) (9 - k) = chos w A k := by
  unfold chos
  have h1 : ∀ j, j < A.1 → (((mirA A).2.1 j == 9 - k) = (A.2.1 j == k)) := fun j hj => by
    have := (h.2 j hj).1
    show (9 - A.2.1 j == 9 - k) = _
    rw [Bool.eq_iff_iff, beq_iff_eq, beq_iff_eq]
    omega
  by_cases e0 : w = 0
  · rw [if_pos e0, if_pos e0]
    show lowP (fun j => (mirA A).2.1 j == 9 - k) A.1 = _
    cases hl : lowP (fun j => A.2.1 j == k) A.1 with
    | none => exact lowP_none.mpr (fun i hi => by rw [h1 i hi]; exact lowP_none.mp hl i hi)
    | some r =>
      obtain ⟨a1, a2, a3⟩ := lowP_some.mp hl
      exact lowP_some.mpr ⟨a1, by rw [h1 r a1]; exact a2, fun j hj => by rw [h1 j (by omega)]; exact a3 j hj⟩
  · by_cases e1 : w = 1
    · rw [if_neg e0, if_pos e1, if_neg e0, if_pos e1]
      have : ∀ m, m ≤ A.1 → lastP (fun j => (mirA A).2.1 j == 9 - k) m = lastP (fun j => A.2.1 j == k) m := by
        intro m
        induction m with
        | zero => intro _; rfl
        | succ m ih =>
          intro hm
          unfold lastP
          rw [ih (by omega), h1 m (by omega)]
      exact this A.1 (Nat.le_refl _)
    · rw [if_neg e0, if_neg e1, if_neg e0, if_neg e1]
      exact mir_bestP hk A.1 (fun j hj => (h.2 j hj).1)
/-- all doubled keys mended: the chosen rows stay -/
def mallA (w : Nat) (A : AT) : AT := selA A (kl (fun j => decide (chos w A (A.2.1 j) = some j)) A.1)
theorem mir_mall {w : Nat} {A : AT} (h : OkA A) : mallA w (mirA A) = mirA (mallA w A) := by
  have hk : kl (fun j => decide (chos w (mirA A) ((mirA A).2.1 j) = some j)) A.1 = kl (fun j => decide (chos w A (A.2.1 j) = some j)) A.1 := kl_congr (fun j hj => by
    have h1 := (h.2 j hj).1
    have e : chos w (mirA A) ((mirA A).2.1 j) = chos w A (A.2.1 j) := mir_chos h h1
    rw [e])
  show selA (mirA A) (kl (fun j => decide (chos w (mirA A) ((mirA A).2.1 j) = some j)) A.1) = _
  rw [hk]
  rfl
theorem chos_eqA {w : Nat} (hw : w < 3) {A B : AT} (h : eqA A B) {k : Nat} : chos w B k = chos w A k := by
  obtain ⟨h1, h2⟩ := h
  have key : ∀ r, chos w A k = some r ↔ chos w B k = some r := fun r => by
    rw [chos_iff hw, chos_iff hw, h1]
    constructor
    · rintro ⟨a1, a2, a3⟩
      refine ⟨a1, by rw [(h2 r a1).1]; exact a2, fun j hj hk => ?_⟩
      have := a3 j hj (by rw [← (h2 j hj).1]; exact hk)
      unfold bt at this ⊢
      rw [(h2 r a1).2.2.1, (h2 j hj).2.2.1]
      exact this
    · rintro ⟨a1, a2, a3⟩
      refine ⟨a1, by rw [← (h2 r a1).1]; exact a2, fun j hj hk => ?_⟩
      have := a3 j hj (by rw [(h2 j hj).1]; exact hk)
      unfold bt at this ⊢
      rw [(h2 r a1).2.2.1, (h2 j hj).2.2.1] at this
      exact this
  cases ha : chos w A k with
  | none =>
    cases hb : chos w B k with
    | none => rfl
    | some r => rw [(key r).mpr hb] at ha; cases ha
  | some r => exact (key r).mp ha
theorem eqA_trans {A B C : AT} (h : eqA A B) (h' : eqA B C) : eqA A C := by
  refine ⟨h'.1.trans h.1, fun j hj => ?_⟩
  obtain ⟨a1, a2, a3, a4⟩ := h.2 j hj
  obtain ⟨b1, b2, b3, b4⟩ := h'.2 j (by rw [h.1]; exact hj)
  exact ⟨b1.trans a1, b2.trans a2, b3.trans a3, b4.trans a4⟩
theorem eqA_symm {A B : AT} (h : eqA A B) : eqA B A := by
  refine ⟨h.1.symm, fun j hj => ?_⟩
  obtain ⟨a1, a2, a3, a4⟩ := h.2 j (by rw [← h.1]; exact hj)
  exact ⟨a1.symm, a2.symm, a3.symm, a4.symm⟩
/-- rows chosen among chosen rows -/
theorem sel_sel {A : AT} {L M : List Nat} (hM : ∀ t, t ∈ M → t < L.length) : eqA (selA A (M.map (fun t => L.getD t 0))) (selA (selA A L) M) := by
  refine ⟨by show M.length = (M.map _).length; rw [List.length_map], fun j hj => ?_⟩
  have hj : j < (M.map (fun t => L.getD t 0)).length := hj
  rw [List.length_map] at hj
  have e : (M.map (fun t => L.getD t 0)).getD j 0 = L.getD (M.getD j 0) 0 := by
    rw [List.getD_eq_getElem?_getD, List.getElem?_map, List.getD_eq_getElem?_getD (l := M), List.getElem?_eq_getElem hj]
    rfl
  show selF (selF A.2.1 L) M j = selF A.2.1 _ j ∧ selF (selF A.2.2.1 L) M j = selF A.2.2.1 _ j ∧ selF (selF A.2.2.2.1 L) M j = selF A.2.2.2.1 _ j ∧ selF (selF A.2.2.2.2 L) M j = selF A.2.2.2.2 _ j
  unfold selF
  rw [e]
  exact ⟨rfl, rfl, rfl, rfl⟩
theorem sel_eqA {A B : AT} (h : eqA A B) {L : List Nat} (hL : ∀ t, t ∈ L → t < A.1) : eqA (selA A L) (selA B L) :=
  ⟨rfl, fun j hj => h.2 _ (hL _ (getD_mem hj))⟩
theorem map_asc {L M : List Nat} (hL : L.Pairwise (· < ·)) (hM : M.Pairwise (· < ·)) (h : ∀ t, t ∈ M → t < L.length) : (M.map (fun t => L.getD t 0)).Pairwise (· < ·) := by
  rw [List.pairwise_map]
  exact List.Pairwise.imp_of_mem (fun ha hb hab => asc_lt hL hab (h _ hb)) hM
def Pk (w : Nat) (A : AT) (i j : Nat) : Bool := decide (i ≤ A.2.1 j ∨ chos w A (A.2.1 j) = some j)
theorem mit_char {w : Nat} (hw : w < 3) {A : AT} : ∀ i, eqA (selA A (kl (Pk w A i) A.1)) (mit w A i) := by
  intro i
  induction i with
  | zero =>
    have : kl (Pk w A 0) A.1 = List.range A.1 := kl_all (fun j _ => decide_eq_true (Or.inl (Nat.zero_le _)))
    rw [this]
    refine ⟨by show A.1 = (List.range A.1).length; rw [List.length_range], fun j hj => ?_⟩
    have hj : j < (List.range A.1).length := hj
    rw [List.length_range] at hj
    show _ = selF A.2.1 _ j ∧ _ = selF A.2.2.1 _ j ∧ _ = selF A.2.2.2.1 _ j ∧ _ = selF A.2.2.2.2 _ j
    unfold selF
    rw [range_getD hj]
    exact ⟨rfl, rfl, rfl, rfl⟩
  | succ i ih =>
    have hL := kl_asc (Pk w A i) A.1
    have hn : ∀ j, j ∈ kl (Pk w A i) A.1 → j < A.1 := fun j hj => (kl_mem.mp hj).1
    have hc : ∀ j, j < A.1 → A.2.1 j = i → j ∈ kl (Pk w A i) A.1 := fun j hj hk => kl_mem.mpr ⟨hj, decide_eq_true (Or.inl (by omega))⟩
    have hch := chos_eqA hw ih (k := i)
    show eqA _ (mstep w (mit w A i) i)
    unfold mstep
    cases hm : chos w (mit w A i) i with
    | none =>
      rw [hm] at hch
      have hno : ∀ j, j < A.1 → A.2.1 j ≠ i := fun j hj hk => by
        obtain ⟨t, ht, e⟩ := mem_getD (hc j hj hk)
        obtain ⟨r, hr⟩ := chos_ex (w := w) (A := selA A (kl (Pk w A i) A.1)) (k := i) ht (by show A.2.1 _ = i; rw [e]; exact hk)
        rw [← hch] at hr
        cases hr
      have : kl (Pk w A (i + 1)) A.1 = kl (Pk w A i) A.1 := kl_congr (fun j hj => by
        have := hno j hj
        unfold Pk
        rw [Bool.eq_iff_iff, decide_eq_true_eq, decide_eq_true_eq]
        exact ⟨fun q => q.elim (fun z => Or.inl (by omega)) Or.inr, fun q => q.elim (fun z => Or.inl (by omega)) Or.inr⟩)
      rw [this]
      exact ih
    | some r =>
      rw [hm] at hch
      obtain ⟨hr, hrk⟩ := chos_some hch.symm
      have hr : r < (kl (Pk w A i) A.1).length := hr
      have hj0 := (chos_sub hw hL hn hc hr).mp hch.symm
      have hrk : A.2.1 ((kl (Pk w A i) A.1).getD r 0) = i := hrk
      have hB1 := ih.1
      have hB1' : (mit w A i).1 = (kl (Pk w A i) A.1).length := hB1
      have hkp : kl (kpB (mit w A i).2.1 r) (mit w A i).1 = kl (kpB (selF A.2.1 (kl (Pk w A i) A.1)) r) (kl (Pk w A i) A.1).length := by
        rw [hB1']
        refine kl_congr (fun j hj => ?_)
        unfold kpB
        rw [(ih.2 j hj).1, (ih.2 r hr).1]
        rfl
      have hMlt : ∀ t, t ∈ kl (kpB (selF A.2.1 (kl (Pk w A i) A.1)) r) (kl (Pk w A i) A.1).length → t < (kl (Pk w A i) A.1).length := fun t ht => (kl_mem.mp ht).1
      have hlist : (kl (kpB (selF A.2.1 (kl (Pk w A i) A.1)) r) (kl (Pk w A i) A.1).length).map (fun t => (kl (Pk w A i) A.1).getD t 0) = kl (Pk w A (i + 1)) A.1 := by
        refine asc_ext _ _ (map_asc hL (kl_asc _ _) hMlt) (kl_asc _ _) (fun x => ?_)
        rw [List.mem_map]
        constructor
        · rintro ⟨t, ht, rfl⟩
          obtain ⟨h1, h2⟩ := kl_mem.mp ht
          obtain ⟨h3, h4⟩ := kl_mem.mp (getD_mem h1)
          refine kl_mem.mpr ⟨h3, decide_eq_true ?_⟩
          unfold kpB selF at h2
          rw [hrk, Bool.or_eq_true, decide_eq_true_eq, Bool.not_eq_true', beq_eq_false_iff_ne] at h2
          rcases h2 with rfl | h2
          · rw [hrk]; exact Or.inr hj0
          · rcases of_decide_eq_true h4 with q | q
            · exact Or.inl (by omega)
            · exact Or.inr q
        · intro hx
          obtain ⟨h1, h2⟩ := kl_mem.mp hx
          have h2 := of_decide_eq_true h2
          have hxL : x ∈ kl (Pk w A i) A.1 := kl_mem.mpr ⟨h1, decide_eq_true (h2.elim (fun q => Or.inl (by omega)) Or.inr)⟩
          obtain ⟨t, ht, rfl⟩ := mem_getD hxL
          refine ⟨t, kl_mem.mpr ⟨ht, ?_⟩, rfl⟩
          unfold kpB selF
          rw [hrk, Bool.or_eq_true, decide_eq_true_eq, Bool.not_eq_true', beq_eq_false_iff_ne]
          by_cases e : A.2.1 ((kl (Pk w A i) A.1).getD t 0) = i
          · rcases h2 with q | q
            · omega
            · rw [e, hj0] at q
              exact Or.inl (asc_inj hL ht hr (Option.some.inj q).symm)
          · exact Or.inr e
      have a1 : eqA (selA A (kl (Pk w A (i + 1)) A.1)) (selA (selA A (kl (Pk w A i) A.1)) (kl (kpB (selF A.2.1 (kl (Pk w A i) A.1)) r) (kl (Pk w A i) A.1).length)) := by
        rw [← hlist]
        exact sel_sel hMlt
      have a2 : eqA (selA (selA A (kl (Pk w A i) A.1)) (kl (kpB (selF A.2.1 (kl (Pk w A i) A.1)) r) (kl (Pk w A i) A.1).length)) (selA (mit w A i) (kl (kpB (mit w A i).2.1 r) (mit w A i).1)) := by
        rw [hkp]
        exact sel_eqA ih hMlt
      exact eqA_trans a1 a2
theorem mit_mall {w : Nat} (hw : w < 3) {A : AT} (h : OkA A) : eqA (mallA w A) (mit w A 10) := by
  have := mit_char hw (A := A) 10
  have e : kl (Pk w A 10) A.1 = kl (fun j => decide (chos w A (A.2.1 j) = some j)) A.1 := kl_congr (fun j hj => by
    have := (h.2 j hj).1
    unfold Pk
    rw [Bool.eq_iff_iff, decide_eq_true_eq, decide_eq_true_eq]
    exact ⟨fun q => q.elim (fun z => by omega) id, Or.inr⟩)
  rw [e] at this
  exact this
/-- counts through maps that are one-to-one where they count -/
theorem cntP_injQ {f : Nat → Nat} : ∀ (M : Nat) (q p : Nat → Bool) (N : Nat), (∀ m, m < M → q m = true → f m < N ∧ p (f m) = true) → (∀ a b, a < M → b < M → q a = true → q b = true → f a = f b → a = b) → cntP q M ≤ cntP p N := by
  intro M
  induction M with
  | zero => intro q p N _ _; exact Nat.zero_le _
  | succ M ih =>
    intro q p N h1 h2
    rw [cntP_succ]
    by_cases e : q M = true
    · rw [if_pos e]
      obtain ⟨h3, h4⟩ := h1 M (by omega) e
      have h5 := ih q (fun x => p x && !decide (x = f M)) N (fun m hm hq => by
        obtain ⟨a1, a2⟩ := h1 m (by omega) hq
        refine ⟨a1, ?_⟩
        rw [a2, decide_eq_false (fun z => by have := h2 m M (by omega) (by omega) hq e z; omega)]
        rfl) (fun a b ha hb => h2 a b (by omega) (by omega))
      have h6 : cntP p N = cntP (fun x => p x && !decide (x = f M)) N + 1 := cntP_add1 h3 h4 (by simp) (fun j hj => by rw [decide_eq_false hj, Bool.not_false, Bool.and_true])
      omega
    · rw [if_neg e]
      exact ih q p N (fun m hm => h1 m (by omega)) (fun a b ha hb => h2 a b (by omega) (by omega))
theorem cntP_le1 {q : Nat → Bool} {M : Nat} (h : ∀ a b, a < M → b < M → q a = true → q b = true → a = b) : cntP q M ≤ 1 := by
  have := cntP_injQ (f := fun _ => 0) M q (fun _ => true) 1 (fun _ _ _ => ⟨by omega, rfl⟩) (fun a b ha hb qa qb _ => h a b ha hb qa qb)
  exact Nat.le_trans this (cntP_le _ 1)
theorem mall_cnt1 {w : Nat} (hw : w < 3) {A : AT} (k : Nat) : cntK (mallA w A) k ≤ 1 := by
  refine cntP_le1 (fun s t hs ht qs qt => ?_)
  have hs : s < (kl (fun j => decide (chos w A (A.2.1 j) = some j)) A.1).length := hs
  have ht : t < (kl (fun j => decide (chos w A (A.2.1 j) = some j)) A.1).length := ht
  rw [beq_iff_eq] at qs qt
  have qs : A.2.1 ((kl (fun j => decide (chos w A (A.2.1 j) = some j)) A.1).getD s 0) = k := qs
  have qt : A.2.1 ((kl (fun j => decide (chos w A (A.2.1 j) = some j)) A.1).getD t 0) = k := qt
  have h1 := of_decide_eq_true (kl_mem.mp (getD_mem hs)).2
  have h2 := of_decide_eq_true (kl_mem.mp (getD_mem ht)).2
  rw [qs] at h1
  rw [qt, h1] at h2
  exact asc_inj (kl_asc _ _) hs ht (Option.some.inj h2)
theorem mall_len {w : Nat} (hw : w < 3) {A : AT} (h : OkA A) : (mallA w A).1 = keyA A := by
  show (kl (fun j => decide (chos w A (A.2.1 j) = some j)) A.1).length = _
  rw [kl_len]
  refine Nat.le_antisymm ?_ ?_
  · refine cntP_injQ (f := A.2.1) _ _ _ _ (fun m hm hq => ?_) (fun a b ha hb qa qb e => ?_)
    · exact ⟨(h.2 m hm).1, decide_eq_true (cntP_pos.mpr ⟨m, hm, by rw [beq_iff_eq]⟩)⟩
    · have h1 := of_decide_eq_true qa
      have h2 := of_decide_eq_true qb
      rw [e, h2] at h1
      exact (Option.some.inj h1).symm
  · have hex : ∀ k, decide (1 ≤ cntK A k) = true → ∃ r, chos w A k = some r := fun k hk => chos_cnt (of_decide_eq_true hk)
    refine cntP_injQ (f := fun k => (chos w A k).getD 0) _ _ _ _ (fun k hk hq => ?_) (fun a b ha hb qa qb e => ?_)
    · obtain ⟨r, hr⟩ := hex k hq
      obtain ⟨h1, h2⟩ := chos_some hr
      rw [hr]
      refine ⟨h1, decide_eq_true ?_⟩
      show chos w A (A.2.1 r) = some r
      rw [h2]
      exact hr
    · obtain ⟨r, hr⟩ := hex a qa
      obtain ⟨s, hs⟩ := hex b qb
      rw [hr, hs] at e
      have e : r = s := e
      rw [← (chos_some hr).2, ← (chos_some hs).2, e]
theorem one_MA {S : ST} (h : ∀ k, k < 10 → cntK S.1 k ≤ 1) : MA S = 1 := by
  have : MA S = prd (fun _ => 1) 10 := prd_congr (fun k hk => by
    have h1 := OA_len (S := S) (k := k)
    have h2 := h k hk
    unfold bas
    split <;> omega)
  rw [this]
  rfl
theorem one_dbl {A : AT} (h : ∀ k, k < 10 → cntK A k ≤ 1) : dblA A = 0 := by
  rcases Nat.eq_zero_or_pos (dblA A) with q | q
  · exact q
  · obtain ⟨k, hk, h2⟩ := cntP_pos.mp q
    have := of_decide_eq_true h2
    have := h k hk
    omega
theorem dbl_one {A : AT} (h : dblA A = 0) : ∀ k, k < 10 → cntK A k ≤ 1 := by
  intro k hk
  rcases Nat.lt_or_ge 1 (cntK A k) with z | z
  · have : 0 < dblA A := cntP_pos.mpr ⟨k, hk, decide_eq_true z⟩
    omega
  · exact z
theorem dbl_key0 {A : AT} (hA : OkA A) (h : dblA A = 0) : keyA A = A.1 := by
  have h1 := mit_all (w := 0) (dbl_one h) 10 (Nat.le_refl _)
  have h2 := (mit_mall (w := 0) (by omega) hA).1
  have h3 := mall_len (w := 0) (by omega) hA
  omega
theorem dbl_key {A : AT} (hA : OkA A) (h : 0 < dblA A) : keyA A < A.1 := by
  have h2 := (mit_mall (w := 0) (by omega) hA).1
  have h3 := mall_len (w := 0) (by omega) hA
  have h4 := mit_le (w := 0) (A := A) 10
  rcases Nat.lt_or_ge (keyA A) A.1 with q | q
  · exact q
  · have h5 := (mit_none (w := 0) (A := A) 10 (by omega)).2
    have := one_dbl (A := A) (fun k hk => h5 k hk)
    omega
theorem y_mall {u : SSt} {S : ST} {z : Nat} {Hs : Nat → ST} (hR : Rep u S z Hs) {w : Nat} (hw : w < 3) (h0 : 0 < dblA S.1) : ∃ u', f_Y5_mendAll u (nI w) = some (nI (S.1.1 - keyA S.1), u') ∧ Rep u' (mallA w S.1, S.2) (nz' z) (hpush z Hs S) := by
  obtain ⟨u', q, hT, hH⟩ := y_mendAll hR hw h0
  have hm := mit_mall hw hR.ok
  have hl := mall_len hw hR.ok
  refine ⟨u', ?_, RepT_eqA (eqA_symm hm) hT, hH⟩
  rw [q, hm.1, hl]
/-- one more row -/
theorem prd_mono {f g : Nat → Nat} {K : Nat} (h : ∀ k, k < K → f k ≤ g k) : prd f K ≤ prd g K := by
  induction K with
  | zero => exact Nat.le_refl _
  | succ K ih => exact Nat.mul_le_mul (ih (fun k hk => h k (by omega))) (h K (by omega))
theorem OA_off {A : AT} {k : Nat} : (OA (A, false) k).length = cntK A k := by
  have : ∀ i, (op A.2.1 (can A.1 A.2.1 A.2.2.2.1 false) k i).length = cntP (fun j => A.2.1 j == k) i := by
    intro i
    induction i with
    | zero => rfl
    | succ i ih =>
      rw [op_succ, cntP_succ]
      by_cases e : A.2.1 i = k
      · rw [if_pos ⟨e, rfl⟩, if_pos (by rw [beq_iff_eq]; exact e), List.length_append, ih]
        rfl
      · rw [if_neg (fun q => e q.1), if_neg (by rw [beq_iff_eq]; exact e), ih]
        rfl
  exact this A.1
theorem push_cnt {A : AT} {k v g t : Nat} (k' : Nat) : cntK A k' ≤ cntK (pushA A k v g t) k' := by
  have h1 : cntK (pushA A k v g t) k' = cntP (fun j => pushF A.2.1 A.1 k j == k') (A.1 + 1) := rfl
  rw [h1, cntP_succ]
  have h2 : cntP (fun j => pushF A.2.1 A.1 k j == k') A.1 = cntK A k' := cntP_congr (fun j hj => by
    unfold pushF
    rw [if_neg (by omega)])
  rw [h2]
  omega
theorem push_MA {A : AT} {k v g t : Nat} : MA (A, false) ≤ MA (pushA A k v g t, false) := prd_mono (fun k' _ => by
  have h := push_cnt (A := A) (k := k) (v := v) (g := g) (t := t) k'
  unfold bas
  rw [OA_off, OA_off]
  split <;> split <;> omega)
/-- a key mended by one of its rows -/
theorem SG_congr {th th' : Nat → Prop} {TS TS' : Nat → Nat → Prop} (h1 : ∀ k, th' k ↔ th k) (h2 : ∀ k t, TS' k t ↔ TS k t) (b r a : Nat) : SG th' TS' b r a ↔ SG th TS b r a := by
  have e1 : th' = th := funext fun k => propext (h1 k)
  have e2 : TS' = TS := funext fun k => funext fun t => propext (h2 k t)
  rw [e1, e2]
theorem fS_spec {f : Nat → Option Nat} {r : Nat} : ∀ i, fS f i = some r → ∃ k, k < i ∧ f k = some r := by
  intro i
  induction i with
  | zero => intro h; cases h
  | succ i ih =>
    intro h
    unfold fS at h
    cases hf : fS f i with
    | none => rw [hf] at h; exact ⟨i, by omega, h⟩
    | some x =>
      rw [hf] at h
      obtain ⟨k, hk, e⟩ := ih (hf.trans h)
      exact ⟨k, by omega, e⟩
theorem bst_spec {n : Nat} {K G T : Nat → Nat} {pf : Bool} {a b r : Nat} (h : bst n K G T pf a b = some r) : r < n ∧ can n K G pf r = true ∧ SG (thO (Of n K G pf (some r))) (tsO (Of n K G pf (some r)) T) b 9 a ∧ ¬ SG (thO (Of n K G pf none)) (tsO (Of n K G pf none) T) b 9 a := by
  unfold bst at h
  by_cases e : cb (SG (thO (Of n K G pf none)) (tsO (Of n K G pf none) T) b 9 a) = true
  · rw [if_pos e] at h; cases h
  · rw [if_neg e] at h
    obtain ⟨k, _, hk⟩ := fS_spec 10 h
    obtain ⟨h1, h2, h3, h4⟩ := inK_lt hk
    refine ⟨h1, h3, cb_iff.mp h4, fun q => e (cb_iff.mpr q)⟩
theorem bst_two {S : ST} {a b r : Nat} (h : bst S.1.1 S.1.2.1 S.1.2.2.2.1 S.1.2.2.2.2 S.2 a b = some r) : 1 < cntK S.1 (S.1.2.1 r) := by
  obtain ⟨h1, h2, h3, h4⟩ := bst_spec h
  rcases Nat.lt_or_ge 1 (cntK S.1 (S.1.2.1 r)) with q | q
  · exact q
  · rw [Of_one h1 h2 q] at h3
    exact absurd h3 h4
theorem Of_mem {n : Nat} {K G : Nat → Nat} {pf : Bool} {r k j : Nat} : j ∈ Of n K G pf (some r) k ↔ j < n ∧ K j = k ∧ (if K r = K j then j = r else can n K G pf j = true) := by
  refine (op_mem n).trans ?_
  unfold cnF
  by_cases e : K r = K j
  · show _ ∧ _ ∧ (if K r = K j then decide (j = r) else _) = true ↔ _
    rw [if_pos e, if_pos e, decide_eq_true_eq]
  · show _ ∧ _ ∧ (if K r = K j then decide (j = r) else can n K G pf j) = true ↔ _
    rw [if_neg e, if_neg e]
section MENDSURE
variable {S : ST} {r : Nat}
theorem mendL {A : AT} {r t : Nat} (ht : t < (kl (kpB A.2.1 r) A.1).length) : (kl (kpB A.2.1 r) A.1).getD t 0 < A.1 ∧ ((kl (kpB A.2.1 r) A.1).getD t 0 = r ∨ A.2.1 ((kl (kpB A.2.1 r) A.1).getD t 0) ≠ A.2.1 r) := by
  obtain ⟨h1, h2⟩ := kl_mem.mp (getD_mem ht)
  refine ⟨h1, ?_⟩
  unfold kpB at h2
  rw [Bool.or_eq_true, decide_eq_true_eq, Bool.not_eq_true', beq_eq_false_iff_ne] at h2
  exact h2
theorem mendL_in {A : AT} {r j : Nat} (hj : j < A.1) (h : j = r ∨ A.2.1 j ≠ A.2.1 r) : j ∈ kl (kpB A.2.1 r) A.1 := kl_mem.mpr ⟨hj, by
  unfold kpB
  rw [Bool.or_eq_true, decide_eq_true_eq, Bool.not_eq_true', beq_eq_false_iff_ne]
  exact h⟩
/-- what can be kept in the mended table -/
theorem mend_can (hr : r < S.1.1) {t : Nat} (ht : t < (kl (kpB S.1.2.1 r) S.1.1).length) : can (mendA S.1 r).1 (mendA S.1 r).2.1 (mendA S.1 r).2.2.2.1 S.2 t = true ↔ (S.1.2.1 r = S.1.2.1 ((kl (kpB S.1.2.1 r) S.1.1).getD t 0) ∨ can S.1.1 S.1.2.1 S.1.2.2.2.1 S.2 ((kl (kpB S.1.2.1 r) S.1.1).getD t 0) = true) := by
  have hL := kl_asc (kpB S.1.2.1 r) S.1.1
  obtain ⟨h1, h2⟩ := mendL ht
  have hn : ∀ j, j ∈ kl (kpB S.1.2.1 r) S.1.1 → j < S.1.1 := fun j hj => (kl_mem.mp hj).1
  cases hpf : S.2 with
  | false => exact ⟨fun _ => Or.inr rfl, fun _ => rfl⟩
  | true =>
    -- the best row of its key in the mended table
    obtain ⟨b', hb'⟩ := bestP_some (K := (mendA S.1 r).2.1) (G := (mendA S.1 r).2.2.2.1) (up := true) (mendA S.1 r).1 ht
    have hbl := bestP_lt _ b' hb'
    have hbl1 : b' < (kl (kpB S.1.2.1 r) S.1.1).length := hbl.1
    have hK' : S.1.2.1 ((kl (kpB S.1.2.1 r) S.1.1).getD b' 0) = S.1.2.1 ((kl (kpB S.1.2.1 r) S.1.1).getD t 0) := hbl.2
    have hcan : can (mendA S.1 r).1 (mendA S.1 r).2.1 (mendA S.1 r).2.2.2.1 true t = (S.1.2.2.2.1 ((kl (kpB S.1.2.1 r) S.1.1).getD t 0) == S.1.2.2.2.1 ((kl (kpB S.1.2.1 r) S.1.1).getD b' 0)) := by
      unfold can
      rw [hb']
      rfl
    rw [hcan]
    by_cases e : S.1.2.1 r = S.1.2.1 ((kl (kpB S.1.2.1 r) S.1.1).getD t 0)
    · refine ⟨fun _ => Or.inl e, fun _ => ?_⟩
      have e1 : (kl (kpB S.1.2.1 r) S.1.1).getD t 0 = r := h2.resolve_right (fun q => q e.symm)
      have e2 : (kl (kpB S.1.2.1 r) S.1.1).getD b' 0 = r := (mendL hbl1).2.resolve_right (fun q => q (hK'.trans e.symm))
      rw [e1, e2]
      exact beq_self_eq_true _
    · have hc : ∀ j, j < S.1.1 → S.1.2.1 j = S.1.2.1 ((kl (kpB S.1.2.1 r) S.1.1).getD t 0) → j ∈ kl (kpB S.1.2.1 r) S.1.1 := fun j hj hk => mendL_in hj (Or.inr (fun q => e (q.symm.trans hk)))
      have hb2 : bestP S.1.2.1 S.1.2.2.2.1 true (S.1.2.1 ((kl (kpB S.1.2.1 r) S.1.1).getD t 0)) S.1.1 = some ((kl (kpB S.1.2.1 r) S.1.1).getD b' 0) := (chos_sub (w := 2) (by omega) hL hn hc hbl1).mp hb'
      have hcan2 : can S.1.1 S.1.2.1 S.1.2.2.2.1 true ((kl (kpB S.1.2.1 r) S.1.1).getD t 0) = (S.1.2.2.2.1 ((kl (kpB S.1.2.1 r) S.1.1).getD t 0) == S.1.2.2.2.1 ((kl (kpB S.1.2.1 r) S.1.1).getD b' 0)) := by
        unfold can
        rw [hb2]
        rfl
      rw [hcan2]
      exact ⟨Or.inr, fun q => q.resolve_left e⟩
theorem mend_mem1 (hr : r < S.1.1) {k t : Nat} (h : t ∈ OA (mendA S.1 r, S.2) k) : (kl (kpB S.1.2.1 r) S.1.1).getD t 0 ∈ Of S.1.1 S.1.2.1 S.1.2.2.2.1 S.2 (some r) k := by
  obtain ⟨h1, h2, h3⟩ := OA_mem.mp h
  have h1 : t < (kl (kpB S.1.2.1 r) S.1.1).length := h1
  obtain ⟨a1, a2⟩ := mendL h1
  refine Of_mem.mpr ⟨a1, h2, ?_⟩
  by_cases e : S.1.2.1 r = S.1.2.1 ((kl (kpB S.1.2.1 r) S.1.1).getD t 0)
  · rw [if_pos e]
    exact a2.resolve_right (fun q => q e.symm)
  · rw [if_neg e]
    exact ((mend_can hr h1).mp h3).resolve_left e
theorem mend_mem2 (hr : r < S.1.1) {k j : Nat} (h : j ∈ Of S.1.1 S.1.2.1 S.1.2.2.2.1 S.2 (some r) k) : ∃ t, (kl (kpB S.1.2.1 r) S.1.1).getD t 0 = j ∧ t ∈ OA (mendA S.1 r, S.2) k := by
  obtain ⟨h1, h2, h3⟩ := Of_mem.mp h
  have hin : j ∈ kl (kpB S.1.2.1 r) S.1.1 := mendL_in h1 (by
    by_cases e : S.1.2.1 r = S.1.2.1 j
    · rw [if_pos e] at h3; exact Or.inl h3
    · exact Or.inr (fun q => e q.symm))
  obtain ⟨t, ht, rfl⟩ := mem_getD hin
  refine ⟨t, rfl, OA_mem.mpr ⟨ht, h2, (mend_can hr ht).mpr ?_⟩⟩
  by_cases e : S.1.2.1 r = S.1.2.1 ((kl (kpB S.1.2.1 r) S.1.1).getD t 0)
  · exact Or.inl e
  · rw [if_neg e] at h3; exact Or.inr h3
theorem mend_sure {a b : Nat} (h : bst S.1.1 S.1.2.1 S.1.2.2.2.1 S.1.2.2.2.2 S.2 a b = some r) : SG (thO (OA (mendA S.1 r, S.2))) (tsO (OA (mendA S.1 r, S.2)) (mendA S.1 r).2.2.2.2) b 9 a := by
  obtain ⟨hr, h2, h3, h4⟩ := bst_spec h
  refine (SG_congr (fun k => ?_) (fun k t => ?_) b 9 a).mpr h3
  · unfold thO
    refine and_congr_right (fun _ => ⟨fun q => ?_, fun q => ?_⟩)
    · exact List.length_pos_of_mem (mend_mem1 hr (getD_mem q))
    · obtain ⟨t, _, ht⟩ := mend_mem2 hr (getD_mem q)
      exact List.length_pos_of_mem ht
  · unfold tsO
    refine and_congr_right (fun _ => ⟨?_, ?_⟩)
    · rintro ⟨j, hj, rfl⟩
      exact ⟨_, mend_mem1 hr hj, rfl⟩
    · rintro ⟨j, hj, rfl⟩
      obtain ⟨t, rfl, ht⟩ := mend_mem2 hr hj
      exact ⟨t, ht, rfl⟩
end MENDSURE
