/-! two tables, the second one turned over: the acts of both -/
theorem and_nn (p : Int32) : ¬ (p &&& 2147483647) < 0 := by
  intro hlt
  rw [Int32.lt_iff_toInt_lt, show (0 : Int32).toInt = 0 from by decide] at hlt
  have h : ((p &&& 2147483647 : Int32).toBitVec).msb = false := by
    rw [BitVec.msb_eq_getLsbD_last, Int32.toBitVec_and, BitVec.getLsbD_and, show (2147483647 : Int32).toBitVec.getLsbD (32 - 1) = false from by decide, Bool.and_false]
  have h2 : (p &&& 2147483647 : Int32).toInt = ((p &&& 2147483647 : Int32).toBitVec.toNat : Int) := BitVec.toInt_eq_toNat_of_msb h
  omega
theorem up_nI (p : Int32) {q : Int32} {N : Nat} (hq : q = nI N) (h0 : 0 < N) (hN : N < 2 ^ 31) : ∃ j, j < N ∧ f_L_up p q = some (nI j) := by
  obtain ⟨x, hx, e⟩ := nI_of (and_nn p)
  refine ⟨x % N, Nat.mod_lt _ h0, ?_⟩
  subst hq
  unfold f_L_up
  rw [if_pos (nI_ne0 h0 hN), e, nI_mod hx hN]
theorem chr_nI {x : Nat} (h : x < 65536) : ((nI x).toUInt32 % 65536).toInt32 = nI x := by
  apply Int32.toInt_inj.mp
  have h1 : (nI x).toUInt32.toNat = x := by
    show (Int32.ofNat x).toUInt32.toNat = x
    rw [Int32.toUInt32_ofNat', UInt32.toNat_ofNat']
    omega
  have h2 : ((nI x).toUInt32 % 65536) = (nI x).toUInt32 := by
    apply UInt32.toNat_inj.mp
    rw [UInt32.toNat_mod, h1]
    exact Nat.mod_eq_of_lt h
  rw [h2]
  congr 1
theorem value_nI {v : Nat} (h : v < 8) : f_L_value (nI (97 + v)) = some (nI (97 + (7 - v))) := by
  unfold f_L_value
  have e : 201 - nI (97 + v) = nI (97 + (7 - v)) := by
    rw [show (201 : Int32) = nI 201 from rfl, nI_subO (by omega)]
    exact nI_ext (by omega)
  rw [e, chr_nI (by omega)]
theorem there_nI {k : Nat} (h : k < 10) : f_L_there (nI k) = some (nI (9 - k)) := by
  unfold f_L_there
  rw [if_pos (nI_pos' (by omega)), show (9 : Int32) = nI 9 from rfl, nI_subO (by omega)]
theorem there_tI {t : Nat} (h : t ≤ 10) : f_L_there (tI t) = some (tI (mT t)) := by
  by_cases e : t < 10
  · rw [tI_lt e, there_nI e, mT_lt e, tI_lt (by omega)]
  · have : t = 10 := by omega
    subst this
    rfl
theorem there_m1 : f_L_there (-1) = some (-1) := by decide
theorem key_9 {k : Nat} (h : k < 10) : 9 - nI k = nI (9 - k) := by rw [show (9 : Int32) = nI 9 from rfl, nI_subO (by omega)]
theorem bq {α β : Type} {x : Option α} {f : α → Option β} {a : α} {r : Option β} (h : x = some a) (k : f a = r) : Option.bind x f = r := by rw [h]; exact k
theorem ifp {α : Type} {c : Prop} [inst : Decidable c] {a b r : α} (h : c) (k : a = r) : (if c then a else b) = r := by rw [if_pos h]; exact k
theorem ifn {α : Type} {c : Prop} [inst : Decidable c] {a b r : α} (h : ¬ c) (k : b = r) : (if c then a else b) = r := by rw [if_neg h]; exact k
theorem ib {P : Prop} [inst : Decidable P] : (if P then some (1 : Int32) else some 0) = some (bI (decide P)) := by
  by_cases h : P
  · rw [if_pos h, decide_eq_true h]; rfl
  · rw [if_neg h, decide_eq_false h]; rfl
theorem ibn {P : Prop} [inst : Decidable P] : (if P then some (0 : Int32) else some 1) = some (bI (!decide P)) := by
  by_cases h : P
  · rw [if_pos h, decide_eq_true h]; rfl
  · rw [if_neg h, decide_eq_false h]; rfl
theorem bI_1 {b : Bool} : bI b = 1 ↔ b = true := by cases b <;> decide
theorem bI_dec {P Q : Prop} [i1 : Decidable P] [i2 : Decidable Q] (h : P ↔ Q) : bI (decide P) = bI (decide Q) := by
  by_cases hp : P
  · rw [decide_eq_true hp, decide_eq_true (h.mp hp)]
  · rw [decide_eq_false hp, decide_eq_false (fun q => hp (h.mpr q))]
def Two (u v : SSt) (S : ST) (z : Nat) (Hs : Nat → ST) : Prop := Rep u S z Hs ∧ Rep v (mirS S) z (fun i => mirS (Hs i))
theorem mir_hpush (z : Nat) (Hs : Nat → ST) (S : ST) : hpush z (fun i => mirS (Hs i)) (mirS S) = fun i => mirS (hpush z Hs S i) := by
  funext i
  unfold hpush
  split <;> rfl
theorem mir_cntr {A : AT} (h : OkA A) {r : Nat} (hr : r < A.1) : cntK (mirA A) ((mirA A).2.1 r) = cntK A (A.2.1 r) := by
  have hK := (h.2 r hr).1
  show cntK (mirA A) (9 - A.2.1 r) = _
  rw [mir_cntK h (by omega), show 9 - (9 - A.2.1 r) = A.2.1 r by omega]
section TWO
variable {u v : SSt} {S : ST} {z : Nat} {Hs : Nat → ST}
theorem two_of {u' v' : SSt} {S' : ST} (h1 : Rep u' S' (nz' z) (hpush z Hs S)) (h2 : Rep v' (mirS S') (nz' z) (hpush z (fun i => mirS (Hs i)) (mirS S))) : Two u' v' S' (nz' z) (hpush z Hs S) := by
  rw [mir_hpush] at h2
  exact ⟨h1, h2⟩
theorem t_full (h : Two u v S z Hs) (hn : S.1.1 = 20) {k w g t : Nat} (hk : k < 10) (hw : w < 8) (hg : g < 100) (ht : t ≤ 10) : ∃ u' v', f_Y5_add u (nI k) (nI (97 + w)) (nI g) (tI t) = some (-3, u') ∧ f_Y5_add v (nI (9 - k)) (nI (97 + (7 - w))) (nI g) (tI (mT t)) = some (-3, v') ∧ Two u' v' S z Hs := by
  obtain ⟨u', q1, h1⟩ := y_full h.1 hn hk hw hg ht
  obtain ⟨v', q2, h2⟩ := y_full h.2 hn (k := 9 - k) (v := 7 - w) (g := g) (t := mT t) (by omega) (by omega) hg (mT_le ht)
  exact ⟨u', v', q1, q2, h1, h2⟩
theorem t_add (h : Two u v S z Hs) (hn : S.1.1 < 20) {k w g t : Nat} (hk : k < 10) (hw : w < 8) (hg : g < 100) (ht : t ≤ 10) : ∃ u' v', f_Y5_add u (nI k) (nI (97 + w)) (nI g) (tI t) = some (nI S.1.1, u') ∧ f_Y5_add v (nI (9 - k)) (nI (97 + (7 - w))) (nI g) (tI (mT t)) = some (nI S.1.1, v') ∧ Two u' v' (pushA S.1 k w g t, S.2) (nz' z) (hpush z Hs S) := by
  obtain ⟨u', q1, h1⟩ := y_add h.1 hn hk hw hg ht
  obtain ⟨v', q2, h2⟩ := y_add h.2 hn (k := 9 - k) (v := 7 - w) (g := g) (t := mT t) (by omega) (by omega) hg (mT_le ht)
  refine ⟨u', v', q1, q2, two_of h1 ?_⟩
  have e : pushA (mirS S).1 (9 - k) (7 - w) g (mT t) = mirA (pushA S.1 k w g t) := mir_push
  rw [e] at h2
  exact h2
theorem t_removeNo (h : Two u v S z Hs) : ∃ u' v', f_Y5_remove u (nI S.1.1) = some (-1, u') ∧ f_Y5_remove v (nI S.1.1) = some (-1, v') ∧ Two u' v' S z Hs := by
  obtain ⟨u', q1, h1⟩ := y_removeNo h.1
  obtain ⟨v', q2, h2⟩ := y_removeNo h.2
  exact ⟨u', v', q1, q2, h1, h2⟩
theorem t_remove (h : Two u v S z Hs) {r : Nat} (hr : r < S.1.1) : ∃ u' v', f_Y5_remove u (nI r) = some (nI (S.1.1 - 1), u') ∧ f_Y5_remove v (nI r) = some (nI (S.1.1 - 1), v') ∧ Two u' v' (dropA S.1 r, S.2) (nz' z) (hpush z Hs S) := by
  obtain ⟨u', q1, h1⟩ := y_remove h.1 hr
  obtain ⟨v', q2, h2⟩ := y_remove h.2 (r := r) hr
  refine ⟨u', v', q1, q2, two_of h1 ?_⟩
  have e : dropA (mirS S).1 r = mirA (dropA S.1 r) := mir_drop
  rw [e] at h2
  exact h2
theorem t_mendNo (h : Two u v S z Hs) : ∃ u' v', f_Y5_mend u (nI S.1.1) = some (-1, u') ∧ f_Y5_mend v (nI S.1.1) = some (-1, v') ∧ Two u' v' S z Hs := by
  obtain ⟨u', q1, h1⟩ := y_mendNo h.1
  obtain ⟨v', q2, h2⟩ := y_mendNo h.2
  exact ⟨u', v', q1, q2, h1, h2⟩
theorem t_mendOne (h : Two u v S z Hs) {r : Nat} (hr : r < S.1.1) (hc : cntK S.1 (S.1.2.1 r) = 1) : ∃ u' v', f_Y5_mend u (nI r) = some (-5, u') ∧ f_Y5_mend v (nI r) = some (-5, v') ∧ Two u' v' S z Hs := by
  have hm := mir_cntr h.1.ok hr
  obtain ⟨u', q1, h1⟩ := y_mendOne h.1 hr hc
  obtain ⟨v', q2, h2⟩ := y_mendOne h.2 (r := r) hr (hm.trans hc)
  exact ⟨u', v', q1, q2, h1, h2⟩
theorem t_mend (h : Two u v S z Hs) {r : Nat} (hr : r < S.1.1) (hc : 1 < cntK S.1 (S.1.2.1 r)) : ∃ u' v', f_Y5_mend u (nI r) = some (nI (cntK S.1 (S.1.2.1 r) - 1), u') ∧ f_Y5_mend v (nI r) = some (nI (cntK S.1 (S.1.2.1 r) - 1), v') ∧ Two u' v' (mendA S.1 r, S.2) (nz' z) (hpush z Hs S) := by
  have hm : cntK (mirS S).1 ((mirS S).1.2.1 r) = cntK S.1 (S.1.2.1 r) := mir_cntr h.1.ok hr
  obtain ⟨u', q1, h1⟩ := y_mend h.1 hr hc
  obtain ⟨v', q2, h2⟩ := y_mend h.2 (r := r) hr (by rw [hm]; exact hc)
  rw [hm] at q2
  refine ⟨u', v', q1, q2, two_of h1 ?_⟩
  have e : mendA (mirS S).1 r = mirA (mendA S.1 r) := mir_mend h.1.ok hr
  rw [e] at h2
  exact h2
theorem t_mallNo (h : Two u v S z Hs) {w : Nat} (hw : w < 3) (h0 : dblA S.1 = 0) : ∃ u' v', f_Y5_mendAll u (nI w) = some (-5, u') ∧ f_Y5_mendAll v (nI w) = some (-5, v') ∧ Two u' v' S z Hs := by
  obtain ⟨u', q1, h1⟩ := y_mendAllNo h.1 hw h0
  obtain ⟨v', q2, h2⟩ := y_mendAllNo h.2 hw ((mir_dblA h.1.ok).trans h0)
  exact ⟨u', v', q1, q2, h1, h2⟩
theorem t_mall (h : Two u v S z Hs) {w : Nat} (hw : w < 3) (h0 : 0 < dblA S.1) : ∃ u' v', f_Y5_mendAll u (nI w) = some (nI (S.1.1 - keyA S.1), u') ∧ f_Y5_mendAll v (nI w) = some (nI (S.1.1 - keyA S.1), v') ∧ Two u' v' (mallA w S.1, S.2) (nz' z) (hpush z Hs S) := by
  have hd : dblA (mirS S).1 = dblA S.1 := mir_dblA h.1.ok
  have hk : keyA (mirS S).1 = keyA S.1 := mir_keyA h.1.ok
  obtain ⟨u', q1, h1⟩ := y_mall h.1 hw h0
  obtain ⟨v', q2, h2⟩ := y_mall h.2 hw (by rw [hd]; exact h0)
  rw [hk] at q2
  refine ⟨u', v', q1, q2, two_of h1 ?_⟩
  have e : mallA w (mirS S).1 = mirA (mallA w S.1) := mir_mall h.1.ok
  rw [e] at h2
  exact h2
theorem t_preferNo (h : Two u v S z Hs) : ∃ u' v', f_Y5_prefer u (bI S.2) = some (-5, u') ∧ f_Y5_prefer v (bI S.2) = some (-5, v') ∧ Two u' v' S z Hs := by
  obtain ⟨u', q1, h1⟩ := y_preferNo h.1
  obtain ⟨v', q2, h2⟩ := y_preferNo h.2
  exact ⟨u', v', q1, q2, h1, h2⟩
theorem t_prefer (h : Two u v S z Hs) (c : Bool) (hc : c ≠ S.2) : ∃ u' v', f_Y5_prefer u (bI c) = some (nI (MA (S.1, c)), u') ∧ f_Y5_prefer v (bI c) = some (nI (MA (S.1, c)), v') ∧ Two u' v' (S.1, c) (nz' z) (hpush z Hs S) := by
  obtain ⟨u', q1, h1⟩ := y_prefer h.1 c hc
  obtain ⟨v', q2, h2⟩ := y_prefer h.2 c hc
  have e : MA (mirS (S.1, c)) = MA (S.1, c) := mir_MA (S := (S.1, c)) h.1.ok
  have q2' : f_Y5_prefer v (bI c) = some (nI (MA (mirS (S.1, c))), v') := q2
  rw [e] at q2'
  exact ⟨u', v', q1, q2', two_of h1 h2⟩
theorem t_undo (h : Two u v S z Hs) (h0 : 0 < z) : ∃ u' v', f_Y5_undo u = some (nI (z - 1), u') ∧ f_Y5_undo v = some (nI (z - 1), v') ∧ Two u' v' (Hs (z - 1)) (z - 1) Hs := by
  obtain ⟨u', q1, h1⟩ := y_undo h.1 h0
  obtain ⟨v', q2, h2⟩ := y_undo h.2 h0
  exact ⟨u', v', q1, q2, h1, h2⟩
end TWO
