/-! one step of the law -/
def Good (o : Option (Int32 × SSt × SSt)) : Prop := ∃ u' v' S' z' Hs', o = some (1, u', v') ∧ Two u' v' S' z' Hs'
theorem gb {α : Type} {x : Option α} {f : α → Option (Int32 × SSt × SSt)} {a : α} (h : x = some a) (k : Good (f a)) : Good (Option.bind x f) := by rw [h]; exact k
theorem gp {c : Prop} [inst : Decidable c] {a b : Option (Int32 × SSt × SSt)} (h : c) (k : Good a) : Good (if c then a else b) := by rw [if_pos h]; exact k
theorem gn {c : Prop} [inst : Decidable c] {a b : Option (Int32 × SSt × SSt)} (h : ¬ c) (k : Good b) : Good (if c then a else b) := by rw [if_neg h]; exact k
theorem gd {u v : SSt} {S : ST} {z : Nat} {Hs : Nat → ST} (h : Two u v S z Hs) : Good (some (1, u, v)) := ⟨u, v, S, z, Hs, rfl, h⟩
theorem sw7 {w : Nat} (h : w < 7) : nI w = 0 ∨ nI w = 1 ∨ nI w = 2 ∨ nI w = 3 ∨ nI w = 4 ∨ nI w = 5 ∨ nI w = 6 := by
  rcases (show w = 0 ∨ w = 1 ∨ w = 2 ∨ w = 3 ∨ w = 4 ∨ w = 5 ∨ w = 6 by omega) with rfl | rfl | rfl | rfl | rfl | rfl | rfl <;> decide
theorem lit_ne {w j : Nat} {q : Int32} (hq : q = nI j) (hw : w < 2 ^ 31) (hj : j < 2 ^ 31) (h : w ≠ j) : ¬ nI w = q := by rw [hq, nI_eq hw hj]; exact h
theorem lit_eq {w j : Nat} {q : Int32} (hq : q = nI j) (hw : w < 2 ^ 31) (hj : j < 2 ^ 31) : nI w = q ↔ w = j := by rw [hq, nI_eq hw hj]
theorem sw7n {w : Nat} (h : ¬ w < 7) (hw : w < 13) : ¬ (nI w = 0 ∨ nI w = 1 ∨ nI w = 2 ∨ nI w = 3 ∨ nI w = 4 ∨ nI w = 5 ∨ nI w = 6) := by
  rintro (q | q | q | q | q | q | q)
  · exact lit_ne (j := 0) rfl (by omega) (by omega) (by omega) q
  · exact lit_ne (j := 1) rfl (by omega) (by omega) (by omega) q
  · exact lit_ne (j := 2) rfl (by omega) (by omega) (by omega) q
  · exact lit_ne (j := 3) rfl (by omega) (by omega) (by omega) q
  · exact lit_ne (j := 4) rfl (by omega) (by omega) (by omega) q
  · exact lit_ne (j := 5) rfl (by omega) (by omega) (by omega) q
  · exact lit_ne (j := 6) rfl (by omega) (by omega) (by omega) q
theorem pick {j A B : Nat} {qa qb : Int32} (ha : qa = nI A) (hb : qb = nI B) (hA : 0 < A) (hB : 0 < B) (hA1 : A ≤ 100) (hB1 : B ≤ 100) : ∃ N, (N = A ∨ N = B) ∧ (if nI j = 0 then some qa else some qb) = some (nI N) := by
  by_cases h : nI j = 0
  · exact ⟨A, Or.inl rfl, by rw [if_pos h, ha]⟩
  · exact ⟨B, Or.inr rfl, by rw [if_neg h, hb]⟩
section STEP
variable {u v : SSt} {S : ST} {z : Nat} {Hs : Nat → ST}
theorem p_step (h : Two u v S z Hs) (x : Int32) : Good (f_L_isStep u v x) := by
  have hok := h.1.ok
  have hn := hok.1
  have hM := MA_le hok
  have hz : z ≤ 4 := by obtain ⟨_, x, _, hz, _⟩ := h.1; exact hz
  have hk10 : keyA S.1 ≤ 10 := cntP_le _ 10
  obtain ⟨u1, q1, h1⟩ := y_count h.1 (p := 0) (w := 0) rfl (by omega)
  have q1 : f_Y5_count u 0 = some (nI S.1.1, u1) := q1
  obtain ⟨r, hr, qr⟩ := up_nI (x >>> (4 &&& 31)) (q := nI S.1.1 + 1) (nI_1 _) (by omega) (by omega)
  obtain ⟨w, hw, qw⟩ := up_nI x (q := 13) (N := 13) rfl (by omega) (by omega)
  have ht : Two u1 v S z Hs := ⟨h1, h.2⟩
  unfold f_L_isStep
  refine gb q1 ?_
  refine gb qr ?_
  refine gb qw ?_
  by_cases w7 : w < 7
  · refine gp (sw7 w7) ?_
    obtain ⟨j1, hj1, p1⟩ := up_nI ((x >>> (4 &&& 31)) >>> (9 &&& 31)) (q := 3) (N := 3) rfl (by omega) (by omega)
    obtain ⟨N1, hN1, p2⟩ := pick (j := j1) (qa := 10) (qb := 5) (A := 10) (B := 5) rfl rfl (by omega) (by omega) (by omega) (by omega)
    obtain ⟨k, hk, p3⟩ := up_nI (x >>> (4 &&& 31)) (q := nI N1) (N := N1) rfl (by omega) (by omega)
    obtain ⟨c, hc, p4⟩ := up_nI ((x >>> (4 &&& 31)) >>> (3 &&& 31)) (q := 4) (N := 4) rfl (by omega) (by omega)
    obtain ⟨j2, hj2, p5⟩ := up_nI ((x >>> (4 &&& 31)) >>> (6 &&& 31)) (q := 2) (N := 2) rfl (by omega) (by omega)
    obtain ⟨N2, hN2, p6⟩ := pick (j := j2) (qa := 100) (qb := 3) (A := 100) (B := 3) rfl rfl (by omega) (by omega) (by omega) (by omega)
    obtain ⟨g, hg, p7⟩ := up_nI ((x >>> (4 &&& 31)) >>> (5 &&& 31)) (q := nI N2) (N := N2) rfl (by omega) (by omega)
    obtain ⟨j3, hj3, p8⟩ := up_nI ((x >>> (4 &&& 31)) >>> (8 &&& 31)) (q := 7) (N := 7) rfl (by omega) (by omega)
    obtain ⟨t, htl, p9⟩ : ∃ t, t ≤ 10 ∧ (if nI j3 = 6 then some (-5 : Int32) else some (nI j3)) = some (tI t) := by
      by_cases e : nI j3 = 6
      · exact ⟨10, by omega, by rw [if_pos e]; rfl⟩
      · exact ⟨j3, by omega, by rw [if_neg e, tI_lt (by omega)]⟩
    obtain ⟨u2, q2, h2⟩ := y_count h1 (p := 3) (w := 3) rfl (by omega)
    have q2 : f_Y5_count u1 3 = some (nI (MA S), u2) := q2
    refine gb p1 ?_
    refine gb p2 ?_
    refine gb p3 ?_
    refine gb p4 ?_
    refine gb p5 ?_
    refine gb p6 ?_
    refine gb p7 ?_
    refine gb p8 ?_
    refine gb p9 ?_
    refine gb q2 ?_
    by_cases hM1 : MA S ≤ 100
    · refine gp (nI_le (b := 100) hM1 (by omega)) ?_
      have e97 : 97 + nI c = nI (97 + c) := by rw [show (97 : Int32) = nI 97 from rfl, nI_add]
      have e98 : ((97 + nI c).toUInt32 % 65536).toInt32 = nI (97 + c) := by rw [e97, chr_nI (by omega)]
      have e99 : f_L_value (97 + nI c) = some (nI (97 + (7 - c))) := by rw [e97, value_nI (by omega)]
      by_cases hn20 : S.1.1 = 20
      · obtain ⟨u3, v3, a1, a2, a3⟩ := t_full ⟨h2, h.2⟩ hn20 (k := k) (w := c) (g := g) (t := t) (by omega) (by omega) (by omega) htl
        rw [← e98] at a1
        rw [← key_9 (by omega)] at a2
        refine gb a1 ?_
        refine gb e99 ?_
        refine gb (there_tI htl) ?_
        refine gb a2 ?_
        refine gp rfl ?_
        refine gp (by rw [hn20]; rfl) ?_
        refine gp rfl ?_
        exact gd a3
      · obtain ⟨u3, v3, a1, a2, a3⟩ := t_add ⟨h2, h.2⟩ (by omega) (k := k) (w := c) (g := g) (t := t) (by omega) (by omega) (by omega) htl
        rw [← e98] at a1
        rw [← key_9 (by omega)] at a2
        obtain ⟨u4, q4, h4⟩ := y_row a3.1 (p := 2) (w := 2) (r := S.1.1) rfl (show S.1.1 < S.1.1 + 1 by omega) (by omega)
        obtain ⟨u5, q5, h5⟩ := y_count h4 (p := 9) (w := 9) rfl (by omega)
        obtain ⟨u6, q6, h6⟩ := y_count h5 (p := 3) (w := 3) rfl (by omega)
        have q4 : f_Y5_row u3 (nI S.1.1) 2 = some (nI (pushF S.1.2.2.2.1 S.1.1 g S.1.1), u4) := q4
        have eg : pushF S.1.2.2.2.1 S.1.1 g S.1.1 = g := if_pos rfl
        rw [eg] at q4
        have q5 : f_Y5_count u4 9 = some (bI S.2, u5) := q5
        have q6 : f_Y5_count u5 3 = some (nI (MA (pushA S.1 k c g t, S.2)), u6) := q6
        have hM6 := MA_le h6.ok
        refine gb a1 ?_
        refine gb e99 ?_
        refine gb (there_tI htl) ?_
        refine gb a2 ?_
        refine gp rfl ?_
        refine gn (lit_ne (j := 20) rfl (by omega) (by omega) hn20) ?_
        refine gp rfl ?_
        refine gb q4 ?_
        refine gp rfl ?_
        refine gb q5 ?_
        by_cases hpf : S.2 = true
        · refine gp (by rw [hpf]; rfl) ?_
          exact gd ⟨h5, a3.2⟩
        · have hpf : S.2 = false := Bool.eq_false_iff.mpr hpf
          refine gn (by rw [hpf]; decide) ?_
          refine gb q6 ?_
          refine gn (nI_nlt ?_ (by omega)) ?_
          · have hp := push_MA (A := S.1) (k := k) (v := c) (g := g) (t := t)
            have e1 : (S.1, false) = S := by rw [← hpf]
            rw [e1] at hp
            rw [hpf]
            exact hp
          exact gd ⟨h6, a3.2⟩
    · refine gn (nI_ge (a := 100) (by omega) (by omega)) ?_
      exact gd ⟨h2, h.2⟩
  refine gn (sw7n w7 hw) ?_
  by_cases w8 : w = 7
  · refine gp (by rw [w8]; rfl) ?_
    by_cases e : r = S.1.1
    · subst e
      obtain ⟨u2, v2, a1, a2, a3⟩ := t_removeNo ht
      refine gb a1 ?_
      refine gb a2 ?_
      refine gp rfl ?_
      refine gb (a := (-1 : Int32)) (if_pos rfl) ?_
      refine gp rfl ?_
      exact gd a3
    · obtain ⟨u2, v2, a1, a2, a3⟩ := t_remove ht (r := r) (by omega)
      refine gb a1 ?_
      refine gb a2 ?_
      refine gp rfl ?_
      refine gb (a := nI (S.1.1 - 1)) ?_ ?_
      · rw [if_neg (by rw [nI_eq (by omega) (by omega)]; exact e), show (1 : Int32) = nI 1 from rfl, nI_subO (by omega)]
      refine gp rfl ?_
      exact gd a3
  refine gn (lit_ne (j := 7) rfl (by omega) (by omega) w8) ?_
  by_cases w9 : w = 8
  · refine gp (by rw [w9]; rfl) ?_
    by_cases e : r = S.1.1
    · subst e
      obtain ⟨u2, q2, h2⟩ := y_rowNo h1 0
      obtain ⟨u3, q3, h3⟩ := y_keyNo h2 0
      obtain ⟨u4, v4, a1, a2, a3⟩ := t_mendNo ⟨h3, h.2⟩
      refine gb q2 ?_
      refine gb q3 ?_
      refine gb a1 ?_
      refine gb a2 ?_
      refine gp rfl ?_
      refine gp rfl ?_
      refine gp rfl ?_
      exact gd a3
    · have hr2 : r < S.1.1 := by omega
      have hK := (hok.2 r hr2).1
      have hc20 : cntK S.1 (S.1.2.1 r) ≤ 20 := Nat.le_trans (cntP_le _ _) hok.1
      have hc0 : 0 < cntK S.1 (S.1.2.1 r) := cntP_pos.mpr ⟨r, hr2, by rw [beq_iff_eq]⟩
      obtain ⟨u2, q2, h2⟩ := y_row h1 (p := 0) (w := 0) (r := r) rfl hr2 (by omega)
      obtain ⟨u3, q3, h3⟩ := y_key h2 (p := 0) (w := 0) (k := S.1.2.1 r) rfl hK (by omega)
      have q2 : f_Y5_row u1 (nI r) 0 = some (nI (S.1.2.1 r), u2) := q2
      have q3 : f_Y5_key u2 (nI (S.1.2.1 r)) 0 = some (nI (cntK S.1 (S.1.2.1 r)), u3) := q3
      have hrn : ¬ nI r = nI S.1.1 := by rw [nI_eq (by omega) (by omega)]; exact e
      by_cases ec : cntK S.1 (S.1.2.1 r) = 1
      · obtain ⟨u4, v4, a1, a2, a3⟩ := t_mendOne ⟨h3, h.2⟩ hr2 ec
        obtain ⟨u5, q5, h5⟩ := y_count a3.1 (p := 0) (w := 0) rfl (by omega)
        have q5 : f_Y5_count u4 0 = some (nI S.1.1, u5) := q5
        refine gb q2 ?_
        refine gb q3 ?_
        refine gb a1 ?_
        refine gb a2 ?_
        refine gp rfl ?_
        refine gn hrn ?_
        refine gb (a := (-5 : Int32)) (if_pos (by rw [ec]; rfl)) ?_
        refine gp rfl ?_
        refine gb q5 ?_
        refine gb (a := nI S.1.1) (if_neg (by decide)) ?_
        refine gp rfl ?_
        exact gd ⟨h5, a3.2⟩
      · obtain ⟨u4, v4, a1, a2, a3⟩ := t_mend ⟨h3, h.2⟩ hr2 (by omega)
        obtain ⟨u5, q5, h5⟩ := y_count a3.1 (p := 0) (w := 0) rfl (by omega)
        have q5 : f_Y5_count u4 0 = some (nI (kl (kpB S.1.2.1 r) S.1.1).length, u5) := q5
        have hkl : (kl (kpB S.1.2.1 r) S.1.1).length + cntK S.1 (S.1.2.1 r) = S.1.1 + 1 := kl_cnt hr2
        refine gb q2 ?_
        refine gb q3 ?_
        refine gb a1 ?_
        refine gb a2 ?_
        refine gp rfl ?_
        refine gn hrn ?_
        refine gb (a := nI (cntK S.1 (S.1.2.1 r) - 1)) ?_ ?_
        · rw [if_neg (lit_ne (q := 1) (j := 1) rfl (by omega) (by omega) ec), show (1 : Int32) = nI 1 from rfl, nI_subO (by omega)]
        refine gp rfl ?_
        refine gb q5 ?_
        refine gb (a := nI (S.1.1 - (cntK S.1 (S.1.2.1 r) - 1))) ?_ ?_
        · rw [if_pos (nI_pos' (by omega)), nI_subO (by omega)]
        refine gp (nI_ext (by omega)) ?_
        exact gd ⟨h5, a3.2⟩
  refine gn (lit_ne (j := 8) rfl (by omega) (by omega) w9) ?_
  by_cases w10 : w = 9
  · refine gp (by rw [w10]; rfl) ?_
    obtain ⟨j, hj, p1⟩ := up_nI (x >>> (4 &&& 31)) (q := 2) (N := 2) rfl (by omega) (by omega)
    refine gb p1 ?_
    refine gb ib ?_
    generalize decide (nI j = 0) = c
    obtain ⟨u2, q2, h2⟩ := y_count h1 (p := 9) (w := 9) rfl (by omega)
    have q2 : f_Y5_count u1 9 = some (bI S.2, u2) := q2
    have e1 : ∀ b : Bool, (if bI b = 1 then some (1 : Int32) else some 0) = some (bI b) := fun b => by cases b <;> rfl
    refine gb q2 ?_
    refine gb (e1 S.2) ?_
    by_cases ec : c = S.2
    · subst ec
      obtain ⟨u3, v3, a1, a2, a3⟩ := t_preferNo ⟨h2, h.2⟩
      obtain ⟨u4, q4, h4⟩ := y_count a3.1 (p := 9) (w := 9) rfl (by omega)
      have q4 : f_Y5_count u3 9 = some (bI S.2, u4) := q4
      refine gb a1 ?_
      refine gb a2 ?_
      refine gp rfl ?_
      refine gb (a := ((-5 : Int32), u3)) (if_pos rfl) ?_
      refine gp rfl ?_
      refine gb q4 ?_
      refine gb (e1 S.2) ?_
      refine gp rfl ?_
      exact gd ⟨h4, a3.2⟩
    · obtain ⟨u3, v3, a1, a2, a3⟩ := t_prefer ⟨h2, h.2⟩ c ec
      obtain ⟨u4, q4, h4⟩ := y_count a3.1 (p := 3) (w := 3) rfl (by omega)
      obtain ⟨u5, q5, h5⟩ := y_count h4 (p := 9) (w := 9) rfl (by omega)
      have q4 : f_Y5_count u3 3 = some (nI (MA (S.1, c)), u4) := q4
      have q5 : f_Y5_count u4 9 = some (bI c, u5) := q5
      refine gb a1 ?_
      refine gb a2 ?_
      refine gp rfl ?_
      refine gb (a := (nI (MA (S.1, c)), u4)) ?_ ?_
      · rw [if_neg (fun q => ec (bI_inj.mp q).symm)]
        exact bq q4 rfl
      refine gp rfl ?_
      refine gb q5 ?_
      refine gb (e1 c) ?_
      refine gp rfl ?_
      exact gd ⟨h5, a3.2⟩
  refine gn (lit_ne (j := 9) rfl (by omega) (by omega) w10) ?_
  by_cases w11 : w = 10
  · refine gp (by rw [w11]; rfl) ?_
    obtain ⟨u2, q2, h2⟩ := y_count h1 (p := 1) (w := 1) rfl (by omega)
    have q2 : f_Y5_count u1 1 = some (nI (keyA S.1), u2) := q2
    obtain ⟨j, hj, p1⟩ := up_nI (x >>> (4 &&& 31)) (q := 4) (N := 4) rfl (by omega) (by omega)
    obtain ⟨m, hm, p2⟩ := up_nI ((x >>> (4 &&& 31)) >>> (2 &&& 31)) (q := 3) (N := 3) rfl (by omega) (by omega)
    refine gb q2 ?_
    refine gb p1 ?_
    by_cases ej : j = 0
    · refine gp ((nle0 (by omega)).mpr ej) ?_
      refine gb p2 ?_
      by_cases ed : dblA S.1 = 0
      · obtain ⟨u3, v3, a1, a2, a3⟩ := t_mallNo ⟨h2, h.2⟩ hm ed
        obtain ⟨u4, q4, h4⟩ := y_count a3.1 (p := 0) (w := 0) rfl (by omega)
        obtain ⟨u5, q5, h5⟩ := y_count h4 (p := 3) (w := 3) rfl (by omega)
        obtain ⟨u6, q6, h6⟩ := y_count h5 (p := 2) (w := 2) rfl (by omega)
        have q4 : f_Y5_count u3 0 = some (nI S.1.1, u4) := q4
        have q5 : f_Y5_count u4 3 = some (nI (MA S), u5) := q5
        have q6 : f_Y5_count u5 2 = some (nI (dblA S.1), u6) := q6
        have hkn := dbl_key0 hok ed
        refine gb a1 ?_
        refine gb p2 ?_
        refine gb a2 ?_
        refine gp rfl ?_
        refine gb (a := (-5 : Int32)) (if_pos (by rw [hkn])) ?_
        refine gp rfl ?_
        refine gb q4 ?_
        refine gp (by rw [hkn]) ?_
        refine gb q5 ?_
        refine gp (by rw [one_MA (dbl_one ed)]; rfl) ?_
        refine gb q6 ?_
        refine gp (by rw [ed]; rfl) ?_
        exact gd ⟨h6, a3.2⟩
      · obtain ⟨u3, v3, a1, a2, a3⟩ := t_mall ⟨h2, h.2⟩ hm (by omega)
        obtain ⟨u4, q4, h4⟩ := y_count a3.1 (p := 0) (w := 0) rfl (by omega)
        obtain ⟨u5, q5, h5⟩ := y_count h4 (p := 3) (w := 3) rfl (by omega)
        obtain ⟨u6, q6, h6⟩ := y_count h5 (p := 2) (w := 2) rfl (by omega)
        have q4 : f_Y5_count u3 0 = some (nI (mallA m S.1).1, u4) := q4
        have q5 : f_Y5_count u4 3 = some (nI (MA (mallA m S.1, S.2)), u5) := q5
        have q6 : f_Y5_count u5 2 = some (nI (dblA (mallA m S.1)), u6) := q6
        rw [mall_len hm hok] at q4
        rw [one_MA (S := (mallA m S.1, S.2)) (fun k _ => mall_cnt1 hm k)] at q5
        rw [one_dbl (fun k _ => mall_cnt1 hm k)] at q6
        have hkn := dbl_key hok (by omega)
        refine gb a1 ?_
        refine gb p2 ?_
        refine gb a2 ?_
        refine gp rfl ?_
        refine gb (a := nI (S.1.1 - keyA S.1)) ?_ ?_
        · rw [if_neg (by rw [nI_eq (by omega) (by omega)]; omega), nI_subO (by omega)]
        refine gp rfl ?_
        refine gb q4 ?_
        refine gp rfl ?_
        refine gb q5 ?_
        refine gp rfl ?_
        refine gb q6 ?_
        refine gp rfl ?_
        exact gd ⟨h6, a3.2⟩
    · refine gn (by rw [nle0 (by omega)]; exact ej) ?_
      exact gd ⟨h2, h.2⟩
  refine gn (lit_ne (j := 10) rfl (by omega) (by omega) w11) ?_
  by_cases w12 : w = 11
  · refine gp (by rw [w12]; rfl) ?_
    obtain ⟨u2, q2, h2⟩ := y_count h1 (p := 10) (w := 10) rfl (by omega)
    have q2 : f_Y5_count u1 10 = some (nI z, u2) := q2
    refine gb q2 ?_
    by_cases ez : z = 0
    · refine gp ((neq0 (by omega)).mpr ez) ?_
      exact gd ⟨h2, h.2⟩
    · refine gn (by rw [neq0 (by omega)]; exact ez) ?_
      obtain ⟨u3, v3, a1, a2, a3⟩ := t_undo ⟨h2, h.2⟩ (by omega)
      refine gb a1 ?_
      refine gb a2 ?_
      refine gp rfl ?_
      exact gd a3
  refine gn (lit_ne (j := 11) rfl (by omega) (by omega) w12) ?_
  obtain ⟨a, ha, p1⟩ := up_nI (x >>> (4 &&& 31)) (q := 6) (N := 6) rfl (by omega) (by omega)
  obtain ⟨b, hb, p2⟩ := up_nI ((x >>> (4 &&& 31)) >>> (3 &&& 31)) (q := 6) (N := 6) rfl (by omega) (by omega)
  obtain ⟨c, hc, p3⟩ := up_nI ((x >>> (4 &&& 31)) >>> (6 &&& 31)) (q := 5) (N := 5) rfl (by omega) (by omega)
  obtain ⟨u2, v2, z2, Hs2, q2, h2⟩ := p_answers ht (a := a) (b := b) (c := c) (by omega) (by omega) (by omega)
  have e97 : 97 + nI c = nI (97 + c) := by rw [show (97 : Int32) = nI 97 from rfl, nI_add]
  rw [← e97] at q2
  refine gb p1 ?_
  refine gb p2 ?_
  refine gb p3 ?_
  refine gb q2 ?_
  refine gp (Or.inr rfl) ?_
  exact gd h2
end STEP
