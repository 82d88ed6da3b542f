/-! the law's answers by the mendings in which they hold -/
theorem MA_le {S : ST} (h : OkA S.1) : MA S ≤ 1048576 := (OK_op (K := S.1.2.1) (can S.1.1 S.1.2.1 S.1.2.2.2.1 S.2) h.1).prd_le (Nat.le_refl 10)
theorem bI_decn {P Q : Prop} [i1 : Decidable P] [i2 : Decidable Q] (h : P ↔ ¬ Q) : bI (decide P) = bI (!decide Q) := by
  by_cases hp : P
  · rw [decide_eq_true hp, decide_eq_false (h.mp hp)]; rfl
  · rw [decide_eq_false hp, decide_eq_true (Classical.byContradiction (fun q => hp (h.mpr q)))]; rfl
theorem bI_decnn {P Q : Prop} [i1 : Decidable P] [i2 : Decidable Q] (h : P ↔ Q) : bI (!decide P) = bI (!decide Q) := by
  by_cases hp : P
  · rw [decide_eq_true hp, decide_eq_true (h.mp hp)]
  · rw [decide_eq_false hp, decide_eq_false (fun q => hp (h.mpr q))]
theorem nle0 {x : Nat} (hx : x < 2 ^ 31) : (nI x ≤ 0) ↔ x = 0 := by
  rw [show (0 : Int32) = nI 0 from rfl, nI_leI hx (by omega)]
  omega
theorem neq0 {x : Nat} (hx : x < 2 ^ 31) : (nI x = 0) ↔ x = 0 := by
  rw [show (0 : Int32) = nI 0 from rfl, nI_eq hx (by omega)]
theorem ex_of {α : Type} {x y : Option α} {P : Option α → Prop} (h : x = y) (k : P y) : P x := by rw [h]; exact k
section ANS
variable {u v : SSt} {S : ST} {z : Nat} {Hs : Nat → ST}
theorem p_answers (h : Two u v S z Hs) {a b c : Nat} (ha : a < 10) (hb : b < 10) (hc : c < 8) : ∃ u' v' z' Hs', f_L_areAnswers u v (nI a) (nI b) (nI (97 + c)) = some (1, u', v') ∧ Two u' v' S z' Hs' := by
  have hok := h.1.ok
  have hM := MA_le hok
  have hM0 := MA_pos S
  have hg := gws_le (S := S) (a := a) (b := b)
  have hl := hlv_le (S := S) (v := c)
  have hf10 : vfew (OA S) S.1.2.2.1 c ≤ 10 := cntP_le _ 10
  have hm10 : vmost (OA S) S.1.2.2.1 c ≤ 10 := cntP_le _ 10
  have hk10 : keyA S.1 ≤ 10 := cntP_le _ 10
  have hfm := few_most (S := S) (v := c)
  have hmk := most_key (S := S) (v := c)
  have hlf : lowP (fun m => !(wl (OA S) S.1.2.2.2.2 a b m).isSome) (MA S) = none ↔ gws S a b = MA S := way_fl
  have hll : lowP (fun p => cb (RG (thO (OA S)) (tsO (OA S) S.1.2.2.2.2) b p a)) 10 = none ↔ gws S a b = 0 := way_ls
  generalize hfl : lowP (fun m => !(wl (OA S) S.1.2.2.2.2 a b m).isSome) (MA S) = fl at hlf
  generalize hls : lowP (fun p => cb (RG (thO (OA S)) (tsO (OA S) S.1.2.2.2.2) b p a)) 10 = ls at hll
  have hfl2 : ∀ y, fl = some y → y < MA S := fun y hy => lowP_lt (hfl.trans hy)
  have hls2 : ∀ y, ls = some y → y < 10 := fun y hy => lowP_lt (hls.trans hy)
  obtain ⟨u1, q1, h1⟩ := y_count h.1 (p := 3) (w := 3) rfl (by omega)
  obtain ⟨u2, q2, h2⟩ := y_way h1 (p := 2) (w := 2) rfl ha hb (by omega)
  obtain ⟨u3, q3, h3⟩ := y_way h2 (p := 3) (w := 3) rfl ha hb (by omega)
  obtain ⟨u4, q4, h4⟩ := y_way h3 (p := 4) (w := 4) rfl ha hb (by omega)
  obtain ⟨u5, q5, h5⟩ := y_value h4 (p := 2) (w := 2) rfl hc (by omega)
  obtain ⟨u6, q6, h6⟩ := y_value h5 (p := 3) (w := 3) rfl hc (by omega)
  obtain ⟨u7, q7, h7⟩ := y_value h6 (p := 4) (w := 4) rfl hc (by omega)
  obtain ⟨u8, q8, h8⟩ := y_way h7 (p := 0) (w := 0) rfl ha hb (by omega)
  obtain ⟨u9, q9, h9⟩ := y_way h8 (p := 1) (w := 1) rfl ha hb (by omega)
  have q1 : f_Y5_count u 3 = some (nI (MA S), u1) := q1
  have q2 : f_Y5_way u1 (nI a) (nI b) 2 = some (nI (gws S a b), u2) := q2
  have q3 : f_Y5_way u2 (nI a) (nI b) 3 = some (oI (lowP (fun m => !(wl (OA S) S.1.2.2.2.2 a b m).isSome) (MA S)), u3) := q3
  have q4 : f_Y5_way u3 (nI a) (nI b) 4 = some (oI (lowP (fun p => cb (RG (thO (OA S)) (tsO (OA S) S.1.2.2.2.2) b p a)) 10), u4) := q4
  rw [hfl] at q3
  rw [hls] at q4
  have q5 : f_Y5_value u4 (nI (97 + c)) 2 = some (nI (hlv S c), u5) := q5
  have q6 : f_Y5_value u5 (nI (97 + c)) 3 = some (nI (vfew (OA S) S.1.2.2.1 c), u6) := q6
  have q7 : f_Y5_value u6 (nI (97 + c)) 4 = some (nI (vmost (OA S) S.1.2.2.1 c), u7) := q7
  have q8 : f_Y5_way u7 (nI a) (nI b) 0 = some (bI (cb (SG (thO (OA S)) (tsO (OA S) S.1.2.2.2.2) b 9 a)), u8) := q8
  have q9 : f_Y5_way u8 (nI a) (nI b) 1 = some (bI (cb (RG (thO (OA S)) (tsO (OA S) S.1.2.2.2.2) b 9 a)), u9) := q9
  obtain ⟨ux, hx, hxq⟩ : ∃ ux, Rep ux S z Hs ∧ ((a = b ∧ f_Y5_key u9 (nI a) 0 = some (nI (cntK S.1 a), ux)) ∨ (a ≠ b ∧ ux = u9)) := by
    by_cases e : a = b
    · obtain ⟨ux, qx, hx⟩ := y_key h9 (p := 0) (w := 0) (k := a) rfl ha (by omega)
      exact ⟨ux, hx, Or.inl ⟨e, qx⟩⟩
    · exact ⟨u9, h9, Or.inr ⟨e, rfl⟩⟩
  obtain ⟨u11, q11, h11⟩ := y_value hx (p := 0) (w := 0) rfl hc (by omega)
  obtain ⟨u12, q12, h12⟩ := y_value h11 (p := 1) (w := 1) rfl hc (by omega)
  obtain ⟨u13, q13, h13⟩ := y_count h12 (p := 1) (w := 1) rfl (by omega)
  obtain ⟨u14, q14, h14⟩ := y_best h13 (p := 1) (w := 1) rfl ha hb (by omega)
  obtain ⟨u15, q15, h15⟩ := y_best h14 (p := 0) (w := 0) rfl ha hb (by omega)
  have q11 : f_Y5_value ux (nI (97 + c)) 0 = some (bI (decide (0 < vfew (OA S) S.1.2.2.1 c)), u11) := q11
  have q12 : f_Y5_value u11 (nI (97 + c)) 1 = some (bI (decide (0 < vmost (OA S) S.1.2.2.1 c)), u12) := q12
  have q13 : f_Y5_count u12 1 = some (nI (keyA S.1), u13) := q13
  have e97 : ((nI (97 + c)).toUInt32 % 65536).toInt32 = nI (97 + c) := chr_nI (by omega)
  unfold f_L_areAnswers
  rw [e97]
  refine ex_of (P := fun o => ∃ u' v' z' Hs', o = some (1, u', v') ∧ Two u' v' S z' Hs') (y := ?y) ?hh ?kk
  case hh =>
    refine bq q1 ?_
    refine bq q2 ?_
    refine bq q3 ?_
    refine bq q4 ?_
    refine bq q5 ?_
    refine bq q6 ?_
    refine bq q7 ?_
    refine bq (a := ((1 : Int32), ux)) ?_ ?_
    · refine ifn (nI_pos (by omega)) ?_
      refine ifn (nI_nlt hg (by omega)) ?_
      refine bq q8 ?_
      refine bq ib ?_
      refine bq ib ?_
      refine ifp (bI_dec (by rw [bI_1, cb_iff, way_sure, nI_eq (by omega) (by omega)])) ?_
      refine bq q9 ?_
      refine bq ib ?_
      refine bq ibn ?_
      refine ifp (bI_decn (by rw [bI_1, cb_iff, way_poss, nle0 (by omega)]; omega)) ?_
      refine bq ib ?_
      refine bq ib ?_
      refine ifp (bI_dec (by rw [oI_m5 (fun y hy => by have := hfl2 y hy; omega), hlf, nI_eq (by omega) (by omega)])) ?_
      refine ifn ?_ ?_
      · cases hfc : fl with
        | none => rw [Int32.le_iff_toInt_le, nI_toInt (by omega), show (oI none).toInt = -5 from by decide]; omega
        | some y => exact nI_ge (hfl2 y hfc) (by omega)
      refine bq ib ?_
      refine bq ib ?_
      refine ifp (bI_dec (by rw [oI_m5 (fun y hy => by have := hls2 y hy; omega), hll, neq0 (by omega)])) ?_
      refine ifn ?_ ?_
      · cases hlc : ls with
        | none => decide
        | some y => exact nI_nlt (a := 9) (by have := hls2 y hlc; omega) (by omega)
      rcases hxq with ⟨e, qx⟩ | ⟨e, rfl⟩
      · refine ifp (by rw [e]) ?_
        refine bq qx ?_
        by_cases hc0 : cntK S.1 a = 0
        · have hg0 : gws S a b = 0 := by rw [← e]; exact way_self0 hc0
          refine bq (a := (0 : Int32)) (ifp (by rw [nle0 (by omega)]; exact hc0) rfl) ?_
          refine ifp (by rw [hg0]; rfl) ?_
          exact ifp (by rw [hg0]; rfl) rfl
        · have hcn : cntK S.1 a ≤ 20 := Nat.le_trans (cntP_le _ _) hok.1
          obtain ⟨s1, s2⟩ := way_self (S := S) ha (by omega)
          have hgM : gws S a b = MA S := by rw [← e]; exact s1
          have hl0 : ls = some 0 := by rw [← hls, ← e]; exact s2
          refine bq (a := nI (MA S)) (ifn (by rw [nle0 (by omega)]; exact hc0) rfl) ?_
          refine ifp (by rw [hgM]) ?_
          refine ifn (by rw [neq0 (by omega)]; omega) ?_
          exact ifp (by rw [hl0]; rfl) rfl
      · refine ifn (by rw [nI_eq (by omega) (by omega)]; exact e) ?_
        refine ifn ?_ rfl
        cases hlc : ls with
        | none => decide
        | some y =>
          have hy := hls2 y hlc
          show ¬ nI y = 0
          rw [neq0 (by omega)]
          rintro rfl
          exact way_ls0 e (hls.trans hlc)
    refine bq (a := ((1 : Int32), u13)) ?_ ?_
    · refine ifn (by decide) ?_
      refine ifn (nI_pos (by omega)) ?_
      refine ifn (nI_nlt hl (by omega)) ?_
      refine bq q11 ?_
      refine bq ib ?_
      refine bq ib ?_
      refine ifp (bI_dec (by rw [bI_1, decide_eq_true_eq, hlv_sure, nI_eq (by omega) (by omega)])) ?_
      refine bq q12 ?_
      refine bq ib ?_
      refine bq ibn ?_
      refine ifp (bI_decn (by rw [bI_1, decide_eq_true_eq, hlv_poss, nle0 (by omega)]; omega)) ?_
      refine ifn (nI_nlt hfm (by omega)) ?_
      refine bq ibn ?_
      refine bq ib ?_
      refine ifp (bI_decn (by rw [nle0 (by omega), nI_eq (by omega) (by omega), ← hlv_sure]; omega)).symm ?_
      refine bq ibn ?_
      refine bq ibn ?_
      refine ifp (bI_decnn (by
        have hp := hlv_poss (S := S) (v := c)
        rw [nle0 (by omega), nle0 (by omega)]
        omega)) ?_
      refine bq q13 ?_
      exact ifn (nI_nlt hmk (by omega)) rfl
    refine bq q14 ?_
    refine bq q15 ?_
    exact rfl
  case kk =>
    cases hbs : bst S.1.1 S.1.2.1 S.1.2.2.2.1 S.1.2.2.2.2 S.2 a b with
    | none =>
      have e14 : bsA S a b 1 = -5 := by unfold bsA; rw [hbs]
      have e15 : bsA S a b 0 = -5 := by unfold bsA; rw [hbs]
      refine ⟨u15, v, z, Hs, ?_, h15, h.2⟩
      refine ifp e14 ?_
      refine ifn (by decide) ?_
      exact ifp (by rw [e14, e15]) rfl
    | some r =>
      have e14 : bsA S a b 1 = nI r := by unfold bsA; rw [hbs]; rfl
      have e15 : bsA S a b 0 = nI (S.1.2.1 r) := by unfold bsA; rw [hbs]; rfl
      obtain ⟨hr, hcn, _, hns⟩ := bst_spec hbs
      have hn20 := hok.1
      have hK := (hok.2 r hr).1
      have htwo := bst_two hbs
      have hgM : gws S a b ≠ MA S := fun e => hns (way_sure.mpr e)
      have hc20 : cntK S.1 (S.1.2.1 r) ≤ 20 := Nat.le_trans (cntP_le _ _) hok.1
      obtain ⟨u16, q16, h16⟩ := y_row h15 (p := 0) (w := 0) rfl hr (by omega)
      obtain ⟨u17, q17, h17⟩ := y_row h16 (p := 4) (w := 4) rfl hr (by omega)
      obtain ⟨u18, q18, h18⟩ := y_key h17 (p := 0) (w := 0) (k := S.1.2.1 r) rfl hK (by omega)
      obtain ⟨u19, v19, q19, r19, h19⟩ := t_mend ⟨h18, h.2⟩ hr htwo
      obtain ⟨u20, q20, h20⟩ := y_way h19.1 (p := 0) (w := 0) rfl ha hb (by omega)
      have hz0 : 0 < nz' z := by unfold nz'; split <;> omega
      obtain ⟨u21, v21, q21, r21, h21⟩ := t_undo ⟨h20, h19.2⟩ hz0
      have hst : hpush z Hs S (nz' z - 1) = S := if_pos (by omega)
      rw [hst] at h21
      obtain ⟨u22, q22, h22⟩ := y_way h21.1 (p := 2) (w := 2) rfl ha hb (by omega)
      have q17 : f_Y5_row u16 (nI r) 4 = some (bI (can S.1.1 S.1.2.1 S.1.2.2.2.1 S.2 r), u17) := q17
      have q20 : f_Y5_way u19 (nI a) (nI b) 0 = some (bI (cb (SG (thO (OA (mendA S.1 r, S.2))) (tsO (OA (mendA S.1 r, S.2)) (mendA S.1 r).2.2.2.2) b 9 a)), u20) := q20
      refine ⟨u22, v21, nz' z - 1, hpush z Hs S, ?_, h22, h21.2⟩
      show (fun (r_138 : Int32) (r_141 : Int32) => _) (bsA S a b 1) (bsA S a b 0) = _
      rw [e14, e15]
      refine ifn (nI_ne5 (by omega)) ?_
      refine bq (a := ((1 : Int32), u20, v19)) ?_ ?_
      · refine ifn (by decide) ?_
        refine ifn (nI_ge (by omega) (by omega)) ?_
        refine bq q16 ?_
        refine ifp rfl ?_
        refine bq q17 ?_
        refine ifp (by rw [hcn]; rfl) ?_
        refine bq q18 ?_
        refine ifn (nI_ge (a := 1) htwo (by omega)) ?_
        refine bq q19 ?_
        refine bq r19 ?_
        refine ifp rfl ?_
        refine bq q20 ?_
        refine ifp (by rw [cb_iff.mpr (mend_sure hbs)]; rfl) ?_
        rfl
      refine ifn (by decide) ?_
      refine bq q21 ?_
      refine bq r21 ?_
      refine ifp rfl ?_
      refine bq q22 ?_
      exact ifp rfl rfl
end ANS
