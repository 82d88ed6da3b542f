/-! both tables are alike -/
section MIRQ
variable {S : ST}
theorem mir_cnA (h : OkA S.1) (z : Nat) {w : Nat} (hw : w < 10) : cnA (mirS S) z w = cnA S z w := by
  rcases (show w = 0 ∨ w = 1 ∨ w = 2 ∨ w = 3 ∨ w = 4 ∨ w = 5 ∨ w = 6 ∨ w = 7 ∨ w = 8 ∨ w = 9 by omega) with rfl | rfl | rfl | rfl | rfl | rfl | rfl | rfl | rfl | rfl
  · rfl
  · exact nI_ext (mir_keyA h)
  · exact nI_ext (mir_dblA h)
  · exact nI_ext (mir_MA h)
  · exact nI_ext (cntP_congr (fun j hj => mir_srB h hj))
  · refine nI_ext (cntP_rev8 (p := fun v => decide (0 < vfew (OA S) S.1.2.2.1 v)) (fun k hk => ?_))
    have := mir_vfew h (v := 7 - k) (by omega)
    rw [show 7 - (7 - k) = k by omega] at this
    rw [this]
  · refine nI_ext (cntP_rev8 (p := fun v => decide (0 < vmost (OA S) S.1.2.2.1 v)) (fun k hk => ?_))
    have := mir_vmost h (v := 7 - k) (by omega)
    rw [show 7 - (7 - k) = k by omega] at this
    rw [this]
  · refine nI_ext (sumP_rev10 (p := fun b => cntP (fun a => cb (SG (thO (OA S)) (tsO (OA S) S.1.2.2.2.2) b 9 a)) 10) (fun b hb => ?_))
    refine cntP_rev10 (p := fun a => cb (SG (thO (OA S)) (tsO (OA S) S.1.2.2.2.2) (9 - b) 9 a)) (fun a ha => ?_)
    have := mir_SG h (a := 9 - a) (b := 9 - b) (by omega) (by omega) 9
    rw [mT_lt (by omega), mT_lt (by omega), show 9 - (9 - a) = a by omega, show 9 - (9 - b) = b by omega] at this
    rw [Bool.eq_iff_iff, cb_iff, cb_iff]
    exact this
  · refine nI_ext (sumP_rev10 (p := fun b => cntP (fun a => cb (RG (thO (OA S)) (tsO (OA S) S.1.2.2.2.2) b 9 a)) 10) (fun b hb => ?_))
    refine cntP_rev10 (p := fun a => cb (RG (thO (OA S)) (tsO (OA S) S.1.2.2.2.2) (9 - b) 9 a)) (fun a ha => ?_)
    have := mir_RG h (a := 9 - a) (b := 9 - b) (by omega) (by omega) 9
    rw [mT_lt (by omega), mT_lt (by omega), show 9 - (9 - a) = a by omega, show 9 - (9 - b) = b by omega] at this
    rw [Bool.eq_iff_iff, cb_iff, cb_iff]
    exact this
  · rfl
theorem mir_kyA (h : OkA S.1) {k w : Nat} (hk : k < 10) (hw : w < 5) : kyA (mirS S) (9 - k) w = kyA S k w := by
  have e9 : 9 - (9 - k) = k := by omega
  have hb : ∀ up, bestP (mirS S).1.2.1 (mirS S).1.2.2.2.1 up (9 - k) (mirS S).1.1 = bestP S.1.2.1 S.1.2.2.2.1 up k S.1.1 := fun up => mir_bestP hk S.1.1 (fun j hj => (h.2 j hj).1)
  rcases five hw with rfl | rfl | rfl | rfl | rfl
  · refine nI_ext ?_
    have := mir_cntK h (k := 9 - k) (by omega)
    rw [e9] at this
    exact this
  · refine nI_ext ?_
    rw [mir_OA h (by omega), e9]
  · show oI _ = oI _
    rw [hb false]
  · show oI _ = oI _
    rw [hb true]
  · refine nI_ext (cntP_congr (fun j hj => ?_))
    have := (h.2 j hj).2.2.2
    show (mT (S.1.2.2.2.2 j) == 9 - k) = _
    rw [← mT_lt hk, Bool.eq_iff_iff, beq_iff_eq, beq_iff_eq]
    exact mT_inj this (by omega)
theorem mir_vlA (h : OkA S.1) {v w : Nat} (hv : v < 8) (hw : w < 5) : vlA (mirS S) (7 - v) w = vlA S v w := by
  have h1 := mir_vfew h hv
  have h2 := mir_vmost h hv
  have h3 := mir_vout h hv
  have h4 := mir_MA h
  rcases five hw with rfl | rfl | rfl | rfl | rfl
  · show bI (decide (0 < vfew _ _ _)) = _
    rw [h1]; rfl
  · show bI (decide (0 < vmost _ _ _)) = _
    rw [h2]; rfl
  · show nI (MA (mirS S) - vout _ _ _) = _
    rw [h3, h4]; rfl
  · exact nI_ext h1
  · exact nI_ext h2
theorem mir_wyA (h : OkA S.1) {a b w : Nat} (ha : a < 10) (hb : b < 10) (hw : w < 5) (h3 : w ≠ 3) : wyA (mirS S) (9 - a) (9 - b) w = wyA S a b w := by
  rw [← mT_lt ha, ← mT_lt hb]
  rcases five hw with rfl | rfl | rfl | rfl | rfl
  · show bI (cb _) = bI (cb _)
    rw [show cb (SG (thO (OA (mirS S))) (tsO (OA (mirS S)) (mirS S).1.2.2.2.2) (mT b) 9 (mT a)) = cb (SG (thO (OA S)) (tsO (OA S) S.1.2.2.2.2) b 9 a) from by
      rw [Bool.eq_iff_iff, cb_iff, cb_iff]
      exact mir_SG h (by omega) (by omega) 9]
  · show bI (cb _) = bI (cb _)
    rw [show cb (RG (thO (OA (mirS S))) (tsO (OA (mirS S)) (mirS S).1.2.2.2.2) (mT b) 9 (mT a)) = cb (RG (thO (OA S)) (tsO (OA S) S.1.2.2.2.2) b 9 a) from by
      rw [Bool.eq_iff_iff, cb_iff, cb_iff]
      exact mir_RG h (by omega) (by omega) 9]
  · exact nI_ext (mir_gws h ha hb)
  · exact absurd rfl h3
  · show oI (lowP _ 10) = oI (lowP _ 10)
    rw [show (fun p => cb (RG (thO (OA (mirS S))) (tsO (OA (mirS S)) (mirS S).1.2.2.2.2) (mT b) p (mT a))) = (fun p => cb (RG (thO (OA S)) (tsO (OA S) S.1.2.2.2.2) b p a)) from funext fun p => by
      rw [Bool.eq_iff_iff, cb_iff, cb_iff]
      exact mir_RG h (by omega) (by omega) p]
theorem mir_smA (h : OkA S.1) {w : Nat} (hw : w < 2) : sI (OA (mirS S)) (mirS S).1.2.2.2.1 w = sI (OA S) S.1.2.2.2.1 w := by
  rcases (show w = 0 ∨ w = 1 by omega) with rfl | rfl
  · exact mir_sum h false
  · exact mir_sum h true
end MIRQ
section ALIKE
variable {u v : SSt} {S : ST} {z : Nat} {Hs : Nat → ST}
def Post2 (S : ST) (z : Nat) (Hs : Nat → ST) (r : Int32 × SSt × SSt) : Prop := ∃ u' v', r = (1, u', v') ∧ Two u' v' S z Hs
theorem a_counts (h : Two u v S z Hs) : ∃ r, iter fuel b_L_areAlike_1 (1, 0, u, v) = some r ∧ Post2 S z Hs r := by
  refine iter_inv b_L_areAlike_1 (fun i s => ∃ u' v', s = (1, nI i, u', v') ∧ Two u' v' S z Hs) 10 _ (by omega) ?_ ?_ ⟨u, v, rfl, h⟩
  · rintro i s hi ⟨u1, v1, rfl, h1⟩
    obtain ⟨u2, q2, h2⟩ := y_count h1.1 (p := nI i) (w := i) rfl (by omega)
    obtain ⟨v2, r2, g2⟩ := y_count h1.2 (p := nI i) (w := i) rfl (by omega)
    rw [mir_cnA h.1.ok z hi] at r2
    refine ⟨(1, nI (i + 1), u2, v2), ?_, u2, v2, rfl, h2, g2⟩
    unfold b_L_areAlike_1
    refine ifn (nI_ge (b := 10) hi (by omega)) ?_
    refine bq (a := ((1 : Int32), u2, v2)) ?_ ?_
    · refine ifn (by decide) ?_
      refine bq q2 ?_
      refine bq r2 ?_
      exact ifp rfl rfl
    show some (Sum.inl ((1 : Int32), nI i + 1, u2, v2)) = _
    rw [nI_1]
  · rintro s ⟨u1, v1, rfl, h1⟩
    refine ⟨(1, u1, v1), ?_, u1, v1, rfl, h1⟩
    unfold b_L_areAlike_1
    exact ifp (by decide) rfl
theorem a_rows (h : Two u v S z Hs) : ∃ r, iter fuel b_L_areAlike_2 (1, 0, u, v) = some r ∧ Post2 S z Hs r := by
  have hok := h.1.ok
  have hn := hok.1
  refine iter_inv b_L_areAlike_2 (fun i s => ∃ u' v', s = (1, nI i, u', v') ∧ Two u' v' S z Hs) S.1.1 _ (by omega) ?_ ?_ ⟨u, v, rfl, h⟩
  · rintro i s hi ⟨u1, v1, rfl, h1⟩
    have hi' : i < (mirS S).1.1 := hi
    obtain ⟨hK, hV, hG, hT⟩ := hok.2 i hi
    obtain ⟨u2, q2, h2⟩ := y_count h1.1 (p := 0) (w := 0) rfl (by omega)
    obtain ⟨u3, q3, h3⟩ := y_row h2 (p := 0) (w := 0) rfl hi (by omega)
    obtain ⟨v3, r3, g3⟩ := y_row h1.2 (p := 0) (w := 0) rfl hi' (by omega)
    obtain ⟨u4, q4, h4⟩ := y_row h3 (p := 1) (w := 1) rfl hi (by omega)
    obtain ⟨v4, r4, g4⟩ := y_row g3 (p := 1) (w := 1) rfl hi' (by omega)
    obtain ⟨u5, q5, h5⟩ := y_row h4 (p := 2) (w := 2) rfl hi (by omega)
    obtain ⟨v5, r5, g5⟩ := y_row g4 (p := 2) (w := 2) rfl hi' (by omega)
    obtain ⟨u6, q6, h6⟩ := y_row h5 (p := 3) (w := 3) rfl hi (by omega)
    obtain ⟨v6, r6, g6⟩ := y_row g5 (p := 3) (w := 3) rfl hi' (by omega)
    obtain ⟨u7, q7, h7⟩ := y_row h6 (p := 4) (w := 4) rfl hi (by omega)
    obtain ⟨v7, r7, g7⟩ := y_row g6 (p := 4) (w := 4) rfl hi' (by omega)
    obtain ⟨u8, q8, h8⟩ := y_row h7 (p := 5) (w := 5) rfl hi (by omega)
    obtain ⟨v8, r8, g8⟩ := y_row g7 (p := 5) (w := 5) rfl hi' (by omega)
    have q2 : f_Y5_count u1 0 = some (nI S.1.1, u2) := q2
    have q3 : f_Y5_row u2 (nI i) 0 = some (nI (S.1.2.1 i), u3) := q3
    have r3 : f_Y5_row v1 (nI i) 0 = some (nI (9 - S.1.2.1 i), v3) := r3
    have q4 : f_Y5_row u3 (nI i) 1 = some (nI (97 + S.1.2.2.1 i), u4) := q4
    have r4 : f_Y5_row v3 (nI i) 1 = some (nI (97 + (7 - S.1.2.2.1 i)), v4) := r4
    have q6 : f_Y5_row u5 (nI i) 3 = some (tI (S.1.2.2.2.2 i), u6) := q6
    have r6 : f_Y5_row v5 (nI i) 3 = some (tI (mT (S.1.2.2.2.2 i)), v6) := r6
    have e7 : rwA (mirS S) i 4 = rwA S i 4 := by
      show bI _ = bI _
      rw [mir_can2 hok hi]
    have e8 : rwA (mirS S) i 5 = rwA S i 5 := by
      show bI _ = bI _
      rw [mir_srB hok hi]
    rw [e7] at r7
    rw [e8] at r8
    refine ⟨(1, nI (i + 1), u8, v8), ?_, u8, v8, rfl, h8, g8⟩
    unfold b_L_areAlike_2
    refine bq q2 ?_
    refine ifn (nI_ge hi (by omega)) ?_
    refine ifn (by decide) ?_
    refine bq q3 ?_
    refine bq (there_nI hK) ?_
    refine bq r3 ?_
    refine bq (a := ((1 : Int32), u8, v8)) ?_ ?_
    · refine ifp rfl ?_
      refine bq q4 ?_
      refine bq (value_nI hV) ?_
      refine bq r4 ?_
      refine ifp rfl ?_
      refine bq q5 ?_
      refine bq r5 ?_
      refine ifp rfl ?_
      refine bq q6 ?_
      refine bq (there_tI hT) ?_
      refine bq r6 ?_
      refine ifp rfl ?_
      refine bq q7 ?_
      refine bq r7 ?_
      refine ifp rfl ?_
      refine bq q8 ?_
      refine bq r8 ?_
      exact ifp rfl rfl
    show some (Sum.inl ((1 : Int32), nI i + 1, u8, v8)) = _
    rw [nI_1]
  · rintro s ⟨u1, v1, rfl, h1⟩
    obtain ⟨u2, q2, h2⟩ := y_count h1.1 (p := 0) (w := 0) rfl (by omega)
    have q2 : f_Y5_count u1 0 = some (nI S.1.1, u2) := q2
    refine ⟨(1, u2, v1), ?_, u2, v1, rfl, h2, h1.2⟩
    unfold b_L_areAlike_2
    refine bq q2 ?_
    exact ifp (nI_le (Nat.le_refl _) (by omega)) rfl
theorem a_keys (h : Two u v S z Hs) {k : Nat} (hk : k < 10) : ∃ r, iter fuel (b_L_areAlike_3 (nI k)) (1, 0, u, v) = some r ∧ Post2 S z Hs r := by
  have hok := h.1.ok
  refine iter_inv (b_L_areAlike_3 (nI k)) (fun i s => ∃ u' v', s = (1, nI i, u', v') ∧ Two u' v' S z Hs) 5 _ (by omega) ?_ ?_ ⟨u, v, rfl, h⟩
  · rintro i s hi ⟨u1, v1, rfl, h1⟩
    obtain ⟨u2, q2, h2⟩ := y_key h1.1 (p := nI i) (w := i) (k := k) rfl hk hi
    obtain ⟨v2, r2, g2⟩ := y_key h1.2 (p := nI i) (w := i) (k := 9 - k) rfl (by omega) hi
    rw [mir_kyA hok hk hi, ← key_9 hk] at r2
    by_cases e : k < 8
    · obtain ⟨u3, q3, h3⟩ := y_value h2 (p := nI i) (w := i) (v := k) rfl e hi
      obtain ⟨v3, r3, g3⟩ := y_value g2 (p := nI i) (w := i) (v := 7 - k) rfl (by omega) hi
      have e97 : 97 + nI k = nI (97 + k) := by rw [show (97 : Int32) = nI 97 from rfl, nI_add]
      have e98 : ((97 + nI k).toUInt32 % 65536).toInt32 = nI (97 + k) := by rw [e97, chr_nI (by omega)]
      have e99 : f_L_value (97 + nI k) = some (nI (97 + (7 - k))) := by rw [e97, value_nI e]
      rw [mir_vlA hok e hi] at r3
      rw [← e98] at q3
      refine ⟨(1, nI (i + 1), u3, v3), ?_, u3, v3, rfl, h3, g3⟩
      unfold b_L_areAlike_3
      refine ifn (nI_ge (b := 5) hi (by omega)) ?_
      refine bq (a := ((1 : Int32), u3, v3)) ?_ ?_
      · refine ifn (by decide) ?_
        refine bq q2 ?_
        refine bq r2 ?_
        refine ifp rfl ?_
        refine ifn (nI_nlt (a := 7) (by omega) (by omega)) ?_
        refine bq q3 ?_
        refine bq e99 ?_
        refine bq r3 ?_
        exact ifp rfl rfl
      show some (Sum.inl ((1 : Int32), nI i + 1, u3, v3)) = _
      rw [nI_1]
    · refine ⟨(1, nI (i + 1), u2, v2), ?_, u2, v2, rfl, h2, g2⟩
      unfold b_L_areAlike_3
      refine ifn (nI_ge (b := 5) hi (by omega)) ?_
      refine bq (a := ((1 : Int32), u2, v2)) ?_ ?_
      · refine ifn (by decide) ?_
        refine bq q2 ?_
        refine bq r2 ?_
        refine ifp rfl ?_
        exact ifp (nI_lt (a := 7) (by omega) (by omega)) rfl
      show some (Sum.inl ((1 : Int32), nI i + 1, u2, v2)) = _
      rw [nI_1]
  · rintro s ⟨u1, v1, rfl, h1⟩
    refine ⟨(1, u1, v1), ?_, u1, v1, rfl, h1⟩
    unfold b_L_areAlike_3
    exact ifp (by decide) rfl
theorem a_ways (h : Two u v S z Hs) {k : Nat} (hk : k < 10) : ∃ r, iter fuel (b_L_areAlike_4 (nI k)) (1, 0, u, v) = some r ∧ Post2 S z Hs r := by
  have hok := h.1.ok
  have eto : ((3 * nI k) + 1) - ((3 * nI k) + 1) / 10 * 10 = nI ((3 * k + 1) % 10) := by
    rw [show (3 : Int32) = nI 3 from rfl, nI_mulO, nI_1, show (10 : Int32) = nI 10 from rfl, nI_mod (by omega) (by omega)]
  have hto : (3 * k + 1) % 10 < 10 := Nat.mod_lt _ (by omega)
  refine iter_inv (b_L_areAlike_4 (nI k)) (fun i s => ∃ u' v', s = (1, nI i, u', v') ∧ Two u' v' S z Hs) 5 _ (by omega) ?_ ?_ ⟨u, v, rfl, h⟩
  · rintro i s hi ⟨u1, v1, rfl, h1⟩
    by_cases e : i = 3
    · refine ⟨(1, nI (i + 1), u1, v1), ?_, u1, v1, rfl, h1⟩
      unfold b_L_areAlike_4
      refine ifn (nI_ge (b := 5) hi (by omega)) ?_
      refine bq (a := ((1 : Int32), u1, v1)) ?_ ?_
      · refine ifn (by decide) ?_
        exact ifp (by rw [e]; rfl) rfl
      show some (Sum.inl ((1 : Int32), nI i + 1, u1, v1)) = _
      rw [nI_1]
    · obtain ⟨u2, q2, h2⟩ := y_way h1.1 (p := nI i) (w := i) (x := k) (y := (3 * k + 1) % 10) rfl hk hto hi
      obtain ⟨v2, r2, g2⟩ := y_way h1.2 (p := nI i) (w := i) (x := 9 - k) (y := 9 - (3 * k + 1) % 10) rfl (by omega) (by omega) hi
      rw [mir_wyA hok hk hto hi e, ← key_9 hk, ← key_9 hto, ← eto] at r2
      rw [← eto] at q2
      refine ⟨(1, nI (i + 1), u2, v2), ?_, u2, v2, rfl, h2, g2⟩
      unfold b_L_areAlike_4
      refine ifn (nI_ge (b := 5) hi (by omega)) ?_
      refine bq (a := ((1 : Int32), u2, v2)) ?_ ?_
      · refine ifn (by decide) ?_
        refine ifn (lit_ne (j := 3) rfl (by omega) (by omega) e) ?_
        refine bq q2 ?_
        refine bq r2 ?_
        exact ifp rfl rfl
      show some (Sum.inl ((1 : Int32), nI i + 1, u2, v2)) = _
      rw [nI_1]
  · rintro s ⟨u1, v1, rfl, h1⟩
    refine ⟨(1, u1, v1), ?_, u1, v1, rfl, h1⟩
    unfold b_L_areAlike_4
    exact ifp (by decide) rfl
theorem a_outer (h : Two u v S z Hs) : ∃ r, iter fuel b_L_areAlike_5 (1, 0, u, v) = some r ∧ Post2 S z Hs r := by
  refine iter_inv b_L_areAlike_5 (fun i s => ∃ u' v', s = (1, nI i, u', v') ∧ Two u' v' S z Hs) 10 _ (by omega) ?_ ?_ ⟨u, v, rfl, h⟩
  · rintro i s hi ⟨u1, v1, rfl, h1⟩
    obtain ⟨_, q2, u2, v2, rfl, h2⟩ := a_keys h1 hi
    obtain ⟨_, q3, u3, v3, rfl, h3⟩ := a_ways h2 hi
    refine ⟨(1, nI (i + 1), u3, v3), ?_, u3, v3, rfl, h3⟩
    unfold b_L_areAlike_5
    refine ifn (nI_ge (b := 10) hi (by omega)) ?_
    refine ifn (by decide) ?_
    refine bq q2 ?_
    refine bq q3 ?_
    show some (Sum.inl ((1 : Int32), nI i + 1, u3, v3)) = _
    rw [nI_1]
  · rintro s ⟨u1, v1, rfl, h1⟩
    refine ⟨(1, u1, v1), ?_, u1, v1, rfl, h1⟩
    unfold b_L_areAlike_5
    exact ifp (by decide) rfl
theorem p_alike (h : Two u v S z Hs) : ∃ u' v', f_L_areAlike u v = some (1, u', v') ∧ Two u' v' S z Hs := by
  have hok := h.1.ok
  obtain ⟨u1, q1, h1⟩ := y_sum h.1 (p := 0) (w := 0) rfl (by omega)
  obtain ⟨v1, r1, g1⟩ := y_sum h.2 (p := 0) (w := 0) rfl (by omega)
  obtain ⟨u2, q2, h2⟩ := y_sum h1 (p := 1) (w := 1) rfl (by omega)
  obtain ⟨v2, r2, g2⟩ := y_sum g1 (p := 1) (w := 1) rfl (by omega)
  rw [mir_smA hok (by omega)] at r1 r2
  obtain ⟨_, q3, u3, v3, rfl, h3⟩ := a_counts ⟨h2, g2⟩
  obtain ⟨_, q4, u4, v4, rfl, h4⟩ := a_rows h3
  obtain ⟨_, q5, u5, v5, rfl, h5⟩ := a_outer h4
  refine ⟨u5, v5, ?_, h5⟩
  unfold f_L_areAlike
  refine bq q1 ?_
  refine bq r1 ?_
  refine bq (a := ((1 : Int32), u2, v2)) ?_ ?_
  · refine ifp rfl ?_
    refine bq q2 ?_
    refine bq r2 ?_
    exact ifp rfl rfl
  refine bq q3 ?_
  refine bq q4 ?_
  refine bq q5 ?_
  exact ifp (Or.inr rfl) rfl
end ALIKE
